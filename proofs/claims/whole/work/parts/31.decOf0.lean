/-! decode rows, written by gen/dec.py -/
theorem d_Of_init_0 : decode Y_Of_init.2.2.1 0 = .ok (.aload_n 0, 1) := by decide +kernel
theorem d_Of_init_1 : decode Y_Of_init.2.2.1 1 = .ok (.invokespecial 1, 3) := by decide +kernel
theorem d_Of_init_4 : decode Y_Of_init.2.2.1 4 = .ok (.aload_n 0, 1) := by decide +kernel
theorem d_Of_init_5 : decode Y_Of_init.2.2.1 5 = .ok (.iload_n 1, 1) := by decide +kernel
theorem d_Of_init_6 : decode Y_Of_init.2.2.1 6 = .ok (.iconst 1, 1) := by decide +kernel
theorem d_Of_init_7 : decode Y_Of_init.2.2.1 7 = .ok (.if_icmp .lt 13, 3) := by decide +kernel
theorem d_Of_init_10 : decode Y_Of_init.2.2.1 10 = .ok (.iload_n 1, 1) := by decide +kernel
theorem d_Of_init_11 : decode Y_Of_init.2.2.1 11 = .ok (.bipush 8, 2) := by decide +kernel
theorem d_Of_init_13 : decode Y_Of_init.2.2.1 13 = .ok (.if_icmp .gt 7, 3) := by decide +kernel
theorem d_Of_init_16 : decode Y_Of_init.2.2.1 16 = .ok (.iload_n 1, 1) := by decide +kernel
theorem d_Of_init_17 : decode Y_Of_init.2.2.1 17 = .ok (.goto 4, 3) := by decide +kernel
theorem d_Of_init_20 : decode Y_Of_init.2.2.1 20 = .ok (.iconst 5, 1) := by decide +kernel
theorem d_Of_init_21 : decode Y_Of_init.2.2.1 21 = .ok (.putfield 9, 3) := by decide +kernel
theorem d_Of_init_24 : decode Y_Of_init.2.2.1 24 = .ok (.aload_n 0, 1) := by decide +kernel
theorem d_Of_init_25 : decode Y_Of_init.2.2.1 25 = .ok (.aload_n 0, 1) := by decide +kernel
theorem d_Of_init_26 : decode Y_Of_init.2.2.1 26 = .ok (.getfield 9, 3) := by decide +kernel
theorem d_Of_init_29 : decode Y_Of_init.2.2.1 29 = .ok (.newarray .int, 2) := by decide +kernel
theorem d_Of_init_31 : decode Y_Of_init.2.2.1 31 = .ok (.putfield 13, 3) := by decide +kernel
theorem d_Of_init_34 : decode Y_Of_init.2.2.1 34 = .ok (.iconst 0, 1) := by decide +kernel
theorem d_Of_init_35 : decode Y_Of_init.2.2.1 35 = .ok (.istore_n 2, 1) := by decide +kernel
theorem d_Of_init_36 : decode Y_Of_init.2.2.1 36 = .ok (.iload_n 2, 1) := by decide +kernel
theorem d_Of_init_37 : decode Y_Of_init.2.2.1 37 = .ok (.aload_n 0, 1) := by decide +kernel
theorem d_Of_init_38 : decode Y_Of_init.2.2.1 38 = .ok (.getfield 9, 3) := by decide +kernel
theorem d_Of_init_41 : decode Y_Of_init.2.2.1 41 = .ok (.if_icmp .ge 16, 3) := by decide +kernel
theorem d_Of_init_44 : decode Y_Of_init.2.2.1 44 = .ok (.aload_n 0, 1) := by decide +kernel
theorem d_Of_init_45 : decode Y_Of_init.2.2.1 45 = .ok (.getfield 13, 3) := by decide +kernel
theorem d_Of_init_48 : decode Y_Of_init.2.2.1 48 = .ok (.iload_n 2, 1) := by decide +kernel
theorem d_Of_init_49 : decode Y_Of_init.2.2.1 49 = .ok (.iload_n 2, 1) := by decide +kernel
theorem d_Of_init_50 : decode Y_Of_init.2.2.1 50 = .ok (.iastore, 1) := by decide +kernel
theorem d_Of_init_51 : decode Y_Of_init.2.2.1 51 = .ok (.iinc 2 1, 3) := by decide +kernel
theorem d_Of_init_54 : decode Y_Of_init.2.2.1 54 = .ok (.goto (-18), 3) := by decide +kernel
theorem d_Of_init_57 : decode Y_Of_init.2.2.1 57 = .ok (.aload_n 0, 1) := by decide +kernel
theorem d_Of_init_58 : decode Y_Of_init.2.2.1 58 = .ok (.bipush 12, 2) := by decide +kernel
theorem d_Of_init_60 : decode Y_Of_init.2.2.1 60 = .ok (.anewarray 17, 3) := by decide +kernel
theorem d_Of_init_63 : decode Y_Of_init.2.2.1 63 = .ok (.putfield 19, 3) := by decide +kernel
theorem d_Of_init_66 : decode Y_Of_init.2.2.1 66 = .ok (.iconst 0, 1) := by decide +kernel
theorem d_Of_init_67 : decode Y_Of_init.2.2.1 67 = .ok (.istore_n 2, 1) := by decide +kernel
theorem d_Of_init_68 : decode Y_Of_init.2.2.1 68 = .ok (.iload_n 2, 1) := by decide +kernel
theorem d_Of_init_69 : decode Y_Of_init.2.2.1 69 = .ok (.bipush 12, 2) := by decide +kernel
theorem d_Of_init_71 : decode Y_Of_init.2.2.1 71 = .ok (.if_icmp .ge 22, 3) := by decide +kernel
theorem d_Of_init_74 : decode Y_Of_init.2.2.1 74 = .ok (.aload_n 0, 1) := by decide +kernel
theorem d_Of_init_75 : decode Y_Of_init.2.2.1 75 = .ok (.getfield 19, 3) := by decide +kernel
theorem d_Of_init_78 : decode Y_Of_init.2.2.1 78 = .ok (.iload_n 2, 1) := by decide +kernel
theorem d_Of_init_79 : decode Y_Of_init.2.2.1 79 = .ok (.new 17, 3) := by decide +kernel
theorem d_Of_init_82 : decode Y_Of_init.2.2.1 82 = .ok (.dup, 1) := by decide +kernel
theorem d_Of_init_83 : decode Y_Of_init.2.2.1 83 = .ok (.invokespecial 23, 3) := by decide +kernel
theorem d_Of_init_86 : decode Y_Of_init.2.2.1 86 = .ok (.aastore, 1) := by decide +kernel
theorem d_Of_init_87 : decode Y_Of_init.2.2.1 87 = .ok (.iinc 2 1, 3) := by decide +kernel
theorem d_Of_init_90 : decode Y_Of_init.2.2.1 90 = .ok (.goto (-22), 3) := by decide +kernel
theorem d_Of_init_93 : decode Y_Of_init.2.2.1 93 = .ok (.aload_n 0, 1) := by decide +kernel
theorem d_Of_init_94 : decode Y_Of_init.2.2.1 94 = .ok (.iconst 0, 1) := by decide +kernel
theorem d_Of_init_95 : decode Y_Of_init.2.2.1 95 = .ok (.putfield 24, 3) := by decide +kernel
theorem d_Of_init_98 : decode Y_Of_init.2.2.1 98 = .ok (.aload_n 0, 1) := by decide +kernel
theorem d_Of_init_99 : decode Y_Of_init.2.2.1 99 = .ok (.iconst 0, 1) := by decide +kernel
theorem d_Of_init_100 : decode Y_Of_init.2.2.1 100 = .ok (.putfield 27, 3) := by decide +kernel
theorem d_Of_init_103 : decode Y_Of_init.2.2.1 103 = .ok (.aload_n 0, 1) := by decide +kernel
theorem d_Of_init_104 : decode Y_Of_init.2.2.1 104 = .ok (.new 31, 3) := by decide +kernel
theorem d_Of_init_107 : decode Y_Of_init.2.2.1 107 = .ok (.dup, 1) := by decide +kernel
theorem d_Of_init_108 : decode Y_Of_init.2.2.1 108 = .ok (.aload_n 0, 1) := by decide +kernel
theorem d_Of_init_109 : decode Y_Of_init.2.2.1 109 = .ok (.getfield 9, 3) := by decide +kernel
theorem d_Of_init_112 : decode Y_Of_init.2.2.1 112 = .ok (.invokespecial 33, 3) := by decide +kernel
theorem d_Of_init_115 : decode Y_Of_init.2.2.1 115 = .ok (.putfield 36, 3) := by decide +kernel
theorem d_Of_init_118 : decode Y_Of_init.2.2.1 118 = .ok (.aload_n 0, 1) := by decide +kernel
theorem d_Of_init_119 : decode Y_Of_init.2.2.1 119 = .ok (.new 31, 3) := by decide +kernel
theorem d_Of_init_122 : decode Y_Of_init.2.2.1 122 = .ok (.dup, 1) := by decide +kernel
theorem d_Of_init_123 : decode Y_Of_init.2.2.1 123 = .ok (.aload_n 0, 1) := by decide +kernel
theorem d_Of_init_124 : decode Y_Of_init.2.2.1 124 = .ok (.getfield 9, 3) := by decide +kernel
theorem d_Of_init_127 : decode Y_Of_init.2.2.1 127 = .ok (.invokespecial 33, 3) := by decide +kernel
theorem d_Of_init_130 : decode Y_Of_init.2.2.1 130 = .ok (.putfield 40, 3) := by decide +kernel
theorem d_Of_init_133 : decode Y_Of_init.2.2.1 133 = .ok (.aload_n 0, 1) := by decide +kernel
theorem d_Of_init_134 : decode Y_Of_init.2.2.1 134 = .ok (.new 43, 3) := by decide +kernel
theorem d_Of_init_137 : decode Y_Of_init.2.2.1 137 = .ok (.dup, 1) := by decide +kernel
theorem d_Of_init_138 : decode Y_Of_init.2.2.1 138 = .ok (.aload_n 0, 1) := by decide +kernel
theorem d_Of_init_139 : decode Y_Of_init.2.2.1 139 = .ok (.getfield 9, 3) := by decide +kernel
theorem d_Of_init_142 : decode Y_Of_init.2.2.1 142 = .ok (.invokespecial 45, 3) := by decide +kernel
theorem d_Of_init_145 : decode Y_Of_init.2.2.1 145 = .ok (.putfield 46, 3) := by decide +kernel
theorem d_Of_init_148 : decode Y_Of_init.2.2.1 148 = .ok (.aload_n 0, 1) := by decide +kernel
theorem d_Of_init_149 : decode Y_Of_init.2.2.1 149 = .ok (.new 50, 3) := by decide +kernel
theorem d_Of_init_152 : decode Y_Of_init.2.2.1 152 = .ok (.dup, 1) := by decide +kernel
theorem d_Of_init_153 : decode Y_Of_init.2.2.1 153 = .ok (.aload_n 0, 1) := by decide +kernel
theorem d_Of_init_154 : decode Y_Of_init.2.2.1 154 = .ok (.getfield 9, 3) := by decide +kernel
theorem d_Of_init_157 : decode Y_Of_init.2.2.1 157 = .ok (.invokespecial 52, 3) := by decide +kernel
theorem d_Of_init_160 : decode Y_Of_init.2.2.1 160 = .ok (.putfield 53, 3) := by decide +kernel
theorem d_Of_init_163 : decode Y_Of_init.2.2.1 163 = .ok (.return_, 1) := by decide +kernel
theorem d_Of_tie_0 : decode Y_Of_tie.2.2.1 0 = .ok (.aload_n 0, 1) := by decide +kernel
theorem d_Of_tie_1 : decode Y_Of_tie.2.2.1 1 = .ok (.iload_n 1, 1) := by decide +kernel
theorem d_Of_tie_2 : decode Y_Of_tie.2.2.1 2 = .ok (.invokevirtual 57, 3) := by decide +kernel
theorem d_Of_tie_5 : decode Y_Of_tie.2.2.1 5 = .ok (.aload_n 0, 1) := by decide +kernel
theorem d_Of_tie_6 : decode Y_Of_tie.2.2.1 6 = .ok (.iload_n 2, 1) := by decide +kernel
theorem d_Of_tie_7 : decode Y_Of_tie.2.2.1 7 = .ok (.invokevirtual 60, 3) := by decide +kernel
theorem d_Of_tie_10 : decode Y_Of_tie.2.2.1 10 = .ok (.ifCond .ne 13, 3) := by decide +kernel
theorem d_Of_tie_13 : decode Y_Of_tie.2.2.1 13 = .ok (.new 64, 3) := by decide +kernel
theorem d_Of_tie_16 : decode Y_Of_tie.2.2.1 16 = .ok (.dup, 1) := by decide +kernel
theorem d_Of_tie_17 : decode Y_Of_tie.2.2.1 17 = .ok (.ldc 66, 2) := by decide +kernel
theorem d_Of_tie_19 : decode Y_Of_tie.2.2.1 19 = .ok (.invokespecial 68, 3) := by decide +kernel
theorem d_Of_tie_22 : decode Y_Of_tie.2.2.1 22 = .ok (.athrow, 1) := by decide +kernel
theorem d_Of_tie_23 : decode Y_Of_tie.2.2.1 23 = .ok (.aload_n 0, 1) := by decide +kernel
theorem d_Of_tie_24 : decode Y_Of_tie.2.2.1 24 = .ok (.invokevirtual 71, 3) := by decide +kernel
theorem d_Of_tie_27 : decode Y_Of_tie.2.2.1 27 = .ok (.aload_n 0, 1) := by decide +kernel
theorem d_Of_tie_28 : decode Y_Of_tie.2.2.1 28 = .ok (.getfield 24, 3) := by decide +kernel
theorem d_Of_tie_31 : decode Y_Of_tie.2.2.1 31 = .ok (.ifCond .le 13, 3) := by decide +kernel
theorem d_Of_tie_34 : decode Y_Of_tie.2.2.1 34 = .ok (.new 74, 3) := by decide +kernel
theorem d_Of_tie_37 : decode Y_Of_tie.2.2.1 37 = .ok (.dup, 1) := by decide +kernel
theorem d_Of_tie_38 : decode Y_Of_tie.2.2.1 38 = .ok (.ldc 76, 2) := by decide +kernel
theorem d_Of_tie_40 : decode Y_Of_tie.2.2.1 40 = .ok (.invokespecial 78, 3) := by decide +kernel
theorem d_Of_tie_43 : decode Y_Of_tie.2.2.1 43 = .ok (.athrow, 1) := by decide +kernel
theorem d_Of_tie_44 : decode Y_Of_tie.2.2.1 44 = .ok (.aload_n 0, 1) := by decide +kernel
theorem d_Of_tie_45 : decode Y_Of_tie.2.2.1 45 = .ok (.iload_n 1, 1) := by decide +kernel
theorem d_Of_tie_46 : decode Y_Of_tie.2.2.1 46 = .ok (.iload_n 2, 1) := by decide +kernel
theorem d_Of_tie_47 : decode Y_Of_tie.2.2.1 47 = .ok (.invokevirtual 79, 3) := by decide +kernel
theorem d_Of_tie_50 : decode Y_Of_tie.2.2.1 50 = .ok (.return_, 1) := by decide +kernel
theorem d_Of_drawn_0 : decode Y_Of_drawn.2.2.1 0 = .ok (.aload_n 0, 1) := by decide +kernel
theorem d_Of_drawn_1 : decode Y_Of_drawn.2.2.1 1 = .ok (.iload_n 1, 1) := by decide +kernel
theorem d_Of_drawn_2 : decode Y_Of_drawn.2.2.1 2 = .ok (.invokevirtual 60, 3) := by decide +kernel
theorem d_Of_drawn_5 : decode Y_Of_drawn.2.2.1 5 = .ok (.ifCond .ne 13, 3) := by decide +kernel
theorem d_Of_drawn_8 : decode Y_Of_drawn.2.2.1 8 = .ok (.new 83, 3) := by decide +kernel
theorem d_Of_drawn_11 : decode Y_Of_drawn.2.2.1 11 = .ok (.dup, 1) := by decide +kernel
theorem d_Of_drawn_12 : decode Y_Of_drawn.2.2.1 12 = .ok (.ldc 66, 2) := by decide +kernel
theorem d_Of_drawn_14 : decode Y_Of_drawn.2.2.1 14 = .ok (.invokespecial 85, 3) := by decide +kernel
theorem d_Of_drawn_17 : decode Y_Of_drawn.2.2.1 17 = .ok (.athrow, 1) := by decide +kernel
theorem d_Of_drawn_18 : decode Y_Of_drawn.2.2.1 18 = .ok (.aload_n 0, 1) := by decide +kernel
theorem d_Of_drawn_19 : decode Y_Of_drawn.2.2.1 19 = .ok (.getfield 13, 3) := by decide +kernel
theorem d_Of_drawn_22 : decode Y_Of_drawn.2.2.1 22 = .ok (.iload_n 1, 1) := by decide +kernel
theorem d_Of_drawn_23 : decode Y_Of_drawn.2.2.1 23 = .ok (.iaload, 1) := by decide +kernel
theorem d_Of_drawn_24 : decode Y_Of_drawn.2.2.1 24 = .ok (.ireturn, 1) := by decide +kernel
theorem d_Of_open_0 : decode Y_Of_open.2.2.1 0 = .ok (.aload_n 0, 1) := by decide +kernel
theorem d_Of_open_1 : decode Y_Of_open.2.2.1 1 = .ok (.invokevirtual 71, 3) := by decide +kernel
theorem d_Of_open_4 : decode Y_Of_open.2.2.1 4 = .ok (.aload_n 0, 1) := by decide +kernel
theorem d_Of_open_5 : decode Y_Of_open.2.2.1 5 = .ok (.getfield 24, 3) := by decide +kernel
theorem d_Of_open_8 : decode Y_Of_open.2.2.1 8 = .ok (.bipush 12, 2) := by decide +kernel
theorem d_Of_open_10 : decode Y_Of_open.2.2.1 10 = .ok (.if_icmp .lt 13, 3) := by decide +kernel
theorem d_Of_open_13 : decode Y_Of_open.2.2.1 13 = .ok (.new 74, 3) := by decide +kernel
theorem d_Of_open_16 : decode Y_Of_open.2.2.1 16 = .ok (.dup, 1) := by decide +kernel
theorem d_Of_open_17 : decode Y_Of_open.2.2.1 17 = .ok (.ldc 86, 2) := by decide +kernel
theorem d_Of_open_19 : decode Y_Of_open.2.2.1 19 = .ok (.invokespecial 78, 3) := by decide +kernel
theorem d_Of_open_22 : decode Y_Of_open.2.2.1 22 = .ok (.athrow, 1) := by decide +kernel
theorem d_Of_open_23 : decode Y_Of_open.2.2.1 23 = .ok (.aload_n 0, 1) := by decide +kernel
theorem d_Of_open_24 : decode Y_Of_open.2.2.1 24 = .ok (.dup, 1) := by decide +kernel
theorem d_Of_open_25 : decode Y_Of_open.2.2.1 25 = .ok (.getfield 24, 3) := by decide +kernel
theorem d_Of_open_28 : decode Y_Of_open.2.2.1 28 = .ok (.iconst 1, 1) := by decide +kernel
theorem d_Of_open_29 : decode Y_Of_open.2.2.1 29 = .ok (.iadd, 1) := by decide +kernel
theorem d_Of_open_30 : decode Y_Of_open.2.2.1 30 = .ok (.putfield 24, 3) := by decide +kernel
theorem d_Of_open_33 : decode Y_Of_open.2.2.1 33 = .ok (.aload_n 0, 1) := by decide +kernel
theorem d_Of_open_34 : decode Y_Of_open.2.2.1 34 = .ok (.getfield 24, 3) := by decide +kernel
theorem d_Of_open_37 : decode Y_Of_open.2.2.1 37 = .ok (.iconst 1, 1) := by decide +kernel
theorem d_Of_open_38 : decode Y_Of_open.2.2.1 38 = .ok (.isub, 1) := by decide +kernel
theorem d_Of_open_39 : decode Y_Of_open.2.2.1 39 = .ok (.ireturn, 1) := by decide +kernel
theorem d_Of_ballot_0 : decode Y_Of_ballot.2.2.1 0 = .ok (.aload_n 0, 1) := by decide +kernel
theorem d_Of_ballot_1 : decode Y_Of_ballot.2.2.1 1 = .ok (.iload_n 1, 1) := by decide +kernel
theorem d_Of_ballot_2 : decode Y_Of_ballot.2.2.1 2 = .ok (.invokevirtual 88, 3) := by decide +kernel
theorem d_Of_ballot_5 : decode Y_Of_ballot.2.2.1 5 = .ok (.aload_n 0, 1) := by decide +kernel
theorem d_Of_ballot_6 : decode Y_Of_ballot.2.2.1 6 = .ok (.iload_n 2, 1) := by decide +kernel
theorem d_Of_ballot_7 : decode Y_Of_ballot.2.2.1 7 = .ok (.invokevirtual 91, 3) := by decide +kernel
theorem d_Of_ballot_10 : decode Y_Of_ballot.2.2.1 10 = .ok (.iload_n 3, 1) := by decide +kernel
theorem d_Of_ballot_11 : decode Y_Of_ballot.2.2.1 11 = .ok (.iconst 1, 1) := by decide +kernel
theorem d_Of_ballot_12 : decode Y_Of_ballot.2.2.1 12 = .ok (.if_icmp .lt 10, 3) := by decide +kernel
theorem d_Of_ballot_15 : decode Y_Of_ballot.2.2.1 15 = .ok (.iload_n 3, 1) := by decide +kernel
theorem d_Of_ballot_16 : decode Y_Of_ballot.2.2.1 16 = .ok (.sipush 10000, 3) := by decide +kernel
theorem d_Of_ballot_19 : decode Y_Of_ballot.2.2.1 19 = .ok (.if_icmp .le 13, 3) := by decide +kernel
theorem d_Of_ballot_22 : decode Y_Of_ballot.2.2.1 22 = .ok (.new 64, 3) := by decide +kernel
theorem d_Of_ballot_25 : decode Y_Of_ballot.2.2.1 25 = .ok (.dup, 1) := by decide +kernel
theorem d_Of_ballot_26 : decode Y_Of_ballot.2.2.1 26 = .ok (.ldc 94, 2) := by decide +kernel
theorem d_Of_ballot_28 : decode Y_Of_ballot.2.2.1 28 = .ok (.invokespecial 68, 3) := by decide +kernel
theorem d_Of_ballot_31 : decode Y_Of_ballot.2.2.1 31 = .ok (.athrow, 1) := by decide +kernel
theorem d_Of_ballot_32 : decode Y_Of_ballot.2.2.1 32 = .ok (.aload_n 0, 1) := by decide +kernel
theorem d_Of_ballot_33 : decode Y_Of_ballot.2.2.1 33 = .ok (.invokevirtual 71, 3) := by decide +kernel
theorem d_Of_ballot_36 : decode Y_Of_ballot.2.2.1 36 = .ok (.aload_n 0, 1) := by decide +kernel
theorem d_Of_ballot_37 : decode Y_Of_ballot.2.2.1 37 = .ok (.getfield 19, 3) := by decide +kernel
theorem d_Of_ballot_40 : decode Y_Of_ballot.2.2.1 40 = .ok (.iload_n 1, 1) := by decide +kernel
theorem d_Of_ballot_41 : decode Y_Of_ballot.2.2.1 41 = .ok (.aaload, 1) := by decide +kernel
theorem d_Of_ballot_42 : decode Y_Of_ballot.2.2.1 42 = .ok (.astore 4, 2) := by decide +kernel
theorem d_Of_ballot_44 : decode Y_Of_ballot.2.2.1 44 = .ok (.aload 4, 2) := by decide +kernel
theorem d_Of_ballot_46 : decode Y_Of_ballot.2.2.1 46 = .ok (.getfield 96, 3) := by decide +kernel
theorem d_Of_ballot_49 : decode Y_Of_ballot.2.2.1 49 = .ok (.ifCond .ne 13, 3) := by decide +kernel
theorem d_Of_ballot_52 : decode Y_Of_ballot.2.2.1 52 = .ok (.aload 4, 2) := by decide +kernel
theorem d_Of_ballot_54 : decode Y_Of_ballot.2.2.1 54 = .ok (.getfield 99, 3) := by decide +kernel
theorem d_Of_ballot_57 : decode Y_Of_ballot.2.2.1 57 = .ok (.bipush 6, 2) := by decide +kernel
theorem d_Of_ballot_59 : decode Y_Of_ballot.2.2.1 59 = .ok (.if_icmp .lt 13, 3) := by decide +kernel
theorem d_Of_ballot_62 : decode Y_Of_ballot.2.2.1 62 = .ok (.new 74, 3) := by decide +kernel
theorem d_Of_ballot_65 : decode Y_Of_ballot.2.2.1 65 = .ok (.dup, 1) := by decide +kernel
theorem d_Of_ballot_66 : decode Y_Of_ballot.2.2.1 66 = .ok (.ldc 102, 2) := by decide +kernel
theorem d_Of_ballot_68 : decode Y_Of_ballot.2.2.1 68 = .ok (.invokespecial 78, 3) := by decide +kernel
theorem d_Of_ballot_71 : decode Y_Of_ballot.2.2.1 71 = .ok (.athrow, 1) := by decide +kernel
theorem d_Of_ballot_72 : decode Y_Of_ballot.2.2.1 72 = .ok (.aload 4, 2) := by decide +kernel
theorem d_Of_ballot_74 : decode Y_Of_ballot.2.2.1 74 = .ok (.iload_n 2, 1) := by decide +kernel
theorem d_Of_ballot_75 : decode Y_Of_ballot.2.2.1 75 = .ok (.iload_n 3, 1) := by decide +kernel
theorem d_Of_ballot_76 : decode Y_Of_ballot.2.2.1 76 = .ok (.invokevirtual 104, 3) := by decide +kernel
theorem d_Of_ballot_79 : decode Y_Of_ballot.2.2.1 79 = .ok (.ireturn, 1) := by decide +kernel
theorem d_Of_turn_0 : decode Y_Of_turn.2.2.1 0 = .ok (.aload_n 0, 1) := by decide +kernel
theorem d_Of_turn_1 : decode Y_Of_turn.2.2.1 1 = .ok (.iload_n 1, 1) := by decide +kernel
theorem d_Of_turn_2 : decode Y_Of_turn.2.2.1 2 = .ok (.invokevirtual 88, 3) := by decide +kernel
theorem d_Of_turn_5 : decode Y_Of_turn.2.2.1 5 = .ok (.iload_n 2, 1) := by decide +kernel
theorem d_Of_turn_6 : decode Y_Of_turn.2.2.1 6 = .ok (.ifCond .eq 23, 3) := by decide +kernel
theorem d_Of_turn_9 : decode Y_Of_turn.2.2.1 9 = .ok (.iload_n 2, 1) := by decide +kernel
theorem d_Of_turn_10 : decode Y_Of_turn.2.2.1 10 = .ok (.iconst 1, 1) := by decide +kernel
theorem d_Of_turn_11 : decode Y_Of_turn.2.2.1 11 = .ok (.if_icmp .eq 18, 3) := by decide +kernel
theorem d_Of_turn_14 : decode Y_Of_turn.2.2.1 14 = .ok (.iload_n 2, 1) := by decide +kernel
theorem d_Of_turn_15 : decode Y_Of_turn.2.2.1 15 = .ok (.iconst 2, 1) := by decide +kernel
theorem d_Of_turn_16 : decode Y_Of_turn.2.2.1 16 = .ok (.if_icmp .eq 13, 3) := by decide +kernel
theorem d_Of_turn_19 : decode Y_Of_turn.2.2.1 19 = .ok (.new 64, 3) := by decide +kernel
theorem d_Of_turn_22 : decode Y_Of_turn.2.2.1 22 = .ok (.dup, 1) := by decide +kernel
theorem d_Of_turn_23 : decode Y_Of_turn.2.2.1 23 = .ok (.ldc 108, 2) := by decide +kernel
theorem d_Of_turn_25 : decode Y_Of_turn.2.2.1 25 = .ok (.invokespecial 68, 3) := by decide +kernel
theorem d_Of_turn_28 : decode Y_Of_turn.2.2.1 28 = .ok (.athrow, 1) := by decide +kernel
theorem d_Of_turn_29 : decode Y_Of_turn.2.2.1 29 = .ok (.aload_n 0, 1) := by decide +kernel
theorem d_Of_turn_30 : decode Y_Of_turn.2.2.1 30 = .ok (.invokevirtual 71, 3) := by decide +kernel
theorem d_Of_turn_33 : decode Y_Of_turn.2.2.1 33 = .ok (.aload_n 0, 1) := by decide +kernel
theorem d_Of_turn_34 : decode Y_Of_turn.2.2.1 34 = .ok (.getfield 19, 3) := by decide +kernel
theorem d_Of_turn_37 : decode Y_Of_turn.2.2.1 37 = .ok (.iload_n 1, 1) := by decide +kernel
theorem d_Of_turn_38 : decode Y_Of_turn.2.2.1 38 = .ok (.aaload, 1) := by decide +kernel
theorem d_Of_turn_39 : decode Y_Of_turn.2.2.1 39 = .ok (.astore_n 3, 1) := by decide +kernel
theorem d_Of_turn_40 : decode Y_Of_turn.2.2.1 40 = .ok (.aload_n 3, 1) := by decide +kernel
theorem d_Of_turn_41 : decode Y_Of_turn.2.2.1 41 = .ok (.getfield 96, 3) := by decide +kernel
theorem d_Of_turn_44 : decode Y_Of_turn.2.2.1 44 = .ok (.iload_n 2, 1) := by decide +kernel
theorem d_Of_turn_45 : decode Y_Of_turn.2.2.1 45 = .ok (.invokestatic 110, 3) := by decide +kernel
theorem d_Of_turn_48 : decode Y_Of_turn.2.2.1 48 = .ok (.if_icmp .eq 13, 3) := by decide +kernel
theorem d_Of_turn_51 : decode Y_Of_turn.2.2.1 51 = .ok (.new 74, 3) := by decide +kernel
theorem d_Of_turn_54 : decode Y_Of_turn.2.2.1 54 = .ok (.dup, 1) := by decide +kernel
theorem d_Of_turn_55 : decode Y_Of_turn.2.2.1 55 = .ok (.ldc 114, 2) := by decide +kernel
theorem d_Of_turn_57 : decode Y_Of_turn.2.2.1 57 = .ok (.invokespecial 78, 3) := by decide +kernel
theorem d_Of_turn_60 : decode Y_Of_turn.2.2.1 60 = .ok (.athrow, 1) := by decide +kernel
theorem d_Of_turn_61 : decode Y_Of_turn.2.2.1 61 = .ok (.iload_n 2, 1) := by decide +kernel
theorem d_Of_turn_62 : decode Y_Of_turn.2.2.1 62 = .ok (.iconst 1, 1) := by decide +kernel
theorem d_Of_turn_63 : decode Y_Of_turn.2.2.1 63 = .ok (.if_icmp .ne 19, 3) := by decide +kernel
theorem d_Of_turn_66 : decode Y_Of_turn.2.2.1 66 = .ok (.aload_n 3, 1) := by decide +kernel
theorem d_Of_turn_67 : decode Y_Of_turn.2.2.1 67 = .ok (.iconst 2, 1) := by decide +kernel
theorem d_Of_turn_68 : decode Y_Of_turn.2.2.1 68 = .ok (.putfield 96, 3) := by decide +kernel
theorem d_Of_turn_71 : decode Y_Of_turn.2.2.1 71 = .ok (.aload_n 0, 1) := by decide +kernel
theorem d_Of_turn_72 : decode Y_Of_turn.2.2.1 72 = .ok (.getfield 36, 3) := by decide +kernel
theorem d_Of_turn_75 : decode Y_Of_turn.2.2.1 75 = .ok (.aload_n 3, 1) := by decide +kernel
theorem d_Of_turn_76 : decode Y_Of_turn.2.2.1 76 = .ok (.invokevirtual 116, 3) := by decide +kernel
theorem d_Of_turn_79 : decode Y_Of_turn.2.2.1 79 = .ok (.goto 16, 3) := by decide +kernel
theorem d_Of_turn_82 : decode Y_Of_turn.2.2.1 82 = .ok (.aload_n 3, 1) := by decide +kernel
theorem d_Of_turn_83 : decode Y_Of_turn.2.2.1 83 = .ok (.iconst 1, 1) := by decide +kernel
theorem d_Of_turn_84 : decode Y_Of_turn.2.2.1 84 = .ok (.putfield 96, 3) := by decide +kernel
theorem d_Of_turn_87 : decode Y_Of_turn.2.2.1 87 = .ok (.aload_n 0, 1) := by decide +kernel
theorem d_Of_turn_88 : decode Y_Of_turn.2.2.1 88 = .ok (.getfield 36, 3) := by decide +kernel
theorem d_Of_turn_91 : decode Y_Of_turn.2.2.1 91 = .ok (.aload_n 3, 1) := by decide +kernel
theorem d_Of_turn_92 : decode Y_Of_turn.2.2.1 92 = .ok (.invokevirtual 120, 3) := by decide +kernel
theorem d_Of_turn_95 : decode Y_Of_turn.2.2.1 95 = .ok (.return_, 1) := by decide +kernel
theorem d_Of_correct_0 : decode Y_Of_correct.2.2.1 0 = .ok (.aload_n 0, 1) := by decide +kernel
theorem d_Of_correct_1 : decode Y_Of_correct.2.2.1 1 = .ok (.iload_n 1, 1) := by decide +kernel
theorem d_Of_correct_2 : decode Y_Of_correct.2.2.1 2 = .ok (.invokevirtual 88, 3) := by decide +kernel
theorem d_Of_correct_5 : decode Y_Of_correct.2.2.1 5 = .ok (.aload_n 0, 1) := by decide +kernel
theorem d_Of_correct_6 : decode Y_Of_correct.2.2.1 6 = .ok (.iload_n 3, 1) := by decide +kernel
theorem d_Of_correct_7 : decode Y_Of_correct.2.2.1 7 = .ok (.invokevirtual 91, 3) := by decide +kernel
theorem d_Of_correct_10 : decode Y_Of_correct.2.2.1 10 = .ok (.aload_n 0, 1) := by decide +kernel
theorem d_Of_correct_11 : decode Y_Of_correct.2.2.1 11 = .ok (.getfield 19, 3) := by decide +kernel
theorem d_Of_correct_14 : decode Y_Of_correct.2.2.1 14 = .ok (.iload_n 1, 1) := by decide +kernel
theorem d_Of_correct_15 : decode Y_Of_correct.2.2.1 15 = .ok (.aaload, 1) := by decide +kernel
theorem d_Of_correct_16 : decode Y_Of_correct.2.2.1 16 = .ok (.astore 4, 2) := by decide +kernel
theorem d_Of_correct_18 : decode Y_Of_correct.2.2.1 18 = .ok (.iload_n 2, 1) := by decide +kernel
theorem d_Of_correct_19 : decode Y_Of_correct.2.2.1 19 = .ok (.ifCond .lt 12, 3) := by decide +kernel
theorem d_Of_correct_22 : decode Y_Of_correct.2.2.1 22 = .ok (.iload_n 2, 1) := by decide +kernel
theorem d_Of_correct_23 : decode Y_Of_correct.2.2.1 23 = .ok (.aload 4, 2) := by decide +kernel
theorem d_Of_correct_25 : decode Y_Of_correct.2.2.1 25 = .ok (.getfield 99, 3) := by decide +kernel
theorem d_Of_correct_28 : decode Y_Of_correct.2.2.1 28 = .ok (.if_icmp .lt 13, 3) := by decide +kernel
theorem d_Of_correct_31 : decode Y_Of_correct.2.2.1 31 = .ok (.new 83, 3) := by decide +kernel
theorem d_Of_correct_34 : decode Y_Of_correct.2.2.1 34 = .ok (.dup, 1) := by decide +kernel
theorem d_Of_correct_35 : decode Y_Of_correct.2.2.1 35 = .ok (.ldc 123, 2) := by decide +kernel
theorem d_Of_correct_37 : decode Y_Of_correct.2.2.1 37 = .ok (.invokespecial 85, 3) := by decide +kernel
theorem d_Of_correct_40 : decode Y_Of_correct.2.2.1 40 = .ok (.athrow, 1) := by decide +kernel
theorem d_Of_correct_41 : decode Y_Of_correct.2.2.1 41 = .ok (.aload_n 0, 1) := by decide +kernel
theorem d_Of_correct_42 : decode Y_Of_correct.2.2.1 42 = .ok (.invokevirtual 71, 3) := by decide +kernel
theorem d_Of_correct_45 : decode Y_Of_correct.2.2.1 45 = .ok (.aload 4, 2) := by decide +kernel
theorem d_Of_correct_47 : decode Y_Of_correct.2.2.1 47 = .ok (.getfield 96, 3) := by decide +kernel
theorem d_Of_correct_50 : decode Y_Of_correct.2.2.1 50 = .ok (.ifCond .ne 13, 3) := by decide +kernel
theorem d_Of_correct_53 : decode Y_Of_correct.2.2.1 53 = .ok (.new 74, 3) := by decide +kernel
theorem d_Of_correct_56 : decode Y_Of_correct.2.2.1 56 = .ok (.dup, 1) := by decide +kernel
theorem d_Of_correct_57 : decode Y_Of_correct.2.2.1 57 = .ok (.ldc 125, 2) := by decide +kernel
theorem d_Of_correct_59 : decode Y_Of_correct.2.2.1 59 = .ok (.invokespecial 78, 3) := by decide +kernel
theorem d_Of_correct_62 : decode Y_Of_correct.2.2.1 62 = .ok (.athrow, 1) := by decide +kernel
theorem d_Of_correct_63 : decode Y_Of_correct.2.2.1 63 = .ok (.aload 4, 2) := by decide +kernel
theorem d_Of_correct_65 : decode Y_Of_correct.2.2.1 65 = .ok (.getfield 127, 3) := by decide +kernel
theorem d_Of_correct_68 : decode Y_Of_correct.2.2.1 68 = .ok (.iload_n 2, 1) := by decide +kernel
theorem d_Of_correct_69 : decode Y_Of_correct.2.2.1 69 = .ok (.iaload, 1) := by decide +kernel
theorem d_Of_correct_70 : decode Y_Of_correct.2.2.1 70 = .ok (.istore 5, 2) := by decide +kernel
theorem d_Of_correct_72 : decode Y_Of_correct.2.2.1 72 = .ok (.aload 4, 2) := by decide +kernel
theorem d_Of_correct_74 : decode Y_Of_correct.2.2.1 74 = .ok (.getfield 127, 3) := by decide +kernel
theorem d_Of_correct_77 : decode Y_Of_correct.2.2.1 77 = .ok (.iload_n 2, 1) := by decide +kernel
theorem d_Of_correct_78 : decode Y_Of_correct.2.2.1 78 = .ok (.iload_n 3, 1) := by decide +kernel
theorem d_Of_correct_79 : decode Y_Of_correct.2.2.1 79 = .ok (.iastore, 1) := by decide +kernel
theorem d_Of_correct_80 : decode Y_Of_correct.2.2.1 80 = .ok (.aload 4, 2) := by decide +kernel
theorem d_Of_correct_82 : decode Y_Of_correct.2.2.1 82 = .ok (.getfield 96, 3) := by decide +kernel
theorem d_Of_correct_85 : decode Y_Of_correct.2.2.1 85 = .ok (.iconst 1, 1) := by decide +kernel
theorem d_Of_correct_86 : decode Y_Of_correct.2.2.1 86 = .ok (.if_icmp .ne 35, 3) := by decide +kernel
theorem d_Of_correct_89 : decode Y_Of_correct.2.2.1 89 = .ok (.aload_n 0, 1) := by decide +kernel
theorem d_Of_correct_90 : decode Y_Of_correct.2.2.1 90 = .ok (.getfield 36, 3) := by decide +kernel
theorem d_Of_correct_93 : decode Y_Of_correct.2.2.1 93 = .ok (.iload 5, 2) := by decide +kernel
theorem d_Of_correct_95 : decode Y_Of_correct.2.2.1 95 = .ok (.aload 4, 2) := by decide +kernel
theorem d_Of_correct_97 : decode Y_Of_correct.2.2.1 97 = .ok (.getfield 130, 3) := by decide +kernel
theorem d_Of_correct_100 : decode Y_Of_correct.2.2.1 100 = .ok (.iload_n 2, 1) := by decide +kernel
theorem d_Of_correct_101 : decode Y_Of_correct.2.2.1 101 = .ok (.iaload, 1) := by decide +kernel
theorem d_Of_correct_102 : decode Y_Of_correct.2.2.1 102 = .ok (.ineg, 1) := by decide +kernel
theorem d_Of_correct_103 : decode Y_Of_correct.2.2.1 103 = .ok (.invokevirtual 132, 3) := by decide +kernel
theorem d_Of_correct_106 : decode Y_Of_correct.2.2.1 106 = .ok (.aload_n 0, 1) := by decide +kernel
theorem d_Of_correct_107 : decode Y_Of_correct.2.2.1 107 = .ok (.getfield 36, 3) := by decide +kernel
theorem d_Of_correct_110 : decode Y_Of_correct.2.2.1 110 = .ok (.iload_n 3, 1) := by decide +kernel
theorem d_Of_correct_111 : decode Y_Of_correct.2.2.1 111 = .ok (.aload 4, 2) := by decide +kernel
theorem d_Of_correct_113 : decode Y_Of_correct.2.2.1 113 = .ok (.getfield 130, 3) := by decide +kernel
theorem d_Of_correct_116 : decode Y_Of_correct.2.2.1 116 = .ok (.iload_n 2, 1) := by decide +kernel
theorem d_Of_correct_117 : decode Y_Of_correct.2.2.1 117 = .ok (.iaload, 1) := by decide +kernel
theorem d_Of_correct_118 : decode Y_Of_correct.2.2.1 118 = .ok (.invokevirtual 132, 3) := by decide +kernel
theorem d_Of_correct_121 : decode Y_Of_correct.2.2.1 121 = .ok (.iload 5, 2) := by decide +kernel
theorem d_Of_correct_123 : decode Y_Of_correct.2.2.1 123 = .ok (.ireturn, 1) := by decide +kernel
theorem d_Of_state_0 : decode Y_Of_state.2.2.1 0 = .ok (.aload_n 0, 1) := by decide +kernel
theorem d_Of_state_1 : decode Y_Of_state.2.2.1 1 = .ok (.iload_n 1, 1) := by decide +kernel
theorem d_Of_state_2 : decode Y_Of_state.2.2.1 2 = .ok (.invokevirtual 88, 3) := by decide +kernel
theorem d_Of_state_5 : decode Y_Of_state.2.2.1 5 = .ok (.aload_n 0, 1) := by decide +kernel
theorem d_Of_state_6 : decode Y_Of_state.2.2.1 6 = .ok (.getfield 19, 3) := by decide +kernel
theorem d_Of_state_9 : decode Y_Of_state.2.2.1 9 = .ok (.iload_n 1, 1) := by decide +kernel
theorem d_Of_state_10 : decode Y_Of_state.2.2.1 10 = .ok (.aaload, 1) := by decide +kernel
theorem d_Of_state_11 : decode Y_Of_state.2.2.1 11 = .ok (.getfield 96, 3) := by decide +kernel
theorem d_Of_state_14 : decode Y_Of_state.2.2.1 14 = .ok (.ireturn, 1) := by decide +kernel
theorem d_Of_voters_0 : decode Y_Of_voters.2.2.1 0 = .ok (.aload_n 0, 1) := by decide +kernel
theorem d_Of_voters_1 : decode Y_Of_voters.2.2.1 1 = .ok (.getfield 36, 3) := by decide +kernel
theorem d_Of_voters_4 : decode Y_Of_voters.2.2.1 4 = .ok (.getfield 135, 3) := by decide +kernel
theorem d_Of_voters_7 : decode Y_Of_voters.2.2.1 7 = .ok (.ireturn, 1) := by decide +kernel
theorem d_Of_prefer_0 : decode Y_Of_prefer.2.2.1 0 = .ok (.aload_n 0, 1) := by decide +kernel
theorem d_Of_prefer_1 : decode Y_Of_prefer.2.2.1 1 = .ok (.iload_n 1, 1) := by decide +kernel
theorem d_Of_prefer_2 : decode Y_Of_prefer.2.2.1 2 = .ok (.iload_n 2, 1) := by decide +kernel
theorem d_Of_prefer_3 : decode Y_Of_prefer.2.2.1 3 = .ok (.invokevirtual 138, 3) := by decide +kernel
theorem d_Of_prefer_6 : decode Y_Of_prefer.2.2.1 6 = .ok (.aload_n 0, 1) := by decide +kernel
theorem d_Of_prefer_7 : decode Y_Of_prefer.2.2.1 7 = .ok (.getfield 36, 3) := by decide +kernel
theorem d_Of_prefer_10 : decode Y_Of_prefer.2.2.1 10 = .ok (.getfield 141, 3) := by decide +kernel
theorem d_Of_prefer_13 : decode Y_Of_prefer.2.2.1 13 = .ok (.iload_n 1, 1) := by decide +kernel
theorem d_Of_prefer_14 : decode Y_Of_prefer.2.2.1 14 = .ok (.aaload, 1) := by decide +kernel
theorem d_Of_prefer_15 : decode Y_Of_prefer.2.2.1 15 = .ok (.iload_n 2, 1) := by decide +kernel
theorem d_Of_prefer_16 : decode Y_Of_prefer.2.2.1 16 = .ok (.iaload, 1) := by decide +kernel
theorem d_Of_prefer_17 : decode Y_Of_prefer.2.2.1 17 = .ok (.ireturn, 1) := by decide +kernel
theorem d_Of_strength_0 : decode Y_Of_strength.2.2.1 0 = .ok (.aload_n 0, 1) := by decide +kernel
theorem d_Of_strength_1 : decode Y_Of_strength.2.2.1 1 = .ok (.iload_n 1, 1) := by decide +kernel
theorem d_Of_strength_2 : decode Y_Of_strength.2.2.1 2 = .ok (.iload_n 2, 1) := by decide +kernel
theorem d_Of_strength_3 : decode Y_Of_strength.2.2.1 3 = .ok (.invokevirtual 138, 3) := by decide +kernel
theorem d_Of_strength_6 : decode Y_Of_strength.2.2.1 6 = .ok (.aload_n 0, 1) := by decide +kernel
theorem d_Of_strength_7 : decode Y_Of_strength.2.2.1 7 = .ok (.getfield 46, 3) := by decide +kernel
theorem d_Of_strength_10 : decode Y_Of_strength.2.2.1 10 = .ok (.aload_n 0, 1) := by decide +kernel
theorem d_Of_strength_11 : decode Y_Of_strength.2.2.1 11 = .ok (.getfield 36, 3) := by decide +kernel
theorem d_Of_strength_14 : decode Y_Of_strength.2.2.1 14 = .ok (.invokevirtual 145, 3) := by decide +kernel
theorem d_Of_strength_17 : decode Y_Of_strength.2.2.1 17 = .ok (.aload_n 0, 1) := by decide +kernel
theorem d_Of_strength_18 : decode Y_Of_strength.2.2.1 18 = .ok (.getfield 46, 3) := by decide +kernel
theorem d_Of_strength_21 : decode Y_Of_strength.2.2.1 21 = .ok (.getfield 149, 3) := by decide +kernel
theorem d_Of_strength_24 : decode Y_Of_strength.2.2.1 24 = .ok (.iload_n 1, 1) := by decide +kernel
theorem d_Of_strength_25 : decode Y_Of_strength.2.2.1 25 = .ok (.aaload, 1) := by decide +kernel
theorem d_Of_strength_26 : decode Y_Of_strength.2.2.1 26 = .ok (.iload_n 2, 1) := by decide +kernel
theorem d_Of_strength_27 : decode Y_Of_strength.2.2.1 27 = .ok (.iaload, 1) := by decide +kernel
theorem d_Of_strength_28 : decode Y_Of_strength.2.2.1 28 = .ok (.ireturn, 1) := by decide +kernel
theorem d_Of_way_0 : decode Y_Of_way.2.2.1 0 = .ok (.aload_n 0, 1) := by decide +kernel
theorem d_Of_way_1 : decode Y_Of_way.2.2.1 1 = .ok (.iload_n 1, 1) := by decide +kernel
theorem d_Of_way_2 : decode Y_Of_way.2.2.1 2 = .ok (.iload_n 2, 1) := by decide +kernel
theorem d_Of_way_3 : decode Y_Of_way.2.2.1 3 = .ok (.invokevirtual 138, 3) := by decide +kernel
theorem d_Of_way_6 : decode Y_Of_way.2.2.1 6 = .ok (.aload_n 0, 1) := by decide +kernel
theorem d_Of_way_7 : decode Y_Of_way.2.2.1 7 = .ok (.getfield 46, 3) := by decide +kernel
theorem d_Of_way_10 : decode Y_Of_way.2.2.1 10 = .ok (.aload_n 0, 1) := by decide +kernel
theorem d_Of_way_11 : decode Y_Of_way.2.2.1 11 = .ok (.getfield 36, 3) := by decide +kernel
theorem d_Of_way_14 : decode Y_Of_way.2.2.1 14 = .ok (.invokevirtual 145, 3) := by decide +kernel
theorem d_Of_way_17 : decode Y_Of_way.2.2.1 17 = .ok (.aload_n 0, 1) := by decide +kernel
theorem d_Of_way_18 : decode Y_Of_way.2.2.1 18 = .ok (.getfield 46, 3) := by decide +kernel
theorem d_Of_way_21 : decode Y_Of_way.2.2.1 21 = .ok (.aload_n 0, 1) := by decide +kernel
theorem d_Of_way_22 : decode Y_Of_way.2.2.1 22 = .ok (.getfield 36, 3) := by decide +kernel
theorem d_Of_way_25 : decode Y_Of_way.2.2.1 25 = .ok (.iload_n 1, 1) := by decide +kernel
theorem d_Of_way_26 : decode Y_Of_way.2.2.1 26 = .ok (.iload_n 2, 1) := by decide +kernel
theorem d_Of_way_27 : decode Y_Of_way.2.2.1 27 = .ok (.invokevirtual 152, 3) := by decide +kernel
theorem d_Of_way_30 : decode Y_Of_way.2.2.1 30 = .ok (.ireturn, 1) := by decide +kernel
theorem d_Of_cut_0 : decode Y_Of_cut.2.2.1 0 = .ok (.aload_n 0, 1) := by decide +kernel
theorem d_Of_cut_1 : decode Y_Of_cut.2.2.1 1 = .ok (.iload_n 1, 1) := by decide +kernel
theorem d_Of_cut_2 : decode Y_Of_cut.2.2.1 2 = .ok (.iload_n 2, 1) := by decide +kernel
theorem d_Of_cut_3 : decode Y_Of_cut.2.2.1 3 = .ok (.invokevirtual 138, 3) := by decide +kernel
theorem d_Of_cut_6 : decode Y_Of_cut.2.2.1 6 = .ok (.aload_n 0, 1) := by decide +kernel
theorem d_Of_cut_7 : decode Y_Of_cut.2.2.1 7 = .ok (.getfield 46, 3) := by decide +kernel
theorem d_Of_cut_10 : decode Y_Of_cut.2.2.1 10 = .ok (.aload_n 0, 1) := by decide +kernel
theorem d_Of_cut_11 : decode Y_Of_cut.2.2.1 11 = .ok (.getfield 36, 3) := by decide +kernel
theorem d_Of_cut_14 : decode Y_Of_cut.2.2.1 14 = .ok (.invokevirtual 145, 3) := by decide +kernel
theorem d_Of_cut_17 : decode Y_Of_cut.2.2.1 17 = .ok (.aload_n 0, 1) := by decide +kernel
theorem d_Of_cut_18 : decode Y_Of_cut.2.2.1 18 = .ok (.getfield 46, 3) := by decide +kernel
theorem d_Of_cut_21 : decode Y_Of_cut.2.2.1 21 = .ok (.iload_n 1, 1) := by decide +kernel
theorem d_Of_cut_22 : decode Y_Of_cut.2.2.1 22 = .ok (.aload_n 0, 1) := by decide +kernel
theorem d_Of_cut_23 : decode Y_Of_cut.2.2.1 23 = .ok (.getfield 46, 3) := by decide +kernel
theorem d_Of_cut_26 : decode Y_Of_cut.2.2.1 26 = .ok (.getfield 149, 3) := by decide +kernel
theorem d_Of_cut_29 : decode Y_Of_cut.2.2.1 29 = .ok (.iload_n 1, 1) := by decide +kernel
theorem d_Of_cut_30 : decode Y_Of_cut.2.2.1 30 = .ok (.aaload, 1) := by decide +kernel
theorem d_Of_cut_31 : decode Y_Of_cut.2.2.1 31 = .ok (.iload_n 2, 1) := by decide +kernel
theorem d_Of_cut_32 : decode Y_Of_cut.2.2.1 32 = .ok (.iaload, 1) := by decide +kernel
theorem d_Of_cut_33 : decode Y_Of_cut.2.2.1 33 = .ok (.invokevirtual 156, 3) := by decide +kernel
theorem d_Of_cut_36 : decode Y_Of_cut.2.2.1 36 = .ok (.ireturn, 1) := by decide +kernel
theorem d_Of_proves_0 : decode Y_Of_proves.2.2.1 0 = .ok (.aload_n 0, 1) := by decide +kernel
theorem d_Of_proves_1 : decode Y_Of_proves.2.2.1 1 = .ok (.iload_n 1, 1) := by decide +kernel
theorem d_Of_proves_2 : decode Y_Of_proves.2.2.1 2 = .ok (.iload_n 2, 1) := by decide +kernel
theorem d_Of_proves_3 : decode Y_Of_proves.2.2.1 3 = .ok (.invokevirtual 138, 3) := by decide +kernel
theorem d_Of_proves_6 : decode Y_Of_proves.2.2.1 6 = .ok (.iload_n 3, 1) := by decide +kernel
theorem d_Of_proves_7 : decode Y_Of_proves.2.2.1 7 = .ok (.ifCond .ge 5, 3) := by decide +kernel
theorem d_Of_proves_10 : decode Y_Of_proves.2.2.1 10 = .ok (.iconst 0, 1) := by decide +kernel
theorem d_Of_proves_11 : decode Y_Of_proves.2.2.1 11 = .ok (.ireturn, 1) := by decide +kernel
theorem d_Of_proves_12 : decode Y_Of_proves.2.2.1 12 = .ok (.iload_n 3, 1) := by decide +kernel
theorem d_Of_proves_13 : decode Y_Of_proves.2.2.1 13 = .ok (.ifCond .ne 16, 3) := by decide +kernel
theorem d_Of_proves_16 : decode Y_Of_proves.2.2.1 16 = .ok (.iload 4, 2) := by decide +kernel
theorem d_Of_proves_18 : decode Y_Of_proves.2.2.1 18 = .ok (.ifCond .ne 7, 3) := by decide +kernel
theorem d_Of_proves_21 : decode Y_Of_proves.2.2.1 21 = .ok (.iconst 1, 1) := by decide +kernel
theorem d_Of_proves_22 : decode Y_Of_proves.2.2.1 22 = .ok (.goto 19, 3) := by decide +kernel
theorem d_Of_proves_25 : decode Y_Of_proves.2.2.1 25 = .ok (.iconst 0, 1) := by decide +kernel
theorem d_Of_proves_26 : decode Y_Of_proves.2.2.1 26 = .ok (.goto 15, 3) := by decide +kernel
theorem d_Of_proves_29 : decode Y_Of_proves.2.2.1 29 = .ok (.aload_n 0, 1) := by decide +kernel
theorem d_Of_proves_30 : decode Y_Of_proves.2.2.1 30 = .ok (.getfield 36, 3) := by decide +kernel
theorem d_Of_proves_33 : decode Y_Of_proves.2.2.1 33 = .ok (.iload_n 1, 1) := by decide +kernel
theorem d_Of_proves_34 : decode Y_Of_proves.2.2.1 34 = .ok (.iload_n 2, 1) := by decide +kernel
theorem d_Of_proves_35 : decode Y_Of_proves.2.2.1 35 = .ok (.iload_n 3, 1) := by decide +kernel
theorem d_Of_proves_36 : decode Y_Of_proves.2.2.1 36 = .ok (.iload 4, 2) := by decide +kernel
theorem d_Of_proves_38 : decode Y_Of_proves.2.2.1 38 = .ok (.invokevirtual 159, 3) := by decide +kernel
theorem d_Of_proves_41 : decode Y_Of_proves.2.2.1 41 = .ok (.istore 6, 2) := by decide +kernel
theorem d_Of_proves_43 : decode Y_Of_proves.2.2.1 43 = .ok (.iload 6, 2) := by decide +kernel
theorem d_Of_proves_45 : decode Y_Of_proves.2.2.1 45 = .ok (.ifCond .eq 38, 3) := by decide +kernel
theorem d_Of_proves_48 : decode Y_Of_proves.2.2.1 48 = .ok (.iload 5, 2) := by decide +kernel
theorem d_Of_proves_50 : decode Y_Of_proves.2.2.1 50 = .ok (.iload_n 1, 1) := by decide +kernel
theorem d_Of_proves_51 : decode Y_Of_proves.2.2.1 51 = .ok (.invokestatic 163, 3) := by decide +kernel
theorem d_Of_proves_54 : decode Y_Of_proves.2.2.1 54 = .ok (.ifCond .eq 29, 3) := by decide +kernel
theorem d_Of_proves_57 : decode Y_Of_proves.2.2.1 57 = .ok (.iload 5, 2) := by decide +kernel
theorem d_Of_proves_59 : decode Y_Of_proves.2.2.1 59 = .ok (.iload_n 2, 1) := by decide +kernel
theorem d_Of_proves_60 : decode Y_Of_proves.2.2.1 60 = .ok (.invokestatic 163, 3) := by decide +kernel
theorem d_Of_proves_63 : decode Y_Of_proves.2.2.1 63 = .ok (.ifCond .ne 20, 3) := by decide +kernel
theorem d_Of_proves_66 : decode Y_Of_proves.2.2.1 66 = .ok (.aload_n 0, 1) := by decide +kernel
theorem d_Of_proves_67 : decode Y_Of_proves.2.2.1 67 = .ok (.getfield 36, 3) := by decide +kernel
theorem d_Of_proves_70 : decode Y_Of_proves.2.2.1 70 = .ok (.iload 5, 2) := by decide +kernel
theorem d_Of_proves_72 : decode Y_Of_proves.2.2.1 72 = .ok (.iload_n 3, 1) := by decide +kernel
theorem d_Of_proves_73 : decode Y_Of_proves.2.2.1 73 = .ok (.invokevirtual 167, 3) := by decide +kernel
theorem d_Of_proves_76 : decode Y_Of_proves.2.2.1 76 = .ok (.ifCond .eq 7, 3) := by decide +kernel
theorem d_Of_proves_79 : decode Y_Of_proves.2.2.1 79 = .ok (.iconst 1, 1) := by decide +kernel
theorem d_Of_proves_80 : decode Y_Of_proves.2.2.1 80 = .ok (.goto 4, 3) := by decide +kernel
theorem d_Of_proves_83 : decode Y_Of_proves.2.2.1 83 = .ok (.iconst 0, 1) := by decide +kernel
theorem d_Of_proves_84 : decode Y_Of_proves.2.2.1 84 = .ok (.ireturn, 1) := by decide +kernel
theorem d_Of_winner_0 : decode Y_Of_winner.2.2.1 0 = .ok (.aload_n 0, 1) := by decide +kernel
theorem d_Of_winner_1 : decode Y_Of_winner.2.2.1 1 = .ok (.aload_n 0, 1) := by decide +kernel
theorem d_Of_winner_2 : decode Y_Of_winner.2.2.1 2 = .ok (.getfield 36, 3) := by decide +kernel
theorem d_Of_winner_5 : decode Y_Of_winner.2.2.1 5 = .ok (.invokevirtual 170, 3) := by decide +kernel
theorem d_Of_winner_8 : decode Y_Of_winner.2.2.1 8 = .ok (.iload_n 1, 1) := by decide +kernel
theorem d_Of_winner_9 : decode Y_Of_winner.2.2.1 9 = .ok (.invokestatic 174, 3) := by decide +kernel
theorem d_Of_winner_12 : decode Y_Of_winner.2.2.1 12 = .ok (.invokestatic 177, 3) := by decide +kernel
theorem d_Of_winner_15 : decode Y_Of_winner.2.2.1 15 = .ok (.ireturn, 1) := by decide +kernel
theorem d_Of_locked_0 : decode Y_Of_locked.2.2.1 0 = .ok (.aload_n 0, 1) := by decide +kernel
theorem d_Of_locked_1 : decode Y_Of_locked.2.2.1 1 = .ok (.iload_n 1, 1) := by decide +kernel
theorem d_Of_locked_2 : decode Y_Of_locked.2.2.1 2 = .ok (.iload_n 2, 1) := by decide +kernel
theorem d_Of_locked_3 : decode Y_Of_locked.2.2.1 3 = .ok (.invokevirtual 138, 3) := by decide +kernel
theorem d_Of_locked_6 : decode Y_Of_locked.2.2.1 6 = .ok (.aload_n 0, 1) := by decide +kernel
theorem d_Of_locked_7 : decode Y_Of_locked.2.2.1 7 = .ok (.getfield 53, 3) := by decide +kernel
theorem d_Of_locked_10 : decode Y_Of_locked.2.2.1 10 = .ok (.aload_n 0, 1) := by decide +kernel
theorem d_Of_locked_11 : decode Y_Of_locked.2.2.1 11 = .ok (.getfield 36, 3) := by decide +kernel
theorem d_Of_locked_14 : decode Y_Of_locked.2.2.1 14 = .ok (.aload_n 0, 1) := by decide +kernel
theorem d_Of_locked_15 : decode Y_Of_locked.2.2.1 15 = .ok (.getfield 13, 3) := by decide +kernel
theorem d_Of_locked_18 : decode Y_Of_locked.2.2.1 18 = .ok (.invokevirtual 180, 3) := by decide +kernel
theorem d_Of_locked_21 : decode Y_Of_locked.2.2.1 21 = .ok (.aload_n 0, 1) := by decide +kernel
theorem d_Of_locked_22 : decode Y_Of_locked.2.2.1 22 = .ok (.getfield 53, 3) := by decide +kernel
theorem d_Of_locked_25 : decode Y_Of_locked.2.2.1 25 = .ok (.getfield 184, 3) := by decide +kernel
theorem d_Of_locked_28 : decode Y_Of_locked.2.2.1 28 = .ok (.iload_n 2, 1) := by decide +kernel
theorem d_Of_locked_29 : decode Y_Of_locked.2.2.1 29 = .ok (.iaload, 1) := by decide +kernel
theorem d_Of_locked_30 : decode Y_Of_locked.2.2.1 30 = .ok (.iload_n 1, 1) := by decide +kernel
theorem d_Of_locked_31 : decode Y_Of_locked.2.2.1 31 = .ok (.invokestatic 163, 3) := by decide +kernel
theorem d_Of_locked_34 : decode Y_Of_locked.2.2.1 34 = .ok (.ireturn, 1) := by decide +kernel
theorem d_Of_order_0 : decode Y_Of_order.2.2.1 0 = .ok (.aload_n 0, 1) := by decide +kernel
theorem d_Of_order_1 : decode Y_Of_order.2.2.1 1 = .ok (.aload_n 0, 1) := by decide +kernel
theorem d_Of_order_2 : decode Y_Of_order.2.2.1 2 = .ok (.getfield 36, 3) := by decide +kernel
theorem d_Of_order_5 : decode Y_Of_order.2.2.1 5 = .ok (.iload_n 1, 1) := by decide +kernel
theorem d_Of_order_6 : decode Y_Of_order.2.2.1 6 = .ok (.invokevirtual 187, 3) := by decide +kernel
theorem d_Of_order_9 : decode Y_Of_order.2.2.1 9 = .ok (.invokestatic 177, 3) := by decide +kernel
theorem d_Of_order_12 : decode Y_Of_order.2.2.1 12 = .ok (.ireturn, 1) := by decide +kernel
theorem d_Of_top_0 : decode Y_Of_top.2.2.1 0 = .ok (.aload_n 0, 1) := by decide +kernel
theorem d_Of_top_1 : decode Y_Of_top.2.2.1 1 = .ok (.getfield 36, 3) := by decide +kernel
theorem d_Of_top_4 : decode Y_Of_top.2.2.1 4 = .ok (.invokevirtual 191, 3) := by decide +kernel
theorem d_Of_top_7 : decode Y_Of_top.2.2.1 7 = .ok (.iload_n 1, 1) := by decide +kernel
theorem d_Of_top_8 : decode Y_Of_top.2.2.1 8 = .ok (.invokestatic 174, 3) := by decide +kernel
theorem d_Of_top_11 : decode Y_Of_top.2.2.1 11 = .ok (.invokestatic 177, 3) := by decide +kernel
theorem d_Of_top_14 : decode Y_Of_top.2.2.1 14 = .ok (.ireturn, 1) := by decide +kernel
theorem d_Of_without_0 : decode Y_Of_without.2.2.1 0 = .ok (.aload_n 0, 1) := by decide +kernel
theorem d_Of_without_1 : decode Y_Of_without.2.2.1 1 = .ok (.iload_n 1, 1) := by decide +kernel
theorem d_Of_without_2 : decode Y_Of_without.2.2.1 2 = .ok (.invokevirtual 88, 3) := by decide +kernel
theorem d_Of_without_5 : decode Y_Of_without.2.2.1 5 = .ok (.iload_n 2, 1) := by decide +kernel
theorem d_Of_without_6 : decode Y_Of_without.2.2.1 6 = .ok (.ifCond .eq 23, 3) := by decide +kernel
theorem d_Of_without_9 : decode Y_Of_without.2.2.1 9 = .ok (.iload_n 2, 1) := by decide +kernel
theorem d_Of_without_10 : decode Y_Of_without.2.2.1 10 = .ok (.iconst 1, 1) := by decide +kernel
theorem d_Of_without_11 : decode Y_Of_without.2.2.1 11 = .ok (.if_icmp .eq 18, 3) := by decide +kernel
theorem d_Of_without_14 : decode Y_Of_without.2.2.1 14 = .ok (.iload_n 2, 1) := by decide +kernel
theorem d_Of_without_15 : decode Y_Of_without.2.2.1 15 = .ok (.iconst 2, 1) := by decide +kernel
theorem d_Of_without_16 : decode Y_Of_without.2.2.1 16 = .ok (.if_icmp .eq 13, 3) := by decide +kernel
theorem d_Of_without_19 : decode Y_Of_without.2.2.1 19 = .ok (.new 64, 3) := by decide +kernel
theorem d_Of_without_22 : decode Y_Of_without.2.2.1 22 = .ok (.dup, 1) := by decide +kernel
theorem d_Of_without_23 : decode Y_Of_without.2.2.1 23 = .ok (.ldc 195, 2) := by decide +kernel
theorem d_Of_without_25 : decode Y_Of_without.2.2.1 25 = .ok (.invokespecial 68, 3) := by decide +kernel
theorem d_Of_without_28 : decode Y_Of_without.2.2.1 28 = .ok (.athrow, 1) := by decide +kernel
theorem d_Of_without_29 : decode Y_Of_without.2.2.1 29 = .ok (.aload_n 0, 1) := by decide +kernel
theorem d_Of_without_30 : decode Y_Of_without.2.2.1 30 = .ok (.getfield 40, 3) := by decide +kernel
theorem d_Of_without_33 : decode Y_Of_without.2.2.1 33 = .ok (.aload_n 0, 1) := by decide +kernel
theorem d_Of_without_34 : decode Y_Of_without.2.2.1 34 = .ok (.getfield 36, 3) := by decide +kernel
theorem d_Of_without_37 : decode Y_Of_without.2.2.1 37 = .ok (.invokevirtual 197, 3) := by decide +kernel
theorem d_Of_without_40 : decode Y_Of_without.2.2.1 40 = .ok (.aload_n 0, 1) := by decide +kernel
theorem d_Of_without_41 : decode Y_Of_without.2.2.1 41 = .ok (.getfield 19, 3) := by decide +kernel
theorem d_Of_without_44 : decode Y_Of_without.2.2.1 44 = .ok (.iload_n 1, 1) := by decide +kernel
theorem d_Of_without_45 : decode Y_Of_without.2.2.1 45 = .ok (.aaload, 1) := by decide +kernel
theorem d_Of_without_46 : decode Y_Of_without.2.2.1 46 = .ok (.getfield 96, 3) := by decide +kernel
theorem d_Of_without_49 : decode Y_Of_without.2.2.1 49 = .ok (.iconst 1, 1) := by decide +kernel
theorem d_Of_without_50 : decode Y_Of_without.2.2.1 50 = .ok (.if_icmp .ne 16, 3) := by decide +kernel
theorem d_Of_without_53 : decode Y_Of_without.2.2.1 53 = .ok (.aload_n 0, 1) := by decide +kernel
theorem d_Of_without_54 : decode Y_Of_without.2.2.1 54 = .ok (.getfield 40, 3) := by decide +kernel
theorem d_Of_without_57 : decode Y_Of_without.2.2.1 57 = .ok (.aload_n 0, 1) := by decide +kernel
theorem d_Of_without_58 : decode Y_Of_without.2.2.1 58 = .ok (.getfield 19, 3) := by decide +kernel
theorem d_Of_without_61 : decode Y_Of_without.2.2.1 61 = .ok (.iload_n 1, 1) := by decide +kernel
theorem d_Of_without_62 : decode Y_Of_without.2.2.1 62 = .ok (.aaload, 1) := by decide +kernel
theorem d_Of_without_63 : decode Y_Of_without.2.2.1 63 = .ok (.invokevirtual 116, 3) := by decide +kernel
theorem d_Of_without_66 : decode Y_Of_without.2.2.1 66 = .ok (.iload_n 2, 1) := by decide +kernel
theorem d_Of_without_67 : decode Y_Of_without.2.2.1 67 = .ok (.ifCond .ne 19, 3) := by decide +kernel
theorem d_Of_without_70 : decode Y_Of_without.2.2.1 70 = .ok (.aload_n 0, 1) := by decide +kernel
theorem d_Of_without_71 : decode Y_Of_without.2.2.1 71 = .ok (.aload_n 0, 1) := by decide +kernel
theorem d_Of_without_72 : decode Y_Of_without.2.2.1 72 = .ok (.getfield 40, 3) := by decide +kernel
theorem d_Of_without_75 : decode Y_Of_without.2.2.1 75 = .ok (.invokevirtual 170, 3) := by decide +kernel
theorem d_Of_without_78 : decode Y_Of_without.2.2.1 78 = .ok (.iload_n 3, 1) := by decide +kernel
theorem d_Of_without_79 : decode Y_Of_without.2.2.1 79 = .ok (.invokestatic 174, 3) := by decide +kernel
theorem d_Of_without_82 : decode Y_Of_without.2.2.1 82 = .ok (.invokestatic 177, 3) := by decide +kernel
theorem d_Of_without_85 : decode Y_Of_without.2.2.1 85 = .ok (.ireturn, 1) := by decide +kernel
theorem d_Of_without_86 : decode Y_Of_without.2.2.1 86 = .ok (.iload_n 2, 1) := by decide +kernel
theorem d_Of_without_87 : decode Y_Of_without.2.2.1 87 = .ok (.iconst 1, 1) := by decide +kernel
theorem d_Of_without_88 : decode Y_Of_without.2.2.1 88 = .ok (.if_icmp .ne 16, 3) := by decide +kernel
theorem d_Of_without_91 : decode Y_Of_without.2.2.1 91 = .ok (.aload_n 0, 1) := by decide +kernel
theorem d_Of_without_92 : decode Y_Of_without.2.2.1 92 = .ok (.aload_n 0, 1) := by decide +kernel
theorem d_Of_without_93 : decode Y_Of_without.2.2.1 93 = .ok (.getfield 40, 3) := by decide +kernel
theorem d_Of_without_96 : decode Y_Of_without.2.2.1 96 = .ok (.iload_n 3, 1) := by decide +kernel
theorem d_Of_without_97 : decode Y_Of_without.2.2.1 97 = .ok (.invokevirtual 187, 3) := by decide +kernel
theorem d_Of_without_100 : decode Y_Of_without.2.2.1 100 = .ok (.invokestatic 177, 3) := by decide +kernel
theorem d_Of_without_103 : decode Y_Of_without.2.2.1 103 = .ok (.ireturn, 1) := by decide +kernel
theorem d_Of_without_104 : decode Y_Of_without.2.2.1 104 = .ok (.aload_n 0, 1) := by decide +kernel
theorem d_Of_without_105 : decode Y_Of_without.2.2.1 105 = .ok (.getfield 40, 3) := by decide +kernel
theorem d_Of_without_108 : decode Y_Of_without.2.2.1 108 = .ok (.invokevirtual 191, 3) := by decide +kernel
theorem d_Of_without_111 : decode Y_Of_without.2.2.1 111 = .ok (.iload_n 3, 1) := by decide +kernel
theorem d_Of_without_112 : decode Y_Of_without.2.2.1 112 = .ok (.invokestatic 174, 3) := by decide +kernel
theorem d_Of_without_115 : decode Y_Of_without.2.2.1 115 = .ok (.invokestatic 177, 3) := by decide +kernel
theorem d_Of_without_118 : decode Y_Of_without.2.2.1 118 = .ok (.ireturn, 1) := by decide +kernel
theorem d_Of_seal_0 : decode Y_Of_seal.2.2.1 0 = .ok (.aload_n 0, 1) := by decide +kernel
theorem d_Of_seal_1 : decode Y_Of_seal.2.2.1 1 = .ok (.getfield 27, 3) := by decide +kernel
theorem d_Of_seal_4 : decode Y_Of_seal.2.2.1 4 = .ok (.ifCond .ne 7, 3) := by decide +kernel
theorem d_Of_seal_7 : decode Y_Of_seal.2.2.1 7 = .ok (.iconst 1, 1) := by decide +kernel
theorem d_Of_seal_8 : decode Y_Of_seal.2.2.1 8 = .ok (.goto 4, 3) := by decide +kernel
theorem d_Of_seal_11 : decode Y_Of_seal.2.2.1 11 = .ok (.iconst 0, 1) := by decide +kernel
theorem d_Of_seal_12 : decode Y_Of_seal.2.2.1 12 = .ok (.istore_n 1, 1) := by decide +kernel
theorem d_Of_seal_13 : decode Y_Of_seal.2.2.1 13 = .ok (.aload_n 0, 1) := by decide +kernel
theorem d_Of_seal_14 : decode Y_Of_seal.2.2.1 14 = .ok (.iconst 1, 1) := by decide +kernel
theorem d_Of_seal_15 : decode Y_Of_seal.2.2.1 15 = .ok (.putfield 27, 3) := by decide +kernel
theorem d_Of_seal_18 : decode Y_Of_seal.2.2.1 18 = .ok (.iload_n 1, 1) := by decide +kernel
theorem d_Of_seal_19 : decode Y_Of_seal.2.2.1 19 = .ok (.ireturn, 1) := by decide +kernel
theorem d_Of_isCandidate_0 : decode Y_Of_isCandidate.2.2.1 0 = .ok (.iload_n 1, 1) := by decide +kernel
theorem d_Of_isCandidate_1 : decode Y_Of_isCandidate.2.2.1 1 = .ok (.ifCond .lt 15, 3) := by decide +kernel
theorem d_Of_isCandidate_4 : decode Y_Of_isCandidate.2.2.1 4 = .ok (.iload_n 1, 1) := by decide +kernel
theorem d_Of_isCandidate_5 : decode Y_Of_isCandidate.2.2.1 5 = .ok (.aload_n 0, 1) := by decide +kernel
theorem d_Of_isCandidate_6 : decode Y_Of_isCandidate.2.2.1 6 = .ok (.getfield 9, 3) := by decide +kernel
theorem d_Of_isCandidate_9 : decode Y_Of_isCandidate.2.2.1 9 = .ok (.if_icmp .ge 7, 3) := by decide +kernel
theorem d_Of_isCandidate_12 : decode Y_Of_isCandidate.2.2.1 12 = .ok (.iconst 1, 1) := by decide +kernel
theorem d_Of_isCandidate_13 : decode Y_Of_isCandidate.2.2.1 13 = .ok (.goto 4, 3) := by decide +kernel
theorem d_Of_isCandidate_16 : decode Y_Of_isCandidate.2.2.1 16 = .ok (.iconst 0, 1) := by decide +kernel
theorem d_Of_isCandidate_17 : decode Y_Of_isCandidate.2.2.1 17 = .ok (.ireturn, 1) := by decide +kernel
theorem d_Of_needCandidate_0 : decode Y_Of_needCandidate.2.2.1 0 = .ok (.aload_n 0, 1) := by decide +kernel
theorem d_Of_needCandidate_1 : decode Y_Of_needCandidate.2.2.1 1 = .ok (.iload_n 1, 1) := by decide +kernel
theorem d_Of_needCandidate_2 : decode Y_Of_needCandidate.2.2.1 2 = .ok (.invokevirtual 60, 3) := by decide +kernel
theorem d_Of_needCandidate_5 : decode Y_Of_needCandidate.2.2.1 5 = .ok (.ifCond .ne 13, 3) := by decide +kernel
theorem d_Of_needCandidate_8 : decode Y_Of_needCandidate.2.2.1 8 = .ok (.new 64, 3) := by decide +kernel
theorem d_Of_needCandidate_11 : decode Y_Of_needCandidate.2.2.1 11 = .ok (.dup, 1) := by decide +kernel
theorem d_Of_needCandidate_12 : decode Y_Of_needCandidate.2.2.1 12 = .ok (.ldc 200, 2) := by decide +kernel
theorem d_Of_needCandidate_14 : decode Y_Of_needCandidate.2.2.1 14 = .ok (.invokespecial 68, 3) := by decide +kernel
theorem d_Of_needCandidate_17 : decode Y_Of_needCandidate.2.2.1 17 = .ok (.athrow, 1) := by decide +kernel
theorem d_Of_needCandidate_18 : decode Y_Of_needCandidate.2.2.1 18 = .ok (.return_, 1) := by decide +kernel
theorem d_Of_needPair_0 : decode Y_Of_needPair.2.2.1 0 = .ok (.aload_n 0, 1) := by decide +kernel
theorem d_Of_needPair_1 : decode Y_Of_needPair.2.2.1 1 = .ok (.iload_n 1, 1) := by decide +kernel
theorem d_Of_needPair_2 : decode Y_Of_needPair.2.2.1 2 = .ok (.invokevirtual 57, 3) := by decide +kernel
theorem d_Of_needPair_5 : decode Y_Of_needPair.2.2.1 5 = .ok (.aload_n 0, 1) := by decide +kernel
theorem d_Of_needPair_6 : decode Y_Of_needPair.2.2.1 6 = .ok (.iload_n 2, 1) := by decide +kernel
theorem d_Of_needPair_7 : decode Y_Of_needPair.2.2.1 7 = .ok (.invokevirtual 57, 3) := by decide +kernel
theorem d_Of_needPair_10 : decode Y_Of_needPair.2.2.1 10 = .ok (.iload_n 1, 1) := by decide +kernel
theorem d_Of_needPair_11 : decode Y_Of_needPair.2.2.1 11 = .ok (.iload_n 2, 1) := by decide +kernel
theorem d_Of_needPair_12 : decode Y_Of_needPair.2.2.1 12 = .ok (.if_icmp .ne 13, 3) := by decide +kernel
theorem d_Of_needPair_15 : decode Y_Of_needPair.2.2.1 15 = .ok (.new 64, 3) := by decide +kernel
theorem d_Of_needPair_18 : decode Y_Of_needPair.2.2.1 18 = .ok (.dup, 1) := by decide +kernel
theorem d_Of_needPair_19 : decode Y_Of_needPair.2.2.1 19 = .ok (.ldc 202, 2) := by decide +kernel
theorem d_Of_needPair_21 : decode Y_Of_needPair.2.2.1 21 = .ok (.invokespecial 68, 3) := by decide +kernel
theorem d_Of_needPair_24 : decode Y_Of_needPair.2.2.1 24 = .ok (.athrow, 1) := by decide +kernel
theorem d_Of_needPair_25 : decode Y_Of_needPair.2.2.1 25 = .ok (.return_, 1) := by decide +kernel
theorem d_Of_needBatch_0 : decode Y_Of_needBatch.2.2.1 0 = .ok (.iload_n 1, 1) := by decide +kernel
theorem d_Of_needBatch_1 : decode Y_Of_needBatch.2.2.1 1 = .ok (.ifCond .lt 11, 3) := by decide +kernel
theorem d_Of_needBatch_4 : decode Y_Of_needBatch.2.2.1 4 = .ok (.iload_n 1, 1) := by decide +kernel
theorem d_Of_needBatch_5 : decode Y_Of_needBatch.2.2.1 5 = .ok (.aload_n 0, 1) := by decide +kernel
theorem d_Of_needBatch_6 : decode Y_Of_needBatch.2.2.1 6 = .ok (.getfield 24, 3) := by decide +kernel
theorem d_Of_needBatch_9 : decode Y_Of_needBatch.2.2.1 9 = .ok (.if_icmp .lt 13, 3) := by decide +kernel
theorem d_Of_needBatch_12 : decode Y_Of_needBatch.2.2.1 12 = .ok (.new 64, 3) := by decide +kernel
theorem d_Of_needBatch_15 : decode Y_Of_needBatch.2.2.1 15 = .ok (.dup, 1) := by decide +kernel
theorem d_Of_needBatch_16 : decode Y_Of_needBatch.2.2.1 16 = .ok (.ldc 204, 2) := by decide +kernel
theorem d_Of_needBatch_18 : decode Y_Of_needBatch.2.2.1 18 = .ok (.invokespecial 68, 3) := by decide +kernel
theorem d_Of_needBatch_21 : decode Y_Of_needBatch.2.2.1 21 = .ok (.athrow, 1) := by decide +kernel
theorem d_Of_needBatch_22 : decode Y_Of_needBatch.2.2.1 22 = .ok (.return_, 1) := by decide +kernel
theorem d_Of_needRanking_0 : decode Y_Of_needRanking.2.2.1 0 = .ok (.aload_n 0, 1) := by decide +kernel
theorem d_Of_needRanking_1 : decode Y_Of_needRanking.2.2.1 1 = .ok (.iload_n 1, 1) := by decide +kernel
theorem d_Of_needRanking_2 : decode Y_Of_needRanking.2.2.1 2 = .ok (.invokevirtual 206, 3) := by decide +kernel
theorem d_Of_needRanking_5 : decode Y_Of_needRanking.2.2.1 5 = .ok (.ifCond .ne 13, 3) := by decide +kernel
theorem d_Of_needRanking_8 : decode Y_Of_needRanking.2.2.1 8 = .ok (.new 64, 3) := by decide +kernel
theorem d_Of_needRanking_11 : decode Y_Of_needRanking.2.2.1 11 = .ok (.dup, 1) := by decide +kernel
theorem d_Of_needRanking_12 : decode Y_Of_needRanking.2.2.1 12 = .ok (.ldc 209, 2) := by decide +kernel
theorem d_Of_needRanking_14 : decode Y_Of_needRanking.2.2.1 14 = .ok (.invokespecial 68, 3) := by decide +kernel
theorem d_Of_needRanking_17 : decode Y_Of_needRanking.2.2.1 17 = .ok (.athrow, 1) := by decide +kernel
theorem d_Of_needRanking_18 : decode Y_Of_needRanking.2.2.1 18 = .ok (.return_, 1) := by decide +kernel
theorem d_Of_needUnsealed_0 : decode Y_Of_needUnsealed.2.2.1 0 = .ok (.aload_n 0, 1) := by decide +kernel
theorem d_Of_needUnsealed_1 : decode Y_Of_needUnsealed.2.2.1 1 = .ok (.getfield 27, 3) := by decide +kernel
theorem d_Of_needUnsealed_4 : decode Y_Of_needUnsealed.2.2.1 4 = .ok (.ifCond .eq 13, 3) := by decide +kernel
theorem d_Of_needUnsealed_7 : decode Y_Of_needUnsealed.2.2.1 7 = .ok (.new 74, 3) := by decide +kernel
theorem d_Of_needUnsealed_10 : decode Y_Of_needUnsealed.2.2.1 10 = .ok (.dup, 1) := by decide +kernel
theorem d_Of_needUnsealed_11 : decode Y_Of_needUnsealed.2.2.1 11 = .ok (.ldc 211, 2) := by decide +kernel
theorem d_Of_needUnsealed_13 : decode Y_Of_needUnsealed.2.2.1 13 = .ok (.invokespecial 78, 3) := by decide +kernel
theorem d_Of_needUnsealed_16 : decode Y_Of_needUnsealed.2.2.1 16 = .ok (.athrow, 1) := by decide +kernel
theorem d_Of_needUnsealed_17 : decode Y_Of_needUnsealed.2.2.1 17 = .ok (.return_, 1) := by decide +kernel
theorem d_Of_needFound_0 : decode Y_Of_needFound.2.2.1 0 = .ok (.iload_n 0, 1) := by decide +kernel
theorem d_Of_needFound_1 : decode Y_Of_needFound.2.2.1 1 = .ok (.iconst (-1), 1) := by decide +kernel
theorem d_Of_needFound_2 : decode Y_Of_needFound.2.2.1 2 = .ok (.if_icmp .ne 13, 3) := by decide +kernel
theorem d_Of_needFound_5 : decode Y_Of_needFound.2.2.1 5 = .ok (.new 83, 3) := by decide +kernel
theorem d_Of_needFound_8 : decode Y_Of_needFound.2.2.1 8 = .ok (.dup, 1) := by decide +kernel
theorem d_Of_needFound_9 : decode Y_Of_needFound.2.2.1 9 = .ok (.ldc 213, 2) := by decide +kernel
theorem d_Of_needFound_11 : decode Y_Of_needFound.2.2.1 11 = .ok (.invokespecial 85, 3) := by decide +kernel
theorem d_Of_needFound_14 : decode Y_Of_needFound.2.2.1 14 = .ok (.athrow, 1) := by decide +kernel
theorem d_Of_needFound_15 : decode Y_Of_needFound.2.2.1 15 = .ok (.iload_n 0, 1) := by decide +kernel
theorem d_Of_needFound_16 : decode Y_Of_needFound.2.2.1 16 = .ok (.ireturn, 1) := by decide +kernel
theorem d_Of_isRanking_0 : decode Y_Of_isRanking.2.2.1 0 = .ok (.iconst 0, 1) := by decide +kernel
theorem d_Of_isRanking_1 : decode Y_Of_isRanking.2.2.1 1 = .ok (.istore_n 2, 1) := by decide +kernel
theorem d_Of_isRanking_2 : decode Y_Of_isRanking.2.2.1 2 = .ok (.iload_n 2, 1) := by decide +kernel
theorem d_Of_isRanking_3 : decode Y_Of_isRanking.2.2.1 3 = .ok (.bipush 8, 2) := by decide +kernel
theorem d_Of_isRanking_5 : decode Y_Of_isRanking.2.2.1 5 = .ok (.if_icmp .ge 33, 3) := by decide +kernel
theorem d_Of_isRanking_8 : decode Y_Of_isRanking.2.2.1 8 = .ok (.iload_n 1, 1) := by decide +kernel
theorem d_Of_isRanking_9 : decode Y_Of_isRanking.2.2.1 9 = .ok (.iload_n 2, 1) := by decide +kernel
theorem d_Of_isRanking_10 : decode Y_Of_isRanking.2.2.1 10 = .ok (.invokestatic 215, 3) := by decide +kernel
theorem d_Of_isRanking_13 : decode Y_Of_isRanking.2.2.1 13 = .ok (.iload_n 2, 1) := by decide +kernel
theorem d_Of_isRanking_14 : decode Y_Of_isRanking.2.2.1 14 = .ok (.aload_n 0, 1) := by decide +kernel
theorem d_Of_isRanking_15 : decode Y_Of_isRanking.2.2.1 15 = .ok (.getfield 9, 3) := by decide +kernel
theorem d_Of_isRanking_18 : decode Y_Of_isRanking.2.2.1 18 = .ok (.if_icmp .ge 8, 3) := by decide +kernel
theorem d_Of_isRanking_21 : decode Y_Of_isRanking.2.2.1 21 = .ok (.bipush 8, 2) := by decide +kernel
theorem d_Of_isRanking_23 : decode Y_Of_isRanking.2.2.1 23 = .ok (.goto 4, 3) := by decide +kernel
theorem d_Of_isRanking_26 : decode Y_Of_isRanking.2.2.1 26 = .ok (.iconst 0, 1) := by decide +kernel
theorem d_Of_isRanking_27 : decode Y_Of_isRanking.2.2.1 27 = .ok (.if_icmp .le 5, 3) := by decide +kernel
theorem d_Of_isRanking_30 : decode Y_Of_isRanking.2.2.1 30 = .ok (.iconst 0, 1) := by decide +kernel
theorem d_Of_isRanking_31 : decode Y_Of_isRanking.2.2.1 31 = .ok (.ireturn, 1) := by decide +kernel
theorem d_Of_isRanking_32 : decode Y_Of_isRanking.2.2.1 32 = .ok (.iinc 2 1, 3) := by decide +kernel
theorem d_Of_isRanking_35 : decode Y_Of_isRanking.2.2.1 35 = .ok (.goto (-33), 3) := by decide +kernel
theorem d_Of_isRanking_38 : decode Y_Of_isRanking.2.2.1 38 = .ok (.iconst 1, 1) := by decide +kernel
theorem d_Of_isRanking_39 : decode Y_Of_isRanking.2.2.1 39 = .ok (.ireturn, 1) := by decide +kernel
theorem d_Of_stageBefore_0 : decode Y_Of_stageBefore.2.2.1 0 = .ok (.iload_n 0, 1) := by decide +kernel
theorem d_Of_stageBefore_1 : decode Y_Of_stageBefore.2.2.1 1 = .ok (.ifCond .ne 5, 3) := by decide +kernel
theorem d_Of_stageBefore_4 : decode Y_Of_stageBefore.2.2.1 4 = .ok (.iconst 0, 1) := by decide +kernel
theorem d_Of_stageBefore_5 : decode Y_Of_stageBefore.2.2.1 5 = .ok (.ireturn, 1) := by decide +kernel
theorem d_Of_stageBefore_6 : decode Y_Of_stageBefore.2.2.1 6 = .ok (.iload_n 0, 1) := by decide +kernel
theorem d_Of_stageBefore_7 : decode Y_Of_stageBefore.2.2.1 7 = .ok (.iconst 1, 1) := by decide +kernel
theorem d_Of_stageBefore_8 : decode Y_Of_stageBefore.2.2.1 8 = .ok (.if_icmp .ne 7, 3) := by decide +kernel
theorem d_Of_stageBefore_11 : decode Y_Of_stageBefore.2.2.1 11 = .ok (.iconst 1, 1) := by decide +kernel
theorem d_Of_stageBefore_12 : decode Y_Of_stageBefore.2.2.1 12 = .ok (.goto 4, 3) := by decide +kernel
theorem d_Of_stageBefore_15 : decode Y_Of_stageBefore.2.2.1 15 = .ok (.iconst 2, 1) := by decide +kernel
theorem d_Of_stageBefore_16 : decode Y_Of_stageBefore.2.2.1 16 = .ok (.ireturn, 1) := by decide +kernel
theorem d_Of_moveInDrawnOrder_0 : decode Y_Of_moveInDrawnOrder.2.2.1 0 = .ok (.iconst 0, 1) := by decide +kernel
theorem d_Of_moveInDrawnOrder_1 : decode Y_Of_moveInDrawnOrder.2.2.1 1 = .ok (.istore_n 3, 1) := by decide +kernel
theorem d_Of_moveInDrawnOrder_2 : decode Y_Of_moveInDrawnOrder.2.2.1 2 = .ok (.iconst 0, 1) := by decide +kernel
theorem d_Of_moveInDrawnOrder_3 : decode Y_Of_moveInDrawnOrder.2.2.1 3 = .ok (.istore 4, 2) := by decide +kernel
theorem d_Of_moveInDrawnOrder_5 : decode Y_Of_moveInDrawnOrder.2.2.1 5 = .ok (.iload 4, 2) := by decide +kernel
theorem d_Of_moveInDrawnOrder_7 : decode Y_Of_moveInDrawnOrder.2.2.1 7 = .ok (.aload_n 0, 1) := by decide +kernel
theorem d_Of_moveInDrawnOrder_8 : decode Y_Of_moveInDrawnOrder.2.2.1 8 = .ok (.getfield 9, 3) := by decide +kernel
theorem d_Of_moveInDrawnOrder_11 : decode Y_Of_moveInDrawnOrder.2.2.1 11 = .ok (.if_icmp .ge 23, 3) := by decide +kernel
theorem d_Of_moveInDrawnOrder_14 : decode Y_Of_moveInDrawnOrder.2.2.1 14 = .ok (.aload_n 0, 1) := by decide +kernel
theorem d_Of_moveInDrawnOrder_15 : decode Y_Of_moveInDrawnOrder.2.2.1 15 = .ok (.getfield 13, 3) := by decide +kernel
theorem d_Of_moveInDrawnOrder_18 : decode Y_Of_moveInDrawnOrder.2.2.1 18 = .ok (.iload 4, 2) := by decide +kernel
theorem d_Of_moveInDrawnOrder_20 : decode Y_Of_moveInDrawnOrder.2.2.1 20 = .ok (.iaload, 1) := by decide +kernel
theorem d_Of_moveInDrawnOrder_21 : decode Y_Of_moveInDrawnOrder.2.2.1 21 = .ok (.iload_n 1, 1) := by decide +kernel
theorem d_Of_moveInDrawnOrder_22 : decode Y_Of_moveInDrawnOrder.2.2.1 22 = .ok (.if_icmp .ne 6, 3) := by decide +kernel
theorem d_Of_moveInDrawnOrder_25 : decode Y_Of_moveInDrawnOrder.2.2.1 25 = .ok (.iload 4, 2) := by decide +kernel
theorem d_Of_moveInDrawnOrder_27 : decode Y_Of_moveInDrawnOrder.2.2.1 27 = .ok (.istore_n 3, 1) := by decide +kernel
theorem d_Of_moveInDrawnOrder_28 : decode Y_Of_moveInDrawnOrder.2.2.1 28 = .ok (.iinc 4 1, 3) := by decide +kernel
theorem d_Of_moveInDrawnOrder_31 : decode Y_Of_moveInDrawnOrder.2.2.1 31 = .ok (.goto (-26), 3) := by decide +kernel
theorem d_Of_moveInDrawnOrder_34 : decode Y_Of_moveInDrawnOrder.2.2.1 34 = .ok (.iload_n 3, 1) := by decide +kernel
theorem d_Of_moveInDrawnOrder_35 : decode Y_Of_moveInDrawnOrder.2.2.1 35 = .ok (.istore 4, 2) := by decide +kernel
theorem d_Of_moveInDrawnOrder_37 : decode Y_Of_moveInDrawnOrder.2.2.1 37 = .ok (.iload 4, 2) := by decide +kernel
theorem d_Of_moveInDrawnOrder_39 : decode Y_Of_moveInDrawnOrder.2.2.1 39 = .ok (.iload_n 2, 1) := by decide +kernel
theorem d_Of_moveInDrawnOrder_40 : decode Y_Of_moveInDrawnOrder.2.2.1 40 = .ok (.if_icmp .ge 25, 3) := by decide +kernel
theorem d_Of_moveInDrawnOrder_43 : decode Y_Of_moveInDrawnOrder.2.2.1 43 = .ok (.aload_n 0, 1) := by decide +kernel
theorem d_Of_moveInDrawnOrder_44 : decode Y_Of_moveInDrawnOrder.2.2.1 44 = .ok (.getfield 13, 3) := by decide +kernel
theorem d_Of_moveInDrawnOrder_47 : decode Y_Of_moveInDrawnOrder.2.2.1 47 = .ok (.iload 4, 2) := by decide +kernel
theorem d_Of_moveInDrawnOrder_49 : decode Y_Of_moveInDrawnOrder.2.2.1 49 = .ok (.aload_n 0, 1) := by decide +kernel
theorem d_Of_moveInDrawnOrder_50 : decode Y_Of_moveInDrawnOrder.2.2.1 50 = .ok (.getfield 13, 3) := by decide +kernel
theorem d_Of_moveInDrawnOrder_53 : decode Y_Of_moveInDrawnOrder.2.2.1 53 = .ok (.iload 4, 2) := by decide +kernel
theorem d_Of_moveInDrawnOrder_55 : decode Y_Of_moveInDrawnOrder.2.2.1 55 = .ok (.iconst 1, 1) := by decide +kernel
theorem d_Of_moveInDrawnOrder_56 : decode Y_Of_moveInDrawnOrder.2.2.1 56 = .ok (.iadd, 1) := by decide +kernel
theorem d_Of_moveInDrawnOrder_57 : decode Y_Of_moveInDrawnOrder.2.2.1 57 = .ok (.iaload, 1) := by decide +kernel
theorem d_Of_moveInDrawnOrder_58 : decode Y_Of_moveInDrawnOrder.2.2.1 58 = .ok (.iastore, 1) := by decide +kernel
theorem d_Of_moveInDrawnOrder_59 : decode Y_Of_moveInDrawnOrder.2.2.1 59 = .ok (.iinc 4 1, 3) := by decide +kernel
theorem d_Of_moveInDrawnOrder_62 : decode Y_Of_moveInDrawnOrder.2.2.1 62 = .ok (.goto (-25), 3) := by decide +kernel
theorem d_Of_moveInDrawnOrder_65 : decode Y_Of_moveInDrawnOrder.2.2.1 65 = .ok (.iload_n 3, 1) := by decide +kernel
theorem d_Of_moveInDrawnOrder_66 : decode Y_Of_moveInDrawnOrder.2.2.1 66 = .ok (.istore 4, 2) := by decide +kernel
theorem d_Of_moveInDrawnOrder_68 : decode Y_Of_moveInDrawnOrder.2.2.1 68 = .ok (.iload 4, 2) := by decide +kernel
theorem d_Of_moveInDrawnOrder_70 : decode Y_Of_moveInDrawnOrder.2.2.1 70 = .ok (.iload_n 2, 1) := by decide +kernel
theorem d_Of_moveInDrawnOrder_71 : decode Y_Of_moveInDrawnOrder.2.2.1 71 = .ok (.if_icmp .le 25, 3) := by decide +kernel
theorem d_Of_moveInDrawnOrder_74 : decode Y_Of_moveInDrawnOrder.2.2.1 74 = .ok (.aload_n 0, 1) := by decide +kernel
theorem d_Of_moveInDrawnOrder_75 : decode Y_Of_moveInDrawnOrder.2.2.1 75 = .ok (.getfield 13, 3) := by decide +kernel
theorem d_Of_moveInDrawnOrder_78 : decode Y_Of_moveInDrawnOrder.2.2.1 78 = .ok (.iload 4, 2) := by decide +kernel
theorem d_Of_moveInDrawnOrder_80 : decode Y_Of_moveInDrawnOrder.2.2.1 80 = .ok (.aload_n 0, 1) := by decide +kernel
theorem d_Of_moveInDrawnOrder_81 : decode Y_Of_moveInDrawnOrder.2.2.1 81 = .ok (.getfield 13, 3) := by decide +kernel
theorem d_Of_moveInDrawnOrder_84 : decode Y_Of_moveInDrawnOrder.2.2.1 84 = .ok (.iload 4, 2) := by decide +kernel
theorem d_Of_moveInDrawnOrder_86 : decode Y_Of_moveInDrawnOrder.2.2.1 86 = .ok (.iconst 1, 1) := by decide +kernel
