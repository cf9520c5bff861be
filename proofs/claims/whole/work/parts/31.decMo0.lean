/-! decode rows, written by gen/dec.py -/
theorem d_Mo_init_0 : decode Y_Mo_init.2.2.1 0 = .ok (.aload_n 0, 1) := by decide +kernel
theorem d_Mo_init_1 : decode Y_Mo_init.2.2.1 1 = .ok (.invokespecial 1, 3) := by decide +kernel
theorem d_Mo_init_4 : decode Y_Mo_init.2.2.1 4 = .ok (.aload_n 0, 1) := by decide +kernel
theorem d_Mo_init_5 : decode Y_Mo_init.2.2.1 5 = .ok (.bipush 8, 2) := by decide +kernel
theorem d_Mo_init_7 : decode Y_Mo_init.2.2.1 7 = .ok (.newarray .int, 2) := by decide +kernel
theorem d_Mo_init_9 : decode Y_Mo_init.2.2.1 9 = .ok (.putfield 7, 3) := by decide +kernel
theorem d_Mo_init_12 : decode Y_Mo_init.2.2.1 12 = .ok (.aload_n 0, 1) := by decide +kernel
theorem d_Mo_init_13 : decode Y_Mo_init.2.2.1 13 = .ok (.bipush 12, 2) := by decide +kernel
theorem d_Mo_init_15 : decode Y_Mo_init.2.2.1 15 = .ok (.newarray .int, 2) := by decide +kernel
theorem d_Mo_init_17 : decode Y_Mo_init.2.2.1 17 = .ok (.putfield 13, 3) := by decide +kernel
theorem d_Mo_init_20 : decode Y_Mo_init.2.2.1 20 = .ok (.aload_n 0, 1) := by decide +kernel
theorem d_Mo_init_21 : decode Y_Mo_init.2.2.1 21 = .ok (.bipush 12, 2) := by decide +kernel
theorem d_Mo_init_23 : decode Y_Mo_init.2.2.1 23 = .ok (.newarray .int, 2) := by decide +kernel
theorem d_Mo_init_25 : decode Y_Mo_init.2.2.1 25 = .ok (.putfield 16, 3) := by decide +kernel
theorem d_Mo_init_28 : decode Y_Mo_init.2.2.1 28 = .ok (.aload_n 0, 1) := by decide +kernel
theorem d_Mo_init_29 : decode Y_Mo_init.2.2.1 29 = .ok (.bipush 72, 2) := by decide +kernel
theorem d_Mo_init_31 : decode Y_Mo_init.2.2.1 31 = .ok (.newarray .int, 2) := by decide +kernel
theorem d_Mo_init_33 : decode Y_Mo_init.2.2.1 33 = .ok (.putfield 19, 3) := by decide +kernel
theorem d_Mo_init_36 : decode Y_Mo_init.2.2.1 36 = .ok (.aload_n 0, 1) := by decide +kernel
theorem d_Mo_init_37 : decode Y_Mo_init.2.2.1 37 = .ok (.bipush 72, 2) := by decide +kernel
theorem d_Mo_init_39 : decode Y_Mo_init.2.2.1 39 = .ok (.newarray .int, 2) := by decide +kernel
theorem d_Mo_init_41 : decode Y_Mo_init.2.2.1 41 = .ok (.putfield 22, 3) := by decide +kernel
theorem d_Mo_init_44 : decode Y_Mo_init.2.2.1 44 = .ok (.aload_n 0, 1) := by decide +kernel
theorem d_Mo_init_45 : decode Y_Mo_init.2.2.1 45 = .ok (.bipush 64, 2) := by decide +kernel
theorem d_Mo_init_47 : decode Y_Mo_init.2.2.1 47 = .ok (.newarray .int, 2) := by decide +kernel
theorem d_Mo_init_49 : decode Y_Mo_init.2.2.1 49 = .ok (.putfield 25, 3) := by decide +kernel
theorem d_Mo_init_52 : decode Y_Mo_init.2.2.1 52 = .ok (.aload_n 0, 1) := by decide +kernel
theorem d_Mo_init_53 : decode Y_Mo_init.2.2.1 53 = .ok (.bipush 64, 2) := by decide +kernel
theorem d_Mo_init_55 : decode Y_Mo_init.2.2.1 55 = .ok (.newarray .int, 2) := by decide +kernel
theorem d_Mo_init_57 : decode Y_Mo_init.2.2.1 57 = .ok (.putfield 28, 3) := by decide +kernel
theorem d_Mo_init_60 : decode Y_Mo_init.2.2.1 60 = .ok (.aload_n 0, 1) := by decide +kernel
theorem d_Mo_init_61 : decode Y_Mo_init.2.2.1 61 = .ok (.bipush 64, 2) := by decide +kernel
theorem d_Mo_init_63 : decode Y_Mo_init.2.2.1 63 = .ok (.newarray .int, 2) := by decide +kernel
theorem d_Mo_init_65 : decode Y_Mo_init.2.2.1 65 = .ok (.putfield 31, 3) := by decide +kernel
theorem d_Mo_init_68 : decode Y_Mo_init.2.2.1 68 = .ok (.aload_n 0, 1) := by decide +kernel
theorem d_Mo_init_69 : decode Y_Mo_init.2.2.1 69 = .ok (.bipush 64, 2) := by decide +kernel
theorem d_Mo_init_71 : decode Y_Mo_init.2.2.1 71 = .ok (.newarray .boolean, 2) := by decide +kernel
theorem d_Mo_init_73 : decode Y_Mo_init.2.2.1 73 = .ok (.putfield 34, 3) := by decide +kernel
theorem d_Mo_init_76 : decode Y_Mo_init.2.2.1 76 = .ok (.aload_n 0, 1) := by decide +kernel
theorem d_Mo_init_77 : decode Y_Mo_init.2.2.1 77 = .ok (.bipush 64, 2) := by decide +kernel
theorem d_Mo_init_79 : decode Y_Mo_init.2.2.1 79 = .ok (.newarray .boolean, 2) := by decide +kernel
theorem d_Mo_init_81 : decode Y_Mo_init.2.2.1 81 = .ok (.putfield 38, 3) := by decide +kernel
theorem d_Mo_init_84 : decode Y_Mo_init.2.2.1 84 = .ok (.aload_n 0, 1) := by decide +kernel
theorem d_Mo_init_85 : decode Y_Mo_init.2.2.1 85 = .ok (.bipush 8, 2) := by decide +kernel
theorem d_Mo_init_87 : decode Y_Mo_init.2.2.1 87 = .ok (.newarray .int, 2) := by decide +kernel
theorem d_Mo_init_89 : decode Y_Mo_init.2.2.1 89 = .ok (.putfield 41, 3) := by decide +kernel
theorem d_Mo_init_92 : decode Y_Mo_init.2.2.1 92 = .ok (.aload_n 0, 1) := by decide +kernel
theorem d_Mo_init_93 : decode Y_Mo_init.2.2.1 93 = .ok (.bipush 8, 2) := by decide +kernel
theorem d_Mo_init_95 : decode Y_Mo_init.2.2.1 95 = .ok (.newarray .int, 2) := by decide +kernel
theorem d_Mo_init_97 : decode Y_Mo_init.2.2.1 97 = .ok (.putfield 44, 3) := by decide +kernel
theorem d_Mo_init_100 : decode Y_Mo_init.2.2.1 100 = .ok (.aload_n 0, 1) := by decide +kernel
theorem d_Mo_init_101 : decode Y_Mo_init.2.2.1 101 = .ok (.iload_n 1, 1) := by decide +kernel
theorem d_Mo_init_102 : decode Y_Mo_init.2.2.1 102 = .ok (.iconst 1, 1) := by decide +kernel
theorem d_Mo_init_103 : decode Y_Mo_init.2.2.1 103 = .ok (.if_icmp .lt 9, 3) := by decide +kernel
theorem d_Mo_init_106 : decode Y_Mo_init.2.2.1 106 = .ok (.iload_n 1, 1) := by decide +kernel
theorem d_Mo_init_107 : decode Y_Mo_init.2.2.1 107 = .ok (.bipush 8, 2) := by decide +kernel
theorem d_Mo_init_109 : decode Y_Mo_init.2.2.1 109 = .ok (.if_icmp .le 7, 3) := by decide +kernel
theorem d_Mo_init_112 : decode Y_Mo_init.2.2.1 112 = .ok (.iconst 5, 1) := by decide +kernel
theorem d_Mo_init_113 : decode Y_Mo_init.2.2.1 113 = .ok (.goto 4, 3) := by decide +kernel
theorem d_Mo_init_116 : decode Y_Mo_init.2.2.1 116 = .ok (.iload_n 1, 1) := by decide +kernel
theorem d_Mo_init_117 : decode Y_Mo_init.2.2.1 117 = .ok (.putfield 47, 3) := by decide +kernel
theorem d_Mo_init_120 : decode Y_Mo_init.2.2.1 120 = .ok (.iconst 0, 1) := by decide +kernel
theorem d_Mo_init_121 : decode Y_Mo_init.2.2.1 121 = .ok (.istore_n 2, 1) := by decide +kernel
theorem d_Mo_init_122 : decode Y_Mo_init.2.2.1 122 = .ok (.iload_n 2, 1) := by decide +kernel
theorem d_Mo_init_123 : decode Y_Mo_init.2.2.1 123 = .ok (.bipush 8, 2) := by decide +kernel
theorem d_Mo_init_125 : decode Y_Mo_init.2.2.1 125 = .ok (.if_icmp .ge 16, 3) := by decide +kernel
theorem d_Mo_init_128 : decode Y_Mo_init.2.2.1 128 = .ok (.aload_n 0, 1) := by decide +kernel
theorem d_Mo_init_129 : decode Y_Mo_init.2.2.1 129 = .ok (.getfield 7, 3) := by decide +kernel
theorem d_Mo_init_132 : decode Y_Mo_init.2.2.1 132 = .ok (.iload_n 2, 1) := by decide +kernel
theorem d_Mo_init_133 : decode Y_Mo_init.2.2.1 133 = .ok (.iload_n 2, 1) := by decide +kernel
theorem d_Mo_init_134 : decode Y_Mo_init.2.2.1 134 = .ok (.iastore, 1) := by decide +kernel
theorem d_Mo_init_135 : decode Y_Mo_init.2.2.1 135 = .ok (.iinc 2 1, 3) := by decide +kernel
theorem d_Mo_init_138 : decode Y_Mo_init.2.2.1 138 = .ok (.goto (-16), 3) := by decide +kernel
theorem d_Mo_init_141 : decode Y_Mo_init.2.2.1 141 = .ok (.return_, 1) := by decide +kernel
theorem d_Mo_thrown_0 : decode Y_Mo_thrown.2.2.1 0 = .ok (.aload_n 0, 1) := by decide +kernel
theorem d_Mo_thrown_1 : decode Y_Mo_thrown.2.2.1 1 = .ok (.getfield 51, 3) := by decide +kernel
theorem d_Mo_thrown_4 : decode Y_Mo_thrown.2.2.1 4 = .ok (.ireturn, 1) := by decide +kernel
theorem d_Mo_isCandidate_0 : decode Y_Mo_isCandidate.2.2.1 0 = .ok (.iload_n 1, 1) := by decide +kernel
theorem d_Mo_isCandidate_1 : decode Y_Mo_isCandidate.2.2.1 1 = .ok (.ifCond .lt 15, 3) := by decide +kernel
theorem d_Mo_isCandidate_4 : decode Y_Mo_isCandidate.2.2.1 4 = .ok (.iload_n 1, 1) := by decide +kernel
theorem d_Mo_isCandidate_5 : decode Y_Mo_isCandidate.2.2.1 5 = .ok (.aload_n 0, 1) := by decide +kernel
theorem d_Mo_isCandidate_6 : decode Y_Mo_isCandidate.2.2.1 6 = .ok (.getfield 47, 3) := by decide +kernel
theorem d_Mo_isCandidate_9 : decode Y_Mo_isCandidate.2.2.1 9 = .ok (.if_icmp .ge 7, 3) := by decide +kernel
theorem d_Mo_isCandidate_12 : decode Y_Mo_isCandidate.2.2.1 12 = .ok (.iconst 1, 1) := by decide +kernel
theorem d_Mo_isCandidate_13 : decode Y_Mo_isCandidate.2.2.1 13 = .ok (.goto 4, 3) := by decide +kernel
theorem d_Mo_isCandidate_16 : decode Y_Mo_isCandidate.2.2.1 16 = .ok (.iconst 0, 1) := by decide +kernel
theorem d_Mo_isCandidate_17 : decode Y_Mo_isCandidate.2.2.1 17 = .ok (.ireturn, 1) := by decide +kernel
theorem d_Mo_isBatch_0 : decode Y_Mo_isBatch.2.2.1 0 = .ok (.iload_n 1, 1) := by decide +kernel
theorem d_Mo_isBatch_1 : decode Y_Mo_isBatch.2.2.1 1 = .ok (.ifCond .lt 15, 3) := by decide +kernel
theorem d_Mo_isBatch_4 : decode Y_Mo_isBatch.2.2.1 4 = .ok (.iload_n 1, 1) := by decide +kernel
theorem d_Mo_isBatch_5 : decode Y_Mo_isBatch.2.2.1 5 = .ok (.aload_n 0, 1) := by decide +kernel
theorem d_Mo_isBatch_6 : decode Y_Mo_isBatch.2.2.1 6 = .ok (.getfield 54, 3) := by decide +kernel
theorem d_Mo_isBatch_9 : decode Y_Mo_isBatch.2.2.1 9 = .ok (.if_icmp .ge 7, 3) := by decide +kernel
theorem d_Mo_isBatch_12 : decode Y_Mo_isBatch.2.2.1 12 = .ok (.iconst 1, 1) := by decide +kernel
theorem d_Mo_isBatch_13 : decode Y_Mo_isBatch.2.2.1 13 = .ok (.goto 4, 3) := by decide +kernel
theorem d_Mo_isBatch_16 : decode Y_Mo_isBatch.2.2.1 16 = .ok (.iconst 0, 1) := by decide +kernel
theorem d_Mo_isBatch_17 : decode Y_Mo_isBatch.2.2.1 17 = .ok (.ireturn, 1) := by decide +kernel
theorem d_Mo_tie_0 : decode Y_Mo_tie.2.2.1 0 = .ok (.aload_n 0, 1) := by decide +kernel
theorem d_Mo_tie_1 : decode Y_Mo_tie.2.2.1 1 = .ok (.aload_n 0, 1) := by decide +kernel
theorem d_Mo_tie_2 : decode Y_Mo_tie.2.2.1 2 = .ok (.iload_n 1, 1) := by decide +kernel
theorem d_Mo_tie_3 : decode Y_Mo_tie.2.2.1 3 = .ok (.invokevirtual 57, 3) := by decide +kernel
theorem d_Mo_tie_6 : decode Y_Mo_tie.2.2.1 6 = .ok (.ifCond .eq 11, 3) := by decide +kernel
theorem d_Mo_tie_9 : decode Y_Mo_tie.2.2.1 9 = .ok (.aload_n 0, 1) := by decide +kernel
theorem d_Mo_tie_10 : decode Y_Mo_tie.2.2.1 10 = .ok (.iload_n 2, 1) := by decide +kernel
theorem d_Mo_tie_11 : decode Y_Mo_tie.2.2.1 11 = .ok (.invokevirtual 57, 3) := by decide +kernel
theorem d_Mo_tie_14 : decode Y_Mo_tie.2.2.1 14 = .ok (.ifCond .ne 7, 3) := by decide +kernel
theorem d_Mo_tie_17 : decode Y_Mo_tie.2.2.1 17 = .ok (.iconst 1, 1) := by decide +kernel
theorem d_Mo_tie_18 : decode Y_Mo_tie.2.2.1 18 = .ok (.goto 22, 3) := by decide +kernel
theorem d_Mo_tie_21 : decode Y_Mo_tie.2.2.1 21 = .ok (.aload_n 0, 1) := by decide +kernel
theorem d_Mo_tie_22 : decode Y_Mo_tie.2.2.1 22 = .ok (.getfield 61, 3) := by decide +kernel
theorem d_Mo_tie_25 : decode Y_Mo_tie.2.2.1 25 = .ok (.ifCond .ne 10, 3) := by decide +kernel
theorem d_Mo_tie_28 : decode Y_Mo_tie.2.2.1 28 = .ok (.aload_n 0, 1) := by decide +kernel
theorem d_Mo_tie_29 : decode Y_Mo_tie.2.2.1 29 = .ok (.getfield 54, 3) := by decide +kernel
theorem d_Mo_tie_32 : decode Y_Mo_tie.2.2.1 32 = .ok (.ifCond .le 7, 3) := by decide +kernel
theorem d_Mo_tie_35 : decode Y_Mo_tie.2.2.1 35 = .ok (.iconst 2, 1) := by decide +kernel
theorem d_Mo_tie_36 : decode Y_Mo_tie.2.2.1 36 = .ok (.goto 4, 3) := by decide +kernel
theorem d_Mo_tie_39 : decode Y_Mo_tie.2.2.1 39 = .ok (.iconst 0, 1) := by decide +kernel
theorem d_Mo_tie_40 : decode Y_Mo_tie.2.2.1 40 = .ok (.putfield 51, 3) := by decide +kernel
theorem d_Mo_tie_43 : decode Y_Mo_tie.2.2.1 43 = .ok (.aload_n 0, 1) := by decide +kernel
theorem d_Mo_tie_44 : decode Y_Mo_tie.2.2.1 44 = .ok (.getfield 51, 3) := by decide +kernel
theorem d_Mo_tie_47 : decode Y_Mo_tie.2.2.1 47 = .ok (.ifCond .le 4, 3) := by decide +kernel
theorem d_Mo_tie_50 : decode Y_Mo_tie.2.2.1 50 = .ok (.return_, 1) := by decide +kernel
theorem d_Mo_tie_51 : decode Y_Mo_tie.2.2.1 51 = .ok (.aload_n 0, 1) := by decide +kernel
theorem d_Mo_tie_52 : decode Y_Mo_tie.2.2.1 52 = .ok (.iload_n 1, 1) := by decide +kernel
theorem d_Mo_tie_53 : decode Y_Mo_tie.2.2.1 53 = .ok (.invokevirtual 65, 3) := by decide +kernel
theorem d_Mo_tie_56 : decode Y_Mo_tie.2.2.1 56 = .ok (.istore_n 3, 1) := by decide +kernel
theorem d_Mo_tie_57 : decode Y_Mo_tie.2.2.1 57 = .ok (.iload_n 3, 1) := by decide +kernel
theorem d_Mo_tie_58 : decode Y_Mo_tie.2.2.1 58 = .ok (.istore 4, 2) := by decide +kernel
theorem d_Mo_tie_60 : decode Y_Mo_tie.2.2.1 60 = .ok (.iload 4, 2) := by decide +kernel
theorem d_Mo_tie_62 : decode Y_Mo_tie.2.2.1 62 = .ok (.aload_n 0, 1) := by decide +kernel
theorem d_Mo_tie_63 : decode Y_Mo_tie.2.2.1 63 = .ok (.getfield 47, 3) := by decide +kernel
theorem d_Mo_tie_66 : decode Y_Mo_tie.2.2.1 66 = .ok (.iconst 1, 1) := by decide +kernel
theorem d_Mo_tie_67 : decode Y_Mo_tie.2.2.1 67 = .ok (.isub, 1) := by decide +kernel
theorem d_Mo_tie_68 : decode Y_Mo_tie.2.2.1 68 = .ok (.if_icmp .ge 25, 3) := by decide +kernel
theorem d_Mo_tie_71 : decode Y_Mo_tie.2.2.1 71 = .ok (.aload_n 0, 1) := by decide +kernel
theorem d_Mo_tie_72 : decode Y_Mo_tie.2.2.1 72 = .ok (.getfield 7, 3) := by decide +kernel
theorem d_Mo_tie_75 : decode Y_Mo_tie.2.2.1 75 = .ok (.iload 4, 2) := by decide +kernel
theorem d_Mo_tie_77 : decode Y_Mo_tie.2.2.1 77 = .ok (.aload_n 0, 1) := by decide +kernel
theorem d_Mo_tie_78 : decode Y_Mo_tie.2.2.1 78 = .ok (.getfield 7, 3) := by decide +kernel
theorem d_Mo_tie_81 : decode Y_Mo_tie.2.2.1 81 = .ok (.iload 4, 2) := by decide +kernel
theorem d_Mo_tie_83 : decode Y_Mo_tie.2.2.1 83 = .ok (.iconst 1, 1) := by decide +kernel
theorem d_Mo_tie_84 : decode Y_Mo_tie.2.2.1 84 = .ok (.iadd, 1) := by decide +kernel
theorem d_Mo_tie_85 : decode Y_Mo_tie.2.2.1 85 = .ok (.iaload, 1) := by decide +kernel
theorem d_Mo_tie_86 : decode Y_Mo_tie.2.2.1 86 = .ok (.iastore, 1) := by decide +kernel
theorem d_Mo_tie_87 : decode Y_Mo_tie.2.2.1 87 = .ok (.iinc 4 1, 3) := by decide +kernel
theorem d_Mo_tie_90 : decode Y_Mo_tie.2.2.1 90 = .ok (.goto (-30), 3) := by decide +kernel
theorem d_Mo_tie_93 : decode Y_Mo_tie.2.2.1 93 = .ok (.aload_n 0, 1) := by decide +kernel
theorem d_Mo_tie_94 : decode Y_Mo_tie.2.2.1 94 = .ok (.getfield 47, 3) := by decide +kernel
theorem d_Mo_tie_97 : decode Y_Mo_tie.2.2.1 97 = .ok (.iconst 1, 1) := by decide +kernel
theorem d_Mo_tie_98 : decode Y_Mo_tie.2.2.1 98 = .ok (.isub, 1) := by decide +kernel
theorem d_Mo_tie_99 : decode Y_Mo_tie.2.2.1 99 = .ok (.istore 4, 2) := by decide +kernel
theorem d_Mo_tie_101 : decode Y_Mo_tie.2.2.1 101 = .ok (.iload 4, 2) := by decide +kernel
theorem d_Mo_tie_103 : decode Y_Mo_tie.2.2.1 103 = .ok (.iload_n 2, 1) := by decide +kernel
theorem d_Mo_tie_104 : decode Y_Mo_tie.2.2.1 104 = .ok (.if_icmp .le 25, 3) := by decide +kernel
theorem d_Mo_tie_107 : decode Y_Mo_tie.2.2.1 107 = .ok (.aload_n 0, 1) := by decide +kernel
theorem d_Mo_tie_108 : decode Y_Mo_tie.2.2.1 108 = .ok (.getfield 7, 3) := by decide +kernel
theorem d_Mo_tie_111 : decode Y_Mo_tie.2.2.1 111 = .ok (.iload 4, 2) := by decide +kernel
theorem d_Mo_tie_113 : decode Y_Mo_tie.2.2.1 113 = .ok (.aload_n 0, 1) := by decide +kernel
theorem d_Mo_tie_114 : decode Y_Mo_tie.2.2.1 114 = .ok (.getfield 7, 3) := by decide +kernel
theorem d_Mo_tie_117 : decode Y_Mo_tie.2.2.1 117 = .ok (.iload 4, 2) := by decide +kernel
theorem d_Mo_tie_119 : decode Y_Mo_tie.2.2.1 119 = .ok (.iconst 1, 1) := by decide +kernel
theorem d_Mo_tie_120 : decode Y_Mo_tie.2.2.1 120 = .ok (.isub, 1) := by decide +kernel
theorem d_Mo_tie_121 : decode Y_Mo_tie.2.2.1 121 = .ok (.iaload, 1) := by decide +kernel
theorem d_Mo_tie_122 : decode Y_Mo_tie.2.2.1 122 = .ok (.iastore, 1) := by decide +kernel
theorem d_Mo_tie_123 : decode Y_Mo_tie.2.2.1 123 = .ok (.iinc 4 (-1), 3) := by decide +kernel
theorem d_Mo_tie_126 : decode Y_Mo_tie.2.2.1 126 = .ok (.goto (-25), 3) := by decide +kernel
theorem d_Mo_tie_129 : decode Y_Mo_tie.2.2.1 129 = .ok (.aload_n 0, 1) := by decide +kernel
theorem d_Mo_tie_130 : decode Y_Mo_tie.2.2.1 130 = .ok (.getfield 7, 3) := by decide +kernel
theorem d_Mo_tie_133 : decode Y_Mo_tie.2.2.1 133 = .ok (.iload_n 2, 1) := by decide +kernel
theorem d_Mo_tie_134 : decode Y_Mo_tie.2.2.1 134 = .ok (.iload_n 1, 1) := by decide +kernel
theorem d_Mo_tie_135 : decode Y_Mo_tie.2.2.1 135 = .ok (.iastore, 1) := by decide +kernel
theorem d_Mo_tie_136 : decode Y_Mo_tie.2.2.1 136 = .ok (.return_, 1) := by decide +kernel
theorem d_Mo_placeOf_0 : decode Y_Mo_placeOf.2.2.1 0 = .ok (.iconst 0, 1) := by decide +kernel
theorem d_Mo_placeOf_1 : decode Y_Mo_placeOf.2.2.1 1 = .ok (.istore_n 2, 1) := by decide +kernel
theorem d_Mo_placeOf_2 : decode Y_Mo_placeOf.2.2.1 2 = .ok (.aload_n 0, 1) := by decide +kernel
theorem d_Mo_placeOf_3 : decode Y_Mo_placeOf.2.2.1 3 = .ok (.getfield 7, 3) := by decide +kernel
theorem d_Mo_placeOf_6 : decode Y_Mo_placeOf.2.2.1 6 = .ok (.iload_n 2, 1) := by decide +kernel
theorem d_Mo_placeOf_7 : decode Y_Mo_placeOf.2.2.1 7 = .ok (.iaload, 1) := by decide +kernel
theorem d_Mo_placeOf_8 : decode Y_Mo_placeOf.2.2.1 8 = .ok (.iload_n 1, 1) := by decide +kernel
theorem d_Mo_placeOf_9 : decode Y_Mo_placeOf.2.2.1 9 = .ok (.if_icmp .eq 9, 3) := by decide +kernel
theorem d_Mo_placeOf_12 : decode Y_Mo_placeOf.2.2.1 12 = .ok (.iinc 2 1, 3) := by decide +kernel
theorem d_Mo_placeOf_15 : decode Y_Mo_placeOf.2.2.1 15 = .ok (.goto (-13), 3) := by decide +kernel
theorem d_Mo_placeOf_18 : decode Y_Mo_placeOf.2.2.1 18 = .ok (.iload_n 2, 1) := by decide +kernel
theorem d_Mo_placeOf_19 : decode Y_Mo_placeOf.2.2.1 19 = .ok (.ireturn, 1) := by decide +kernel
theorem d_Mo_drawn_0 : decode Y_Mo_drawn.2.2.1 0 = .ok (.aload_n 0, 1) := by decide +kernel
theorem d_Mo_drawn_1 : decode Y_Mo_drawn.2.2.1 1 = .ok (.aload_n 0, 1) := by decide +kernel
theorem d_Mo_drawn_2 : decode Y_Mo_drawn.2.2.1 2 = .ok (.iload_n 1, 1) := by decide +kernel
theorem d_Mo_drawn_3 : decode Y_Mo_drawn.2.2.1 3 = .ok (.invokevirtual 57, 3) := by decide +kernel
theorem d_Mo_drawn_6 : decode Y_Mo_drawn.2.2.1 6 = .ok (.ifCond .eq 7, 3) := by decide +kernel
theorem d_Mo_drawn_9 : decode Y_Mo_drawn.2.2.1 9 = .ok (.iconst 0, 1) := by decide +kernel
theorem d_Mo_drawn_10 : decode Y_Mo_drawn.2.2.1 10 = .ok (.goto 4, 3) := by decide +kernel
theorem d_Mo_drawn_13 : decode Y_Mo_drawn.2.2.1 13 = .ok (.iconst 1, 1) := by decide +kernel
theorem d_Mo_drawn_14 : decode Y_Mo_drawn.2.2.1 14 = .ok (.putfield 51, 3) := by decide +kernel
theorem d_Mo_drawn_17 : decode Y_Mo_drawn.2.2.1 17 = .ok (.aload_n 0, 1) := by decide +kernel
theorem d_Mo_drawn_18 : decode Y_Mo_drawn.2.2.1 18 = .ok (.getfield 51, 3) := by decide +kernel
theorem d_Mo_drawn_21 : decode Y_Mo_drawn.2.2.1 21 = .ok (.ifCond .le 7, 3) := by decide +kernel
theorem d_Mo_drawn_24 : decode Y_Mo_drawn.2.2.1 24 = .ok (.iconst 0, 1) := by decide +kernel
theorem d_Mo_drawn_25 : decode Y_Mo_drawn.2.2.1 25 = .ok (.goto 9, 3) := by decide +kernel
theorem d_Mo_drawn_28 : decode Y_Mo_drawn.2.2.1 28 = .ok (.aload_n 0, 1) := by decide +kernel
theorem d_Mo_drawn_29 : decode Y_Mo_drawn.2.2.1 29 = .ok (.getfield 7, 3) := by decide +kernel
theorem d_Mo_drawn_32 : decode Y_Mo_drawn.2.2.1 32 = .ok (.iload_n 1, 1) := by decide +kernel
theorem d_Mo_drawn_33 : decode Y_Mo_drawn.2.2.1 33 = .ok (.iaload, 1) := by decide +kernel
theorem d_Mo_drawn_34 : decode Y_Mo_drawn.2.2.1 34 = .ok (.ireturn, 1) := by decide +kernel
theorem d_Mo_open_0 : decode Y_Mo_open.2.2.1 0 = .ok (.aload_n 0, 1) := by decide +kernel
theorem d_Mo_open_1 : decode Y_Mo_open.2.2.1 1 = .ok (.aload_n 0, 1) := by decide +kernel
theorem d_Mo_open_2 : decode Y_Mo_open.2.2.1 2 = .ok (.getfield 61, 3) := by decide +kernel
theorem d_Mo_open_5 : decode Y_Mo_open.2.2.1 5 = .ok (.ifCond .ne 12, 3) := by decide +kernel
theorem d_Mo_open_8 : decode Y_Mo_open.2.2.1 8 = .ok (.aload_n 0, 1) := by decide +kernel
theorem d_Mo_open_9 : decode Y_Mo_open.2.2.1 9 = .ok (.getfield 54, 3) := by decide +kernel
theorem d_Mo_open_12 : decode Y_Mo_open.2.2.1 12 = .ok (.bipush 12, 2) := by decide +kernel
theorem d_Mo_open_14 : decode Y_Mo_open.2.2.1 14 = .ok (.if_icmp .ne 7, 3) := by decide +kernel
theorem d_Mo_open_17 : decode Y_Mo_open.2.2.1 17 = .ok (.iconst 1, 1) := by decide +kernel
theorem d_Mo_open_18 : decode Y_Mo_open.2.2.1 18 = .ok (.goto 4, 3) := by decide +kernel
theorem d_Mo_open_21 : decode Y_Mo_open.2.2.1 21 = .ok (.iconst 0, 1) := by decide +kernel
theorem d_Mo_open_22 : decode Y_Mo_open.2.2.1 22 = .ok (.putfield 51, 3) := by decide +kernel
theorem d_Mo_open_25 : decode Y_Mo_open.2.2.1 25 = .ok (.aload_n 0, 1) := by decide +kernel
theorem d_Mo_open_26 : decode Y_Mo_open.2.2.1 26 = .ok (.getfield 51, 3) := by decide +kernel
theorem d_Mo_open_29 : decode Y_Mo_open.2.2.1 29 = .ok (.ifCond .le 5, 3) := by decide +kernel
theorem d_Mo_open_32 : decode Y_Mo_open.2.2.1 32 = .ok (.iconst 0, 1) := by decide +kernel
theorem d_Mo_open_33 : decode Y_Mo_open.2.2.1 33 = .ok (.ireturn, 1) := by decide +kernel
theorem d_Mo_open_34 : decode Y_Mo_open.2.2.1 34 = .ok (.aload_n 0, 1) := by decide +kernel
theorem d_Mo_open_35 : decode Y_Mo_open.2.2.1 35 = .ok (.dup, 1) := by decide +kernel
theorem d_Mo_open_36 : decode Y_Mo_open.2.2.1 36 = .ok (.getfield 54, 3) := by decide +kernel
theorem d_Mo_open_39 : decode Y_Mo_open.2.2.1 39 = .ok (.iconst 1, 1) := by decide +kernel
theorem d_Mo_open_40 : decode Y_Mo_open.2.2.1 40 = .ok (.iadd, 1) := by decide +kernel
theorem d_Mo_open_41 : decode Y_Mo_open.2.2.1 41 = .ok (.putfield 54, 3) := by decide +kernel
theorem d_Mo_open_44 : decode Y_Mo_open.2.2.1 44 = .ok (.aload_n 0, 1) := by decide +kernel
theorem d_Mo_open_45 : decode Y_Mo_open.2.2.1 45 = .ok (.getfield 54, 3) := by decide +kernel
theorem d_Mo_open_48 : decode Y_Mo_open.2.2.1 48 = .ok (.iconst 1, 1) := by decide +kernel
theorem d_Mo_open_49 : decode Y_Mo_open.2.2.1 49 = .ok (.isub, 1) := by decide +kernel
theorem d_Mo_open_50 : decode Y_Mo_open.2.2.1 50 = .ok (.ireturn, 1) := by decide +kernel
theorem d_Mo_place_0 : decode Y_Mo_place.2.2.1 0 = .ok (.iload_n 0, 1) := by decide +kernel
theorem d_Mo_place_1 : decode Y_Mo_place.2.2.1 1 = .ok (.iconst 4, 1) := by decide +kernel
theorem d_Mo_place_2 : decode Y_Mo_place.2.2.1 2 = .ok (.iload_n 1, 1) := by decide +kernel
theorem d_Mo_place_3 : decode Y_Mo_place.2.2.1 3 = .ok (.imul, 1) := by decide +kernel
theorem d_Mo_place_4 : decode Y_Mo_place.2.2.1 4 = .ok (.iushr, 1) := by decide +kernel
theorem d_Mo_place_5 : decode Y_Mo_place.2.2.1 5 = .ok (.bipush 15, 2) := by decide +kernel
theorem d_Mo_place_7 : decode Y_Mo_place.2.2.1 7 = .ok (.iand, 1) := by decide +kernel
theorem d_Mo_place_8 : decode Y_Mo_place.2.2.1 8 = .ok (.ireturn, 1) := by decide +kernel
theorem d_Mo_isRanking_0 : decode Y_Mo_isRanking.2.2.1 0 = .ok (.iconst 1, 1) := by decide +kernel
theorem d_Mo_isRanking_1 : decode Y_Mo_isRanking.2.2.1 1 = .ok (.istore_n 2, 1) := by decide +kernel
theorem d_Mo_isRanking_2 : decode Y_Mo_isRanking.2.2.1 2 = .ok (.iconst 0, 1) := by decide +kernel
theorem d_Mo_isRanking_3 : decode Y_Mo_isRanking.2.2.1 3 = .ok (.istore_n 3, 1) := by decide +kernel
theorem d_Mo_isRanking_4 : decode Y_Mo_isRanking.2.2.1 4 = .ok (.iload_n 3, 1) := by decide +kernel
theorem d_Mo_isRanking_5 : decode Y_Mo_isRanking.2.2.1 5 = .ok (.bipush 8, 2) := by decide +kernel
theorem d_Mo_isRanking_7 : decode Y_Mo_isRanking.2.2.1 7 = .ok (.if_icmp .ge 41, 3) := by decide +kernel
theorem d_Mo_isRanking_10 : decode Y_Mo_isRanking.2.2.1 10 = .ok (.iload_n 2, 1) := by decide +kernel
theorem d_Mo_isRanking_11 : decode Y_Mo_isRanking.2.2.1 11 = .ok (.ifCond .eq 29, 3) := by decide +kernel
theorem d_Mo_isRanking_14 : decode Y_Mo_isRanking.2.2.1 14 = .ok (.iload_n 1, 1) := by decide +kernel
theorem d_Mo_isRanking_15 : decode Y_Mo_isRanking.2.2.1 15 = .ok (.iload_n 3, 1) := by decide +kernel
theorem d_Mo_isRanking_16 : decode Y_Mo_isRanking.2.2.1 16 = .ok (.invokestatic 69, 3) := by decide +kernel
theorem d_Mo_isRanking_19 : decode Y_Mo_isRanking.2.2.1 19 = .ok (.iload_n 3, 1) := by decide +kernel
theorem d_Mo_isRanking_20 : decode Y_Mo_isRanking.2.2.1 20 = .ok (.aload_n 0, 1) := by decide +kernel
theorem d_Mo_isRanking_21 : decode Y_Mo_isRanking.2.2.1 21 = .ok (.getfield 47, 3) := by decide +kernel
theorem d_Mo_isRanking_24 : decode Y_Mo_isRanking.2.2.1 24 = .ok (.if_icmp .ge 8, 3) := by decide +kernel
theorem d_Mo_isRanking_27 : decode Y_Mo_isRanking.2.2.1 27 = .ok (.bipush 8, 2) := by decide +kernel
theorem d_Mo_isRanking_29 : decode Y_Mo_isRanking.2.2.1 29 = .ok (.goto 4, 3) := by decide +kernel
theorem d_Mo_isRanking_32 : decode Y_Mo_isRanking.2.2.1 32 = .ok (.iconst 0, 1) := by decide +kernel
theorem d_Mo_isRanking_33 : decode Y_Mo_isRanking.2.2.1 33 = .ok (.if_icmp .gt 7, 3) := by decide +kernel
theorem d_Mo_isRanking_36 : decode Y_Mo_isRanking.2.2.1 36 = .ok (.iconst 1, 1) := by decide +kernel
theorem d_Mo_isRanking_37 : decode Y_Mo_isRanking.2.2.1 37 = .ok (.goto 4, 3) := by decide +kernel
theorem d_Mo_isRanking_40 : decode Y_Mo_isRanking.2.2.1 40 = .ok (.iconst 0, 1) := by decide +kernel
theorem d_Mo_isRanking_41 : decode Y_Mo_isRanking.2.2.1 41 = .ok (.istore_n 2, 1) := by decide +kernel
theorem d_Mo_isRanking_42 : decode Y_Mo_isRanking.2.2.1 42 = .ok (.iinc 3 1, 3) := by decide +kernel
theorem d_Mo_isRanking_45 : decode Y_Mo_isRanking.2.2.1 45 = .ok (.goto (-41), 3) := by decide +kernel
theorem d_Mo_isRanking_48 : decode Y_Mo_isRanking.2.2.1 48 = .ok (.iload_n 2, 1) := by decide +kernel
theorem d_Mo_isRanking_49 : decode Y_Mo_isRanking.2.2.1 49 = .ok (.ireturn, 1) := by decide +kernel
theorem d_Mo_ballot_0 : decode Y_Mo_ballot.2.2.1 0 = .ok (.aload_n 0, 1) := by decide +kernel
theorem d_Mo_ballot_1 : decode Y_Mo_ballot.2.2.1 1 = .ok (.aload_n 0, 1) := by decide +kernel
theorem d_Mo_ballot_2 : decode Y_Mo_ballot.2.2.1 2 = .ok (.iload_n 1, 1) := by decide +kernel
theorem d_Mo_ballot_3 : decode Y_Mo_ballot.2.2.1 3 = .ok (.invokevirtual 73, 3) := by decide +kernel
theorem d_Mo_ballot_6 : decode Y_Mo_ballot.2.2.1 6 = .ok (.ifCond .eq 23, 3) := by decide +kernel
theorem d_Mo_ballot_9 : decode Y_Mo_ballot.2.2.1 9 = .ok (.aload_n 0, 1) := by decide +kernel
theorem d_Mo_ballot_10 : decode Y_Mo_ballot.2.2.1 10 = .ok (.iload_n 2, 1) := by decide +kernel
theorem d_Mo_ballot_11 : decode Y_Mo_ballot.2.2.1 11 = .ok (.invokevirtual 76, 3) := by decide +kernel
theorem d_Mo_ballot_14 : decode Y_Mo_ballot.2.2.1 14 = .ok (.ifCond .eq 15, 3) := by decide +kernel
theorem d_Mo_ballot_17 : decode Y_Mo_ballot.2.2.1 17 = .ok (.iload_n 3, 1) := by decide +kernel
theorem d_Mo_ballot_18 : decode Y_Mo_ballot.2.2.1 18 = .ok (.iconst 1, 1) := by decide +kernel
theorem d_Mo_ballot_19 : decode Y_Mo_ballot.2.2.1 19 = .ok (.if_icmp .lt 10, 3) := by decide +kernel
theorem d_Mo_ballot_22 : decode Y_Mo_ballot.2.2.1 22 = .ok (.iload_n 3, 1) := by decide +kernel
theorem d_Mo_ballot_23 : decode Y_Mo_ballot.2.2.1 23 = .ok (.sipush 10000, 3) := by decide +kernel
theorem d_Mo_ballot_26 : decode Y_Mo_ballot.2.2.1 26 = .ok (.if_icmp .le 7, 3) := by decide +kernel
theorem d_Mo_ballot_29 : decode Y_Mo_ballot.2.2.1 29 = .ok (.iconst 1, 1) := by decide +kernel
theorem d_Mo_ballot_30 : decode Y_Mo_ballot.2.2.1 30 = .ok (.goto 4, 3) := by decide +kernel
theorem d_Mo_ballot_33 : decode Y_Mo_ballot.2.2.1 33 = .ok (.iconst 0, 1) := by decide +kernel
theorem d_Mo_ballot_34 : decode Y_Mo_ballot.2.2.1 34 = .ok (.putfield 51, 3) := by decide +kernel
theorem d_Mo_ballot_37 : decode Y_Mo_ballot.2.2.1 37 = .ok (.aload_n 0, 1) := by decide +kernel
theorem d_Mo_ballot_38 : decode Y_Mo_ballot.2.2.1 38 = .ok (.getfield 51, 3) := by decide +kernel
theorem d_Mo_ballot_41 : decode Y_Mo_ballot.2.2.1 41 = .ok (.ifCond .le 5, 3) := by decide +kernel
theorem d_Mo_ballot_44 : decode Y_Mo_ballot.2.2.1 44 = .ok (.iconst 0, 1) := by decide +kernel
theorem d_Mo_ballot_45 : decode Y_Mo_ballot.2.2.1 45 = .ok (.ireturn, 1) := by decide +kernel
theorem d_Mo_ballot_46 : decode Y_Mo_ballot.2.2.1 46 = .ok (.aload_n 0, 1) := by decide +kernel
theorem d_Mo_ballot_47 : decode Y_Mo_ballot.2.2.1 47 = .ok (.aload_n 0, 1) := by decide +kernel
theorem d_Mo_ballot_48 : decode Y_Mo_ballot.2.2.1 48 = .ok (.getfield 61, 3) := by decide +kernel
theorem d_Mo_ballot_51 : decode Y_Mo_ballot.2.2.1 51 = .ok (.ifCond .ne 23, 3) := by decide +kernel
theorem d_Mo_ballot_54 : decode Y_Mo_ballot.2.2.1 54 = .ok (.aload_n 0, 1) := by decide +kernel
theorem d_Mo_ballot_55 : decode Y_Mo_ballot.2.2.1 55 = .ok (.getfield 13, 3) := by decide +kernel
theorem d_Mo_ballot_58 : decode Y_Mo_ballot.2.2.1 58 = .ok (.iload_n 1, 1) := by decide +kernel
theorem d_Mo_ballot_59 : decode Y_Mo_ballot.2.2.1 59 = .ok (.iaload, 1) := by decide +kernel
theorem d_Mo_ballot_60 : decode Y_Mo_ballot.2.2.1 60 = .ok (.ifCond .ne 14, 3) := by decide +kernel
theorem d_Mo_ballot_63 : decode Y_Mo_ballot.2.2.1 63 = .ok (.aload_n 0, 1) := by decide +kernel
theorem d_Mo_ballot_64 : decode Y_Mo_ballot.2.2.1 64 = .ok (.getfield 16, 3) := by decide +kernel
theorem d_Mo_ballot_67 : decode Y_Mo_ballot.2.2.1 67 = .ok (.iload_n 1, 1) := by decide +kernel
theorem d_Mo_ballot_68 : decode Y_Mo_ballot.2.2.1 68 = .ok (.iaload, 1) := by decide +kernel
theorem d_Mo_ballot_69 : decode Y_Mo_ballot.2.2.1 69 = .ok (.bipush 6, 2) := by decide +kernel
theorem d_Mo_ballot_71 : decode Y_Mo_ballot.2.2.1 71 = .ok (.if_icmp .ne 7, 3) := by decide +kernel
theorem d_Mo_ballot_74 : decode Y_Mo_ballot.2.2.1 74 = .ok (.iconst 2, 1) := by decide +kernel
theorem d_Mo_ballot_75 : decode Y_Mo_ballot.2.2.1 75 = .ok (.goto 4, 3) := by decide +kernel
theorem d_Mo_ballot_78 : decode Y_Mo_ballot.2.2.1 78 = .ok (.iconst 0, 1) := by decide +kernel
theorem d_Mo_ballot_79 : decode Y_Mo_ballot.2.2.1 79 = .ok (.putfield 51, 3) := by decide +kernel
theorem d_Mo_ballot_82 : decode Y_Mo_ballot.2.2.1 82 = .ok (.aload_n 0, 1) := by decide +kernel
theorem d_Mo_ballot_83 : decode Y_Mo_ballot.2.2.1 83 = .ok (.getfield 51, 3) := by decide +kernel
theorem d_Mo_ballot_86 : decode Y_Mo_ballot.2.2.1 86 = .ok (.ifCond .le 5, 3) := by decide +kernel
theorem d_Mo_ballot_89 : decode Y_Mo_ballot.2.2.1 89 = .ok (.iconst 0, 1) := by decide +kernel
theorem d_Mo_ballot_90 : decode Y_Mo_ballot.2.2.1 90 = .ok (.ireturn, 1) := by decide +kernel
theorem d_Mo_ballot_91 : decode Y_Mo_ballot.2.2.1 91 = .ok (.aload_n 0, 1) := by decide +kernel
theorem d_Mo_ballot_92 : decode Y_Mo_ballot.2.2.1 92 = .ok (.getfield 19, 3) := by decide +kernel
theorem d_Mo_ballot_95 : decode Y_Mo_ballot.2.2.1 95 = .ok (.bipush 6, 2) := by decide +kernel
theorem d_Mo_ballot_97 : decode Y_Mo_ballot.2.2.1 97 = .ok (.iload_n 1, 1) := by decide +kernel
theorem d_Mo_ballot_98 : decode Y_Mo_ballot.2.2.1 98 = .ok (.imul, 1) := by decide +kernel
theorem d_Mo_ballot_99 : decode Y_Mo_ballot.2.2.1 99 = .ok (.aload_n 0, 1) := by decide +kernel
theorem d_Mo_ballot_100 : decode Y_Mo_ballot.2.2.1 100 = .ok (.getfield 16, 3) := by decide +kernel
theorem d_Mo_ballot_103 : decode Y_Mo_ballot.2.2.1 103 = .ok (.iload_n 1, 1) := by decide +kernel
theorem d_Mo_ballot_104 : decode Y_Mo_ballot.2.2.1 104 = .ok (.iaload, 1) := by decide +kernel
theorem d_Mo_ballot_105 : decode Y_Mo_ballot.2.2.1 105 = .ok (.iadd, 1) := by decide +kernel
theorem d_Mo_ballot_106 : decode Y_Mo_ballot.2.2.1 106 = .ok (.iload_n 2, 1) := by decide +kernel
theorem d_Mo_ballot_107 : decode Y_Mo_ballot.2.2.1 107 = .ok (.iastore, 1) := by decide +kernel
theorem d_Mo_ballot_108 : decode Y_Mo_ballot.2.2.1 108 = .ok (.aload_n 0, 1) := by decide +kernel
theorem d_Mo_ballot_109 : decode Y_Mo_ballot.2.2.1 109 = .ok (.getfield 22, 3) := by decide +kernel
theorem d_Mo_ballot_112 : decode Y_Mo_ballot.2.2.1 112 = .ok (.bipush 6, 2) := by decide +kernel
theorem d_Mo_ballot_114 : decode Y_Mo_ballot.2.2.1 114 = .ok (.iload_n 1, 1) := by decide +kernel
theorem d_Mo_ballot_115 : decode Y_Mo_ballot.2.2.1 115 = .ok (.imul, 1) := by decide +kernel
theorem d_Mo_ballot_116 : decode Y_Mo_ballot.2.2.1 116 = .ok (.aload_n 0, 1) := by decide +kernel
theorem d_Mo_ballot_117 : decode Y_Mo_ballot.2.2.1 117 = .ok (.getfield 16, 3) := by decide +kernel
theorem d_Mo_ballot_120 : decode Y_Mo_ballot.2.2.1 120 = .ok (.iload_n 1, 1) := by decide +kernel
theorem d_Mo_ballot_121 : decode Y_Mo_ballot.2.2.1 121 = .ok (.iaload, 1) := by decide +kernel
theorem d_Mo_ballot_122 : decode Y_Mo_ballot.2.2.1 122 = .ok (.iadd, 1) := by decide +kernel
theorem d_Mo_ballot_123 : decode Y_Mo_ballot.2.2.1 123 = .ok (.iload_n 3, 1) := by decide +kernel
theorem d_Mo_ballot_124 : decode Y_Mo_ballot.2.2.1 124 = .ok (.iastore, 1) := by decide +kernel
theorem d_Mo_ballot_125 : decode Y_Mo_ballot.2.2.1 125 = .ok (.aload_n 0, 1) := by decide +kernel
theorem d_Mo_ballot_126 : decode Y_Mo_ballot.2.2.1 126 = .ok (.getfield 16, 3) := by decide +kernel
theorem d_Mo_ballot_129 : decode Y_Mo_ballot.2.2.1 129 = .ok (.iload_n 1, 1) := by decide +kernel
theorem d_Mo_ballot_130 : decode Y_Mo_ballot.2.2.1 130 = .ok (.dup2, 1) := by decide +kernel
theorem d_Mo_ballot_131 : decode Y_Mo_ballot.2.2.1 131 = .ok (.iaload, 1) := by decide +kernel
theorem d_Mo_ballot_132 : decode Y_Mo_ballot.2.2.1 132 = .ok (.iconst 1, 1) := by decide +kernel
theorem d_Mo_ballot_133 : decode Y_Mo_ballot.2.2.1 133 = .ok (.iadd, 1) := by decide +kernel
theorem d_Mo_ballot_134 : decode Y_Mo_ballot.2.2.1 134 = .ok (.iastore, 1) := by decide +kernel
theorem d_Mo_ballot_135 : decode Y_Mo_ballot.2.2.1 135 = .ok (.aload_n 0, 1) := by decide +kernel
theorem d_Mo_ballot_136 : decode Y_Mo_ballot.2.2.1 136 = .ok (.getfield 16, 3) := by decide +kernel
theorem d_Mo_ballot_139 : decode Y_Mo_ballot.2.2.1 139 = .ok (.iload_n 1, 1) := by decide +kernel
theorem d_Mo_ballot_140 : decode Y_Mo_ballot.2.2.1 140 = .ok (.iaload, 1) := by decide +kernel
theorem d_Mo_ballot_141 : decode Y_Mo_ballot.2.2.1 141 = .ok (.iconst 1, 1) := by decide +kernel
theorem d_Mo_ballot_142 : decode Y_Mo_ballot.2.2.1 142 = .ok (.isub, 1) := by decide +kernel
theorem d_Mo_ballot_143 : decode Y_Mo_ballot.2.2.1 143 = .ok (.ireturn, 1) := by decide +kernel
theorem d_Mo_turn_0 : decode Y_Mo_turn.2.2.1 0 = .ok (.aload_n 0, 1) := by decide +kernel
theorem d_Mo_turn_1 : decode Y_Mo_turn.2.2.1 1 = .ok (.aload_n 0, 1) := by decide +kernel
theorem d_Mo_turn_2 : decode Y_Mo_turn.2.2.1 2 = .ok (.iload_n 1, 1) := by decide +kernel
theorem d_Mo_turn_3 : decode Y_Mo_turn.2.2.1 3 = .ok (.invokevirtual 73, 3) := by decide +kernel
theorem d_Mo_turn_6 : decode Y_Mo_turn.2.2.1 6 = .ok (.ifCond .eq 12, 3) := by decide +kernel
theorem d_Mo_turn_9 : decode Y_Mo_turn.2.2.1 9 = .ok (.iload_n 2, 1) := by decide +kernel
theorem d_Mo_turn_10 : decode Y_Mo_turn.2.2.1 10 = .ok (.ifCond .lt 8, 3) := by decide +kernel
theorem d_Mo_turn_13 : decode Y_Mo_turn.2.2.1 13 = .ok (.iload_n 2, 1) := by decide +kernel
theorem d_Mo_turn_14 : decode Y_Mo_turn.2.2.1 14 = .ok (.iconst 2, 1) := by decide +kernel
theorem d_Mo_turn_15 : decode Y_Mo_turn.2.2.1 15 = .ok (.if_icmp .le 7, 3) := by decide +kernel
theorem d_Mo_turn_18 : decode Y_Mo_turn.2.2.1 18 = .ok (.iconst 1, 1) := by decide +kernel
theorem d_Mo_turn_19 : decode Y_Mo_turn.2.2.1 19 = .ok (.goto 4, 3) := by decide +kernel
theorem d_Mo_turn_22 : decode Y_Mo_turn.2.2.1 22 = .ok (.iconst 0, 1) := by decide +kernel
theorem d_Mo_turn_23 : decode Y_Mo_turn.2.2.1 23 = .ok (.putfield 51, 3) := by decide +kernel
theorem d_Mo_turn_26 : decode Y_Mo_turn.2.2.1 26 = .ok (.aload_n 0, 1) := by decide +kernel
theorem d_Mo_turn_27 : decode Y_Mo_turn.2.2.1 27 = .ok (.getfield 51, 3) := by decide +kernel
theorem d_Mo_turn_30 : decode Y_Mo_turn.2.2.1 30 = .ok (.ifCond .le 4, 3) := by decide +kernel
theorem d_Mo_turn_33 : decode Y_Mo_turn.2.2.1 33 = .ok (.return_, 1) := by decide +kernel
theorem d_Mo_turn_34 : decode Y_Mo_turn.2.2.1 34 = .ok (.aload_n 0, 1) := by decide +kernel
theorem d_Mo_turn_35 : decode Y_Mo_turn.2.2.1 35 = .ok (.aload_n 0, 1) := by decide +kernel
theorem d_Mo_turn_36 : decode Y_Mo_turn.2.2.1 36 = .ok (.getfield 61, 3) := by decide +kernel
theorem d_Mo_turn_39 : decode Y_Mo_turn.2.2.1 39 = .ok (.ifCond .ne 13, 3) := by decide +kernel
theorem d_Mo_turn_42 : decode Y_Mo_turn.2.2.1 42 = .ok (.aload_n 0, 1) := by decide +kernel
theorem d_Mo_turn_43 : decode Y_Mo_turn.2.2.1 43 = .ok (.getfield 13, 3) := by decide +kernel
theorem d_Mo_turn_46 : decode Y_Mo_turn.2.2.1 46 = .ok (.iload_n 1, 1) := by decide +kernel
theorem d_Mo_turn_47 : decode Y_Mo_turn.2.2.1 47 = .ok (.iaload, 1) := by decide +kernel
theorem d_Mo_turn_48 : decode Y_Mo_turn.2.2.1 48 = .ok (.iload_n 2, 1) := by decide +kernel
theorem d_Mo_turn_49 : decode Y_Mo_turn.2.2.1 49 = .ok (.if_icmp .eq 7, 3) := by decide +kernel
theorem d_Mo_turn_52 : decode Y_Mo_turn.2.2.1 52 = .ok (.iconst 2, 1) := by decide +kernel
theorem d_Mo_turn_53 : decode Y_Mo_turn.2.2.1 53 = .ok (.goto 4, 3) := by decide +kernel
theorem d_Mo_turn_56 : decode Y_Mo_turn.2.2.1 56 = .ok (.iconst 0, 1) := by decide +kernel
theorem d_Mo_turn_57 : decode Y_Mo_turn.2.2.1 57 = .ok (.putfield 51, 3) := by decide +kernel
theorem d_Mo_turn_60 : decode Y_Mo_turn.2.2.1 60 = .ok (.aload_n 0, 1) := by decide +kernel
theorem d_Mo_turn_61 : decode Y_Mo_turn.2.2.1 61 = .ok (.getfield 51, 3) := by decide +kernel
theorem d_Mo_turn_64 : decode Y_Mo_turn.2.2.1 64 = .ok (.ifCond .ne 19, 3) := by decide +kernel
theorem d_Mo_turn_67 : decode Y_Mo_turn.2.2.1 67 = .ok (.aload_n 0, 1) := by decide +kernel
theorem d_Mo_turn_68 : decode Y_Mo_turn.2.2.1 68 = .ok (.getfield 13, 3) := by decide +kernel
theorem d_Mo_turn_71 : decode Y_Mo_turn.2.2.1 71 = .ok (.iload_n 1, 1) := by decide +kernel
theorem d_Mo_turn_72 : decode Y_Mo_turn.2.2.1 72 = .ok (.iload_n 2, 1) := by decide +kernel
theorem d_Mo_turn_73 : decode Y_Mo_turn.2.2.1 73 = .ok (.iconst 1, 1) := by decide +kernel
theorem d_Mo_turn_74 : decode Y_Mo_turn.2.2.1 74 = .ok (.if_icmp .ne 7, 3) := by decide +kernel
theorem d_Mo_turn_77 : decode Y_Mo_turn.2.2.1 77 = .ok (.iconst 2, 1) := by decide +kernel
theorem d_Mo_turn_78 : decode Y_Mo_turn.2.2.1 78 = .ok (.goto 4, 3) := by decide +kernel
theorem d_Mo_turn_81 : decode Y_Mo_turn.2.2.1 81 = .ok (.iconst 1, 1) := by decide +kernel
theorem d_Mo_turn_82 : decode Y_Mo_turn.2.2.1 82 = .ok (.iastore, 1) := by decide +kernel
theorem d_Mo_turn_83 : decode Y_Mo_turn.2.2.1 83 = .ok (.return_, 1) := by decide +kernel
theorem d_Mo_correct_0 : decode Y_Mo_correct.2.2.1 0 = .ok (.aload_n 0, 1) := by decide +kernel
theorem d_Mo_correct_1 : decode Y_Mo_correct.2.2.1 1 = .ok (.aload_n 0, 1) := by decide +kernel
theorem d_Mo_correct_2 : decode Y_Mo_correct.2.2.1 2 = .ok (.iload_n 1, 1) := by decide +kernel
theorem d_Mo_correct_3 : decode Y_Mo_correct.2.2.1 3 = .ok (.invokevirtual 73, 3) := by decide +kernel
theorem d_Mo_correct_6 : decode Y_Mo_correct.2.2.1 6 = .ok (.ifCond .eq 11, 3) := by decide +kernel
theorem d_Mo_correct_9 : decode Y_Mo_correct.2.2.1 9 = .ok (.aload_n 0, 1) := by decide +kernel
theorem d_Mo_correct_10 : decode Y_Mo_correct.2.2.1 10 = .ok (.iload_n 3, 1) := by decide +kernel
theorem d_Mo_correct_11 : decode Y_Mo_correct.2.2.1 11 = .ok (.invokevirtual 76, 3) := by decide +kernel
theorem d_Mo_correct_14 : decode Y_Mo_correct.2.2.1 14 = .ok (.ifCond .ne 7, 3) := by decide +kernel
theorem d_Mo_correct_17 : decode Y_Mo_correct.2.2.1 17 = .ok (.iconst 1, 1) := by decide +kernel
theorem d_Mo_correct_18 : decode Y_Mo_correct.2.2.1 18 = .ok (.goto 42, 3) := by decide +kernel
theorem d_Mo_correct_21 : decode Y_Mo_correct.2.2.1 21 = .ok (.iload_n 2, 1) := by decide +kernel
theorem d_Mo_correct_22 : decode Y_Mo_correct.2.2.1 22 = .ok (.ifCond .lt 13, 3) := by decide +kernel
theorem d_Mo_correct_25 : decode Y_Mo_correct.2.2.1 25 = .ok (.iload_n 2, 1) := by decide +kernel
theorem d_Mo_correct_26 : decode Y_Mo_correct.2.2.1 26 = .ok (.aload_n 0, 1) := by decide +kernel
theorem d_Mo_correct_27 : decode Y_Mo_correct.2.2.1 27 = .ok (.getfield 16, 3) := by decide +kernel
theorem d_Mo_correct_30 : decode Y_Mo_correct.2.2.1 30 = .ok (.iload_n 1, 1) := by decide +kernel
theorem d_Mo_correct_31 : decode Y_Mo_correct.2.2.1 31 = .ok (.iaload, 1) := by decide +kernel
theorem d_Mo_correct_32 : decode Y_Mo_correct.2.2.1 32 = .ok (.if_icmp .lt 7, 3) := by decide +kernel
theorem d_Mo_correct_35 : decode Y_Mo_correct.2.2.1 35 = .ok (.iconst 2, 1) := by decide +kernel
theorem d_Mo_correct_36 : decode Y_Mo_correct.2.2.1 36 = .ok (.goto 24, 3) := by decide +kernel
theorem d_Mo_correct_39 : decode Y_Mo_correct.2.2.1 39 = .ok (.aload_n 0, 1) := by decide +kernel
theorem d_Mo_correct_40 : decode Y_Mo_correct.2.2.1 40 = .ok (.getfield 61, 3) := by decide +kernel
theorem d_Mo_correct_43 : decode Y_Mo_correct.2.2.1 43 = .ok (.ifCond .ne 12, 3) := by decide +kernel
theorem d_Mo_correct_46 : decode Y_Mo_correct.2.2.1 46 = .ok (.aload_n 0, 1) := by decide +kernel
theorem d_Mo_correct_47 : decode Y_Mo_correct.2.2.1 47 = .ok (.getfield 13, 3) := by decide +kernel
theorem d_Mo_correct_50 : decode Y_Mo_correct.2.2.1 50 = .ok (.iload_n 1, 1) := by decide +kernel
theorem d_Mo_correct_51 : decode Y_Mo_correct.2.2.1 51 = .ok (.iaload, 1) := by decide +kernel
theorem d_Mo_correct_52 : decode Y_Mo_correct.2.2.1 52 = .ok (.ifCond .ne 7, 3) := by decide +kernel
theorem d_Mo_correct_55 : decode Y_Mo_correct.2.2.1 55 = .ok (.iconst 3, 1) := by decide +kernel
theorem d_Mo_correct_56 : decode Y_Mo_correct.2.2.1 56 = .ok (.goto 4, 3) := by decide +kernel
theorem d_Mo_correct_59 : decode Y_Mo_correct.2.2.1 59 = .ok (.iconst 0, 1) := by decide +kernel
theorem d_Mo_correct_60 : decode Y_Mo_correct.2.2.1 60 = .ok (.putfield 51, 3) := by decide +kernel
theorem d_Mo_correct_63 : decode Y_Mo_correct.2.2.1 63 = .ok (.aload_n 0, 1) := by decide +kernel
theorem d_Mo_correct_64 : decode Y_Mo_correct.2.2.1 64 = .ok (.getfield 51, 3) := by decide +kernel
theorem d_Mo_correct_67 : decode Y_Mo_correct.2.2.1 67 = .ok (.ifCond .le 5, 3) := by decide +kernel
theorem d_Mo_correct_70 : decode Y_Mo_correct.2.2.1 70 = .ok (.iconst 0, 1) := by decide +kernel
theorem d_Mo_correct_71 : decode Y_Mo_correct.2.2.1 71 = .ok (.ireturn, 1) := by decide +kernel
theorem d_Mo_correct_72 : decode Y_Mo_correct.2.2.1 72 = .ok (.aload_n 0, 1) := by decide +kernel
theorem d_Mo_correct_73 : decode Y_Mo_correct.2.2.1 73 = .ok (.getfield 19, 3) := by decide +kernel
theorem d_Mo_correct_76 : decode Y_Mo_correct.2.2.1 76 = .ok (.bipush 6, 2) := by decide +kernel
theorem d_Mo_correct_78 : decode Y_Mo_correct.2.2.1 78 = .ok (.iload_n 1, 1) := by decide +kernel
theorem d_Mo_correct_79 : decode Y_Mo_correct.2.2.1 79 = .ok (.imul, 1) := by decide +kernel
theorem d_Mo_correct_80 : decode Y_Mo_correct.2.2.1 80 = .ok (.iload_n 2, 1) := by decide +kernel
theorem d_Mo_correct_81 : decode Y_Mo_correct.2.2.1 81 = .ok (.iadd, 1) := by decide +kernel
theorem d_Mo_correct_82 : decode Y_Mo_correct.2.2.1 82 = .ok (.iaload, 1) := by decide +kernel
theorem d_Mo_correct_83 : decode Y_Mo_correct.2.2.1 83 = .ok (.istore 4, 2) := by decide +kernel
theorem d_Mo_correct_85 : decode Y_Mo_correct.2.2.1 85 = .ok (.aload_n 0, 1) := by decide +kernel
theorem d_Mo_correct_86 : decode Y_Mo_correct.2.2.1 86 = .ok (.getfield 19, 3) := by decide +kernel
theorem d_Mo_correct_89 : decode Y_Mo_correct.2.2.1 89 = .ok (.bipush 6, 2) := by decide +kernel
theorem d_Mo_correct_91 : decode Y_Mo_correct.2.2.1 91 = .ok (.iload_n 1, 1) := by decide +kernel
theorem d_Mo_correct_92 : decode Y_Mo_correct.2.2.1 92 = .ok (.imul, 1) := by decide +kernel
theorem d_Mo_correct_93 : decode Y_Mo_correct.2.2.1 93 = .ok (.iload_n 2, 1) := by decide +kernel
theorem d_Mo_correct_94 : decode Y_Mo_correct.2.2.1 94 = .ok (.iadd, 1) := by decide +kernel
theorem d_Mo_correct_95 : decode Y_Mo_correct.2.2.1 95 = .ok (.iload_n 3, 1) := by decide +kernel
theorem d_Mo_correct_96 : decode Y_Mo_correct.2.2.1 96 = .ok (.iastore, 1) := by decide +kernel
theorem d_Mo_correct_97 : decode Y_Mo_correct.2.2.1 97 = .ok (.iload 4, 2) := by decide +kernel
theorem d_Mo_correct_99 : decode Y_Mo_correct.2.2.1 99 = .ok (.ireturn, 1) := by decide +kernel
theorem d_Mo_state_0 : decode Y_Mo_state.2.2.1 0 = .ok (.aload_n 0, 1) := by decide +kernel
theorem d_Mo_state_1 : decode Y_Mo_state.2.2.1 1 = .ok (.aload_n 0, 1) := by decide +kernel
theorem d_Mo_state_2 : decode Y_Mo_state.2.2.1 2 = .ok (.iload_n 1, 1) := by decide +kernel
theorem d_Mo_state_3 : decode Y_Mo_state.2.2.1 3 = .ok (.invokevirtual 73, 3) := by decide +kernel
theorem d_Mo_state_6 : decode Y_Mo_state.2.2.1 6 = .ok (.ifCond .eq 7, 3) := by decide +kernel
theorem d_Mo_state_9 : decode Y_Mo_state.2.2.1 9 = .ok (.iconst 0, 1) := by decide +kernel
theorem d_Mo_state_10 : decode Y_Mo_state.2.2.1 10 = .ok (.goto 4, 3) := by decide +kernel
theorem d_Mo_state_13 : decode Y_Mo_state.2.2.1 13 = .ok (.iconst 1, 1) := by decide +kernel
theorem d_Mo_state_14 : decode Y_Mo_state.2.2.1 14 = .ok (.putfield 51, 3) := by decide +kernel
theorem d_Mo_state_17 : decode Y_Mo_state.2.2.1 17 = .ok (.aload_n 0, 1) := by decide +kernel
theorem d_Mo_state_18 : decode Y_Mo_state.2.2.1 18 = .ok (.getfield 51, 3) := by decide +kernel
theorem d_Mo_state_21 : decode Y_Mo_state.2.2.1 21 = .ok (.ifCond .le 7, 3) := by decide +kernel
theorem d_Mo_state_24 : decode Y_Mo_state.2.2.1 24 = .ok (.iconst 0, 1) := by decide +kernel
theorem d_Mo_state_25 : decode Y_Mo_state.2.2.1 25 = .ok (.goto 9, 3) := by decide +kernel
theorem d_Mo_state_28 : decode Y_Mo_state.2.2.1 28 = .ok (.aload_n 0, 1) := by decide +kernel
theorem d_Mo_state_29 : decode Y_Mo_state.2.2.1 29 = .ok (.getfield 13, 3) := by decide +kernel
theorem d_Mo_state_32 : decode Y_Mo_state.2.2.1 32 = .ok (.iload_n 1, 1) := by decide +kernel
theorem d_Mo_state_33 : decode Y_Mo_state.2.2.1 33 = .ok (.iaload, 1) := by decide +kernel
theorem d_Mo_state_34 : decode Y_Mo_state.2.2.1 34 = .ok (.ireturn, 1) := by decide +kernel
theorem d_Mo_voters_0 : decode Y_Mo_voters.2.2.1 0 = .ok (.aload_n 0, 1) := by decide +kernel
theorem d_Mo_voters_1 : decode Y_Mo_voters.2.2.1 1 = .ok (.iconst 0, 1) := by decide +kernel
theorem d_Mo_voters_2 : decode Y_Mo_voters.2.2.1 2 = .ok (.putfield 51, 3) := by decide +kernel
theorem d_Mo_voters_5 : decode Y_Mo_voters.2.2.1 5 = .ok (.iconst 0, 1) := by decide +kernel
theorem d_Mo_voters_6 : decode Y_Mo_voters.2.2.1 6 = .ok (.istore_n 1, 1) := by decide +kernel
theorem d_Mo_voters_7 : decode Y_Mo_voters.2.2.1 7 = .ok (.iconst 0, 1) := by decide +kernel
theorem d_Mo_voters_8 : decode Y_Mo_voters.2.2.1 8 = .ok (.istore_n 2, 1) := by decide +kernel
theorem d_Mo_voters_9 : decode Y_Mo_voters.2.2.1 9 = .ok (.iload_n 2, 1) := by decide +kernel
theorem d_Mo_voters_10 : decode Y_Mo_voters.2.2.1 10 = .ok (.aload_n 0, 1) := by decide +kernel
theorem d_Mo_voters_11 : decode Y_Mo_voters.2.2.1 11 = .ok (.getfield 54, 3) := by decide +kernel
theorem d_Mo_voters_14 : decode Y_Mo_voters.2.2.1 14 = .ok (.if_icmp .ge 51, 3) := by decide +kernel
theorem d_Mo_voters_17 : decode Y_Mo_voters.2.2.1 17 = .ok (.iconst 0, 1) := by decide +kernel
theorem d_Mo_voters_18 : decode Y_Mo_voters.2.2.1 18 = .ok (.istore_n 3, 1) := by decide +kernel
theorem d_Mo_voters_19 : decode Y_Mo_voters.2.2.1 19 = .ok (.iload_n 3, 1) := by decide +kernel
theorem d_Mo_voters_20 : decode Y_Mo_voters.2.2.1 20 = .ok (.aload_n 0, 1) := by decide +kernel
theorem d_Mo_voters_21 : decode Y_Mo_voters.2.2.1 21 = .ok (.getfield 16, 3) := by decide +kernel
theorem d_Mo_voters_24 : decode Y_Mo_voters.2.2.1 24 = .ok (.iload_n 2, 1) := by decide +kernel
theorem d_Mo_voters_25 : decode Y_Mo_voters.2.2.1 25 = .ok (.iaload, 1) := by decide +kernel
theorem d_Mo_voters_26 : decode Y_Mo_voters.2.2.1 26 = .ok (.if_icmp .ge 33, 3) := by decide +kernel
theorem d_Mo_voters_29 : decode Y_Mo_voters.2.2.1 29 = .ok (.aload_n 0, 1) := by decide +kernel
theorem d_Mo_voters_30 : decode Y_Mo_voters.2.2.1 30 = .ok (.getfield 13, 3) := by decide +kernel
theorem d_Mo_voters_33 : decode Y_Mo_voters.2.2.1 33 = .ok (.iload_n 2, 1) := by decide +kernel
theorem d_Mo_voters_34 : decode Y_Mo_voters.2.2.1 34 = .ok (.iaload, 1) := by decide +kernel
theorem d_Mo_voters_35 : decode Y_Mo_voters.2.2.1 35 = .ok (.iconst 1, 1) := by decide +kernel
theorem d_Mo_voters_36 : decode Y_Mo_voters.2.2.1 36 = .ok (.if_icmp .ne 23, 3) := by decide +kernel
theorem d_Mo_voters_39 : decode Y_Mo_voters.2.2.1 39 = .ok (.iload_n 1, 1) := by decide +kernel
theorem d_Mo_voters_40 : decode Y_Mo_voters.2.2.1 40 = .ok (.aload_n 0, 1) := by decide +kernel
theorem d_Mo_voters_41 : decode Y_Mo_voters.2.2.1 41 = .ok (.getfield 22, 3) := by decide +kernel
theorem d_Mo_voters_44 : decode Y_Mo_voters.2.2.1 44 = .ok (.bipush 6, 2) := by decide +kernel
theorem d_Mo_voters_46 : decode Y_Mo_voters.2.2.1 46 = .ok (.iload_n 2, 1) := by decide +kernel
theorem d_Mo_voters_47 : decode Y_Mo_voters.2.2.1 47 = .ok (.imul, 1) := by decide +kernel
theorem d_Mo_voters_48 : decode Y_Mo_voters.2.2.1 48 = .ok (.iload_n 3, 1) := by decide +kernel
theorem d_Mo_voters_49 : decode Y_Mo_voters.2.2.1 49 = .ok (.iadd, 1) := by decide +kernel
theorem d_Mo_voters_50 : decode Y_Mo_voters.2.2.1 50 = .ok (.iaload, 1) := by decide +kernel
theorem d_Mo_voters_51 : decode Y_Mo_voters.2.2.1 51 = .ok (.iadd, 1) := by decide +kernel
theorem d_Mo_voters_52 : decode Y_Mo_voters.2.2.1 52 = .ok (.istore_n 1, 1) := by decide +kernel
theorem d_Mo_voters_53 : decode Y_Mo_voters.2.2.1 53 = .ok (.iinc 3 1, 3) := by decide +kernel
theorem d_Mo_voters_56 : decode Y_Mo_voters.2.2.1 56 = .ok (.goto (-37), 3) := by decide +kernel
theorem d_Mo_voters_59 : decode Y_Mo_voters.2.2.1 59 = .ok (.iinc 2 1, 3) := by decide +kernel
theorem d_Mo_voters_62 : decode Y_Mo_voters.2.2.1 62 = .ok (.goto (-53), 3) := by decide +kernel
theorem d_Mo_voters_65 : decode Y_Mo_voters.2.2.1 65 = .ok (.iload_n 1, 1) := by decide +kernel
theorem d_Mo_voters_66 : decode Y_Mo_voters.2.2.1 66 = .ok (.ireturn, 1) := by decide +kernel
theorem d_Mo_count_0 : decode Y_Mo_count.2.2.1 0 = .ok (.iconst 0, 1) := by decide +kernel
theorem d_Mo_count_1 : decode Y_Mo_count.2.2.1 1 = .ok (.istore_n 2, 1) := by decide +kernel
theorem d_Mo_count_2 : decode Y_Mo_count.2.2.1 2 = .ok (.iload_n 2, 1) := by decide +kernel
theorem d_Mo_count_3 : decode Y_Mo_count.2.2.1 3 = .ok (.bipush 64, 2) := by decide +kernel
theorem d_Mo_count_5 : decode Y_Mo_count.2.2.1 5 = .ok (.if_icmp .ge 16, 3) := by decide +kernel
theorem d_Mo_count_8 : decode Y_Mo_count.2.2.1 8 = .ok (.aload_n 0, 1) := by decide +kernel
theorem d_Mo_count_9 : decode Y_Mo_count.2.2.1 9 = .ok (.getfield 25, 3) := by decide +kernel
theorem d_Mo_count_12 : decode Y_Mo_count.2.2.1 12 = .ok (.iload_n 2, 1) := by decide +kernel
theorem d_Mo_count_13 : decode Y_Mo_count.2.2.1 13 = .ok (.iconst 0, 1) := by decide +kernel
theorem d_Mo_count_14 : decode Y_Mo_count.2.2.1 14 = .ok (.iastore, 1) := by decide +kernel
theorem d_Mo_count_15 : decode Y_Mo_count.2.2.1 15 = .ok (.iinc 2 1, 3) := by decide +kernel
theorem d_Mo_count_18 : decode Y_Mo_count.2.2.1 18 = .ok (.goto (-16), 3) := by decide +kernel
theorem d_Mo_count_21 : decode Y_Mo_count.2.2.1 21 = .ok (.iconst 0, 1) := by decide +kernel
theorem d_Mo_count_22 : decode Y_Mo_count.2.2.1 22 = .ok (.istore_n 2, 1) := by decide +kernel
theorem d_Mo_count_23 : decode Y_Mo_count.2.2.1 23 = .ok (.iload_n 2, 1) := by decide +kernel
theorem d_Mo_count_24 : decode Y_Mo_count.2.2.1 24 = .ok (.aload_n 0, 1) := by decide +kernel
theorem d_Mo_count_25 : decode Y_Mo_count.2.2.1 25 = .ok (.getfield 54, 3) := by decide +kernel
theorem d_Mo_count_28 : decode Y_Mo_count.2.2.1 28 = .ok (.if_icmp .ge 66, 3) := by decide +kernel
theorem d_Mo_count_31 : decode Y_Mo_count.2.2.1 31 = .ok (.bipush 6, 2) := by decide +kernel
theorem d_Mo_count_33 : decode Y_Mo_count.2.2.1 33 = .ok (.iload_n 2, 1) := by decide +kernel
theorem d_Mo_count_34 : decode Y_Mo_count.2.2.1 34 = .ok (.imul, 1) := by decide +kernel
theorem d_Mo_count_35 : decode Y_Mo_count.2.2.1 35 = .ok (.istore_n 3, 1) := by decide +kernel
theorem d_Mo_count_36 : decode Y_Mo_count.2.2.1 36 = .ok (.iload_n 3, 1) := by decide +kernel
theorem d_Mo_count_37 : decode Y_Mo_count.2.2.1 37 = .ok (.bipush 6, 2) := by decide +kernel
theorem d_Mo_count_39 : decode Y_Mo_count.2.2.1 39 = .ok (.iload_n 2, 1) := by decide +kernel
theorem d_Mo_count_40 : decode Y_Mo_count.2.2.1 40 = .ok (.imul, 1) := by decide +kernel
theorem d_Mo_count_41 : decode Y_Mo_count.2.2.1 41 = .ok (.aload_n 0, 1) := by decide +kernel
theorem d_Mo_count_42 : decode Y_Mo_count.2.2.1 42 = .ok (.getfield 16, 3) := by decide +kernel
theorem d_Mo_count_45 : decode Y_Mo_count.2.2.1 45 = .ok (.iload_n 2, 1) := by decide +kernel
theorem d_Mo_count_46 : decode Y_Mo_count.2.2.1 46 = .ok (.iaload, 1) := by decide +kernel
theorem d_Mo_count_47 : decode Y_Mo_count.2.2.1 47 = .ok (.iadd, 1) := by decide +kernel
theorem d_Mo_count_48 : decode Y_Mo_count.2.2.1 48 = .ok (.if_icmp .ge 40, 3) := by decide +kernel
theorem d_Mo_count_51 : decode Y_Mo_count.2.2.1 51 = .ok (.aload_n 0, 1) := by decide +kernel
theorem d_Mo_count_52 : decode Y_Mo_count.2.2.1 52 = .ok (.getfield 13, 3) := by decide +kernel
theorem d_Mo_count_55 : decode Y_Mo_count.2.2.1 55 = .ok (.iload_n 2, 1) := by decide +kernel
theorem d_Mo_count_56 : decode Y_Mo_count.2.2.1 56 = .ok (.iaload, 1) := by decide +kernel
theorem d_Mo_count_57 : decode Y_Mo_count.2.2.1 57 = .ok (.iconst 1, 1) := by decide +kernel
theorem d_Mo_count_58 : decode Y_Mo_count.2.2.1 58 = .ok (.if_icmp .ne 30, 3) := by decide +kernel
theorem d_Mo_count_61 : decode Y_Mo_count.2.2.1 61 = .ok (.iload_n 2, 1) := by decide +kernel
theorem d_Mo_count_62 : decode Y_Mo_count.2.2.1 62 = .ok (.iload_n 1, 1) := by decide +kernel
theorem d_Mo_count_63 : decode Y_Mo_count.2.2.1 63 = .ok (.if_icmp .eq 25, 3) := by decide +kernel
theorem d_Mo_count_66 : decode Y_Mo_count.2.2.1 66 = .ok (.aload_n 0, 1) := by decide +kernel
theorem d_Mo_count_67 : decode Y_Mo_count.2.2.1 67 = .ok (.aload_n 0, 1) := by decide +kernel
theorem d_Mo_count_68 : decode Y_Mo_count.2.2.1 68 = .ok (.getfield 19, 3) := by decide +kernel
theorem d_Mo_count_71 : decode Y_Mo_count.2.2.1 71 = .ok (.iload_n 3, 1) := by decide +kernel
theorem d_Mo_count_72 : decode Y_Mo_count.2.2.1 72 = .ok (.iaload, 1) := by decide +kernel
theorem d_Mo_count_73 : decode Y_Mo_count.2.2.1 73 = .ok (.aload_n 0, 1) := by decide +kernel
theorem d_Mo_count_74 : decode Y_Mo_count.2.2.1 74 = .ok (.getfield 22, 3) := by decide +kernel
theorem d_Mo_count_77 : decode Y_Mo_count.2.2.1 77 = .ok (.iload_n 3, 1) := by decide +kernel
theorem d_Mo_count_78 : decode Y_Mo_count.2.2.1 78 = .ok (.iaload, 1) := by decide +kernel
theorem d_Mo_count_79 : decode Y_Mo_count.2.2.1 79 = .ok (.invokevirtual 79, 3) := by decide +kernel
theorem d_Mo_count_82 : decode Y_Mo_count.2.2.1 82 = .ok (.iinc 3 1, 3) := by decide +kernel
theorem d_Mo_count_85 : decode Y_Mo_count.2.2.1 85 = .ok (.goto (-49), 3) := by decide +kernel
theorem d_Mo_count_88 : decode Y_Mo_count.2.2.1 88 = .ok (.iinc 2 1, 3) := by decide +kernel
theorem d_Mo_count_91 : decode Y_Mo_count.2.2.1 91 = .ok (.goto (-68), 3) := by decide +kernel
theorem d_Mo_count_94 : decode Y_Mo_count.2.2.1 94 = .ok (.iconst 0, 1) := by decide +kernel
theorem d_Mo_count_95 : decode Y_Mo_count.2.2.1 95 = .ok (.istore_n 2, 1) := by decide +kernel
theorem d_Mo_count_96 : decode Y_Mo_count.2.2.1 96 = .ok (.iload_n 2, 1) := by decide +kernel
theorem d_Mo_count_97 : decode Y_Mo_count.2.2.1 97 = .ok (.bipush 64, 2) := by decide +kernel
theorem d_Mo_count_99 : decode Y_Mo_count.2.2.1 99 = .ok (.if_icmp .ge 53, 3) := by decide +kernel
theorem d_Mo_count_102 : decode Y_Mo_count.2.2.1 102 = .ok (.bipush 8, 2) := by decide +kernel
theorem d_Mo_count_104 : decode Y_Mo_count.2.2.1 104 = .ok (.iload_n 2, 1) := by decide +kernel
theorem d_Mo_count_105 : decode Y_Mo_count.2.2.1 105 = .ok (.bipush 8, 2) := by decide +kernel
theorem d_Mo_count_107 : decode Y_Mo_count.2.2.1 107 = .ok (.irem, 1) := by decide +kernel
theorem d_Mo_count_108 : decode Y_Mo_count.2.2.1 108 = .ok (.imul, 1) := by decide +kernel
theorem d_Mo_count_109 : decode Y_Mo_count.2.2.1 109 = .ok (.iload_n 2, 1) := by decide +kernel
theorem d_Mo_count_110 : decode Y_Mo_count.2.2.1 110 = .ok (.bipush 8, 2) := by decide +kernel
theorem d_Mo_count_112 : decode Y_Mo_count.2.2.1 112 = .ok (.idiv, 1) := by decide +kernel
theorem d_Mo_count_113 : decode Y_Mo_count.2.2.1 113 = .ok (.iadd, 1) := by decide +kernel
theorem d_Mo_count_114 : decode Y_Mo_count.2.2.1 114 = .ok (.istore_n 3, 1) := by decide +kernel
theorem d_Mo_count_115 : decode Y_Mo_count.2.2.1 115 = .ok (.aload_n 0, 1) := by decide +kernel
theorem d_Mo_count_116 : decode Y_Mo_count.2.2.1 116 = .ok (.getfield 28, 3) := by decide +kernel
theorem d_Mo_count_119 : decode Y_Mo_count.2.2.1 119 = .ok (.iload_n 2, 1) := by decide +kernel
theorem d_Mo_count_120 : decode Y_Mo_count.2.2.1 120 = .ok (.aload_n 0, 1) := by decide +kernel
theorem d_Mo_count_121 : decode Y_Mo_count.2.2.1 121 = .ok (.getfield 25, 3) := by decide +kernel
theorem d_Mo_count_124 : decode Y_Mo_count.2.2.1 124 = .ok (.iload_n 2, 1) := by decide +kernel
theorem d_Mo_count_125 : decode Y_Mo_count.2.2.1 125 = .ok (.iaload, 1) := by decide +kernel
theorem d_Mo_count_126 : decode Y_Mo_count.2.2.1 126 = .ok (.aload_n 0, 1) := by decide +kernel
theorem d_Mo_count_127 : decode Y_Mo_count.2.2.1 127 = .ok (.getfield 25, 3) := by decide +kernel
theorem d_Mo_count_130 : decode Y_Mo_count.2.2.1 130 = .ok (.iload_n 3, 1) := by decide +kernel
theorem d_Mo_count_131 : decode Y_Mo_count.2.2.1 131 = .ok (.iaload, 1) := by decide +kernel
theorem d_Mo_count_132 : decode Y_Mo_count.2.2.1 132 = .ok (.if_icmp .le 12, 3) := by decide +kernel
theorem d_Mo_count_135 : decode Y_Mo_count.2.2.1 135 = .ok (.aload_n 0, 1) := by decide +kernel
theorem d_Mo_count_136 : decode Y_Mo_count.2.2.1 136 = .ok (.getfield 25, 3) := by decide +kernel
theorem d_Mo_count_139 : decode Y_Mo_count.2.2.1 139 = .ok (.iload_n 2, 1) := by decide +kernel
theorem d_Mo_count_140 : decode Y_Mo_count.2.2.1 140 = .ok (.iaload, 1) := by decide +kernel
theorem d_Mo_count_141 : decode Y_Mo_count.2.2.1 141 = .ok (.goto 4, 3) := by decide +kernel
theorem d_Mo_count_144 : decode Y_Mo_count.2.2.1 144 = .ok (.iconst 0, 1) := by decide +kernel
theorem d_Mo_count_145 : decode Y_Mo_count.2.2.1 145 = .ok (.iastore, 1) := by decide +kernel
theorem d_Mo_count_146 : decode Y_Mo_count.2.2.1 146 = .ok (.iinc 2 1, 3) := by decide +kernel
theorem d_Mo_count_149 : decode Y_Mo_count.2.2.1 149 = .ok (.goto (-53), 3) := by decide +kernel
theorem d_Mo_count_152 : decode Y_Mo_count.2.2.1 152 = .ok (.return_, 1) := by decide +kernel
theorem d_Mo_add_0 : decode Y_Mo_add.2.2.1 0 = .ok (.iconst 0, 1) := by decide +kernel
theorem d_Mo_add_1 : decode Y_Mo_add.2.2.1 1 = .ok (.istore_n 3, 1) := by decide +kernel
theorem d_Mo_add_2 : decode Y_Mo_add.2.2.1 2 = .ok (.iload_n 3, 1) := by decide +kernel
theorem d_Mo_add_3 : decode Y_Mo_add.2.2.1 3 = .ok (.aload_n 0, 1) := by decide +kernel
theorem d_Mo_add_4 : decode Y_Mo_add.2.2.1 4 = .ok (.getfield 47, 3) := by decide +kernel
theorem d_Mo_add_7 : decode Y_Mo_add.2.2.1 7 = .ok (.if_icmp .ge 91, 3) := by decide +kernel
theorem d_Mo_add_10 : decode Y_Mo_add.2.2.1 10 = .ok (.iconst 0, 1) := by decide +kernel
theorem d_Mo_add_11 : decode Y_Mo_add.2.2.1 11 = .ok (.istore 4, 2) := by decide +kernel
theorem d_Mo_add_13 : decode Y_Mo_add.2.2.1 13 = .ok (.iload 4, 2) := by decide +kernel
theorem d_Mo_add_15 : decode Y_Mo_add.2.2.1 15 = .ok (.aload_n 0, 1) := by decide +kernel
theorem d_Mo_add_16 : decode Y_Mo_add.2.2.1 16 = .ok (.getfield 47, 3) := by decide +kernel
theorem d_Mo_add_19 : decode Y_Mo_add.2.2.1 19 = .ok (.if_icmp .ge 73, 3) := by decide +kernel
theorem d_Mo_add_22 : decode Y_Mo_add.2.2.1 22 = .ok (.iload_n 1, 1) := by decide +kernel
theorem d_Mo_add_23 : decode Y_Mo_add.2.2.1 23 = .ok (.iload_n 3, 1) := by decide +kernel
theorem d_Mo_add_24 : decode Y_Mo_add.2.2.1 24 = .ok (.invokestatic 69, 3) := by decide +kernel
theorem d_Mo_add_27 : decode Y_Mo_add.2.2.1 27 = .ok (.istore 5, 2) := by decide +kernel
theorem d_Mo_add_29 : decode Y_Mo_add.2.2.1 29 = .ok (.iload_n 1, 1) := by decide +kernel
theorem d_Mo_add_30 : decode Y_Mo_add.2.2.1 30 = .ok (.iload 4, 2) := by decide +kernel
theorem d_Mo_add_32 : decode Y_Mo_add.2.2.1 32 = .ok (.invokestatic 69, 3) := by decide +kernel
theorem d_Mo_add_35 : decode Y_Mo_add.2.2.1 35 = .ok (.istore 6, 2) := by decide +kernel
theorem d_Mo_add_37 : decode Y_Mo_add.2.2.1 37 = .ok (.iload 5, 2) := by decide +kernel
theorem d_Mo_add_39 : decode Y_Mo_add.2.2.1 39 = .ok (.ifCond .le 19, 3) := by decide +kernel
theorem d_Mo_add_42 : decode Y_Mo_add.2.2.1 42 = .ok (.iload 6, 2) := by decide +kernel
theorem d_Mo_add_44 : decode Y_Mo_add.2.2.1 44 = .ok (.ifCond .eq 10, 3) := by decide +kernel
theorem d_Mo_add_47 : decode Y_Mo_add.2.2.1 47 = .ok (.iload 5, 2) := by decide +kernel
theorem d_Mo_add_49 : decode Y_Mo_add.2.2.1 49 = .ok (.iload 6, 2) := by decide +kernel
theorem d_Mo_add_51 : decode Y_Mo_add.2.2.1 51 = .ok (.if_icmp .ge 7, 3) := by decide +kernel
theorem d_Mo_add_54 : decode Y_Mo_add.2.2.1 54 = .ok (.iconst 1, 1) := by decide +kernel
theorem d_Mo_add_55 : decode Y_Mo_add.2.2.1 55 = .ok (.goto 4, 3) := by decide +kernel
theorem d_Mo_add_58 : decode Y_Mo_add.2.2.1 58 = .ok (.iconst 0, 1) := by decide +kernel
theorem d_Mo_add_59 : decode Y_Mo_add.2.2.1 59 = .ok (.istore 7, 2) := by decide +kernel
theorem d_Mo_add_61 : decode Y_Mo_add.2.2.1 61 = .ok (.aload_n 0, 1) := by decide +kernel
theorem d_Mo_add_62 : decode Y_Mo_add.2.2.1 62 = .ok (.getfield 25, 3) := by decide +kernel
theorem d_Mo_add_65 : decode Y_Mo_add.2.2.1 65 = .ok (.bipush 8, 2) := by decide +kernel
theorem d_Mo_add_67 : decode Y_Mo_add.2.2.1 67 = .ok (.iload_n 3, 1) := by decide +kernel
theorem d_Mo_add_68 : decode Y_Mo_add.2.2.1 68 = .ok (.imul, 1) := by decide +kernel
theorem d_Mo_add_69 : decode Y_Mo_add.2.2.1 69 = .ok (.iload 4, 2) := by decide +kernel
theorem d_Mo_add_71 : decode Y_Mo_add.2.2.1 71 = .ok (.iadd, 1) := by decide +kernel
theorem d_Mo_add_72 : decode Y_Mo_add.2.2.1 72 = .ok (.dup2, 1) := by decide +kernel
theorem d_Mo_add_73 : decode Y_Mo_add.2.2.1 73 = .ok (.iaload, 1) := by decide +kernel
theorem d_Mo_add_74 : decode Y_Mo_add.2.2.1 74 = .ok (.iload 7, 2) := by decide +kernel
theorem d_Mo_add_76 : decode Y_Mo_add.2.2.1 76 = .ok (.ifCond .eq 7, 3) := by decide +kernel
theorem d_Mo_add_79 : decode Y_Mo_add.2.2.1 79 = .ok (.iload_n 2, 1) := by decide +kernel
theorem d_Mo_add_80 : decode Y_Mo_add.2.2.1 80 = .ok (.goto 4, 3) := by decide +kernel
theorem d_Mo_add_83 : decode Y_Mo_add.2.2.1 83 = .ok (.iconst 0, 1) := by decide +kernel
theorem d_Mo_add_84 : decode Y_Mo_add.2.2.1 84 = .ok (.iadd, 1) := by decide +kernel
theorem d_Mo_add_85 : decode Y_Mo_add.2.2.1 85 = .ok (.iastore, 1) := by decide +kernel
theorem d_Mo_add_86 : decode Y_Mo_add.2.2.1 86 = .ok (.iinc 4 1, 3) := by decide +kernel
theorem d_Mo_add_89 : decode Y_Mo_add.2.2.1 89 = .ok (.goto (-76), 3) := by decide +kernel
theorem d_Mo_add_92 : decode Y_Mo_add.2.2.1 92 = .ok (.iinc 3 1, 3) := by decide +kernel
theorem d_Mo_add_95 : decode Y_Mo_add.2.2.1 95 = .ok (.goto (-93), 3) := by decide +kernel
theorem d_Mo_add_98 : decode Y_Mo_add.2.2.1 98 = .ok (.return_, 1) := by decide +kernel
theorem d_Mo_lesser_0 : decode Y_Mo_lesser.2.2.1 0 = .ok (.iload_n 0, 1) := by decide +kernel
theorem d_Mo_lesser_1 : decode Y_Mo_lesser.2.2.1 1 = .ok (.iload_n 1, 1) := by decide +kernel
theorem d_Mo_lesser_2 : decode Y_Mo_lesser.2.2.1 2 = .ok (.if_icmp .ge 7, 3) := by decide +kernel
theorem d_Mo_lesser_5 : decode Y_Mo_lesser.2.2.1 5 = .ok (.iload_n 0, 1) := by decide +kernel
theorem d_Mo_lesser_6 : decode Y_Mo_lesser.2.2.1 6 = .ok (.goto 4, 3) := by decide +kernel
theorem d_Mo_lesser_9 : decode Y_Mo_lesser.2.2.1 9 = .ok (.iload_n 1, 1) := by decide +kernel
theorem d_Mo_lesser_10 : decode Y_Mo_lesser.2.2.1 10 = .ok (.ireturn, 1) := by decide +kernel
theorem d_Mo_strengthen_0 : decode Y_Mo_strengthen.2.2.1 0 = .ok (.iconst 0, 1) := by decide +kernel
theorem d_Mo_strengthen_1 : decode Y_Mo_strengthen.2.2.1 1 = .ok (.istore_n 1, 1) := by decide +kernel
theorem d_Mo_strengthen_2 : decode Y_Mo_strengthen.2.2.1 2 = .ok (.iload_n 1, 1) := by decide +kernel
theorem d_Mo_strengthen_3 : decode Y_Mo_strengthen.2.2.1 3 = .ok (.bipush 64, 2) := by decide +kernel
theorem d_Mo_strengthen_5 : decode Y_Mo_strengthen.2.2.1 5 = .ok (.if_icmp .ge 21, 3) := by decide +kernel
theorem d_Mo_strengthen_8 : decode Y_Mo_strengthen.2.2.1 8 = .ok (.aload_n 0, 1) := by decide +kernel
theorem d_Mo_strengthen_9 : decode Y_Mo_strengthen.2.2.1 9 = .ok (.getfield 31, 3) := by decide +kernel
theorem d_Mo_strengthen_12 : decode Y_Mo_strengthen.2.2.1 12 = .ok (.iload_n 1, 1) := by decide +kernel
theorem d_Mo_strengthen_13 : decode Y_Mo_strengthen.2.2.1 13 = .ok (.aload_n 0, 1) := by decide +kernel
theorem d_Mo_strengthen_14 : decode Y_Mo_strengthen.2.2.1 14 = .ok (.getfield 28, 3) := by decide +kernel
theorem d_Mo_strengthen_17 : decode Y_Mo_strengthen.2.2.1 17 = .ok (.iload_n 1, 1) := by decide +kernel
theorem d_Mo_strengthen_18 : decode Y_Mo_strengthen.2.2.1 18 = .ok (.iaload, 1) := by decide +kernel
theorem d_Mo_strengthen_19 : decode Y_Mo_strengthen.2.2.1 19 = .ok (.iastore, 1) := by decide +kernel
theorem d_Mo_strengthen_20 : decode Y_Mo_strengthen.2.2.1 20 = .ok (.iinc 1 1, 3) := by decide +kernel
theorem d_Mo_strengthen_23 : decode Y_Mo_strengthen.2.2.1 23 = .ok (.goto (-21), 3) := by decide +kernel
theorem d_Mo_strengthen_26 : decode Y_Mo_strengthen.2.2.1 26 = .ok (.iconst 1, 1) := by decide +kernel
theorem d_Mo_strengthen_27 : decode Y_Mo_strengthen.2.2.1 27 = .ok (.istore_n 1, 1) := by decide +kernel
theorem d_Mo_strengthen_28 : decode Y_Mo_strengthen.2.2.1 28 = .ok (.iload_n 1, 1) := by decide +kernel
theorem d_Mo_strengthen_29 : decode Y_Mo_strengthen.2.2.1 29 = .ok (.ifCond .eq 112, 3) := by decide +kernel
theorem d_Mo_strengthen_32 : decode Y_Mo_strengthen.2.2.1 32 = .ok (.iconst 0, 1) := by decide +kernel
theorem d_Mo_strengthen_33 : decode Y_Mo_strengthen.2.2.1 33 = .ok (.istore_n 1, 1) := by decide +kernel
theorem d_Mo_strengthen_34 : decode Y_Mo_strengthen.2.2.1 34 = .ok (.iconst 0, 1) := by decide +kernel
theorem d_Mo_strengthen_35 : decode Y_Mo_strengthen.2.2.1 35 = .ok (.istore_n 2, 1) := by decide +kernel
theorem d_Mo_strengthen_36 : decode Y_Mo_strengthen.2.2.1 36 = .ok (.iload_n 2, 1) := by decide +kernel
theorem d_Mo_strengthen_37 : decode Y_Mo_strengthen.2.2.1 37 = .ok (.sipush 512, 3) := by decide +kernel
theorem d_Mo_strengthen_40 : decode Y_Mo_strengthen.2.2.1 40 = .ok (.if_icmp .ge 98, 3) := by decide +kernel
theorem d_Mo_strengthen_43 : decode Y_Mo_strengthen.2.2.1 43 = .ok (.iload_n 2, 1) := by decide +kernel
theorem d_Mo_strengthen_44 : decode Y_Mo_strengthen.2.2.1 44 = .ok (.bipush 64, 2) := by decide +kernel
theorem d_Mo_strengthen_46 : decode Y_Mo_strengthen.2.2.1 46 = .ok (.idiv, 1) := by decide +kernel
theorem d_Mo_strengthen_47 : decode Y_Mo_strengthen.2.2.1 47 = .ok (.istore_n 3, 1) := by decide +kernel
