/-! decode rows, written by gen/dec.py -/
theorem d_Mo_strengthen_48 : decode Y_Mo_strengthen.2.2.1 48 = .ok (.iload_n 2, 1) := by decide +kernel
theorem d_Mo_strengthen_49 : decode Y_Mo_strengthen.2.2.1 49 = .ok (.bipush 8, 2) := by decide +kernel
theorem d_Mo_strengthen_51 : decode Y_Mo_strengthen.2.2.1 51 = .ok (.idiv, 1) := by decide +kernel
theorem d_Mo_strengthen_52 : decode Y_Mo_strengthen.2.2.1 52 = .ok (.bipush 8, 2) := by decide +kernel
theorem d_Mo_strengthen_54 : decode Y_Mo_strengthen.2.2.1 54 = .ok (.irem, 1) := by decide +kernel
theorem d_Mo_strengthen_55 : decode Y_Mo_strengthen.2.2.1 55 = .ok (.istore 4, 2) := by decide +kernel
theorem d_Mo_strengthen_57 : decode Y_Mo_strengthen.2.2.1 57 = .ok (.iload_n 2, 1) := by decide +kernel
theorem d_Mo_strengthen_58 : decode Y_Mo_strengthen.2.2.1 58 = .ok (.bipush 8, 2) := by decide +kernel
theorem d_Mo_strengthen_60 : decode Y_Mo_strengthen.2.2.1 60 = .ok (.irem, 1) := by decide +kernel
theorem d_Mo_strengthen_61 : decode Y_Mo_strengthen.2.2.1 61 = .ok (.istore 5, 2) := by decide +kernel
theorem d_Mo_strengthen_63 : decode Y_Mo_strengthen.2.2.1 63 = .ok (.aload_n 0, 1) := by decide +kernel
theorem d_Mo_strengthen_64 : decode Y_Mo_strengthen.2.2.1 64 = .ok (.getfield 31, 3) := by decide +kernel
theorem d_Mo_strengthen_67 : decode Y_Mo_strengthen.2.2.1 67 = .ok (.bipush 8, 2) := by decide +kernel
theorem d_Mo_strengthen_69 : decode Y_Mo_strengthen.2.2.1 69 = .ok (.iload_n 3, 1) := by decide +kernel
theorem d_Mo_strengthen_70 : decode Y_Mo_strengthen.2.2.1 70 = .ok (.imul, 1) := by decide +kernel
theorem d_Mo_strengthen_71 : decode Y_Mo_strengthen.2.2.1 71 = .ok (.iload 4, 2) := by decide +kernel
theorem d_Mo_strengthen_73 : decode Y_Mo_strengthen.2.2.1 73 = .ok (.iadd, 1) := by decide +kernel
theorem d_Mo_strengthen_74 : decode Y_Mo_strengthen.2.2.1 74 = .ok (.iaload, 1) := by decide +kernel
theorem d_Mo_strengthen_75 : decode Y_Mo_strengthen.2.2.1 75 = .ok (.aload_n 0, 1) := by decide +kernel
theorem d_Mo_strengthen_76 : decode Y_Mo_strengthen.2.2.1 76 = .ok (.getfield 28, 3) := by decide +kernel
theorem d_Mo_strengthen_79 : decode Y_Mo_strengthen.2.2.1 79 = .ok (.bipush 8, 2) := by decide +kernel
theorem d_Mo_strengthen_81 : decode Y_Mo_strengthen.2.2.1 81 = .ok (.iload 4, 2) := by decide +kernel
theorem d_Mo_strengthen_83 : decode Y_Mo_strengthen.2.2.1 83 = .ok (.imul, 1) := by decide +kernel
theorem d_Mo_strengthen_84 : decode Y_Mo_strengthen.2.2.1 84 = .ok (.iload 5, 2) := by decide +kernel
theorem d_Mo_strengthen_86 : decode Y_Mo_strengthen.2.2.1 86 = .ok (.iadd, 1) := by decide +kernel
theorem d_Mo_strengthen_87 : decode Y_Mo_strengthen.2.2.1 87 = .ok (.iaload, 1) := by decide +kernel
theorem d_Mo_strengthen_88 : decode Y_Mo_strengthen.2.2.1 88 = .ok (.invokestatic 83, 3) := by decide +kernel
theorem d_Mo_strengthen_91 : decode Y_Mo_strengthen.2.2.1 91 = .ok (.istore 6, 2) := by decide +kernel
theorem d_Mo_strengthen_93 : decode Y_Mo_strengthen.2.2.1 93 = .ok (.iload_n 3, 1) := by decide +kernel
theorem d_Mo_strengthen_94 : decode Y_Mo_strengthen.2.2.1 94 = .ok (.iload 5, 2) := by decide +kernel
theorem d_Mo_strengthen_96 : decode Y_Mo_strengthen.2.2.1 96 = .ok (.if_icmp .eq 36, 3) := by decide +kernel
theorem d_Mo_strengthen_99 : decode Y_Mo_strengthen.2.2.1 99 = .ok (.iload 6, 2) := by decide +kernel
theorem d_Mo_strengthen_101 : decode Y_Mo_strengthen.2.2.1 101 = .ok (.aload_n 0, 1) := by decide +kernel
theorem d_Mo_strengthen_102 : decode Y_Mo_strengthen.2.2.1 102 = .ok (.getfield 31, 3) := by decide +kernel
theorem d_Mo_strengthen_105 : decode Y_Mo_strengthen.2.2.1 105 = .ok (.bipush 8, 2) := by decide +kernel
theorem d_Mo_strengthen_107 : decode Y_Mo_strengthen.2.2.1 107 = .ok (.iload_n 3, 1) := by decide +kernel
theorem d_Mo_strengthen_108 : decode Y_Mo_strengthen.2.2.1 108 = .ok (.imul, 1) := by decide +kernel
theorem d_Mo_strengthen_109 : decode Y_Mo_strengthen.2.2.1 109 = .ok (.iload 5, 2) := by decide +kernel
theorem d_Mo_strengthen_111 : decode Y_Mo_strengthen.2.2.1 111 = .ok (.iadd, 1) := by decide +kernel
theorem d_Mo_strengthen_112 : decode Y_Mo_strengthen.2.2.1 112 = .ok (.iaload, 1) := by decide +kernel
theorem d_Mo_strengthen_113 : decode Y_Mo_strengthen.2.2.1 113 = .ok (.if_icmp .le 19, 3) := by decide +kernel
theorem d_Mo_strengthen_116 : decode Y_Mo_strengthen.2.2.1 116 = .ok (.aload_n 0, 1) := by decide +kernel
theorem d_Mo_strengthen_117 : decode Y_Mo_strengthen.2.2.1 117 = .ok (.getfield 31, 3) := by decide +kernel
theorem d_Mo_strengthen_120 : decode Y_Mo_strengthen.2.2.1 120 = .ok (.bipush 8, 2) := by decide +kernel
theorem d_Mo_strengthen_122 : decode Y_Mo_strengthen.2.2.1 122 = .ok (.iload_n 3, 1) := by decide +kernel
theorem d_Mo_strengthen_123 : decode Y_Mo_strengthen.2.2.1 123 = .ok (.imul, 1) := by decide +kernel
theorem d_Mo_strengthen_124 : decode Y_Mo_strengthen.2.2.1 124 = .ok (.iload 5, 2) := by decide +kernel
theorem d_Mo_strengthen_126 : decode Y_Mo_strengthen.2.2.1 126 = .ok (.iadd, 1) := by decide +kernel
theorem d_Mo_strengthen_127 : decode Y_Mo_strengthen.2.2.1 127 = .ok (.iload 6, 2) := by decide +kernel
theorem d_Mo_strengthen_129 : decode Y_Mo_strengthen.2.2.1 129 = .ok (.iastore, 1) := by decide +kernel
theorem d_Mo_strengthen_130 : decode Y_Mo_strengthen.2.2.1 130 = .ok (.iconst 1, 1) := by decide +kernel
theorem d_Mo_strengthen_131 : decode Y_Mo_strengthen.2.2.1 131 = .ok (.istore_n 1, 1) := by decide +kernel
theorem d_Mo_strengthen_132 : decode Y_Mo_strengthen.2.2.1 132 = .ok (.iinc 2 1, 3) := by decide +kernel
theorem d_Mo_strengthen_135 : decode Y_Mo_strengthen.2.2.1 135 = .ok (.goto (-99), 3) := by decide +kernel
theorem d_Mo_strengthen_138 : decode Y_Mo_strengthen.2.2.1 138 = .ok (.goto (-110), 3) := by decide +kernel
theorem d_Mo_strengthen_141 : decode Y_Mo_strengthen.2.2.1 141 = .ok (.return_, 1) := by decide +kernel
theorem d_Mo_lacks_0 : decode Y_Mo_lacks.2.2.1 0 = .ok (.aload_n 0, 1) := by decide +kernel
theorem d_Mo_lacks_1 : decode Y_Mo_lacks.2.2.1 1 = .ok (.aload_n 0, 1) := by decide +kernel
theorem d_Mo_lacks_2 : decode Y_Mo_lacks.2.2.1 2 = .ok (.iload_n 1, 1) := by decide +kernel
theorem d_Mo_lacks_3 : decode Y_Mo_lacks.2.2.1 3 = .ok (.invokevirtual 57, 3) := by decide +kernel
theorem d_Mo_lacks_6 : decode Y_Mo_lacks.2.2.1 6 = .ok (.ifCond .eq 16, 3) := by decide +kernel
theorem d_Mo_lacks_9 : decode Y_Mo_lacks.2.2.1 9 = .ok (.aload_n 0, 1) := by decide +kernel
theorem d_Mo_lacks_10 : decode Y_Mo_lacks.2.2.1 10 = .ok (.iload_n 2, 1) := by decide +kernel
theorem d_Mo_lacks_11 : decode Y_Mo_lacks.2.2.1 11 = .ok (.invokevirtual 57, 3) := by decide +kernel
theorem d_Mo_lacks_14 : decode Y_Mo_lacks.2.2.1 14 = .ok (.ifCond .eq 8, 3) := by decide +kernel
theorem d_Mo_lacks_17 : decode Y_Mo_lacks.2.2.1 17 = .ok (.iload_n 1, 1) := by decide +kernel
theorem d_Mo_lacks_18 : decode Y_Mo_lacks.2.2.1 18 = .ok (.iload_n 2, 1) := by decide +kernel
theorem d_Mo_lacks_19 : decode Y_Mo_lacks.2.2.1 19 = .ok (.if_icmp .ne 7, 3) := by decide +kernel
theorem d_Mo_lacks_22 : decode Y_Mo_lacks.2.2.1 22 = .ok (.iconst 1, 1) := by decide +kernel
theorem d_Mo_lacks_23 : decode Y_Mo_lacks.2.2.1 23 = .ok (.goto 4, 3) := by decide +kernel
theorem d_Mo_lacks_26 : decode Y_Mo_lacks.2.2.1 26 = .ok (.iconst 0, 1) := by decide +kernel
theorem d_Mo_lacks_27 : decode Y_Mo_lacks.2.2.1 27 = .ok (.putfield 51, 3) := by decide +kernel
theorem d_Mo_lacks_30 : decode Y_Mo_lacks.2.2.1 30 = .ok (.aload_n 0, 1) := by decide +kernel
theorem d_Mo_lacks_31 : decode Y_Mo_lacks.2.2.1 31 = .ok (.getfield 51, 3) := by decide +kernel
theorem d_Mo_lacks_34 : decode Y_Mo_lacks.2.2.1 34 = .ok (.ifCond .ne 12, 3) := by decide +kernel
theorem d_Mo_lacks_37 : decode Y_Mo_lacks.2.2.1 37 = .ok (.aload_n 0, 1) := by decide +kernel
theorem d_Mo_lacks_38 : decode Y_Mo_lacks.2.2.1 38 = .ok (.iconst (-1), 1) := by decide +kernel
theorem d_Mo_lacks_39 : decode Y_Mo_lacks.2.2.1 39 = .ok (.invokevirtual 86, 3) := by decide +kernel
theorem d_Mo_lacks_42 : decode Y_Mo_lacks.2.2.1 42 = .ok (.aload_n 0, 1) := by decide +kernel
theorem d_Mo_lacks_43 : decode Y_Mo_lacks.2.2.1 43 = .ok (.invokevirtual 90, 3) := by decide +kernel
theorem d_Mo_lacks_46 : decode Y_Mo_lacks.2.2.1 46 = .ok (.aload_n 0, 1) := by decide +kernel
theorem d_Mo_lacks_47 : decode Y_Mo_lacks.2.2.1 47 = .ok (.getfield 51, 3) := by decide +kernel
theorem d_Mo_lacks_50 : decode Y_Mo_lacks.2.2.1 50 = .ok (.ifCond .le 7, 3) := by decide +kernel
theorem d_Mo_lacks_53 : decode Y_Mo_lacks.2.2.1 53 = .ok (.iconst 1, 1) := by decide +kernel
theorem d_Mo_lacks_54 : decode Y_Mo_lacks.2.2.1 54 = .ok (.goto 4, 3) := by decide +kernel
theorem d_Mo_lacks_57 : decode Y_Mo_lacks.2.2.1 57 = .ok (.iconst 0, 1) := by decide +kernel
theorem d_Mo_lacks_58 : decode Y_Mo_lacks.2.2.1 58 = .ok (.ireturn, 1) := by decide +kernel
theorem d_Mo_prefer_0 : decode Y_Mo_prefer.2.2.1 0 = .ok (.aload_n 0, 1) := by decide +kernel
theorem d_Mo_prefer_1 : decode Y_Mo_prefer.2.2.1 1 = .ok (.iload_n 1, 1) := by decide +kernel
theorem d_Mo_prefer_2 : decode Y_Mo_prefer.2.2.1 2 = .ok (.iload_n 2, 1) := by decide +kernel
theorem d_Mo_prefer_3 : decode Y_Mo_prefer.2.2.1 3 = .ok (.invokevirtual 93, 3) := by decide +kernel
theorem d_Mo_prefer_6 : decode Y_Mo_prefer.2.2.1 6 = .ok (.ifCond .eq 7, 3) := by decide +kernel
theorem d_Mo_prefer_9 : decode Y_Mo_prefer.2.2.1 9 = .ok (.iconst 0, 1) := by decide +kernel
theorem d_Mo_prefer_10 : decode Y_Mo_prefer.2.2.1 10 = .ok (.goto 14, 3) := by decide +kernel
theorem d_Mo_prefer_13 : decode Y_Mo_prefer.2.2.1 13 = .ok (.aload_n 0, 1) := by decide +kernel
theorem d_Mo_prefer_14 : decode Y_Mo_prefer.2.2.1 14 = .ok (.getfield 25, 3) := by decide +kernel
theorem d_Mo_prefer_17 : decode Y_Mo_prefer.2.2.1 17 = .ok (.bipush 8, 2) := by decide +kernel
theorem d_Mo_prefer_19 : decode Y_Mo_prefer.2.2.1 19 = .ok (.iload_n 1, 1) := by decide +kernel
theorem d_Mo_prefer_20 : decode Y_Mo_prefer.2.2.1 20 = .ok (.imul, 1) := by decide +kernel
theorem d_Mo_prefer_21 : decode Y_Mo_prefer.2.2.1 21 = .ok (.iload_n 2, 1) := by decide +kernel
theorem d_Mo_prefer_22 : decode Y_Mo_prefer.2.2.1 22 = .ok (.iadd, 1) := by decide +kernel
theorem d_Mo_prefer_23 : decode Y_Mo_prefer.2.2.1 23 = .ok (.iaload, 1) := by decide +kernel
theorem d_Mo_prefer_24 : decode Y_Mo_prefer.2.2.1 24 = .ok (.ireturn, 1) := by decide +kernel
theorem d_Mo_strength_0 : decode Y_Mo_strength.2.2.1 0 = .ok (.aload_n 0, 1) := by decide +kernel
theorem d_Mo_strength_1 : decode Y_Mo_strength.2.2.1 1 = .ok (.iload_n 1, 1) := by decide +kernel
theorem d_Mo_strength_2 : decode Y_Mo_strength.2.2.1 2 = .ok (.iload_n 2, 1) := by decide +kernel
theorem d_Mo_strength_3 : decode Y_Mo_strength.2.2.1 3 = .ok (.invokevirtual 93, 3) := by decide +kernel
theorem d_Mo_strength_6 : decode Y_Mo_strength.2.2.1 6 = .ok (.ifCond .eq 7, 3) := by decide +kernel
theorem d_Mo_strength_9 : decode Y_Mo_strength.2.2.1 9 = .ok (.iconst 0, 1) := by decide +kernel
theorem d_Mo_strength_10 : decode Y_Mo_strength.2.2.1 10 = .ok (.goto 14, 3) := by decide +kernel
theorem d_Mo_strength_13 : decode Y_Mo_strength.2.2.1 13 = .ok (.aload_n 0, 1) := by decide +kernel
theorem d_Mo_strength_14 : decode Y_Mo_strength.2.2.1 14 = .ok (.getfield 31, 3) := by decide +kernel
theorem d_Mo_strength_17 : decode Y_Mo_strength.2.2.1 17 = .ok (.bipush 8, 2) := by decide +kernel
theorem d_Mo_strength_19 : decode Y_Mo_strength.2.2.1 19 = .ok (.iload_n 1, 1) := by decide +kernel
theorem d_Mo_strength_20 : decode Y_Mo_strength.2.2.1 20 = .ok (.imul, 1) := by decide +kernel
theorem d_Mo_strength_21 : decode Y_Mo_strength.2.2.1 21 = .ok (.iload_n 2, 1) := by decide +kernel
theorem d_Mo_strength_22 : decode Y_Mo_strength.2.2.1 22 = .ok (.iadd, 1) := by decide +kernel
theorem d_Mo_strength_23 : decode Y_Mo_strength.2.2.1 23 = .ok (.iaload, 1) := by decide +kernel
theorem d_Mo_strength_24 : decode Y_Mo_strength.2.2.1 24 = .ok (.ireturn, 1) := by decide +kernel
theorem d_Mo_way_0 : decode Y_Mo_way.2.2.1 0 = .ok (.aload_n 0, 1) := by decide +kernel
theorem d_Mo_way_1 : decode Y_Mo_way.2.2.1 1 = .ok (.iload_n 1, 1) := by decide +kernel
theorem d_Mo_way_2 : decode Y_Mo_way.2.2.1 2 = .ok (.iload_n 2, 1) := by decide +kernel
theorem d_Mo_way_3 : decode Y_Mo_way.2.2.1 3 = .ok (.invokevirtual 93, 3) := by decide +kernel
theorem d_Mo_way_6 : decode Y_Mo_way.2.2.1 6 = .ok (.ifCond .eq 5, 3) := by decide +kernel
theorem d_Mo_way_9 : decode Y_Mo_way.2.2.1 9 = .ok (.iconst 0, 1) := by decide +kernel
theorem d_Mo_way_10 : decode Y_Mo_way.2.2.1 10 = .ok (.ireturn, 1) := by decide +kernel
theorem d_Mo_way_11 : decode Y_Mo_way.2.2.1 11 = .ok (.aload_n 0, 1) := by decide +kernel
theorem d_Mo_way_12 : decode Y_Mo_way.2.2.1 12 = .ok (.getfield 31, 3) := by decide +kernel
theorem d_Mo_way_15 : decode Y_Mo_way.2.2.1 15 = .ok (.bipush 8, 2) := by decide +kernel
theorem d_Mo_way_17 : decode Y_Mo_way.2.2.1 17 = .ok (.iload_n 1, 1) := by decide +kernel
theorem d_Mo_way_18 : decode Y_Mo_way.2.2.1 18 = .ok (.imul, 1) := by decide +kernel
theorem d_Mo_way_19 : decode Y_Mo_way.2.2.1 19 = .ok (.iload_n 2, 1) := by decide +kernel
theorem d_Mo_way_20 : decode Y_Mo_way.2.2.1 20 = .ok (.iadd, 1) := by decide +kernel
theorem d_Mo_way_21 : decode Y_Mo_way.2.2.1 21 = .ok (.iaload, 1) := by decide +kernel
theorem d_Mo_way_22 : decode Y_Mo_way.2.2.1 22 = .ok (.istore_n 3, 1) := by decide +kernel
theorem d_Mo_way_23 : decode Y_Mo_way.2.2.1 23 = .ok (.iload_n 3, 1) := by decide +kernel
theorem d_Mo_way_24 : decode Y_Mo_way.2.2.1 24 = .ok (.ifCond .ne 5, 3) := by decide +kernel
theorem d_Mo_way_27 : decode Y_Mo_way.2.2.1 27 = .ok (.iconst 0, 1) := by decide +kernel
theorem d_Mo_way_28 : decode Y_Mo_way.2.2.1 28 = .ok (.ireturn, 1) := by decide +kernel
theorem d_Mo_way_29 : decode Y_Mo_way.2.2.1 29 = .ok (.iconst 0, 1) := by decide +kernel
theorem d_Mo_way_30 : decode Y_Mo_way.2.2.1 30 = .ok (.istore 4, 2) := by decide +kernel
theorem d_Mo_way_32 : decode Y_Mo_way.2.2.1 32 = .ok (.iload 4, 2) := by decide +kernel
theorem d_Mo_way_34 : decode Y_Mo_way.2.2.1 34 = .ok (.bipush 8, 2) := by decide +kernel
theorem d_Mo_way_36 : decode Y_Mo_way.2.2.1 36 = .ok (.if_icmp .ge 28, 3) := by decide +kernel
theorem d_Mo_way_39 : decode Y_Mo_way.2.2.1 39 = .ok (.aload_n 0, 1) := by decide +kernel
theorem d_Mo_way_40 : decode Y_Mo_way.2.2.1 40 = .ok (.getfield 41, 3) := by decide +kernel
theorem d_Mo_way_43 : decode Y_Mo_way.2.2.1 43 = .ok (.iload 4, 2) := by decide +kernel
theorem d_Mo_way_45 : decode Y_Mo_way.2.2.1 45 = .ok (.iload 4, 2) := by decide +kernel
theorem d_Mo_way_47 : decode Y_Mo_way.2.2.1 47 = .ok (.iload_n 2, 1) := by decide +kernel
theorem d_Mo_way_48 : decode Y_Mo_way.2.2.1 48 = .ok (.if_icmp .ne 7, 3) := by decide +kernel
theorem d_Mo_way_51 : decode Y_Mo_way.2.2.1 51 = .ok (.iconst 0, 1) := by decide +kernel
theorem d_Mo_way_52 : decode Y_Mo_way.2.2.1 52 = .ok (.goto 5, 3) := by decide +kernel
theorem d_Mo_way_55 : decode Y_Mo_way.2.2.1 55 = .ok (.bipush 9, 2) := by decide +kernel
theorem d_Mo_way_57 : decode Y_Mo_way.2.2.1 57 = .ok (.iastore, 1) := by decide +kernel
theorem d_Mo_way_58 : decode Y_Mo_way.2.2.1 58 = .ok (.iinc 4 1, 3) := by decide +kernel
theorem d_Mo_way_61 : decode Y_Mo_way.2.2.1 61 = .ok (.goto (-29), 3) := by decide +kernel
theorem d_Mo_way_64 : decode Y_Mo_way.2.2.1 64 = .ok (.iconst 0, 1) := by decide +kernel
theorem d_Mo_way_65 : decode Y_Mo_way.2.2.1 65 = .ok (.istore 4, 2) := by decide +kernel
theorem d_Mo_way_67 : decode Y_Mo_way.2.2.1 67 = .ok (.iload 4, 2) := by decide +kernel
theorem d_Mo_way_69 : decode Y_Mo_way.2.2.1 69 = .ok (.bipush 8, 2) := by decide +kernel
theorem d_Mo_way_71 : decode Y_Mo_way.2.2.1 71 = .ok (.if_icmp .ge 108, 3) := by decide +kernel
theorem d_Mo_way_74 : decode Y_Mo_way.2.2.1 74 = .ok (.iconst 0, 1) := by decide +kernel
theorem d_Mo_way_75 : decode Y_Mo_way.2.2.1 75 = .ok (.istore 5, 2) := by decide +kernel
theorem d_Mo_way_77 : decode Y_Mo_way.2.2.1 77 = .ok (.iload 5, 2) := by decide +kernel
theorem d_Mo_way_79 : decode Y_Mo_way.2.2.1 79 = .ok (.bipush 64, 2) := by decide +kernel
theorem d_Mo_way_81 : decode Y_Mo_way.2.2.1 81 = .ok (.if_icmp .ge 92, 3) := by decide +kernel
theorem d_Mo_way_84 : decode Y_Mo_way.2.2.1 84 = .ok (.aload_n 0, 1) := by decide +kernel
theorem d_Mo_way_85 : decode Y_Mo_way.2.2.1 85 = .ok (.getfield 28, 3) := by decide +kernel
theorem d_Mo_way_88 : decode Y_Mo_way.2.2.1 88 = .ok (.iload 5, 2) := by decide +kernel
theorem d_Mo_way_90 : decode Y_Mo_way.2.2.1 90 = .ok (.iaload, 1) := by decide +kernel
theorem d_Mo_way_91 : decode Y_Mo_way.2.2.1 91 = .ok (.iload_n 3, 1) := by decide +kernel
theorem d_Mo_way_92 : decode Y_Mo_way.2.2.1 92 = .ok (.if_icmp .lt 32, 3) := by decide +kernel
theorem d_Mo_way_95 : decode Y_Mo_way.2.2.1 95 = .ok (.aload_n 0, 1) := by decide +kernel
theorem d_Mo_way_96 : decode Y_Mo_way.2.2.1 96 = .ok (.getfield 41, 3) := by decide +kernel
theorem d_Mo_way_99 : decode Y_Mo_way.2.2.1 99 = .ok (.iload 5, 2) := by decide +kernel
theorem d_Mo_way_101 : decode Y_Mo_way.2.2.1 101 = .ok (.bipush 8, 2) := by decide +kernel
theorem d_Mo_way_103 : decode Y_Mo_way.2.2.1 103 = .ok (.irem, 1) := by decide +kernel
theorem d_Mo_way_104 : decode Y_Mo_way.2.2.1 104 = .ok (.iaload, 1) := by decide +kernel
theorem d_Mo_way_105 : decode Y_Mo_way.2.2.1 105 = .ok (.iconst 1, 1) := by decide +kernel
theorem d_Mo_way_106 : decode Y_Mo_way.2.2.1 106 = .ok (.iadd, 1) := by decide +kernel
theorem d_Mo_way_107 : decode Y_Mo_way.2.2.1 107 = .ok (.aload_n 0, 1) := by decide +kernel
theorem d_Mo_way_108 : decode Y_Mo_way.2.2.1 108 = .ok (.getfield 41, 3) := by decide +kernel
theorem d_Mo_way_111 : decode Y_Mo_way.2.2.1 111 = .ok (.iload 5, 2) := by decide +kernel
theorem d_Mo_way_113 : decode Y_Mo_way.2.2.1 113 = .ok (.bipush 8, 2) := by decide +kernel
theorem d_Mo_way_115 : decode Y_Mo_way.2.2.1 115 = .ok (.idiv, 1) := by decide +kernel
theorem d_Mo_way_116 : decode Y_Mo_way.2.2.1 116 = .ok (.iaload, 1) := by decide +kernel
theorem d_Mo_way_117 : decode Y_Mo_way.2.2.1 117 = .ok (.if_icmp .ge 7, 3) := by decide +kernel
theorem d_Mo_way_120 : decode Y_Mo_way.2.2.1 120 = .ok (.iconst 1, 1) := by decide +kernel
theorem d_Mo_way_121 : decode Y_Mo_way.2.2.1 121 = .ok (.goto 4, 3) := by decide +kernel
theorem d_Mo_way_124 : decode Y_Mo_way.2.2.1 124 = .ok (.iconst 0, 1) := by decide +kernel
theorem d_Mo_way_125 : decode Y_Mo_way.2.2.1 125 = .ok (.istore 6, 2) := by decide +kernel
theorem d_Mo_way_127 : decode Y_Mo_way.2.2.1 127 = .ok (.aload_n 0, 1) := by decide +kernel
theorem d_Mo_way_128 : decode Y_Mo_way.2.2.1 128 = .ok (.getfield 41, 3) := by decide +kernel
theorem d_Mo_way_131 : decode Y_Mo_way.2.2.1 131 = .ok (.iload 5, 2) := by decide +kernel
theorem d_Mo_way_133 : decode Y_Mo_way.2.2.1 133 = .ok (.bipush 8, 2) := by decide +kernel
theorem d_Mo_way_135 : decode Y_Mo_way.2.2.1 135 = .ok (.idiv, 1) := by decide +kernel
theorem d_Mo_way_136 : decode Y_Mo_way.2.2.1 136 = .ok (.iload 6, 2) := by decide +kernel
theorem d_Mo_way_138 : decode Y_Mo_way.2.2.1 138 = .ok (.ifCond .eq 18, 3) := by decide +kernel
theorem d_Mo_way_141 : decode Y_Mo_way.2.2.1 141 = .ok (.aload_n 0, 1) := by decide +kernel
theorem d_Mo_way_142 : decode Y_Mo_way.2.2.1 142 = .ok (.getfield 41, 3) := by decide +kernel
theorem d_Mo_way_145 : decode Y_Mo_way.2.2.1 145 = .ok (.iload 5, 2) := by decide +kernel
theorem d_Mo_way_147 : decode Y_Mo_way.2.2.1 147 = .ok (.bipush 8, 2) := by decide +kernel
theorem d_Mo_way_149 : decode Y_Mo_way.2.2.1 149 = .ok (.irem, 1) := by decide +kernel
theorem d_Mo_way_150 : decode Y_Mo_way.2.2.1 150 = .ok (.iaload, 1) := by decide +kernel
theorem d_Mo_way_151 : decode Y_Mo_way.2.2.1 151 = .ok (.iconst 1, 1) := by decide +kernel
theorem d_Mo_way_152 : decode Y_Mo_way.2.2.1 152 = .ok (.iadd, 1) := by decide +kernel
theorem d_Mo_way_153 : decode Y_Mo_way.2.2.1 153 = .ok (.goto 13, 3) := by decide +kernel
theorem d_Mo_way_156 : decode Y_Mo_way.2.2.1 156 = .ok (.aload_n 0, 1) := by decide +kernel
theorem d_Mo_way_157 : decode Y_Mo_way.2.2.1 157 = .ok (.getfield 41, 3) := by decide +kernel
theorem d_Mo_way_160 : decode Y_Mo_way.2.2.1 160 = .ok (.iload 5, 2) := by decide +kernel
theorem d_Mo_way_162 : decode Y_Mo_way.2.2.1 162 = .ok (.bipush 8, 2) := by decide +kernel
theorem d_Mo_way_164 : decode Y_Mo_way.2.2.1 164 = .ok (.idiv, 1) := by decide +kernel
theorem d_Mo_way_165 : decode Y_Mo_way.2.2.1 165 = .ok (.iaload, 1) := by decide +kernel
theorem d_Mo_way_166 : decode Y_Mo_way.2.2.1 166 = .ok (.iastore, 1) := by decide +kernel
theorem d_Mo_way_167 : decode Y_Mo_way.2.2.1 167 = .ok (.iinc 5 1, 3) := by decide +kernel
theorem d_Mo_way_170 : decode Y_Mo_way.2.2.1 170 = .ok (.goto (-93), 3) := by decide +kernel
theorem d_Mo_way_173 : decode Y_Mo_way.2.2.1 173 = .ok (.iinc 4 1, 3) := by decide +kernel
theorem d_Mo_way_176 : decode Y_Mo_way.2.2.1 176 = .ok (.goto (-109), 3) := by decide +kernel
theorem d_Mo_way_179 : decode Y_Mo_way.2.2.1 179 = .ok (.iload_n 1, 1) := by decide +kernel
theorem d_Mo_way_180 : decode Y_Mo_way.2.2.1 180 = .ok (.iconst 1, 1) := by decide +kernel
theorem d_Mo_way_181 : decode Y_Mo_way.2.2.1 181 = .ok (.iadd, 1) := by decide +kernel
theorem d_Mo_way_182 : decode Y_Mo_way.2.2.1 182 = .ok (.istore 4, 2) := by decide +kernel
theorem d_Mo_way_184 : decode Y_Mo_way.2.2.1 184 = .ok (.iload_n 1, 1) := by decide +kernel
theorem d_Mo_way_185 : decode Y_Mo_way.2.2.1 185 = .ok (.istore 5, 2) := by decide +kernel
theorem d_Mo_way_187 : decode Y_Mo_way.2.2.1 187 = .ok (.iconst 1, 1) := by decide +kernel
theorem d_Mo_way_188 : decode Y_Mo_way.2.2.1 188 = .ok (.istore 6, 2) := by decide +kernel
theorem d_Mo_way_190 : decode Y_Mo_way.2.2.1 190 = .ok (.iload 5, 2) := by decide +kernel
theorem d_Mo_way_192 : decode Y_Mo_way.2.2.1 192 = .ok (.iload_n 2, 1) := by decide +kernel
theorem d_Mo_way_193 : decode Y_Mo_way.2.2.1 193 = .ok (.if_icmp .eq 90, 3) := by decide +kernel
theorem d_Mo_way_196 : decode Y_Mo_way.2.2.1 196 = .ok (.iconst (-1), 1) := by decide +kernel
theorem d_Mo_way_197 : decode Y_Mo_way.2.2.1 197 = .ok (.istore 7, 2) := by decide +kernel
theorem d_Mo_way_199 : decode Y_Mo_way.2.2.1 199 = .ok (.bipush 7, 2) := by decide +kernel
theorem d_Mo_way_201 : decode Y_Mo_way.2.2.1 201 = .ok (.istore 8, 2) := by decide +kernel
theorem d_Mo_way_203 : decode Y_Mo_way.2.2.1 203 = .ok (.iload 8, 2) := by decide +kernel
theorem d_Mo_way_205 : decode Y_Mo_way.2.2.1 205 = .ok (.ifCond .lt 54, 3) := by decide +kernel
theorem d_Mo_way_208 : decode Y_Mo_way.2.2.1 208 = .ok (.aload_n 0, 1) := by decide +kernel
theorem d_Mo_way_209 : decode Y_Mo_way.2.2.1 209 = .ok (.getfield 28, 3) := by decide +kernel
theorem d_Mo_way_212 : decode Y_Mo_way.2.2.1 212 = .ok (.bipush 8, 2) := by decide +kernel
theorem d_Mo_way_214 : decode Y_Mo_way.2.2.1 214 = .ok (.iload 5, 2) := by decide +kernel
theorem d_Mo_way_216 : decode Y_Mo_way.2.2.1 216 = .ok (.imul, 1) := by decide +kernel
theorem d_Mo_way_217 : decode Y_Mo_way.2.2.1 217 = .ok (.iload 8, 2) := by decide +kernel
theorem d_Mo_way_219 : decode Y_Mo_way.2.2.1 219 = .ok (.iadd, 1) := by decide +kernel
theorem d_Mo_way_220 : decode Y_Mo_way.2.2.1 220 = .ok (.iaload, 1) := by decide +kernel
theorem d_Mo_way_221 : decode Y_Mo_way.2.2.1 221 = .ok (.iload_n 3, 1) := by decide +kernel
theorem d_Mo_way_222 : decode Y_Mo_way.2.2.1 222 = .ok (.if_icmp .lt 27, 3) := by decide +kernel
theorem d_Mo_way_225 : decode Y_Mo_way.2.2.1 225 = .ok (.aload_n 0, 1) := by decide +kernel
theorem d_Mo_way_226 : decode Y_Mo_way.2.2.1 226 = .ok (.getfield 41, 3) := by decide +kernel
theorem d_Mo_way_229 : decode Y_Mo_way.2.2.1 229 = .ok (.iload 8, 2) := by decide +kernel
theorem d_Mo_way_231 : decode Y_Mo_way.2.2.1 231 = .ok (.iaload, 1) := by decide +kernel
theorem d_Mo_way_232 : decode Y_Mo_way.2.2.1 232 = .ok (.aload_n 0, 1) := by decide +kernel
theorem d_Mo_way_233 : decode Y_Mo_way.2.2.1 233 = .ok (.getfield 41, 3) := by decide +kernel
theorem d_Mo_way_236 : decode Y_Mo_way.2.2.1 236 = .ok (.iload 5, 2) := by decide +kernel
theorem d_Mo_way_238 : decode Y_Mo_way.2.2.1 238 = .ok (.iaload, 1) := by decide +kernel
theorem d_Mo_way_239 : decode Y_Mo_way.2.2.1 239 = .ok (.iconst 1, 1) := by decide +kernel
theorem d_Mo_way_240 : decode Y_Mo_way.2.2.1 240 = .ok (.isub, 1) := by decide +kernel
theorem d_Mo_way_241 : decode Y_Mo_way.2.2.1 241 = .ok (.if_icmp .ne 8, 3) := by decide +kernel
theorem d_Mo_way_244 : decode Y_Mo_way.2.2.1 244 = .ok (.iload 8, 2) := by decide +kernel
theorem d_Mo_way_246 : decode Y_Mo_way.2.2.1 246 = .ok (.goto 5, 3) := by decide +kernel
theorem d_Mo_way_249 : decode Y_Mo_way.2.2.1 249 = .ok (.iload 7, 2) := by decide +kernel
theorem d_Mo_way_251 : decode Y_Mo_way.2.2.1 251 = .ok (.istore 7, 2) := by decide +kernel
theorem d_Mo_way_253 : decode Y_Mo_way.2.2.1 253 = .ok (.iinc 8 (-1), 3) := by decide +kernel
theorem d_Mo_way_256 : decode Y_Mo_way.2.2.1 256 = .ok (.goto (-53), 3) := by decide +kernel
theorem d_Mo_way_259 : decode Y_Mo_way.2.2.1 259 = .ok (.iload 4, 2) := by decide +kernel
theorem d_Mo_way_261 : decode Y_Mo_way.2.2.1 261 = .ok (.iload 7, 2) := by decide +kernel
theorem d_Mo_way_263 : decode Y_Mo_way.2.2.1 263 = .ok (.iconst 1, 1) := by decide +kernel
theorem d_Mo_way_264 : decode Y_Mo_way.2.2.1 264 = .ok (.iadd, 1) := by decide +kernel
theorem d_Mo_way_265 : decode Y_Mo_way.2.2.1 265 = .ok (.iconst 4, 1) := by decide +kernel
theorem d_Mo_way_266 : decode Y_Mo_way.2.2.1 266 = .ok (.iload 6, 2) := by decide +kernel
theorem d_Mo_way_268 : decode Y_Mo_way.2.2.1 268 = .ok (.imul, 1) := by decide +kernel
theorem d_Mo_way_269 : decode Y_Mo_way.2.2.1 269 = .ok (.ishl, 1) := by decide +kernel
theorem d_Mo_way_270 : decode Y_Mo_way.2.2.1 270 = .ok (.ior, 1) := by decide +kernel
theorem d_Mo_way_271 : decode Y_Mo_way.2.2.1 271 = .ok (.istore 4, 2) := by decide +kernel
theorem d_Mo_way_273 : decode Y_Mo_way.2.2.1 273 = .ok (.iload 7, 2) := by decide +kernel
theorem d_Mo_way_275 : decode Y_Mo_way.2.2.1 275 = .ok (.istore 5, 2) := by decide +kernel
theorem d_Mo_way_277 : decode Y_Mo_way.2.2.1 277 = .ok (.iinc 6 1, 3) := by decide +kernel
theorem d_Mo_way_280 : decode Y_Mo_way.2.2.1 280 = .ok (.goto (-90), 3) := by decide +kernel
theorem d_Mo_way_283 : decode Y_Mo_way.2.2.1 283 = .ok (.iload 4, 2) := by decide +kernel
theorem d_Mo_way_285 : decode Y_Mo_way.2.2.1 285 = .ok (.ireturn, 1) := by decide +kernel
theorem d_Mo_cut_0 : decode Y_Mo_cut.2.2.1 0 = .ok (.aload_n 0, 1) := by decide +kernel
theorem d_Mo_cut_1 : decode Y_Mo_cut.2.2.1 1 = .ok (.iload_n 1, 1) := by decide +kernel
theorem d_Mo_cut_2 : decode Y_Mo_cut.2.2.1 2 = .ok (.iload_n 2, 1) := by decide +kernel
theorem d_Mo_cut_3 : decode Y_Mo_cut.2.2.1 3 = .ok (.invokevirtual 93, 3) := by decide +kernel
theorem d_Mo_cut_6 : decode Y_Mo_cut.2.2.1 6 = .ok (.ifCond .eq 5, 3) := by decide +kernel
theorem d_Mo_cut_9 : decode Y_Mo_cut.2.2.1 9 = .ok (.iconst 0, 1) := by decide +kernel
theorem d_Mo_cut_10 : decode Y_Mo_cut.2.2.1 10 = .ok (.ireturn, 1) := by decide +kernel
theorem d_Mo_cut_11 : decode Y_Mo_cut.2.2.1 11 = .ok (.aload_n 0, 1) := by decide +kernel
theorem d_Mo_cut_12 : decode Y_Mo_cut.2.2.1 12 = .ok (.getfield 31, 3) := by decide +kernel
theorem d_Mo_cut_15 : decode Y_Mo_cut.2.2.1 15 = .ok (.bipush 8, 2) := by decide +kernel
theorem d_Mo_cut_17 : decode Y_Mo_cut.2.2.1 17 = .ok (.iload_n 1, 1) := by decide +kernel
theorem d_Mo_cut_18 : decode Y_Mo_cut.2.2.1 18 = .ok (.imul, 1) := by decide +kernel
theorem d_Mo_cut_19 : decode Y_Mo_cut.2.2.1 19 = .ok (.iload_n 2, 1) := by decide +kernel
theorem d_Mo_cut_20 : decode Y_Mo_cut.2.2.1 20 = .ok (.iadd, 1) := by decide +kernel
theorem d_Mo_cut_21 : decode Y_Mo_cut.2.2.1 21 = .ok (.iaload, 1) := by decide +kernel
theorem d_Mo_cut_22 : decode Y_Mo_cut.2.2.1 22 = .ok (.istore_n 3, 1) := by decide +kernel
theorem d_Mo_cut_23 : decode Y_Mo_cut.2.2.1 23 = .ok (.iconst 1, 1) := by decide +kernel
theorem d_Mo_cut_24 : decode Y_Mo_cut.2.2.1 24 = .ok (.iload_n 1, 1) := by decide +kernel
theorem d_Mo_cut_25 : decode Y_Mo_cut.2.2.1 25 = .ok (.ishl, 1) := by decide +kernel
theorem d_Mo_cut_26 : decode Y_Mo_cut.2.2.1 26 = .ok (.istore 4, 2) := by decide +kernel
theorem d_Mo_cut_28 : decode Y_Mo_cut.2.2.1 28 = .ok (.iconst 0, 1) := by decide +kernel
theorem d_Mo_cut_29 : decode Y_Mo_cut.2.2.1 29 = .ok (.istore 5, 2) := by decide +kernel
theorem d_Mo_cut_31 : decode Y_Mo_cut.2.2.1 31 = .ok (.iload 5, 2) := by decide +kernel
theorem d_Mo_cut_33 : decode Y_Mo_cut.2.2.1 33 = .ok (.bipush 8, 2) := by decide +kernel
theorem d_Mo_cut_35 : decode Y_Mo_cut.2.2.1 35 = .ok (.if_icmp .ge 66, 3) := by decide +kernel
theorem d_Mo_cut_38 : decode Y_Mo_cut.2.2.1 38 = .ok (.iconst 0, 1) := by decide +kernel
theorem d_Mo_cut_39 : decode Y_Mo_cut.2.2.1 39 = .ok (.istore 6, 2) := by decide +kernel
theorem d_Mo_cut_41 : decode Y_Mo_cut.2.2.1 41 = .ok (.iload 6, 2) := by decide +kernel
theorem d_Mo_cut_43 : decode Y_Mo_cut.2.2.1 43 = .ok (.bipush 64, 2) := by decide +kernel
theorem d_Mo_cut_45 : decode Y_Mo_cut.2.2.1 45 = .ok (.if_icmp .ge 50, 3) := by decide +kernel
theorem d_Mo_cut_48 : decode Y_Mo_cut.2.2.1 48 = .ok (.iload 4, 2) := by decide +kernel
theorem d_Mo_cut_50 : decode Y_Mo_cut.2.2.1 50 = .ok (.iload 4, 2) := by decide +kernel
theorem d_Mo_cut_52 : decode Y_Mo_cut.2.2.1 52 = .ok (.iload 6, 2) := by decide +kernel
theorem d_Mo_cut_54 : decode Y_Mo_cut.2.2.1 54 = .ok (.bipush 8, 2) := by decide +kernel
theorem d_Mo_cut_56 : decode Y_Mo_cut.2.2.1 56 = .ok (.idiv, 1) := by decide +kernel
theorem d_Mo_cut_57 : decode Y_Mo_cut.2.2.1 57 = .ok (.ishr, 1) := by decide +kernel
theorem d_Mo_cut_58 : decode Y_Mo_cut.2.2.1 58 = .ok (.iconst 1, 1) := by decide +kernel
theorem d_Mo_cut_59 : decode Y_Mo_cut.2.2.1 59 = .ok (.iand, 1) := by decide +kernel
theorem d_Mo_cut_60 : decode Y_Mo_cut.2.2.1 60 = .ok (.iconst 1, 1) := by decide +kernel
theorem d_Mo_cut_61 : decode Y_Mo_cut.2.2.1 61 = .ok (.if_icmp .ne 24, 3) := by decide +kernel
theorem d_Mo_cut_64 : decode Y_Mo_cut.2.2.1 64 = .ok (.aload_n 0, 1) := by decide +kernel
theorem d_Mo_cut_65 : decode Y_Mo_cut.2.2.1 65 = .ok (.getfield 28, 3) := by decide +kernel
theorem d_Mo_cut_68 : decode Y_Mo_cut.2.2.1 68 = .ok (.iload 6, 2) := by decide +kernel
theorem d_Mo_cut_70 : decode Y_Mo_cut.2.2.1 70 = .ok (.iaload, 1) := by decide +kernel
theorem d_Mo_cut_71 : decode Y_Mo_cut.2.2.1 71 = .ok (.iload_n 3, 1) := by decide +kernel
theorem d_Mo_cut_72 : decode Y_Mo_cut.2.2.1 72 = .ok (.if_icmp .le 13, 3) := by decide +kernel
theorem d_Mo_cut_75 : decode Y_Mo_cut.2.2.1 75 = .ok (.iconst 1, 1) := by decide +kernel
theorem d_Mo_cut_76 : decode Y_Mo_cut.2.2.1 76 = .ok (.iload 6, 2) := by decide +kernel
theorem d_Mo_cut_78 : decode Y_Mo_cut.2.2.1 78 = .ok (.bipush 8, 2) := by decide +kernel
theorem d_Mo_cut_80 : decode Y_Mo_cut.2.2.1 80 = .ok (.irem, 1) := by decide +kernel
theorem d_Mo_cut_81 : decode Y_Mo_cut.2.2.1 81 = .ok (.ishl, 1) := by decide +kernel
theorem d_Mo_cut_82 : decode Y_Mo_cut.2.2.1 82 = .ok (.goto 4, 3) := by decide +kernel
theorem d_Mo_cut_85 : decode Y_Mo_cut.2.2.1 85 = .ok (.iconst 0, 1) := by decide +kernel
theorem d_Mo_cut_86 : decode Y_Mo_cut.2.2.1 86 = .ok (.ior, 1) := by decide +kernel
theorem d_Mo_cut_87 : decode Y_Mo_cut.2.2.1 87 = .ok (.istore 4, 2) := by decide +kernel
theorem d_Mo_cut_89 : decode Y_Mo_cut.2.2.1 89 = .ok (.iinc 6 1, 3) := by decide +kernel
theorem d_Mo_cut_92 : decode Y_Mo_cut.2.2.1 92 = .ok (.goto (-51), 3) := by decide +kernel
theorem d_Mo_cut_95 : decode Y_Mo_cut.2.2.1 95 = .ok (.iinc 5 1, 3) := by decide +kernel
theorem d_Mo_cut_98 : decode Y_Mo_cut.2.2.1 98 = .ok (.goto (-67), 3) := by decide +kernel
theorem d_Mo_cut_101 : decode Y_Mo_cut.2.2.1 101 = .ok (.iload 4, 2) := by decide +kernel
theorem d_Mo_cut_103 : decode Y_Mo_cut.2.2.1 103 = .ok (.ireturn, 1) := by decide +kernel
theorem d_Mo_isWay_0 : decode Y_Mo_isWay.2.2.1 0 = .ok (.iconst 0, 1) := by decide +kernel
theorem d_Mo_isWay_1 : decode Y_Mo_isWay.2.2.1 1 = .ok (.istore 5, 2) := by decide +kernel
theorem d_Mo_isWay_3 : decode Y_Mo_isWay.2.2.1 3 = .ok (.iload 5, 2) := by decide +kernel
theorem d_Mo_isWay_5 : decode Y_Mo_isWay.2.2.1 5 = .ok (.bipush 8, 2) := by decide +kernel
theorem d_Mo_isWay_7 : decode Y_Mo_isWay.2.2.1 7 = .ok (.if_icmp .ge 22, 3) := by decide +kernel
theorem d_Mo_isWay_10 : decode Y_Mo_isWay.2.2.1 10 = .ok (.iload 4, 2) := by decide +kernel
theorem d_Mo_isWay_12 : decode Y_Mo_isWay.2.2.1 12 = .ok (.iconst 4, 1) := by decide +kernel
theorem d_Mo_isWay_13 : decode Y_Mo_isWay.2.2.1 13 = .ok (.iload 5, 2) := by decide +kernel
theorem d_Mo_isWay_15 : decode Y_Mo_isWay.2.2.1 15 = .ok (.imul, 1) := by decide +kernel
theorem d_Mo_isWay_16 : decode Y_Mo_isWay.2.2.1 16 = .ok (.iushr, 1) := by decide +kernel
theorem d_Mo_isWay_17 : decode Y_Mo_isWay.2.2.1 17 = .ok (.bipush 15, 2) := by decide +kernel
theorem d_Mo_isWay_19 : decode Y_Mo_isWay.2.2.1 19 = .ok (.iand, 1) := by decide +kernel
theorem d_Mo_isWay_20 : decode Y_Mo_isWay.2.2.1 20 = .ok (.ifCond .le 9, 3) := by decide +kernel
theorem d_Mo_isWay_23 : decode Y_Mo_isWay.2.2.1 23 = .ok (.iinc 5 1, 3) := by decide +kernel
theorem d_Mo_isWay_26 : decode Y_Mo_isWay.2.2.1 26 = .ok (.goto (-23), 3) := by decide +kernel
theorem d_Mo_isWay_29 : decode Y_Mo_isWay.2.2.1 29 = .ok (.iload 5, 2) := by decide +kernel
theorem d_Mo_isWay_31 : decode Y_Mo_isWay.2.2.1 31 = .ok (.iconst 2, 1) := by decide +kernel
theorem d_Mo_isWay_32 : decode Y_Mo_isWay.2.2.1 32 = .ok (.if_icmp .lt 20, 3) := by decide +kernel
theorem d_Mo_isWay_35 : decode Y_Mo_isWay.2.2.1 35 = .ok (.iload 5, 2) := by decide +kernel
theorem d_Mo_isWay_37 : decode Y_Mo_isWay.2.2.1 37 = .ok (.bipush 8, 2) := by decide +kernel
theorem d_Mo_isWay_39 : decode Y_Mo_isWay.2.2.1 39 = .ok (.if_icmp .ge 15, 3) := by decide +kernel
theorem d_Mo_isWay_42 : decode Y_Mo_isWay.2.2.1 42 = .ok (.iload 4, 2) := by decide +kernel
theorem d_Mo_isWay_44 : decode Y_Mo_isWay.2.2.1 44 = .ok (.iconst 4, 1) := by decide +kernel
theorem d_Mo_isWay_45 : decode Y_Mo_isWay.2.2.1 45 = .ok (.iload 5, 2) := by decide +kernel
theorem d_Mo_isWay_47 : decode Y_Mo_isWay.2.2.1 47 = .ok (.imul, 1) := by decide +kernel
theorem d_Mo_isWay_48 : decode Y_Mo_isWay.2.2.1 48 = .ok (.iushr, 1) := by decide +kernel
theorem d_Mo_isWay_49 : decode Y_Mo_isWay.2.2.1 49 = .ok (.ifCond .eq 5, 3) := by decide +kernel
theorem d_Mo_isWay_52 : decode Y_Mo_isWay.2.2.1 52 = .ok (.iconst 0, 1) := by decide +kernel
theorem d_Mo_isWay_53 : decode Y_Mo_isWay.2.2.1 53 = .ok (.ireturn, 1) := by decide +kernel
theorem d_Mo_isWay_54 : decode Y_Mo_isWay.2.2.1 54 = .ok (.iload 4, 2) := by decide +kernel
theorem d_Mo_isWay_56 : decode Y_Mo_isWay.2.2.1 56 = .ok (.bipush 15, 2) := by decide +kernel
theorem d_Mo_isWay_58 : decode Y_Mo_isWay.2.2.1 58 = .ok (.iand, 1) := by decide +kernel
theorem d_Mo_isWay_59 : decode Y_Mo_isWay.2.2.1 59 = .ok (.iconst 1, 1) := by decide +kernel
theorem d_Mo_isWay_60 : decode Y_Mo_isWay.2.2.1 60 = .ok (.isub, 1) := by decide +kernel
theorem d_Mo_isWay_61 : decode Y_Mo_isWay.2.2.1 61 = .ok (.iload_n 1, 1) := by decide +kernel
theorem d_Mo_isWay_62 : decode Y_Mo_isWay.2.2.1 62 = .ok (.if_icmp .ne 25, 3) := by decide +kernel
theorem d_Mo_isWay_65 : decode Y_Mo_isWay.2.2.1 65 = .ok (.iload 4, 2) := by decide +kernel
theorem d_Mo_isWay_67 : decode Y_Mo_isWay.2.2.1 67 = .ok (.iconst 4, 1) := by decide +kernel
theorem d_Mo_isWay_68 : decode Y_Mo_isWay.2.2.1 68 = .ok (.iload 5, 2) := by decide +kernel
theorem d_Mo_isWay_70 : decode Y_Mo_isWay.2.2.1 70 = .ok (.iconst 1, 1) := by decide +kernel
theorem d_Mo_isWay_71 : decode Y_Mo_isWay.2.2.1 71 = .ok (.isub, 1) := by decide +kernel
theorem d_Mo_isWay_72 : decode Y_Mo_isWay.2.2.1 72 = .ok (.imul, 1) := by decide +kernel
theorem d_Mo_isWay_73 : decode Y_Mo_isWay.2.2.1 73 = .ok (.iushr, 1) := by decide +kernel
theorem d_Mo_isWay_74 : decode Y_Mo_isWay.2.2.1 74 = .ok (.bipush 15, 2) := by decide +kernel
theorem d_Mo_isWay_76 : decode Y_Mo_isWay.2.2.1 76 = .ok (.iand, 1) := by decide +kernel
theorem d_Mo_isWay_77 : decode Y_Mo_isWay.2.2.1 77 = .ok (.iconst 1, 1) := by decide +kernel
theorem d_Mo_isWay_78 : decode Y_Mo_isWay.2.2.1 78 = .ok (.isub, 1) := by decide +kernel
theorem d_Mo_isWay_79 : decode Y_Mo_isWay.2.2.1 79 = .ok (.iload_n 2, 1) := by decide +kernel
theorem d_Mo_isWay_80 : decode Y_Mo_isWay.2.2.1 80 = .ok (.if_icmp .ne 7, 3) := by decide +kernel
theorem d_Mo_isWay_83 : decode Y_Mo_isWay.2.2.1 83 = .ok (.iconst 1, 1) := by decide +kernel
theorem d_Mo_isWay_84 : decode Y_Mo_isWay.2.2.1 84 = .ok (.goto 4, 3) := by decide +kernel
theorem d_Mo_isWay_87 : decode Y_Mo_isWay.2.2.1 87 = .ok (.iconst 0, 1) := by decide +kernel
theorem d_Mo_isWay_88 : decode Y_Mo_isWay.2.2.1 88 = .ok (.istore 6, 2) := by decide +kernel
theorem d_Mo_isWay_90 : decode Y_Mo_isWay.2.2.1 90 = .ok (.iconst 0, 1) := by decide +kernel
theorem d_Mo_isWay_91 : decode Y_Mo_isWay.2.2.1 91 = .ok (.istore 7, 2) := by decide +kernel
theorem d_Mo_isWay_93 : decode Y_Mo_isWay.2.2.1 93 = .ok (.iload 7, 2) := by decide +kernel
theorem d_Mo_isWay_95 : decode Y_Mo_isWay.2.2.1 95 = .ok (.iload 5, 2) := by decide +kernel
theorem d_Mo_isWay_97 : decode Y_Mo_isWay.2.2.1 97 = .ok (.if_icmp .ge 38, 3) := by decide +kernel
theorem d_Mo_isWay_100 : decode Y_Mo_isWay.2.2.1 100 = .ok (.iload 6, 2) := by decide +kernel
theorem d_Mo_isWay_102 : decode Y_Mo_isWay.2.2.1 102 = .ok (.ifCond .eq 24, 3) := by decide +kernel
theorem d_Mo_isWay_105 : decode Y_Mo_isWay.2.2.1 105 = .ok (.iload 4, 2) := by decide +kernel
theorem d_Mo_isWay_107 : decode Y_Mo_isWay.2.2.1 107 = .ok (.iconst 4, 1) := by decide +kernel
theorem d_Mo_isWay_108 : decode Y_Mo_isWay.2.2.1 108 = .ok (.iload 7, 2) := by decide +kernel
theorem d_Mo_isWay_110 : decode Y_Mo_isWay.2.2.1 110 = .ok (.imul, 1) := by decide +kernel
theorem d_Mo_isWay_111 : decode Y_Mo_isWay.2.2.1 111 = .ok (.iushr, 1) := by decide +kernel
theorem d_Mo_isWay_112 : decode Y_Mo_isWay.2.2.1 112 = .ok (.bipush 15, 2) := by decide +kernel
theorem d_Mo_isWay_114 : decode Y_Mo_isWay.2.2.1 114 = .ok (.iand, 1) := by decide +kernel
theorem d_Mo_isWay_115 : decode Y_Mo_isWay.2.2.1 115 = .ok (.aload_n 0, 1) := by decide +kernel
theorem d_Mo_isWay_116 : decode Y_Mo_isWay.2.2.1 116 = .ok (.getfield 47, 3) := by decide +kernel
theorem d_Mo_isWay_119 : decode Y_Mo_isWay.2.2.1 119 = .ok (.if_icmp .gt 7, 3) := by decide +kernel
theorem d_Mo_isWay_122 : decode Y_Mo_isWay.2.2.1 122 = .ok (.iconst 1, 1) := by decide +kernel
theorem d_Mo_isWay_123 : decode Y_Mo_isWay.2.2.1 123 = .ok (.goto 4, 3) := by decide +kernel
theorem d_Mo_isWay_126 : decode Y_Mo_isWay.2.2.1 126 = .ok (.iconst 0, 1) := by decide +kernel
theorem d_Mo_isWay_127 : decode Y_Mo_isWay.2.2.1 127 = .ok (.istore 6, 2) := by decide +kernel
theorem d_Mo_isWay_129 : decode Y_Mo_isWay.2.2.1 129 = .ok (.iinc 7 1, 3) := by decide +kernel
theorem d_Mo_isWay_132 : decode Y_Mo_isWay.2.2.1 132 = .ok (.goto (-39), 3) := by decide +kernel
theorem d_Mo_isWay_135 : decode Y_Mo_isWay.2.2.1 135 = .ok (.iconst 0, 1) := by decide +kernel
theorem d_Mo_isWay_136 : decode Y_Mo_isWay.2.2.1 136 = .ok (.istore 7, 2) := by decide +kernel
theorem d_Mo_isWay_138 : decode Y_Mo_isWay.2.2.1 138 = .ok (.iload 7, 2) := by decide +kernel
theorem d_Mo_isWay_140 : decode Y_Mo_isWay.2.2.1 140 = .ok (.iconst 1, 1) := by decide +kernel
theorem d_Mo_isWay_141 : decode Y_Mo_isWay.2.2.1 141 = .ok (.iadd, 1) := by decide +kernel
theorem d_Mo_isWay_142 : decode Y_Mo_isWay.2.2.1 142 = .ok (.iload 5, 2) := by decide +kernel
theorem d_Mo_isWay_144 : decode Y_Mo_isWay.2.2.1 144 = .ok (.if_icmp .ge 84, 3) := by decide +kernel
theorem d_Mo_isWay_147 : decode Y_Mo_isWay.2.2.1 147 = .ok (.iload 6, 2) := by decide +kernel
theorem d_Mo_isWay_149 : decode Y_Mo_isWay.2.2.1 149 = .ok (.ifCond .eq 79, 3) := by decide +kernel
theorem d_Mo_isWay_152 : decode Y_Mo_isWay.2.2.1 152 = .ok (.iload 4, 2) := by decide +kernel
theorem d_Mo_isWay_154 : decode Y_Mo_isWay.2.2.1 154 = .ok (.iconst 4, 1) := by decide +kernel
theorem d_Mo_isWay_155 : decode Y_Mo_isWay.2.2.1 155 = .ok (.iload 7, 2) := by decide +kernel
theorem d_Mo_isWay_157 : decode Y_Mo_isWay.2.2.1 157 = .ok (.imul, 1) := by decide +kernel
theorem d_Mo_isWay_158 : decode Y_Mo_isWay.2.2.1 158 = .ok (.iushr, 1) := by decide +kernel
theorem d_Mo_isWay_159 : decode Y_Mo_isWay.2.2.1 159 = .ok (.bipush 15, 2) := by decide +kernel
theorem d_Mo_isWay_161 : decode Y_Mo_isWay.2.2.1 161 = .ok (.iand, 1) := by decide +kernel
theorem d_Mo_isWay_162 : decode Y_Mo_isWay.2.2.1 162 = .ok (.iconst 1, 1) := by decide +kernel
theorem d_Mo_isWay_163 : decode Y_Mo_isWay.2.2.1 163 = .ok (.isub, 1) := by decide +kernel
theorem d_Mo_isWay_164 : decode Y_Mo_isWay.2.2.1 164 = .ok (.istore 8, 2) := by decide +kernel
theorem d_Mo_isWay_166 : decode Y_Mo_isWay.2.2.1 166 = .ok (.iload 4, 2) := by decide +kernel
theorem d_Mo_isWay_168 : decode Y_Mo_isWay.2.2.1 168 = .ok (.iconst 4, 1) := by decide +kernel
theorem d_Mo_isWay_169 : decode Y_Mo_isWay.2.2.1 169 = .ok (.iload 7, 2) := by decide +kernel
theorem d_Mo_isWay_171 : decode Y_Mo_isWay.2.2.1 171 = .ok (.iconst 1, 1) := by decide +kernel
theorem d_Mo_isWay_172 : decode Y_Mo_isWay.2.2.1 172 = .ok (.iadd, 1) := by decide +kernel
theorem d_Mo_isWay_173 : decode Y_Mo_isWay.2.2.1 173 = .ok (.imul, 1) := by decide +kernel
theorem d_Mo_isWay_174 : decode Y_Mo_isWay.2.2.1 174 = .ok (.iushr, 1) := by decide +kernel
theorem d_Mo_isWay_175 : decode Y_Mo_isWay.2.2.1 175 = .ok (.bipush 15, 2) := by decide +kernel
theorem d_Mo_isWay_177 : decode Y_Mo_isWay.2.2.1 177 = .ok (.iand, 1) := by decide +kernel
theorem d_Mo_isWay_178 : decode Y_Mo_isWay.2.2.1 178 = .ok (.iconst 1, 1) := by decide +kernel
theorem d_Mo_isWay_179 : decode Y_Mo_isWay.2.2.1 179 = .ok (.isub, 1) := by decide +kernel
theorem d_Mo_isWay_180 : decode Y_Mo_isWay.2.2.1 180 = .ok (.istore 9, 2) := by decide +kernel
theorem d_Mo_isWay_182 : decode Y_Mo_isWay.2.2.1 182 = .ok (.aload_n 0, 1) := by decide +kernel
theorem d_Mo_isWay_183 : decode Y_Mo_isWay.2.2.1 183 = .ok (.getfield 28, 3) := by decide +kernel
theorem d_Mo_isWay_186 : decode Y_Mo_isWay.2.2.1 186 = .ok (.bipush 8, 2) := by decide +kernel
theorem d_Mo_isWay_188 : decode Y_Mo_isWay.2.2.1 188 = .ok (.iload 8, 2) := by decide +kernel
theorem d_Mo_isWay_190 : decode Y_Mo_isWay.2.2.1 190 = .ok (.imul, 1) := by decide +kernel
theorem d_Mo_isWay_191 : decode Y_Mo_isWay.2.2.1 191 = .ok (.iload 9, 2) := by decide +kernel
theorem d_Mo_isWay_193 : decode Y_Mo_isWay.2.2.1 193 = .ok (.iadd, 1) := by decide +kernel
theorem d_Mo_isWay_194 : decode Y_Mo_isWay.2.2.1 194 = .ok (.iaload, 1) := by decide +kernel
theorem d_Mo_isWay_195 : decode Y_Mo_isWay.2.2.1 195 = .ok (.ifCond .le 24, 3) := by decide +kernel
theorem d_Mo_isWay_198 : decode Y_Mo_isWay.2.2.1 198 = .ok (.aload_n 0, 1) := by decide +kernel
theorem d_Mo_isWay_199 : decode Y_Mo_isWay.2.2.1 199 = .ok (.getfield 28, 3) := by decide +kernel
theorem d_Mo_isWay_202 : decode Y_Mo_isWay.2.2.1 202 = .ok (.bipush 8, 2) := by decide +kernel
theorem d_Mo_isWay_204 : decode Y_Mo_isWay.2.2.1 204 = .ok (.iload 8, 2) := by decide +kernel
theorem d_Mo_isWay_206 : decode Y_Mo_isWay.2.2.1 206 = .ok (.imul, 1) := by decide +kernel
theorem d_Mo_isWay_207 : decode Y_Mo_isWay.2.2.1 207 = .ok (.iload 9, 2) := by decide +kernel
theorem d_Mo_isWay_209 : decode Y_Mo_isWay.2.2.1 209 = .ok (.iadd, 1) := by decide +kernel
theorem d_Mo_isWay_210 : decode Y_Mo_isWay.2.2.1 210 = .ok (.iaload, 1) := by decide +kernel
theorem d_Mo_isWay_211 : decode Y_Mo_isWay.2.2.1 211 = .ok (.iload_n 3, 1) := by decide +kernel
theorem d_Mo_isWay_212 : decode Y_Mo_isWay.2.2.1 212 = .ok (.if_icmp .lt 7, 3) := by decide +kernel
theorem d_Mo_isWay_215 : decode Y_Mo_isWay.2.2.1 215 = .ok (.iconst 1, 1) := by decide +kernel
theorem d_Mo_isWay_216 : decode Y_Mo_isWay.2.2.1 216 = .ok (.goto 4, 3) := by decide +kernel
theorem d_Mo_isWay_219 : decode Y_Mo_isWay.2.2.1 219 = .ok (.iconst 0, 1) := by decide +kernel
theorem d_Mo_isWay_220 : decode Y_Mo_isWay.2.2.1 220 = .ok (.istore 6, 2) := by decide +kernel
theorem d_Mo_isWay_222 : decode Y_Mo_isWay.2.2.1 222 = .ok (.iinc 7 1, 3) := by decide +kernel
theorem d_Mo_isWay_225 : decode Y_Mo_isWay.2.2.1 225 = .ok (.goto (-87), 3) := by decide +kernel
theorem d_Mo_isWay_228 : decode Y_Mo_isWay.2.2.1 228 = .ok (.iload 6, 2) := by decide +kernel
theorem d_Mo_isWay_230 : decode Y_Mo_isWay.2.2.1 230 = .ok (.ireturn, 1) := by decide +kernel
theorem d_Mo_proves_0 : decode Y_Mo_proves.2.2.1 0 = .ok (.aload_n 0, 1) := by decide +kernel
theorem d_Mo_proves_1 : decode Y_Mo_proves.2.2.1 1 = .ok (.iload_n 1, 1) := by decide +kernel
theorem d_Mo_proves_2 : decode Y_Mo_proves.2.2.1 2 = .ok (.iload_n 2, 1) := by decide +kernel
theorem d_Mo_proves_3 : decode Y_Mo_proves.2.2.1 3 = .ok (.invokevirtual 93, 3) := by decide +kernel
theorem d_Mo_proves_6 : decode Y_Mo_proves.2.2.1 6 = .ok (.ifCond .eq 5, 3) := by decide +kernel
theorem d_Mo_proves_9 : decode Y_Mo_proves.2.2.1 9 = .ok (.iconst 0, 1) := by decide +kernel
theorem d_Mo_proves_10 : decode Y_Mo_proves.2.2.1 10 = .ok (.ireturn, 1) := by decide +kernel
theorem d_Mo_proves_11 : decode Y_Mo_proves.2.2.1 11 = .ok (.iload_n 3, 1) := by decide +kernel
theorem d_Mo_proves_12 : decode Y_Mo_proves.2.2.1 12 = .ok (.ifCond .ne 16, 3) := by decide +kernel
theorem d_Mo_proves_15 : decode Y_Mo_proves.2.2.1 15 = .ok (.iload 4, 2) := by decide +kernel
theorem d_Mo_proves_17 : decode Y_Mo_proves.2.2.1 17 = .ok (.ifCond .ne 7, 3) := by decide +kernel
theorem d_Mo_proves_20 : decode Y_Mo_proves.2.2.1 20 = .ok (.iconst 1, 1) := by decide +kernel
theorem d_Mo_proves_21 : decode Y_Mo_proves.2.2.1 21 = .ok (.goto 28, 3) := by decide +kernel
theorem d_Mo_proves_24 : decode Y_Mo_proves.2.2.1 24 = .ok (.iconst 0, 1) := by decide +kernel
theorem d_Mo_proves_25 : decode Y_Mo_proves.2.2.1 25 = .ok (.goto 24, 3) := by decide +kernel
theorem d_Mo_proves_28 : decode Y_Mo_proves.2.2.1 28 = .ok (.iload_n 3, 1) := by decide +kernel
theorem d_Mo_proves_29 : decode Y_Mo_proves.2.2.1 29 = .ok (.ifCond .le 19, 3) := by decide +kernel
theorem d_Mo_proves_32 : decode Y_Mo_proves.2.2.1 32 = .ok (.aload_n 0, 1) := by decide +kernel
theorem d_Mo_proves_33 : decode Y_Mo_proves.2.2.1 33 = .ok (.iload_n 1, 1) := by decide +kernel
theorem d_Mo_proves_34 : decode Y_Mo_proves.2.2.1 34 = .ok (.iload_n 2, 1) := by decide +kernel
theorem d_Mo_proves_35 : decode Y_Mo_proves.2.2.1 35 = .ok (.iload_n 3, 1) := by decide +kernel
theorem d_Mo_proves_36 : decode Y_Mo_proves.2.2.1 36 = .ok (.iload 4, 2) := by decide +kernel
theorem d_Mo_proves_38 : decode Y_Mo_proves.2.2.1 38 = .ok (.invokevirtual 97, 3) := by decide +kernel
theorem d_Mo_proves_41 : decode Y_Mo_proves.2.2.1 41 = .ok (.ifCond .eq 7, 3) := by decide +kernel
theorem d_Mo_proves_44 : decode Y_Mo_proves.2.2.1 44 = .ok (.iconst 1, 1) := by decide +kernel
theorem d_Mo_proves_45 : decode Y_Mo_proves.2.2.1 45 = .ok (.goto 4, 3) := by decide +kernel
theorem d_Mo_proves_48 : decode Y_Mo_proves.2.2.1 48 = .ok (.iconst 0, 1) := by decide +kernel
theorem d_Mo_proves_49 : decode Y_Mo_proves.2.2.1 49 = .ok (.istore 6, 2) := by decide +kernel
theorem d_Mo_proves_51 : decode Y_Mo_proves.2.2.1 51 = .ok (.iload 6, 2) := by decide +kernel
theorem d_Mo_proves_53 : decode Y_Mo_proves.2.2.1 53 = .ok (.ifCond .eq 38, 3) := by decide +kernel
theorem d_Mo_proves_56 : decode Y_Mo_proves.2.2.1 56 = .ok (.iload 5, 2) := by decide +kernel
theorem d_Mo_proves_58 : decode Y_Mo_proves.2.2.1 58 = .ok (.ifCond .lt 33, 3) := by decide +kernel
theorem d_Mo_proves_61 : decode Y_Mo_proves.2.2.1 61 = .ok (.iload 5, 2) := by decide +kernel
theorem d_Mo_proves_63 : decode Y_Mo_proves.2.2.1 63 = .ok (.iconst 1, 1) := by decide +kernel
theorem d_Mo_proves_64 : decode Y_Mo_proves.2.2.1 64 = .ok (.aload_n 0, 1) := by decide +kernel
theorem d_Mo_proves_65 : decode Y_Mo_proves.2.2.1 65 = .ok (.getfield 47, 3) := by decide +kernel
theorem d_Mo_proves_68 : decode Y_Mo_proves.2.2.1 68 = .ok (.ishl, 1) := by decide +kernel
theorem d_Mo_proves_69 : decode Y_Mo_proves.2.2.1 69 = .ok (.if_icmp .ge 22, 3) := by decide +kernel
theorem d_Mo_proves_72 : decode Y_Mo_proves.2.2.1 72 = .ok (.iload 5, 2) := by decide +kernel
theorem d_Mo_proves_74 : decode Y_Mo_proves.2.2.1 74 = .ok (.iload_n 1, 1) := by decide +kernel
theorem d_Mo_proves_75 : decode Y_Mo_proves.2.2.1 75 = .ok (.ishr, 1) := by decide +kernel
theorem d_Mo_proves_76 : decode Y_Mo_proves.2.2.1 76 = .ok (.iconst 1, 1) := by decide +kernel
theorem d_Mo_proves_77 : decode Y_Mo_proves.2.2.1 77 = .ok (.iand, 1) := by decide +kernel
theorem d_Mo_proves_78 : decode Y_Mo_proves.2.2.1 78 = .ok (.ifCond .eq 13, 3) := by decide +kernel
theorem d_Mo_proves_81 : decode Y_Mo_proves.2.2.1 81 = .ok (.iload 5, 2) := by decide +kernel
theorem d_Mo_proves_83 : decode Y_Mo_proves.2.2.1 83 = .ok (.iload_n 2, 1) := by decide +kernel
theorem d_Mo_proves_84 : decode Y_Mo_proves.2.2.1 84 = .ok (.ishr, 1) := by decide +kernel
theorem d_Mo_proves_85 : decode Y_Mo_proves.2.2.1 85 = .ok (.iconst 1, 1) := by decide +kernel
theorem d_Mo_proves_86 : decode Y_Mo_proves.2.2.1 86 = .ok (.iand, 1) := by decide +kernel
theorem d_Mo_proves_87 : decode Y_Mo_proves.2.2.1 87 = .ok (.iconst 1, 1) := by decide +kernel
theorem d_Mo_proves_88 : decode Y_Mo_proves.2.2.1 88 = .ok (.if_icmp .ne 5, 3) := by decide +kernel
theorem d_Mo_proves_91 : decode Y_Mo_proves.2.2.1 91 = .ok (.iconst 0, 1) := by decide +kernel
theorem d_Mo_proves_92 : decode Y_Mo_proves.2.2.1 92 = .ok (.ireturn, 1) := by decide +kernel
theorem d_Mo_proves_93 : decode Y_Mo_proves.2.2.1 93 = .ok (.iconst 1, 1) := by decide +kernel
theorem d_Mo_proves_94 : decode Y_Mo_proves.2.2.1 94 = .ok (.istore 7, 2) := by decide +kernel
theorem d_Mo_proves_96 : decode Y_Mo_proves.2.2.1 96 = .ok (.iconst 0, 1) := by decide +kernel
theorem d_Mo_proves_97 : decode Y_Mo_proves.2.2.1 97 = .ok (.istore 8, 2) := by decide +kernel
theorem d_Mo_proves_99 : decode Y_Mo_proves.2.2.1 99 = .ok (.iload 8, 2) := by decide +kernel
theorem d_Mo_proves_101 : decode Y_Mo_proves.2.2.1 101 = .ok (.bipush 64, 2) := by decide +kernel
theorem d_Mo_proves_103 : decode Y_Mo_proves.2.2.1 103 = .ok (.if_icmp .ge 59, 3) := by decide +kernel
theorem d_Mo_proves_106 : decode Y_Mo_proves.2.2.1 106 = .ok (.iload 7, 2) := by decide +kernel
theorem d_Mo_proves_108 : decode Y_Mo_proves.2.2.1 108 = .ok (.ifCond .eq 45, 3) := by decide +kernel
theorem d_Mo_proves_111 : decode Y_Mo_proves.2.2.1 111 = .ok (.iload 5, 2) := by decide +kernel
theorem d_Mo_proves_113 : decode Y_Mo_proves.2.2.1 113 = .ok (.iload 8, 2) := by decide +kernel
theorem d_Mo_proves_115 : decode Y_Mo_proves.2.2.1 115 = .ok (.bipush 8, 2) := by decide +kernel
theorem d_Mo_proves_117 : decode Y_Mo_proves.2.2.1 117 = .ok (.idiv, 1) := by decide +kernel
theorem d_Mo_proves_118 : decode Y_Mo_proves.2.2.1 118 = .ok (.ishr, 1) := by decide +kernel
theorem d_Mo_proves_119 : decode Y_Mo_proves.2.2.1 119 = .ok (.iconst 1, 1) := by decide +kernel
theorem d_Mo_proves_120 : decode Y_Mo_proves.2.2.1 120 = .ok (.iand, 1) := by decide +kernel
theorem d_Mo_proves_121 : decode Y_Mo_proves.2.2.1 121 = .ok (.ifCond .eq 28, 3) := by decide +kernel
theorem d_Mo_proves_124 : decode Y_Mo_proves.2.2.1 124 = .ok (.iload 5, 2) := by decide +kernel
theorem d_Mo_proves_126 : decode Y_Mo_proves.2.2.1 126 = .ok (.iload 8, 2) := by decide +kernel
theorem d_Mo_proves_128 : decode Y_Mo_proves.2.2.1 128 = .ok (.bipush 8, 2) := by decide +kernel
theorem d_Mo_proves_130 : decode Y_Mo_proves.2.2.1 130 = .ok (.irem, 1) := by decide +kernel
theorem d_Mo_proves_131 : decode Y_Mo_proves.2.2.1 131 = .ok (.ishr, 1) := by decide +kernel
theorem d_Mo_proves_132 : decode Y_Mo_proves.2.2.1 132 = .ok (.iconst 1, 1) := by decide +kernel
theorem d_Mo_proves_133 : decode Y_Mo_proves.2.2.1 133 = .ok (.iand, 1) := by decide +kernel
theorem d_Mo_proves_134 : decode Y_Mo_proves.2.2.1 134 = .ok (.iconst 1, 1) := by decide +kernel
theorem d_Mo_proves_135 : decode Y_Mo_proves.2.2.1 135 = .ok (.if_icmp .eq 14, 3) := by decide +kernel
theorem d_Mo_proves_138 : decode Y_Mo_proves.2.2.1 138 = .ok (.aload_n 0, 1) := by decide +kernel
theorem d_Mo_proves_139 : decode Y_Mo_proves.2.2.1 139 = .ok (.getfield 28, 3) := by decide +kernel
theorem d_Mo_proves_142 : decode Y_Mo_proves.2.2.1 142 = .ok (.iload 8, 2) := by decide +kernel
theorem d_Mo_proves_144 : decode Y_Mo_proves.2.2.1 144 = .ok (.iaload, 1) := by decide +kernel
theorem d_Mo_proves_145 : decode Y_Mo_proves.2.2.1 145 = .ok (.iload_n 3, 1) := by decide +kernel
theorem d_Mo_proves_146 : decode Y_Mo_proves.2.2.1 146 = .ok (.if_icmp .gt 7, 3) := by decide +kernel
theorem d_Mo_proves_149 : decode Y_Mo_proves.2.2.1 149 = .ok (.iconst 1, 1) := by decide +kernel
theorem d_Mo_proves_150 : decode Y_Mo_proves.2.2.1 150 = .ok (.goto 4, 3) := by decide +kernel
theorem d_Mo_proves_153 : decode Y_Mo_proves.2.2.1 153 = .ok (.iconst 0, 1) := by decide +kernel
theorem d_Mo_proves_154 : decode Y_Mo_proves.2.2.1 154 = .ok (.istore 7, 2) := by decide +kernel
theorem d_Mo_proves_156 : decode Y_Mo_proves.2.2.1 156 = .ok (.iinc 8 1, 3) := by decide +kernel
theorem d_Mo_proves_159 : decode Y_Mo_proves.2.2.1 159 = .ok (.goto (-60), 3) := by decide +kernel
theorem d_Mo_proves_162 : decode Y_Mo_proves.2.2.1 162 = .ok (.iload 7, 2) := by decide +kernel
theorem d_Mo_proves_164 : decode Y_Mo_proves.2.2.1 164 = .ok (.ireturn, 1) := by decide +kernel
theorem d_Mo_winners_0 : decode Y_Mo_winners.2.2.1 0 = .ok (.aload_n 0, 1) := by decide +kernel
theorem d_Mo_winners_1 : decode Y_Mo_winners.2.2.1 1 = .ok (.invokevirtual 90, 3) := by decide +kernel
theorem d_Mo_winners_4 : decode Y_Mo_winners.2.2.1 4 = .ok (.aload_n 0, 1) := by decide +kernel
theorem d_Mo_winners_5 : decode Y_Mo_winners.2.2.1 5 = .ok (.iconst 0, 1) := by decide +kernel
theorem d_Mo_winners_6 : decode Y_Mo_winners.2.2.1 6 = .ok (.putfield 101, 3) := by decide +kernel
theorem d_Mo_winners_9 : decode Y_Mo_winners.2.2.1 9 = .ok (.iconst 0, 1) := by decide +kernel
theorem d_Mo_winners_10 : decode Y_Mo_winners.2.2.1 10 = .ok (.istore_n 1, 1) := by decide +kernel
theorem d_Mo_winners_11 : decode Y_Mo_winners.2.2.1 11 = .ok (.iload_n 1, 1) := by decide +kernel
theorem d_Mo_winners_12 : decode Y_Mo_winners.2.2.1 12 = .ok (.aload_n 0, 1) := by decide +kernel
theorem d_Mo_winners_13 : decode Y_Mo_winners.2.2.1 13 = .ok (.getfield 47, 3) := by decide +kernel
theorem d_Mo_winners_16 : decode Y_Mo_winners.2.2.1 16 = .ok (.if_icmp .ge 91, 3) := by decide +kernel
theorem d_Mo_winners_19 : decode Y_Mo_winners.2.2.1 19 = .ok (.iconst 1, 1) := by decide +kernel
theorem d_Mo_winners_20 : decode Y_Mo_winners.2.2.1 20 = .ok (.istore_n 2, 1) := by decide +kernel
theorem d_Mo_winners_21 : decode Y_Mo_winners.2.2.1 21 = .ok (.iconst 0, 1) := by decide +kernel
theorem d_Mo_winners_22 : decode Y_Mo_winners.2.2.1 22 = .ok (.istore_n 3, 1) := by decide +kernel
theorem d_Mo_winners_23 : decode Y_Mo_winners.2.2.1 23 = .ok (.iload_n 3, 1) := by decide +kernel
theorem d_Mo_winners_24 : decode Y_Mo_winners.2.2.1 24 = .ok (.aload_n 0, 1) := by decide +kernel
theorem d_Mo_winners_25 : decode Y_Mo_winners.2.2.1 25 = .ok (.getfield 47, 3) := by decide +kernel
theorem d_Mo_winners_28 : decode Y_Mo_winners.2.2.1 28 = .ok (.if_icmp .ge 49, 3) := by decide +kernel
theorem d_Mo_winners_31 : decode Y_Mo_winners.2.2.1 31 = .ok (.iload_n 2, 1) := by decide +kernel
theorem d_Mo_winners_32 : decode Y_Mo_winners.2.2.1 32 = .ok (.ifCond .eq 37, 3) := by decide +kernel
theorem d_Mo_winners_35 : decode Y_Mo_winners.2.2.1 35 = .ok (.iload_n 1, 1) := by decide +kernel
theorem d_Mo_winners_36 : decode Y_Mo_winners.2.2.1 36 = .ok (.iload_n 3, 1) := by decide +kernel
theorem d_Mo_winners_37 : decode Y_Mo_winners.2.2.1 37 = .ok (.if_icmp .eq 28, 3) := by decide +kernel
theorem d_Mo_winners_40 : decode Y_Mo_winners.2.2.1 40 = .ok (.aload_n 0, 1) := by decide +kernel
theorem d_Mo_winners_41 : decode Y_Mo_winners.2.2.1 41 = .ok (.getfield 31, 3) := by decide +kernel
theorem d_Mo_winners_44 : decode Y_Mo_winners.2.2.1 44 = .ok (.bipush 8, 2) := by decide +kernel
theorem d_Mo_winners_46 : decode Y_Mo_winners.2.2.1 46 = .ok (.iload_n 1, 1) := by decide +kernel
theorem d_Mo_winners_47 : decode Y_Mo_winners.2.2.1 47 = .ok (.imul, 1) := by decide +kernel
theorem d_Mo_winners_48 : decode Y_Mo_winners.2.2.1 48 = .ok (.iload_n 3, 1) := by decide +kernel
theorem d_Mo_winners_49 : decode Y_Mo_winners.2.2.1 49 = .ok (.iadd, 1) := by decide +kernel
theorem d_Mo_winners_50 : decode Y_Mo_winners.2.2.1 50 = .ok (.iaload, 1) := by decide +kernel
theorem d_Mo_winners_51 : decode Y_Mo_winners.2.2.1 51 = .ok (.aload_n 0, 1) := by decide +kernel
theorem d_Mo_winners_52 : decode Y_Mo_winners.2.2.1 52 = .ok (.getfield 31, 3) := by decide +kernel
theorem d_Mo_winners_55 : decode Y_Mo_winners.2.2.1 55 = .ok (.bipush 8, 2) := by decide +kernel
theorem d_Mo_winners_57 : decode Y_Mo_winners.2.2.1 57 = .ok (.iload_n 3, 1) := by decide +kernel
theorem d_Mo_winners_58 : decode Y_Mo_winners.2.2.1 58 = .ok (.imul, 1) := by decide +kernel
theorem d_Mo_winners_59 : decode Y_Mo_winners.2.2.1 59 = .ok (.iload_n 1, 1) := by decide +kernel
theorem d_Mo_winners_60 : decode Y_Mo_winners.2.2.1 60 = .ok (.iadd, 1) := by decide +kernel
theorem d_Mo_winners_61 : decode Y_Mo_winners.2.2.1 61 = .ok (.iaload, 1) := by decide +kernel
theorem d_Mo_winners_62 : decode Y_Mo_winners.2.2.1 62 = .ok (.if_icmp .lt 7, 3) := by decide +kernel
theorem d_Mo_winners_65 : decode Y_Mo_winners.2.2.1 65 = .ok (.iconst 1, 1) := by decide +kernel
theorem d_Mo_winners_66 : decode Y_Mo_winners.2.2.1 66 = .ok (.goto 4, 3) := by decide +kernel
theorem d_Mo_winners_69 : decode Y_Mo_winners.2.2.1 69 = .ok (.iconst 0, 1) := by decide +kernel
theorem d_Mo_winners_70 : decode Y_Mo_winners.2.2.1 70 = .ok (.istore_n 2, 1) := by decide +kernel
theorem d_Mo_winners_71 : decode Y_Mo_winners.2.2.1 71 = .ok (.iinc 3 1, 3) := by decide +kernel
theorem d_Mo_winners_74 : decode Y_Mo_winners.2.2.1 74 = .ok (.goto (-51), 3) := by decide +kernel
theorem d_Mo_winners_77 : decode Y_Mo_winners.2.2.1 77 = .ok (.iload_n 2, 1) := by decide +kernel
theorem d_Mo_winners_78 : decode Y_Mo_winners.2.2.1 78 = .ok (.ifCond .eq 23, 3) := by decide +kernel
theorem d_Mo_winners_81 : decode Y_Mo_winners.2.2.1 81 = .ok (.aload_n 0, 1) := by decide +kernel
theorem d_Mo_winners_82 : decode Y_Mo_winners.2.2.1 82 = .ok (.getfield 44, 3) := by decide +kernel
theorem d_Mo_winners_85 : decode Y_Mo_winners.2.2.1 85 = .ok (.aload_n 0, 1) := by decide +kernel
theorem d_Mo_winners_86 : decode Y_Mo_winners.2.2.1 86 = .ok (.getfield 101, 3) := by decide +kernel
theorem d_Mo_winners_89 : decode Y_Mo_winners.2.2.1 89 = .ok (.iload_n 1, 1) := by decide +kernel
theorem d_Mo_winners_90 : decode Y_Mo_winners.2.2.1 90 = .ok (.iastore, 1) := by decide +kernel
theorem d_Mo_winners_91 : decode Y_Mo_winners.2.2.1 91 = .ok (.aload_n 0, 1) := by decide +kernel
theorem d_Mo_winners_92 : decode Y_Mo_winners.2.2.1 92 = .ok (.dup, 1) := by decide +kernel
theorem d_Mo_winners_93 : decode Y_Mo_winners.2.2.1 93 = .ok (.getfield 101, 3) := by decide +kernel
theorem d_Mo_winners_96 : decode Y_Mo_winners.2.2.1 96 = .ok (.iconst 1, 1) := by decide +kernel
theorem d_Mo_winners_97 : decode Y_Mo_winners.2.2.1 97 = .ok (.iadd, 1) := by decide +kernel
theorem d_Mo_winners_98 : decode Y_Mo_winners.2.2.1 98 = .ok (.putfield 101, 3) := by decide +kernel
theorem d_Mo_winners_101 : decode Y_Mo_winners.2.2.1 101 = .ok (.iinc 1 1, 3) := by decide +kernel
theorem d_Mo_winners_104 : decode Y_Mo_winners.2.2.1 104 = .ok (.goto (-93), 3) := by decide +kernel
theorem d_Mo_winners_107 : decode Y_Mo_winners.2.2.1 107 = .ok (.return_, 1) := by decide +kernel
theorem d_Mo_isBefore_0 : decode Y_Mo_isBefore.2.2.1 0 = .ok (.bipush 8, 2) := by decide +kernel
theorem d_Mo_isBefore_2 : decode Y_Mo_isBefore.2.2.1 2 = .ok (.iload_n 1, 1) := by decide +kernel
theorem d_Mo_isBefore_3 : decode Y_Mo_isBefore.2.2.1 3 = .ok (.bipush 8, 2) := by decide +kernel
theorem d_Mo_isBefore_5 : decode Y_Mo_isBefore.2.2.1 5 = .ok (.irem, 1) := by decide +kernel
theorem d_Mo_isBefore_6 : decode Y_Mo_isBefore.2.2.1 6 = .ok (.imul, 1) := by decide +kernel
theorem d_Mo_isBefore_7 : decode Y_Mo_isBefore.2.2.1 7 = .ok (.iload_n 1, 1) := by decide +kernel
theorem d_Mo_isBefore_8 : decode Y_Mo_isBefore.2.2.1 8 = .ok (.bipush 8, 2) := by decide +kernel
theorem d_Mo_isBefore_10 : decode Y_Mo_isBefore.2.2.1 10 = .ok (.idiv, 1) := by decide +kernel
theorem d_Mo_isBefore_11 : decode Y_Mo_isBefore.2.2.1 11 = .ok (.iadd, 1) := by decide +kernel
theorem d_Mo_isBefore_12 : decode Y_Mo_isBefore.2.2.1 12 = .ok (.istore_n 3, 1) := by decide +kernel
theorem d_Mo_isBefore_13 : decode Y_Mo_isBefore.2.2.1 13 = .ok (.bipush 8, 2) := by decide +kernel
theorem d_Mo_isBefore_15 : decode Y_Mo_isBefore.2.2.1 15 = .ok (.iload_n 2, 1) := by decide +kernel
theorem d_Mo_isBefore_16 : decode Y_Mo_isBefore.2.2.1 16 = .ok (.bipush 8, 2) := by decide +kernel
theorem d_Mo_isBefore_18 : decode Y_Mo_isBefore.2.2.1 18 = .ok (.irem, 1) := by decide +kernel
theorem d_Mo_isBefore_19 : decode Y_Mo_isBefore.2.2.1 19 = .ok (.imul, 1) := by decide +kernel
theorem d_Mo_isBefore_20 : decode Y_Mo_isBefore.2.2.1 20 = .ok (.iload_n 2, 1) := by decide +kernel
theorem d_Mo_isBefore_21 : decode Y_Mo_isBefore.2.2.1 21 = .ok (.bipush 8, 2) := by decide +kernel
theorem d_Mo_isBefore_23 : decode Y_Mo_isBefore.2.2.1 23 = .ok (.idiv, 1) := by decide +kernel
theorem d_Mo_isBefore_24 : decode Y_Mo_isBefore.2.2.1 24 = .ok (.iadd, 1) := by decide +kernel
theorem d_Mo_isBefore_25 : decode Y_Mo_isBefore.2.2.1 25 = .ok (.istore 4, 2) := by decide +kernel
theorem d_Mo_isBefore_27 : decode Y_Mo_isBefore.2.2.1 27 = .ok (.aload_n 0, 1) := by decide +kernel
theorem d_Mo_isBefore_28 : decode Y_Mo_isBefore.2.2.1 28 = .ok (.getfield 28, 3) := by decide +kernel
theorem d_Mo_isBefore_31 : decode Y_Mo_isBefore.2.2.1 31 = .ok (.iload_n 1, 1) := by decide +kernel
theorem d_Mo_isBefore_32 : decode Y_Mo_isBefore.2.2.1 32 = .ok (.iaload, 1) := by decide +kernel
theorem d_Mo_isBefore_33 : decode Y_Mo_isBefore.2.2.1 33 = .ok (.aload_n 0, 1) := by decide +kernel
theorem d_Mo_isBefore_34 : decode Y_Mo_isBefore.2.2.1 34 = .ok (.getfield 28, 3) := by decide +kernel
theorem d_Mo_isBefore_37 : decode Y_Mo_isBefore.2.2.1 37 = .ok (.iload_n 2, 1) := by decide +kernel
theorem d_Mo_isBefore_38 : decode Y_Mo_isBefore.2.2.1 38 = .ok (.iaload, 1) := by decide +kernel
theorem d_Mo_isBefore_39 : decode Y_Mo_isBefore.2.2.1 39 = .ok (.if_icmp .eq 24, 3) := by decide +kernel
theorem d_Mo_isBefore_42 : decode Y_Mo_isBefore.2.2.1 42 = .ok (.aload_n 0, 1) := by decide +kernel
theorem d_Mo_isBefore_43 : decode Y_Mo_isBefore.2.2.1 43 = .ok (.getfield 28, 3) := by decide +kernel
theorem d_Mo_isBefore_46 : decode Y_Mo_isBefore.2.2.1 46 = .ok (.iload_n 1, 1) := by decide +kernel
theorem d_Mo_isBefore_47 : decode Y_Mo_isBefore.2.2.1 47 = .ok (.iaload, 1) := by decide +kernel
theorem d_Mo_isBefore_48 : decode Y_Mo_isBefore.2.2.1 48 = .ok (.aload_n 0, 1) := by decide +kernel
theorem d_Mo_isBefore_49 : decode Y_Mo_isBefore.2.2.1 49 = .ok (.getfield 28, 3) := by decide +kernel
theorem d_Mo_isBefore_52 : decode Y_Mo_isBefore.2.2.1 52 = .ok (.iload_n 2, 1) := by decide +kernel
theorem d_Mo_isBefore_53 : decode Y_Mo_isBefore.2.2.1 53 = .ok (.iaload, 1) := by decide +kernel
theorem d_Mo_isBefore_54 : decode Y_Mo_isBefore.2.2.1 54 = .ok (.if_icmp .le 7, 3) := by decide +kernel
theorem d_Mo_isBefore_57 : decode Y_Mo_isBefore.2.2.1 57 = .ok (.iconst 1, 1) := by decide +kernel
theorem d_Mo_isBefore_58 : decode Y_Mo_isBefore.2.2.1 58 = .ok (.goto 4, 3) := by decide +kernel
theorem d_Mo_isBefore_61 : decode Y_Mo_isBefore.2.2.1 61 = .ok (.iconst 0, 1) := by decide +kernel
theorem d_Mo_isBefore_62 : decode Y_Mo_isBefore.2.2.1 62 = .ok (.ireturn, 1) := by decide +kernel
theorem d_Mo_isBefore_63 : decode Y_Mo_isBefore.2.2.1 63 = .ok (.aload_n 0, 1) := by decide +kernel
theorem d_Mo_isBefore_64 : decode Y_Mo_isBefore.2.2.1 64 = .ok (.getfield 25, 3) := by decide +kernel
theorem d_Mo_isBefore_67 : decode Y_Mo_isBefore.2.2.1 67 = .ok (.iload_n 3, 1) := by decide +kernel
theorem d_Mo_isBefore_68 : decode Y_Mo_isBefore.2.2.1 68 = .ok (.iaload, 1) := by decide +kernel
theorem d_Mo_isBefore_69 : decode Y_Mo_isBefore.2.2.1 69 = .ok (.aload_n 0, 1) := by decide +kernel
theorem d_Mo_isBefore_70 : decode Y_Mo_isBefore.2.2.1 70 = .ok (.getfield 25, 3) := by decide +kernel
theorem d_Mo_isBefore_73 : decode Y_Mo_isBefore.2.2.1 73 = .ok (.iload 4, 2) := by decide +kernel
theorem d_Mo_isBefore_75 : decode Y_Mo_isBefore.2.2.1 75 = .ok (.iaload, 1) := by decide +kernel
theorem d_Mo_isBefore_76 : decode Y_Mo_isBefore.2.2.1 76 = .ok (.if_icmp .eq 25, 3) := by decide +kernel
theorem d_Mo_isBefore_79 : decode Y_Mo_isBefore.2.2.1 79 = .ok (.aload_n 0, 1) := by decide +kernel
theorem d_Mo_isBefore_80 : decode Y_Mo_isBefore.2.2.1 80 = .ok (.getfield 25, 3) := by decide +kernel
theorem d_Mo_isBefore_83 : decode Y_Mo_isBefore.2.2.1 83 = .ok (.iload_n 3, 1) := by decide +kernel
theorem d_Mo_isBefore_84 : decode Y_Mo_isBefore.2.2.1 84 = .ok (.iaload, 1) := by decide +kernel
theorem d_Mo_isBefore_85 : decode Y_Mo_isBefore.2.2.1 85 = .ok (.aload_n 0, 1) := by decide +kernel
theorem d_Mo_isBefore_86 : decode Y_Mo_isBefore.2.2.1 86 = .ok (.getfield 25, 3) := by decide +kernel
theorem d_Mo_isBefore_89 : decode Y_Mo_isBefore.2.2.1 89 = .ok (.iload 4, 2) := by decide +kernel
theorem d_Mo_isBefore_91 : decode Y_Mo_isBefore.2.2.1 91 = .ok (.iaload, 1) := by decide +kernel
theorem d_Mo_isBefore_92 : decode Y_Mo_isBefore.2.2.1 92 = .ok (.if_icmp .ge 7, 3) := by decide +kernel
theorem d_Mo_isBefore_95 : decode Y_Mo_isBefore.2.2.1 95 = .ok (.iconst 1, 1) := by decide +kernel
theorem d_Mo_isBefore_96 : decode Y_Mo_isBefore.2.2.1 96 = .ok (.goto 4, 3) := by decide +kernel
theorem d_Mo_isBefore_99 : decode Y_Mo_isBefore.2.2.1 99 = .ok (.iconst 0, 1) := by decide +kernel
theorem d_Mo_isBefore_100 : decode Y_Mo_isBefore.2.2.1 100 = .ok (.ireturn, 1) := by decide +kernel
theorem d_Mo_isBefore_101 : decode Y_Mo_isBefore.2.2.1 101 = .ok (.iload_n 1, 1) := by decide +kernel
theorem d_Mo_isBefore_102 : decode Y_Mo_isBefore.2.2.1 102 = .ok (.bipush 8, 2) := by decide +kernel
theorem d_Mo_isBefore_104 : decode Y_Mo_isBefore.2.2.1 104 = .ok (.idiv, 1) := by decide +kernel
theorem d_Mo_isBefore_105 : decode Y_Mo_isBefore.2.2.1 105 = .ok (.iload_n 2, 1) := by decide +kernel
theorem d_Mo_isBefore_106 : decode Y_Mo_isBefore.2.2.1 106 = .ok (.bipush 8, 2) := by decide +kernel
theorem d_Mo_isBefore_108 : decode Y_Mo_isBefore.2.2.1 108 = .ok (.idiv, 1) := by decide +kernel
