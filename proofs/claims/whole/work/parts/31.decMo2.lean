/-! decode rows, written by gen/dec.py -/
theorem d_Mo_isBefore_109 : decode Y_Mo_isBefore.2.2.1 109 = .ok (.if_icmp .eq 30, 3) := by decide +kernel
theorem d_Mo_isBefore_112 : decode Y_Mo_isBefore.2.2.1 112 = .ok (.aload_n 0, 1) := by decide +kernel
theorem d_Mo_isBefore_113 : decode Y_Mo_isBefore.2.2.1 113 = .ok (.iload_n 1, 1) := by decide +kernel
theorem d_Mo_isBefore_114 : decode Y_Mo_isBefore.2.2.1 114 = .ok (.bipush 8, 2) := by decide +kernel
theorem d_Mo_isBefore_116 : decode Y_Mo_isBefore.2.2.1 116 = .ok (.idiv, 1) := by decide +kernel
theorem d_Mo_isBefore_117 : decode Y_Mo_isBefore.2.2.1 117 = .ok (.invokevirtual 65, 3) := by decide +kernel
theorem d_Mo_isBefore_120 : decode Y_Mo_isBefore.2.2.1 120 = .ok (.aload_n 0, 1) := by decide +kernel
theorem d_Mo_isBefore_121 : decode Y_Mo_isBefore.2.2.1 121 = .ok (.iload_n 2, 1) := by decide +kernel
theorem d_Mo_isBefore_122 : decode Y_Mo_isBefore.2.2.1 122 = .ok (.bipush 8, 2) := by decide +kernel
theorem d_Mo_isBefore_124 : decode Y_Mo_isBefore.2.2.1 124 = .ok (.idiv, 1) := by decide +kernel
theorem d_Mo_isBefore_125 : decode Y_Mo_isBefore.2.2.1 125 = .ok (.invokevirtual 65, 3) := by decide +kernel
theorem d_Mo_isBefore_128 : decode Y_Mo_isBefore.2.2.1 128 = .ok (.if_icmp .ge 7, 3) := by decide +kernel
theorem d_Mo_isBefore_131 : decode Y_Mo_isBefore.2.2.1 131 = .ok (.iconst 1, 1) := by decide +kernel
theorem d_Mo_isBefore_132 : decode Y_Mo_isBefore.2.2.1 132 = .ok (.goto 31, 3) := by decide +kernel
theorem d_Mo_isBefore_135 : decode Y_Mo_isBefore.2.2.1 135 = .ok (.iconst 0, 1) := by decide +kernel
theorem d_Mo_isBefore_136 : decode Y_Mo_isBefore.2.2.1 136 = .ok (.goto 27, 3) := by decide +kernel
theorem d_Mo_isBefore_139 : decode Y_Mo_isBefore.2.2.1 139 = .ok (.aload_n 0, 1) := by decide +kernel
theorem d_Mo_isBefore_140 : decode Y_Mo_isBefore.2.2.1 140 = .ok (.iload_n 1, 1) := by decide +kernel
theorem d_Mo_isBefore_141 : decode Y_Mo_isBefore.2.2.1 141 = .ok (.bipush 8, 2) := by decide +kernel
theorem d_Mo_isBefore_143 : decode Y_Mo_isBefore.2.2.1 143 = .ok (.irem, 1) := by decide +kernel
theorem d_Mo_isBefore_144 : decode Y_Mo_isBefore.2.2.1 144 = .ok (.invokevirtual 65, 3) := by decide +kernel
theorem d_Mo_isBefore_147 : decode Y_Mo_isBefore.2.2.1 147 = .ok (.aload_n 0, 1) := by decide +kernel
theorem d_Mo_isBefore_148 : decode Y_Mo_isBefore.2.2.1 148 = .ok (.iload_n 2, 1) := by decide +kernel
theorem d_Mo_isBefore_149 : decode Y_Mo_isBefore.2.2.1 149 = .ok (.bipush 8, 2) := by decide +kernel
theorem d_Mo_isBefore_151 : decode Y_Mo_isBefore.2.2.1 151 = .ok (.irem, 1) := by decide +kernel
theorem d_Mo_isBefore_152 : decode Y_Mo_isBefore.2.2.1 152 = .ok (.invokevirtual 65, 3) := by decide +kernel
theorem d_Mo_isBefore_155 : decode Y_Mo_isBefore.2.2.1 155 = .ok (.if_icmp .ge 7, 3) := by decide +kernel
theorem d_Mo_isBefore_158 : decode Y_Mo_isBefore.2.2.1 158 = .ok (.iconst 1, 1) := by decide +kernel
theorem d_Mo_isBefore_159 : decode Y_Mo_isBefore.2.2.1 159 = .ok (.goto 4, 3) := by decide +kernel
theorem d_Mo_isBefore_162 : decode Y_Mo_isBefore.2.2.1 162 = .ok (.iconst 0, 1) := by decide +kernel
theorem d_Mo_isBefore_163 : decode Y_Mo_isBefore.2.2.1 163 = .ok (.ireturn, 1) := by decide +kernel
theorem d_Mo_lock_0 : decode Y_Mo_lock.2.2.1 0 = .ok (.aload_n 0, 1) := by decide +kernel
theorem d_Mo_lock_1 : decode Y_Mo_lock.2.2.1 1 = .ok (.getfield 34, 3) := by decide +kernel
theorem d_Mo_lock_4 : decode Y_Mo_lock.2.2.1 4 = .ok (.iload_n 1, 1) := by decide +kernel
theorem d_Mo_lock_5 : decode Y_Mo_lock.2.2.1 5 = .ok (.iconst 1, 1) := by decide +kernel
theorem d_Mo_lock_6 : decode Y_Mo_lock.2.2.1 6 = .ok (.bastore, 1) := by decide +kernel
theorem d_Mo_lock_7 : decode Y_Mo_lock.2.2.1 7 = .ok (.iload_n 1, 1) := by decide +kernel
theorem d_Mo_lock_8 : decode Y_Mo_lock.2.2.1 8 = .ok (.bipush 8, 2) := by decide +kernel
theorem d_Mo_lock_10 : decode Y_Mo_lock.2.2.1 10 = .ok (.idiv, 1) := by decide +kernel
theorem d_Mo_lock_11 : decode Y_Mo_lock.2.2.1 11 = .ok (.istore_n 2, 1) := by decide +kernel
theorem d_Mo_lock_12 : decode Y_Mo_lock.2.2.1 12 = .ok (.iload_n 1, 1) := by decide +kernel
theorem d_Mo_lock_13 : decode Y_Mo_lock.2.2.1 13 = .ok (.bipush 8, 2) := by decide +kernel
theorem d_Mo_lock_15 : decode Y_Mo_lock.2.2.1 15 = .ok (.irem, 1) := by decide +kernel
theorem d_Mo_lock_16 : decode Y_Mo_lock.2.2.1 16 = .ok (.istore_n 3, 1) := by decide +kernel
theorem d_Mo_lock_17 : decode Y_Mo_lock.2.2.1 17 = .ok (.iconst 0, 1) := by decide +kernel
theorem d_Mo_lock_18 : decode Y_Mo_lock.2.2.1 18 = .ok (.istore 4, 2) := by decide +kernel
theorem d_Mo_lock_20 : decode Y_Mo_lock.2.2.1 20 = .ok (.iload 4, 2) := by decide +kernel
theorem d_Mo_lock_22 : decode Y_Mo_lock.2.2.1 22 = .ok (.bipush 64, 2) := by decide +kernel
theorem d_Mo_lock_24 : decode Y_Mo_lock.2.2.1 24 = .ok (.if_icmp .ge 109, 3) := by decide +kernel
theorem d_Mo_lock_27 : decode Y_Mo_lock.2.2.1 27 = .ok (.iload 4, 2) := by decide +kernel
theorem d_Mo_lock_29 : decode Y_Mo_lock.2.2.1 29 = .ok (.bipush 8, 2) := by decide +kernel
theorem d_Mo_lock_31 : decode Y_Mo_lock.2.2.1 31 = .ok (.idiv, 1) := by decide +kernel
theorem d_Mo_lock_32 : decode Y_Mo_lock.2.2.1 32 = .ok (.iload_n 2, 1) := by decide +kernel
theorem d_Mo_lock_33 : decode Y_Mo_lock.2.2.1 33 = .ok (.if_icmp .eq 21, 3) := by decide +kernel
theorem d_Mo_lock_36 : decode Y_Mo_lock.2.2.1 36 = .ok (.aload_n 0, 1) := by decide +kernel
theorem d_Mo_lock_37 : decode Y_Mo_lock.2.2.1 37 = .ok (.getfield 38, 3) := by decide +kernel
theorem d_Mo_lock_40 : decode Y_Mo_lock.2.2.1 40 = .ok (.bipush 8, 2) := by decide +kernel
theorem d_Mo_lock_42 : decode Y_Mo_lock.2.2.1 42 = .ok (.iload 4, 2) := by decide +kernel
theorem d_Mo_lock_44 : decode Y_Mo_lock.2.2.1 44 = .ok (.bipush 8, 2) := by decide +kernel
theorem d_Mo_lock_46 : decode Y_Mo_lock.2.2.1 46 = .ok (.idiv, 1) := by decide +kernel
theorem d_Mo_lock_47 : decode Y_Mo_lock.2.2.1 47 = .ok (.imul, 1) := by decide +kernel
theorem d_Mo_lock_48 : decode Y_Mo_lock.2.2.1 48 = .ok (.iload_n 2, 1) := by decide +kernel
theorem d_Mo_lock_49 : decode Y_Mo_lock.2.2.1 49 = .ok (.iadd, 1) := by decide +kernel
theorem d_Mo_lock_50 : decode Y_Mo_lock.2.2.1 50 = .ok (.baload, 1) := by decide +kernel
theorem d_Mo_lock_51 : decode Y_Mo_lock.2.2.1 51 = .ok (.ifCond .eq 7, 3) := by decide +kernel
theorem d_Mo_lock_54 : decode Y_Mo_lock.2.2.1 54 = .ok (.iconst 1, 1) := by decide +kernel
theorem d_Mo_lock_55 : decode Y_Mo_lock.2.2.1 55 = .ok (.goto 4, 3) := by decide +kernel
theorem d_Mo_lock_58 : decode Y_Mo_lock.2.2.1 58 = .ok (.iconst 0, 1) := by decide +kernel
theorem d_Mo_lock_59 : decode Y_Mo_lock.2.2.1 59 = .ok (.istore 5, 2) := by decide +kernel
theorem d_Mo_lock_61 : decode Y_Mo_lock.2.2.1 61 = .ok (.iload 4, 2) := by decide +kernel
theorem d_Mo_lock_63 : decode Y_Mo_lock.2.2.1 63 = .ok (.bipush 8, 2) := by decide +kernel
theorem d_Mo_lock_65 : decode Y_Mo_lock.2.2.1 65 = .ok (.irem, 1) := by decide +kernel
theorem d_Mo_lock_66 : decode Y_Mo_lock.2.2.1 66 = .ok (.iload_n 3, 1) := by decide +kernel
theorem d_Mo_lock_67 : decode Y_Mo_lock.2.2.1 67 = .ok (.if_icmp .eq 21, 3) := by decide +kernel
theorem d_Mo_lock_70 : decode Y_Mo_lock.2.2.1 70 = .ok (.aload_n 0, 1) := by decide +kernel
theorem d_Mo_lock_71 : decode Y_Mo_lock.2.2.1 71 = .ok (.getfield 38, 3) := by decide +kernel
theorem d_Mo_lock_74 : decode Y_Mo_lock.2.2.1 74 = .ok (.bipush 8, 2) := by decide +kernel
theorem d_Mo_lock_76 : decode Y_Mo_lock.2.2.1 76 = .ok (.iload_n 3, 1) := by decide +kernel
theorem d_Mo_lock_77 : decode Y_Mo_lock.2.2.1 77 = .ok (.imul, 1) := by decide +kernel
theorem d_Mo_lock_78 : decode Y_Mo_lock.2.2.1 78 = .ok (.iload 4, 2) := by decide +kernel
theorem d_Mo_lock_80 : decode Y_Mo_lock.2.2.1 80 = .ok (.bipush 8, 2) := by decide +kernel
theorem d_Mo_lock_82 : decode Y_Mo_lock.2.2.1 82 = .ok (.irem, 1) := by decide +kernel
theorem d_Mo_lock_83 : decode Y_Mo_lock.2.2.1 83 = .ok (.iadd, 1) := by decide +kernel
theorem d_Mo_lock_84 : decode Y_Mo_lock.2.2.1 84 = .ok (.baload, 1) := by decide +kernel
theorem d_Mo_lock_85 : decode Y_Mo_lock.2.2.1 85 = .ok (.ifCond .eq 7, 3) := by decide +kernel
theorem d_Mo_lock_88 : decode Y_Mo_lock.2.2.1 88 = .ok (.iconst 1, 1) := by decide +kernel
theorem d_Mo_lock_89 : decode Y_Mo_lock.2.2.1 89 = .ok (.goto 4, 3) := by decide +kernel
theorem d_Mo_lock_92 : decode Y_Mo_lock.2.2.1 92 = .ok (.iconst 0, 1) := by decide +kernel
theorem d_Mo_lock_93 : decode Y_Mo_lock.2.2.1 93 = .ok (.istore 6, 2) := by decide +kernel
theorem d_Mo_lock_95 : decode Y_Mo_lock.2.2.1 95 = .ok (.aload_n 0, 1) := by decide +kernel
theorem d_Mo_lock_96 : decode Y_Mo_lock.2.2.1 96 = .ok (.getfield 38, 3) := by decide +kernel
theorem d_Mo_lock_99 : decode Y_Mo_lock.2.2.1 99 = .ok (.iload 4, 2) := by decide +kernel
theorem d_Mo_lock_101 : decode Y_Mo_lock.2.2.1 101 = .ok (.aload_n 0, 1) := by decide +kernel
theorem d_Mo_lock_102 : decode Y_Mo_lock.2.2.1 102 = .ok (.getfield 38, 3) := by decide +kernel
theorem d_Mo_lock_105 : decode Y_Mo_lock.2.2.1 105 = .ok (.iload 4, 2) := by decide +kernel
theorem d_Mo_lock_107 : decode Y_Mo_lock.2.2.1 107 = .ok (.baload, 1) := by decide +kernel
theorem d_Mo_lock_108 : decode Y_Mo_lock.2.2.1 108 = .ok (.ifCond .ne 13, 3) := by decide +kernel
theorem d_Mo_lock_111 : decode Y_Mo_lock.2.2.1 111 = .ok (.iload 5, 2) := by decide +kernel
theorem d_Mo_lock_113 : decode Y_Mo_lock.2.2.1 113 = .ok (.ifCond .eq 12, 3) := by decide +kernel
theorem d_Mo_lock_116 : decode Y_Mo_lock.2.2.1 116 = .ok (.iload 6, 2) := by decide +kernel
theorem d_Mo_lock_118 : decode Y_Mo_lock.2.2.1 118 = .ok (.ifCond .eq 7, 3) := by decide +kernel
theorem d_Mo_lock_121 : decode Y_Mo_lock.2.2.1 121 = .ok (.iconst 1, 1) := by decide +kernel
theorem d_Mo_lock_122 : decode Y_Mo_lock.2.2.1 122 = .ok (.goto 4, 3) := by decide +kernel
theorem d_Mo_lock_125 : decode Y_Mo_lock.2.2.1 125 = .ok (.iconst 0, 1) := by decide +kernel
theorem d_Mo_lock_126 : decode Y_Mo_lock.2.2.1 126 = .ok (.bastore, 1) := by decide +kernel
theorem d_Mo_lock_127 : decode Y_Mo_lock.2.2.1 127 = .ok (.iinc 4 1, 3) := by decide +kernel
theorem d_Mo_lock_130 : decode Y_Mo_lock.2.2.1 130 = .ok (.goto (-110), 3) := by decide +kernel
theorem d_Mo_lock_133 : decode Y_Mo_lock.2.2.1 133 = .ok (.return_, 1) := by decide +kernel
theorem d_Mo_lockAll_0 : decode Y_Mo_lockAll.2.2.1 0 = .ok (.iconst 0, 1) := by decide +kernel
theorem d_Mo_lockAll_1 : decode Y_Mo_lockAll.2.2.1 1 = .ok (.istore_n 1, 1) := by decide +kernel
theorem d_Mo_lockAll_2 : decode Y_Mo_lockAll.2.2.1 2 = .ok (.iload_n 1, 1) := by decide +kernel
theorem d_Mo_lockAll_3 : decode Y_Mo_lockAll.2.2.1 3 = .ok (.bipush 64, 2) := by decide +kernel
theorem d_Mo_lockAll_5 : decode Y_Mo_lockAll.2.2.1 5 = .ok (.if_icmp .ge 23, 3) := by decide +kernel
theorem d_Mo_lockAll_8 : decode Y_Mo_lockAll.2.2.1 8 = .ok (.aload_n 0, 1) := by decide +kernel
theorem d_Mo_lockAll_9 : decode Y_Mo_lockAll.2.2.1 9 = .ok (.getfield 34, 3) := by decide +kernel
theorem d_Mo_lockAll_12 : decode Y_Mo_lockAll.2.2.1 12 = .ok (.iload_n 1, 1) := by decide +kernel
theorem d_Mo_lockAll_13 : decode Y_Mo_lockAll.2.2.1 13 = .ok (.iconst 0, 1) := by decide +kernel
theorem d_Mo_lockAll_14 : decode Y_Mo_lockAll.2.2.1 14 = .ok (.bastore, 1) := by decide +kernel
theorem d_Mo_lockAll_15 : decode Y_Mo_lockAll.2.2.1 15 = .ok (.aload_n 0, 1) := by decide +kernel
theorem d_Mo_lockAll_16 : decode Y_Mo_lockAll.2.2.1 16 = .ok (.getfield 38, 3) := by decide +kernel
theorem d_Mo_lockAll_19 : decode Y_Mo_lockAll.2.2.1 19 = .ok (.iload_n 1, 1) := by decide +kernel
theorem d_Mo_lockAll_20 : decode Y_Mo_lockAll.2.2.1 20 = .ok (.iconst 0, 1) := by decide +kernel
theorem d_Mo_lockAll_21 : decode Y_Mo_lockAll.2.2.1 21 = .ok (.bastore, 1) := by decide +kernel
theorem d_Mo_lockAll_22 : decode Y_Mo_lockAll.2.2.1 22 = .ok (.iinc 1 1, 3) := by decide +kernel
theorem d_Mo_lockAll_25 : decode Y_Mo_lockAll.2.2.1 25 = .ok (.goto (-23), 3) := by decide +kernel
theorem d_Mo_lockAll_28 : decode Y_Mo_lockAll.2.2.1 28 = .ok (.iconst (-1), 1) := by decide +kernel
theorem d_Mo_lockAll_29 : decode Y_Mo_lockAll.2.2.1 29 = .ok (.istore_n 1, 1) := by decide +kernel
theorem d_Mo_lockAll_30 : decode Y_Mo_lockAll.2.2.1 30 = .ok (.iconst 1, 1) := by decide +kernel
theorem d_Mo_lockAll_31 : decode Y_Mo_lockAll.2.2.1 31 = .ok (.istore_n 2, 1) := by decide +kernel
theorem d_Mo_lockAll_32 : decode Y_Mo_lockAll.2.2.1 32 = .ok (.iload_n 2, 1) := by decide +kernel
theorem d_Mo_lockAll_33 : decode Y_Mo_lockAll.2.2.1 33 = .ok (.ifCond .eq 122, 3) := by decide +kernel
theorem d_Mo_lockAll_36 : decode Y_Mo_lockAll.2.2.1 36 = .ok (.iconst (-1), 1) := by decide +kernel
theorem d_Mo_lockAll_37 : decode Y_Mo_lockAll.2.2.1 37 = .ok (.istore_n 3, 1) := by decide +kernel
theorem d_Mo_lockAll_38 : decode Y_Mo_lockAll.2.2.1 38 = .ok (.iconst 0, 1) := by decide +kernel
theorem d_Mo_lockAll_39 : decode Y_Mo_lockAll.2.2.1 39 = .ok (.istore 4, 2) := by decide +kernel
theorem d_Mo_lockAll_41 : decode Y_Mo_lockAll.2.2.1 41 = .ok (.iload 4, 2) := by decide +kernel
theorem d_Mo_lockAll_43 : decode Y_Mo_lockAll.2.2.1 43 = .ok (.bipush 64, 2) := by decide +kernel
theorem d_Mo_lockAll_45 : decode Y_Mo_lockAll.2.2.1 45 = .ok (.if_icmp .ge 66, 3) := by decide +kernel
theorem d_Mo_lockAll_48 : decode Y_Mo_lockAll.2.2.1 48 = .ok (.aload_n 0, 1) := by decide +kernel
theorem d_Mo_lockAll_49 : decode Y_Mo_lockAll.2.2.1 49 = .ok (.getfield 28, 3) := by decide +kernel
theorem d_Mo_lockAll_52 : decode Y_Mo_lockAll.2.2.1 52 = .ok (.iload 4, 2) := by decide +kernel
theorem d_Mo_lockAll_54 : decode Y_Mo_lockAll.2.2.1 54 = .ok (.iaload, 1) := by decide +kernel
theorem d_Mo_lockAll_55 : decode Y_Mo_lockAll.2.2.1 55 = .ok (.ifCond .le 21, 3) := by decide +kernel
theorem d_Mo_lockAll_58 : decode Y_Mo_lockAll.2.2.1 58 = .ok (.iload_n 1, 1) := by decide +kernel
theorem d_Mo_lockAll_59 : decode Y_Mo_lockAll.2.2.1 59 = .ok (.ifCond .lt 13, 3) := by decide +kernel
theorem d_Mo_lockAll_62 : decode Y_Mo_lockAll.2.2.1 62 = .ok (.aload_n 0, 1) := by decide +kernel
theorem d_Mo_lockAll_63 : decode Y_Mo_lockAll.2.2.1 63 = .ok (.iload_n 1, 1) := by decide +kernel
theorem d_Mo_lockAll_64 : decode Y_Mo_lockAll.2.2.1 64 = .ok (.iload 4, 2) := by decide +kernel
theorem d_Mo_lockAll_66 : decode Y_Mo_lockAll.2.2.1 66 = .ok (.invokevirtual 104, 3) := by decide +kernel
theorem d_Mo_lockAll_69 : decode Y_Mo_lockAll.2.2.1 69 = .ok (.ifCond .eq 7, 3) := by decide +kernel
theorem d_Mo_lockAll_72 : decode Y_Mo_lockAll.2.2.1 72 = .ok (.iconst 1, 1) := by decide +kernel
theorem d_Mo_lockAll_73 : decode Y_Mo_lockAll.2.2.1 73 = .ok (.goto 4, 3) := by decide +kernel
theorem d_Mo_lockAll_76 : decode Y_Mo_lockAll.2.2.1 76 = .ok (.iconst 0, 1) := by decide +kernel
theorem d_Mo_lockAll_77 : decode Y_Mo_lockAll.2.2.1 77 = .ok (.istore 5, 2) := by decide +kernel
theorem d_Mo_lockAll_79 : decode Y_Mo_lockAll.2.2.1 79 = .ok (.iload 5, 2) := by decide +kernel
theorem d_Mo_lockAll_81 : decode Y_Mo_lockAll.2.2.1 81 = .ok (.ifCond .eq 22, 3) := by decide +kernel
theorem d_Mo_lockAll_84 : decode Y_Mo_lockAll.2.2.1 84 = .ok (.iload_n 3, 1) := by decide +kernel
theorem d_Mo_lockAll_85 : decode Y_Mo_lockAll.2.2.1 85 = .ok (.ifCond .lt 13, 3) := by decide +kernel
theorem d_Mo_lockAll_88 : decode Y_Mo_lockAll.2.2.1 88 = .ok (.aload_n 0, 1) := by decide +kernel
theorem d_Mo_lockAll_89 : decode Y_Mo_lockAll.2.2.1 89 = .ok (.iload 4, 2) := by decide +kernel
theorem d_Mo_lockAll_91 : decode Y_Mo_lockAll.2.2.1 91 = .ok (.iload_n 3, 1) := by decide +kernel
theorem d_Mo_lockAll_92 : decode Y_Mo_lockAll.2.2.1 92 = .ok (.invokevirtual 104, 3) := by decide +kernel
theorem d_Mo_lockAll_95 : decode Y_Mo_lockAll.2.2.1 95 = .ok (.ifCond .eq 8, 3) := by decide +kernel
theorem d_Mo_lockAll_98 : decode Y_Mo_lockAll.2.2.1 98 = .ok (.iload 4, 2) := by decide +kernel
theorem d_Mo_lockAll_100 : decode Y_Mo_lockAll.2.2.1 100 = .ok (.goto 4, 3) := by decide +kernel
theorem d_Mo_lockAll_103 : decode Y_Mo_lockAll.2.2.1 103 = .ok (.iload_n 3, 1) := by decide +kernel
theorem d_Mo_lockAll_104 : decode Y_Mo_lockAll.2.2.1 104 = .ok (.istore_n 3, 1) := by decide +kernel
theorem d_Mo_lockAll_105 : decode Y_Mo_lockAll.2.2.1 105 = .ok (.iinc 4 1, 3) := by decide +kernel
theorem d_Mo_lockAll_108 : decode Y_Mo_lockAll.2.2.1 108 = .ok (.goto (-67), 3) := by decide +kernel
theorem d_Mo_lockAll_111 : decode Y_Mo_lockAll.2.2.1 111 = .ok (.iload_n 3, 1) := by decide +kernel
theorem d_Mo_lockAll_112 : decode Y_Mo_lockAll.2.2.1 112 = .ok (.ifCond .lt 7, 3) := by decide +kernel
theorem d_Mo_lockAll_115 : decode Y_Mo_lockAll.2.2.1 115 = .ok (.iconst 1, 1) := by decide +kernel
theorem d_Mo_lockAll_116 : decode Y_Mo_lockAll.2.2.1 116 = .ok (.goto 4, 3) := by decide +kernel
theorem d_Mo_lockAll_119 : decode Y_Mo_lockAll.2.2.1 119 = .ok (.iconst 0, 1) := by decide +kernel
theorem d_Mo_lockAll_120 : decode Y_Mo_lockAll.2.2.1 120 = .ok (.istore_n 2, 1) := by decide +kernel
theorem d_Mo_lockAll_121 : decode Y_Mo_lockAll.2.2.1 121 = .ok (.iload_n 2, 1) := by decide +kernel
theorem d_Mo_lockAll_122 : decode Y_Mo_lockAll.2.2.1 122 = .ok (.ifCond .eq 28, 3) := by decide +kernel
theorem d_Mo_lockAll_125 : decode Y_Mo_lockAll.2.2.1 125 = .ok (.aload_n 0, 1) := by decide +kernel
theorem d_Mo_lockAll_126 : decode Y_Mo_lockAll.2.2.1 126 = .ok (.getfield 38, 3) := by decide +kernel
theorem d_Mo_lockAll_129 : decode Y_Mo_lockAll.2.2.1 129 = .ok (.bipush 8, 2) := by decide +kernel
theorem d_Mo_lockAll_131 : decode Y_Mo_lockAll.2.2.1 131 = .ok (.iload_n 3, 1) := by decide +kernel
theorem d_Mo_lockAll_132 : decode Y_Mo_lockAll.2.2.1 132 = .ok (.bipush 8, 2) := by decide +kernel
theorem d_Mo_lockAll_134 : decode Y_Mo_lockAll.2.2.1 134 = .ok (.irem, 1) := by decide +kernel
theorem d_Mo_lockAll_135 : decode Y_Mo_lockAll.2.2.1 135 = .ok (.imul, 1) := by decide +kernel
theorem d_Mo_lockAll_136 : decode Y_Mo_lockAll.2.2.1 136 = .ok (.iload_n 3, 1) := by decide +kernel
theorem d_Mo_lockAll_137 : decode Y_Mo_lockAll.2.2.1 137 = .ok (.bipush 8, 2) := by decide +kernel
theorem d_Mo_lockAll_139 : decode Y_Mo_lockAll.2.2.1 139 = .ok (.idiv, 1) := by decide +kernel
theorem d_Mo_lockAll_140 : decode Y_Mo_lockAll.2.2.1 140 = .ok (.iadd, 1) := by decide +kernel
theorem d_Mo_lockAll_141 : decode Y_Mo_lockAll.2.2.1 141 = .ok (.baload, 1) := by decide +kernel
theorem d_Mo_lockAll_142 : decode Y_Mo_lockAll.2.2.1 142 = .ok (.ifCond .ne 8, 3) := by decide +kernel
theorem d_Mo_lockAll_145 : decode Y_Mo_lockAll.2.2.1 145 = .ok (.aload_n 0, 1) := by decide +kernel
theorem d_Mo_lockAll_146 : decode Y_Mo_lockAll.2.2.1 146 = .ok (.iload_n 3, 1) := by decide +kernel
theorem d_Mo_lockAll_147 : decode Y_Mo_lockAll.2.2.1 147 = .ok (.invokevirtual 107, 3) := by decide +kernel
theorem d_Mo_lockAll_150 : decode Y_Mo_lockAll.2.2.1 150 = .ok (.iload_n 3, 1) := by decide +kernel
theorem d_Mo_lockAll_151 : decode Y_Mo_lockAll.2.2.1 151 = .ok (.istore_n 1, 1) := by decide +kernel
theorem d_Mo_lockAll_152 : decode Y_Mo_lockAll.2.2.1 152 = .ok (.goto (-120), 3) := by decide +kernel
theorem d_Mo_lockAll_155 : decode Y_Mo_lockAll.2.2.1 155 = .ok (.return_, 1) := by decide +kernel
theorem d_Mo_orderAll_0 : decode Y_Mo_orderAll.2.2.1 0 = .ok (.aload_n 0, 1) := by decide +kernel
theorem d_Mo_orderAll_1 : decode Y_Mo_orderAll.2.2.1 1 = .ok (.invokevirtual 110, 3) := by decide +kernel
theorem d_Mo_orderAll_4 : decode Y_Mo_orderAll.2.2.1 4 = .ok (.iconst 0, 1) := by decide +kernel
theorem d_Mo_orderAll_5 : decode Y_Mo_orderAll.2.2.1 5 = .ok (.istore_n 1, 1) := by decide +kernel
theorem d_Mo_orderAll_6 : decode Y_Mo_orderAll.2.2.1 6 = .ok (.aload_n 0, 1) := by decide +kernel
theorem d_Mo_orderAll_7 : decode Y_Mo_orderAll.2.2.1 7 = .ok (.iconst 0, 1) := by decide +kernel
theorem d_Mo_orderAll_8 : decode Y_Mo_orderAll.2.2.1 8 = .ok (.putfield 101, 3) := by decide +kernel
theorem d_Mo_orderAll_11 : decode Y_Mo_orderAll.2.2.1 11 = .ok (.aload_n 0, 1) := by decide +kernel
theorem d_Mo_orderAll_12 : decode Y_Mo_orderAll.2.2.1 12 = .ok (.getfield 101, 3) := by decide +kernel
theorem d_Mo_orderAll_15 : decode Y_Mo_orderAll.2.2.1 15 = .ok (.aload_n 0, 1) := by decide +kernel
theorem d_Mo_orderAll_16 : decode Y_Mo_orderAll.2.2.1 16 = .ok (.getfield 47, 3) := by decide +kernel
theorem d_Mo_orderAll_19 : decode Y_Mo_orderAll.2.2.1 19 = .ok (.if_icmp .ge 142, 3) := by decide +kernel
theorem d_Mo_orderAll_22 : decode Y_Mo_orderAll.2.2.1 22 = .ok (.iconst (-1), 1) := by decide +kernel
theorem d_Mo_orderAll_23 : decode Y_Mo_orderAll.2.2.1 23 = .ok (.istore_n 2, 1) := by decide +kernel
theorem d_Mo_orderAll_24 : decode Y_Mo_orderAll.2.2.1 24 = .ok (.aload_n 0, 1) := by decide +kernel
theorem d_Mo_orderAll_25 : decode Y_Mo_orderAll.2.2.1 25 = .ok (.getfield 47, 3) := by decide +kernel
theorem d_Mo_orderAll_28 : decode Y_Mo_orderAll.2.2.1 28 = .ok (.iconst 1, 1) := by decide +kernel
theorem d_Mo_orderAll_29 : decode Y_Mo_orderAll.2.2.1 29 = .ok (.isub, 1) := by decide +kernel
theorem d_Mo_orderAll_30 : decode Y_Mo_orderAll.2.2.1 30 = .ok (.istore_n 3, 1) := by decide +kernel
theorem d_Mo_orderAll_31 : decode Y_Mo_orderAll.2.2.1 31 = .ok (.iload_n 3, 1) := by decide +kernel
theorem d_Mo_orderAll_32 : decode Y_Mo_orderAll.2.2.1 32 = .ok (.ifCond .lt 100, 3) := by decide +kernel
theorem d_Mo_orderAll_35 : decode Y_Mo_orderAll.2.2.1 35 = .ok (.aload_n 0, 1) := by decide +kernel
theorem d_Mo_orderAll_36 : decode Y_Mo_orderAll.2.2.1 36 = .ok (.getfield 7, 3) := by decide +kernel
theorem d_Mo_orderAll_39 : decode Y_Mo_orderAll.2.2.1 39 = .ok (.iload_n 3, 1) := by decide +kernel
theorem d_Mo_orderAll_40 : decode Y_Mo_orderAll.2.2.1 40 = .ok (.iaload, 1) := by decide +kernel
theorem d_Mo_orderAll_41 : decode Y_Mo_orderAll.2.2.1 41 = .ok (.istore 4, 2) := by decide +kernel
theorem d_Mo_orderAll_43 : decode Y_Mo_orderAll.2.2.1 43 = .ok (.iload_n 1, 1) := by decide +kernel
theorem d_Mo_orderAll_44 : decode Y_Mo_orderAll.2.2.1 44 = .ok (.iload 4, 2) := by decide +kernel
theorem d_Mo_orderAll_46 : decode Y_Mo_orderAll.2.2.1 46 = .ok (.ishr, 1) := by decide +kernel
theorem d_Mo_orderAll_47 : decode Y_Mo_orderAll.2.2.1 47 = .ok (.iconst 1, 1) := by decide +kernel
theorem d_Mo_orderAll_48 : decode Y_Mo_orderAll.2.2.1 48 = .ok (.iand, 1) := by decide +kernel
theorem d_Mo_orderAll_49 : decode Y_Mo_orderAll.2.2.1 49 = .ok (.ifCond .ne 7, 3) := by decide +kernel
theorem d_Mo_orderAll_52 : decode Y_Mo_orderAll.2.2.1 52 = .ok (.iconst 1, 1) := by decide +kernel
theorem d_Mo_orderAll_53 : decode Y_Mo_orderAll.2.2.1 53 = .ok (.goto 4, 3) := by decide +kernel
theorem d_Mo_orderAll_56 : decode Y_Mo_orderAll.2.2.1 56 = .ok (.iconst 0, 1) := by decide +kernel
theorem d_Mo_orderAll_57 : decode Y_Mo_orderAll.2.2.1 57 = .ok (.istore 5, 2) := by decide +kernel
theorem d_Mo_orderAll_59 : decode Y_Mo_orderAll.2.2.1 59 = .ok (.iconst 0, 1) := by decide +kernel
theorem d_Mo_orderAll_60 : decode Y_Mo_orderAll.2.2.1 60 = .ok (.istore 6, 2) := by decide +kernel
theorem d_Mo_orderAll_62 : decode Y_Mo_orderAll.2.2.1 62 = .ok (.iload 6, 2) := by decide +kernel
theorem d_Mo_orderAll_64 : decode Y_Mo_orderAll.2.2.1 64 = .ok (.aload_n 0, 1) := by decide +kernel
theorem d_Mo_orderAll_65 : decode Y_Mo_orderAll.2.2.1 65 = .ok (.getfield 47, 3) := by decide +kernel
theorem d_Mo_orderAll_68 : decode Y_Mo_orderAll.2.2.1 68 = .ok (.if_icmp .ge 46, 3) := by decide +kernel
theorem d_Mo_orderAll_71 : decode Y_Mo_orderAll.2.2.1 71 = .ok (.iload 5, 2) := by decide +kernel
theorem d_Mo_orderAll_73 : decode Y_Mo_orderAll.2.2.1 73 = .ok (.ifCond .eq 32, 3) := by decide +kernel
theorem d_Mo_orderAll_76 : decode Y_Mo_orderAll.2.2.1 76 = .ok (.iload_n 1, 1) := by decide +kernel
theorem d_Mo_orderAll_77 : decode Y_Mo_orderAll.2.2.1 77 = .ok (.iload 6, 2) := by decide +kernel
theorem d_Mo_orderAll_79 : decode Y_Mo_orderAll.2.2.1 79 = .ok (.ishr, 1) := by decide +kernel
theorem d_Mo_orderAll_80 : decode Y_Mo_orderAll.2.2.1 80 = .ok (.iconst 1, 1) := by decide +kernel
theorem d_Mo_orderAll_81 : decode Y_Mo_orderAll.2.2.1 81 = .ok (.iand, 1) := by decide +kernel
theorem d_Mo_orderAll_82 : decode Y_Mo_orderAll.2.2.1 82 = .ok (.ifCond .ne 19, 3) := by decide +kernel
theorem d_Mo_orderAll_85 : decode Y_Mo_orderAll.2.2.1 85 = .ok (.aload_n 0, 1) := by decide +kernel
theorem d_Mo_orderAll_86 : decode Y_Mo_orderAll.2.2.1 86 = .ok (.getfield 34, 3) := by decide +kernel
theorem d_Mo_orderAll_89 : decode Y_Mo_orderAll.2.2.1 89 = .ok (.bipush 8, 2) := by decide +kernel
theorem d_Mo_orderAll_91 : decode Y_Mo_orderAll.2.2.1 91 = .ok (.iload 6, 2) := by decide +kernel
theorem d_Mo_orderAll_93 : decode Y_Mo_orderAll.2.2.1 93 = .ok (.imul, 1) := by decide +kernel
theorem d_Mo_orderAll_94 : decode Y_Mo_orderAll.2.2.1 94 = .ok (.iload 4, 2) := by decide +kernel
theorem d_Mo_orderAll_96 : decode Y_Mo_orderAll.2.2.1 96 = .ok (.iadd, 1) := by decide +kernel
theorem d_Mo_orderAll_97 : decode Y_Mo_orderAll.2.2.1 97 = .ok (.baload, 1) := by decide +kernel
theorem d_Mo_orderAll_98 : decode Y_Mo_orderAll.2.2.1 98 = .ok (.ifCond .ne 7, 3) := by decide +kernel
theorem d_Mo_orderAll_101 : decode Y_Mo_orderAll.2.2.1 101 = .ok (.iconst 1, 1) := by decide +kernel
theorem d_Mo_orderAll_102 : decode Y_Mo_orderAll.2.2.1 102 = .ok (.goto 4, 3) := by decide +kernel
theorem d_Mo_orderAll_105 : decode Y_Mo_orderAll.2.2.1 105 = .ok (.iconst 0, 1) := by decide +kernel
theorem d_Mo_orderAll_106 : decode Y_Mo_orderAll.2.2.1 106 = .ok (.istore 5, 2) := by decide +kernel
theorem d_Mo_orderAll_108 : decode Y_Mo_orderAll.2.2.1 108 = .ok (.iinc 6 1, 3) := by decide +kernel
theorem d_Mo_orderAll_111 : decode Y_Mo_orderAll.2.2.1 111 = .ok (.goto (-49), 3) := by decide +kernel
theorem d_Mo_orderAll_114 : decode Y_Mo_orderAll.2.2.1 114 = .ok (.iload 5, 2) := by decide +kernel
theorem d_Mo_orderAll_116 : decode Y_Mo_orderAll.2.2.1 116 = .ok (.ifCond .eq 8, 3) := by decide +kernel
theorem d_Mo_orderAll_119 : decode Y_Mo_orderAll.2.2.1 119 = .ok (.iload 4, 2) := by decide +kernel
theorem d_Mo_orderAll_121 : decode Y_Mo_orderAll.2.2.1 121 = .ok (.goto 4, 3) := by decide +kernel
theorem d_Mo_orderAll_124 : decode Y_Mo_orderAll.2.2.1 124 = .ok (.iload_n 2, 1) := by decide +kernel
theorem d_Mo_orderAll_125 : decode Y_Mo_orderAll.2.2.1 125 = .ok (.istore_n 2, 1) := by decide +kernel
theorem d_Mo_orderAll_126 : decode Y_Mo_orderAll.2.2.1 126 = .ok (.iinc 3 (-1), 3) := by decide +kernel
theorem d_Mo_orderAll_129 : decode Y_Mo_orderAll.2.2.1 129 = .ok (.goto (-98), 3) := by decide +kernel
theorem d_Mo_orderAll_132 : decode Y_Mo_orderAll.2.2.1 132 = .ok (.aload_n 0, 1) := by decide +kernel
theorem d_Mo_orderAll_133 : decode Y_Mo_orderAll.2.2.1 133 = .ok (.getfield 44, 3) := by decide +kernel
theorem d_Mo_orderAll_136 : decode Y_Mo_orderAll.2.2.1 136 = .ok (.aload_n 0, 1) := by decide +kernel
theorem d_Mo_orderAll_137 : decode Y_Mo_orderAll.2.2.1 137 = .ok (.getfield 101, 3) := by decide +kernel
theorem d_Mo_orderAll_140 : decode Y_Mo_orderAll.2.2.1 140 = .ok (.iload_n 2, 1) := by decide +kernel
theorem d_Mo_orderAll_141 : decode Y_Mo_orderAll.2.2.1 141 = .ok (.iastore, 1) := by decide +kernel
theorem d_Mo_orderAll_142 : decode Y_Mo_orderAll.2.2.1 142 = .ok (.aload_n 0, 1) := by decide +kernel
theorem d_Mo_orderAll_143 : decode Y_Mo_orderAll.2.2.1 143 = .ok (.dup, 1) := by decide +kernel
theorem d_Mo_orderAll_144 : decode Y_Mo_orderAll.2.2.1 144 = .ok (.getfield 101, 3) := by decide +kernel
theorem d_Mo_orderAll_147 : decode Y_Mo_orderAll.2.2.1 147 = .ok (.iconst 1, 1) := by decide +kernel
theorem d_Mo_orderAll_148 : decode Y_Mo_orderAll.2.2.1 148 = .ok (.iadd, 1) := by decide +kernel
theorem d_Mo_orderAll_149 : decode Y_Mo_orderAll.2.2.1 149 = .ok (.putfield 101, 3) := by decide +kernel
theorem d_Mo_orderAll_152 : decode Y_Mo_orderAll.2.2.1 152 = .ok (.iload_n 1, 1) := by decide +kernel
theorem d_Mo_orderAll_153 : decode Y_Mo_orderAll.2.2.1 153 = .ok (.iconst 1, 1) := by decide +kernel
theorem d_Mo_orderAll_154 : decode Y_Mo_orderAll.2.2.1 154 = .ok (.iload_n 2, 1) := by decide +kernel
theorem d_Mo_orderAll_155 : decode Y_Mo_orderAll.2.2.1 155 = .ok (.ishl, 1) := by decide +kernel
theorem d_Mo_orderAll_156 : decode Y_Mo_orderAll.2.2.1 156 = .ok (.ior, 1) := by decide +kernel
theorem d_Mo_orderAll_157 : decode Y_Mo_orderAll.2.2.1 157 = .ok (.istore_n 1, 1) := by decide +kernel
theorem d_Mo_orderAll_158 : decode Y_Mo_orderAll.2.2.1 158 = .ok (.goto (-147), 3) := by decide +kernel
theorem d_Mo_orderAll_161 : decode Y_Mo_orderAll.2.2.1 161 = .ok (.return_, 1) := by decide +kernel
theorem d_Mo_topAll_0 : decode Y_Mo_topAll.2.2.1 0 = .ok (.iconst 1, 1) := by decide +kernel
theorem d_Mo_topAll_1 : decode Y_Mo_topAll.2.2.1 1 = .ok (.aload_n 0, 1) := by decide +kernel
theorem d_Mo_topAll_2 : decode Y_Mo_topAll.2.2.1 2 = .ok (.getfield 47, 3) := by decide +kernel
theorem d_Mo_topAll_5 : decode Y_Mo_topAll.2.2.1 5 = .ok (.ishl, 1) := by decide +kernel
theorem d_Mo_topAll_6 : decode Y_Mo_topAll.2.2.1 6 = .ok (.iconst 1, 1) := by decide +kernel
theorem d_Mo_topAll_7 : decode Y_Mo_topAll.2.2.1 7 = .ok (.isub, 1) := by decide +kernel
theorem d_Mo_topAll_8 : decode Y_Mo_topAll.2.2.1 8 = .ok (.istore_n 1, 1) := by decide +kernel
theorem d_Mo_topAll_9 : decode Y_Mo_topAll.2.2.1 9 = .ok (.iconst 1, 1) := by decide +kernel
theorem d_Mo_topAll_10 : decode Y_Mo_topAll.2.2.1 10 = .ok (.istore_n 2, 1) := by decide +kernel
theorem d_Mo_topAll_11 : decode Y_Mo_topAll.2.2.1 11 = .ok (.iload_n 2, 1) := by decide +kernel
theorem d_Mo_topAll_12 : decode Y_Mo_topAll.2.2.1 12 = .ok (.iconst 1, 1) := by decide +kernel
theorem d_Mo_topAll_13 : decode Y_Mo_topAll.2.2.1 13 = .ok (.aload_n 0, 1) := by decide +kernel
theorem d_Mo_topAll_14 : decode Y_Mo_topAll.2.2.1 14 = .ok (.getfield 47, 3) := by decide +kernel
theorem d_Mo_topAll_17 : decode Y_Mo_topAll.2.2.1 17 = .ok (.ishl, 1) := by decide +kernel
theorem d_Mo_topAll_18 : decode Y_Mo_topAll.2.2.1 18 = .ok (.if_icmp .ge 121, 3) := by decide +kernel
theorem d_Mo_topAll_21 : decode Y_Mo_topAll.2.2.1 21 = .ok (.iload_n 2, 1) := by decide +kernel
theorem d_Mo_topAll_22 : decode Y_Mo_topAll.2.2.1 22 = .ok (.invokestatic 113, 3) := by decide +kernel
theorem d_Mo_topAll_25 : decode Y_Mo_topAll.2.2.1 25 = .ok (.iload_n 1, 1) := by decide +kernel
theorem d_Mo_topAll_26 : decode Y_Mo_topAll.2.2.1 26 = .ok (.invokestatic 113, 3) := by decide +kernel
theorem d_Mo_topAll_29 : decode Y_Mo_topAll.2.2.1 29 = .ok (.if_icmp .ge 7, 3) := by decide +kernel
theorem d_Mo_topAll_32 : decode Y_Mo_topAll.2.2.1 32 = .ok (.iconst 1, 1) := by decide +kernel
theorem d_Mo_topAll_33 : decode Y_Mo_topAll.2.2.1 33 = .ok (.goto 4, 3) := by decide +kernel
theorem d_Mo_topAll_36 : decode Y_Mo_topAll.2.2.1 36 = .ok (.iconst 0, 1) := by decide +kernel
theorem d_Mo_topAll_37 : decode Y_Mo_topAll.2.2.1 37 = .ok (.istore_n 3, 1) := by decide +kernel
theorem d_Mo_topAll_38 : decode Y_Mo_topAll.2.2.1 38 = .ok (.iconst 0, 1) := by decide +kernel
theorem d_Mo_topAll_39 : decode Y_Mo_topAll.2.2.1 39 = .ok (.istore 4, 2) := by decide +kernel
theorem d_Mo_topAll_41 : decode Y_Mo_topAll.2.2.1 41 = .ok (.iload 4, 2) := by decide +kernel
theorem d_Mo_topAll_43 : decode Y_Mo_topAll.2.2.1 43 = .ok (.bipush 64, 2) := by decide +kernel
theorem d_Mo_topAll_45 : decode Y_Mo_topAll.2.2.1 45 = .ok (.if_icmp .ge 78, 3) := by decide +kernel
theorem d_Mo_topAll_48 : decode Y_Mo_topAll.2.2.1 48 = .ok (.iload_n 3, 1) := by decide +kernel
theorem d_Mo_topAll_49 : decode Y_Mo_topAll.2.2.1 49 = .ok (.ifCond .eq 74, 3) := by decide +kernel
theorem d_Mo_topAll_52 : decode Y_Mo_topAll.2.2.1 52 = .ok (.iload_n 2, 1) := by decide +kernel
theorem d_Mo_topAll_53 : decode Y_Mo_topAll.2.2.1 53 = .ok (.iload 4, 2) := by decide +kernel
theorem d_Mo_topAll_55 : decode Y_Mo_topAll.2.2.1 55 = .ok (.bipush 8, 2) := by decide +kernel
theorem d_Mo_topAll_57 : decode Y_Mo_topAll.2.2.1 57 = .ok (.idiv, 1) := by decide +kernel
theorem d_Mo_topAll_58 : decode Y_Mo_topAll.2.2.1 58 = .ok (.ishr, 1) := by decide +kernel
theorem d_Mo_topAll_59 : decode Y_Mo_topAll.2.2.1 59 = .ok (.iconst 1, 1) := by decide +kernel
theorem d_Mo_topAll_60 : decode Y_Mo_topAll.2.2.1 60 = .ok (.iand, 1) := by decide +kernel
theorem d_Mo_topAll_61 : decode Y_Mo_topAll.2.2.1 61 = .ok (.iconst 1, 1) := by decide +kernel
theorem d_Mo_topAll_62 : decode Y_Mo_topAll.2.2.1 62 = .ok (.if_icmp .ne 31, 3) := by decide +kernel
theorem d_Mo_topAll_65 : decode Y_Mo_topAll.2.2.1 65 = .ok (.iload 4, 2) := by decide +kernel
theorem d_Mo_topAll_67 : decode Y_Mo_topAll.2.2.1 67 = .ok (.bipush 8, 2) := by decide +kernel
theorem d_Mo_topAll_69 : decode Y_Mo_topAll.2.2.1 69 = .ok (.irem, 1) := by decide +kernel
theorem d_Mo_topAll_70 : decode Y_Mo_topAll.2.2.1 70 = .ok (.aload_n 0, 1) := by decide +kernel
theorem d_Mo_topAll_71 : decode Y_Mo_topAll.2.2.1 71 = .ok (.getfield 47, 3) := by decide +kernel
theorem d_Mo_topAll_74 : decode Y_Mo_topAll.2.2.1 74 = .ok (.if_icmp .ge 19, 3) := by decide +kernel
theorem d_Mo_topAll_77 : decode Y_Mo_topAll.2.2.1 77 = .ok (.iload_n 2, 1) := by decide +kernel
theorem d_Mo_topAll_78 : decode Y_Mo_topAll.2.2.1 78 = .ok (.iload 4, 2) := by decide +kernel
theorem d_Mo_topAll_80 : decode Y_Mo_topAll.2.2.1 80 = .ok (.bipush 8, 2) := by decide +kernel
theorem d_Mo_topAll_82 : decode Y_Mo_topAll.2.2.1 82 = .ok (.irem, 1) := by decide +kernel
theorem d_Mo_topAll_83 : decode Y_Mo_topAll.2.2.1 83 = .ok (.ishr, 1) := by decide +kernel
theorem d_Mo_topAll_84 : decode Y_Mo_topAll.2.2.1 84 = .ok (.iconst 1, 1) := by decide +kernel
theorem d_Mo_topAll_85 : decode Y_Mo_topAll.2.2.1 85 = .ok (.iand, 1) := by decide +kernel
theorem d_Mo_topAll_86 : decode Y_Mo_topAll.2.2.1 86 = .ok (.ifCond .ne 7, 3) := by decide +kernel
theorem d_Mo_topAll_89 : decode Y_Mo_topAll.2.2.1 89 = .ok (.iconst 1, 1) := by decide +kernel
theorem d_Mo_topAll_90 : decode Y_Mo_topAll.2.2.1 90 = .ok (.goto 4, 3) := by decide +kernel
theorem d_Mo_topAll_93 : decode Y_Mo_topAll.2.2.1 93 = .ok (.iconst 0, 1) := by decide +kernel
theorem d_Mo_topAll_94 : decode Y_Mo_topAll.2.2.1 94 = .ok (.istore 5, 2) := by decide +kernel
theorem d_Mo_topAll_96 : decode Y_Mo_topAll.2.2.1 96 = .ok (.iload 5, 2) := by decide +kernel
theorem d_Mo_topAll_98 : decode Y_Mo_topAll.2.2.1 98 = .ok (.ifCond .eq 13, 3) := by decide +kernel
theorem d_Mo_topAll_101 : decode Y_Mo_topAll.2.2.1 101 = .ok (.aload_n 0, 1) := by decide +kernel
theorem d_Mo_topAll_102 : decode Y_Mo_topAll.2.2.1 102 = .ok (.getfield 28, 3) := by decide +kernel
theorem d_Mo_topAll_105 : decode Y_Mo_topAll.2.2.1 105 = .ok (.iload 4, 2) := by decide +kernel
theorem d_Mo_topAll_107 : decode Y_Mo_topAll.2.2.1 107 = .ok (.iaload, 1) := by decide +kernel
theorem d_Mo_topAll_108 : decode Y_Mo_topAll.2.2.1 108 = .ok (.ifCond .le 7, 3) := by decide +kernel
theorem d_Mo_topAll_111 : decode Y_Mo_topAll.2.2.1 111 = .ok (.iconst 1, 1) := by decide +kernel
theorem d_Mo_topAll_112 : decode Y_Mo_topAll.2.2.1 112 = .ok (.goto 4, 3) := by decide +kernel
theorem d_Mo_topAll_115 : decode Y_Mo_topAll.2.2.1 115 = .ok (.iconst 0, 1) := by decide +kernel
theorem d_Mo_topAll_116 : decode Y_Mo_topAll.2.2.1 116 = .ok (.istore_n 3, 1) := by decide +kernel
theorem d_Mo_topAll_117 : decode Y_Mo_topAll.2.2.1 117 = .ok (.iinc 4 1, 3) := by decide +kernel
theorem d_Mo_topAll_120 : decode Y_Mo_topAll.2.2.1 120 = .ok (.goto (-79), 3) := by decide +kernel
theorem d_Mo_topAll_123 : decode Y_Mo_topAll.2.2.1 123 = .ok (.iload_n 3, 1) := by decide +kernel
theorem d_Mo_topAll_124 : decode Y_Mo_topAll.2.2.1 124 = .ok (.ifCond .eq 7, 3) := by decide +kernel
theorem d_Mo_topAll_127 : decode Y_Mo_topAll.2.2.1 127 = .ok (.iload_n 2, 1) := by decide +kernel
theorem d_Mo_topAll_128 : decode Y_Mo_topAll.2.2.1 128 = .ok (.goto 4, 3) := by decide +kernel
theorem d_Mo_topAll_131 : decode Y_Mo_topAll.2.2.1 131 = .ok (.iload_n 1, 1) := by decide +kernel
theorem d_Mo_topAll_132 : decode Y_Mo_topAll.2.2.1 132 = .ok (.istore_n 1, 1) := by decide +kernel
theorem d_Mo_topAll_133 : decode Y_Mo_topAll.2.2.1 133 = .ok (.iinc 2 1, 3) := by decide +kernel
theorem d_Mo_topAll_136 : decode Y_Mo_topAll.2.2.1 136 = .ok (.goto (-125), 3) := by decide +kernel
theorem d_Mo_topAll_139 : decode Y_Mo_topAll.2.2.1 139 = .ok (.aload_n 0, 1) := by decide +kernel
theorem d_Mo_topAll_140 : decode Y_Mo_topAll.2.2.1 140 = .ok (.iconst 0, 1) := by decide +kernel
theorem d_Mo_topAll_141 : decode Y_Mo_topAll.2.2.1 141 = .ok (.putfield 101, 3) := by decide +kernel
theorem d_Mo_topAll_144 : decode Y_Mo_topAll.2.2.1 144 = .ok (.iconst 0, 1) := by decide +kernel
theorem d_Mo_topAll_145 : decode Y_Mo_topAll.2.2.1 145 = .ok (.istore_n 2, 1) := by decide +kernel
theorem d_Mo_topAll_146 : decode Y_Mo_topAll.2.2.1 146 = .ok (.iload_n 2, 1) := by decide +kernel
theorem d_Mo_topAll_147 : decode Y_Mo_topAll.2.2.1 147 = .ok (.aload_n 0, 1) := by decide +kernel
theorem d_Mo_topAll_148 : decode Y_Mo_topAll.2.2.1 148 = .ok (.getfield 47, 3) := by decide +kernel
theorem d_Mo_topAll_151 : decode Y_Mo_topAll.2.2.1 151 = .ok (.if_icmp .ge 38, 3) := by decide +kernel
theorem d_Mo_topAll_154 : decode Y_Mo_topAll.2.2.1 154 = .ok (.iload_n 1, 1) := by decide +kernel
theorem d_Mo_topAll_155 : decode Y_Mo_topAll.2.2.1 155 = .ok (.iload_n 2, 1) := by decide +kernel
theorem d_Mo_topAll_156 : decode Y_Mo_topAll.2.2.1 156 = .ok (.ishr, 1) := by decide +kernel
theorem d_Mo_topAll_157 : decode Y_Mo_topAll.2.2.1 157 = .ok (.iconst 1, 1) := by decide +kernel
theorem d_Mo_topAll_158 : decode Y_Mo_topAll.2.2.1 158 = .ok (.iand, 1) := by decide +kernel
theorem d_Mo_topAll_159 : decode Y_Mo_topAll.2.2.1 159 = .ok (.iconst 1, 1) := by decide +kernel
theorem d_Mo_topAll_160 : decode Y_Mo_topAll.2.2.1 160 = .ok (.if_icmp .ne 23, 3) := by decide +kernel
theorem d_Mo_topAll_163 : decode Y_Mo_topAll.2.2.1 163 = .ok (.aload_n 0, 1) := by decide +kernel
theorem d_Mo_topAll_164 : decode Y_Mo_topAll.2.2.1 164 = .ok (.getfield 44, 3) := by decide +kernel
theorem d_Mo_topAll_167 : decode Y_Mo_topAll.2.2.1 167 = .ok (.aload_n 0, 1) := by decide +kernel
theorem d_Mo_topAll_168 : decode Y_Mo_topAll.2.2.1 168 = .ok (.getfield 101, 3) := by decide +kernel
theorem d_Mo_topAll_171 : decode Y_Mo_topAll.2.2.1 171 = .ok (.iload_n 2, 1) := by decide +kernel
theorem d_Mo_topAll_172 : decode Y_Mo_topAll.2.2.1 172 = .ok (.iastore, 1) := by decide +kernel
theorem d_Mo_topAll_173 : decode Y_Mo_topAll.2.2.1 173 = .ok (.aload_n 0, 1) := by decide +kernel
theorem d_Mo_topAll_174 : decode Y_Mo_topAll.2.2.1 174 = .ok (.dup, 1) := by decide +kernel
theorem d_Mo_topAll_175 : decode Y_Mo_topAll.2.2.1 175 = .ok (.getfield 101, 3) := by decide +kernel
theorem d_Mo_topAll_178 : decode Y_Mo_topAll.2.2.1 178 = .ok (.iconst 1, 1) := by decide +kernel
theorem d_Mo_topAll_179 : decode Y_Mo_topAll.2.2.1 179 = .ok (.iadd, 1) := by decide +kernel
theorem d_Mo_topAll_180 : decode Y_Mo_topAll.2.2.1 180 = .ok (.putfield 101, 3) := by decide +kernel
theorem d_Mo_topAll_183 : decode Y_Mo_topAll.2.2.1 183 = .ok (.iinc 2 1, 3) := by decide +kernel
theorem d_Mo_topAll_186 : decode Y_Mo_topAll.2.2.1 186 = .ok (.goto (-40), 3) := by decide +kernel
theorem d_Mo_topAll_189 : decode Y_Mo_topAll.2.2.1 189 = .ok (.return_, 1) := by decide +kernel
theorem d_Mo_sizeOf_0 : decode Y_Mo_sizeOf.2.2.1 0 = .ok (.iconst 0, 1) := by decide +kernel
theorem d_Mo_sizeOf_1 : decode Y_Mo_sizeOf.2.2.1 1 = .ok (.istore_n 1, 1) := by decide +kernel
theorem d_Mo_sizeOf_2 : decode Y_Mo_sizeOf.2.2.1 2 = .ok (.iconst 0, 1) := by decide +kernel
theorem d_Mo_sizeOf_3 : decode Y_Mo_sizeOf.2.2.1 3 = .ok (.istore_n 2, 1) := by decide +kernel
theorem d_Mo_sizeOf_4 : decode Y_Mo_sizeOf.2.2.1 4 = .ok (.iload_n 2, 1) := by decide +kernel
theorem d_Mo_sizeOf_5 : decode Y_Mo_sizeOf.2.2.1 5 = .ok (.bipush 8, 2) := by decide +kernel
theorem d_Mo_sizeOf_7 : decode Y_Mo_sizeOf.2.2.1 7 = .ok (.if_icmp .ge 17, 3) := by decide +kernel
theorem d_Mo_sizeOf_10 : decode Y_Mo_sizeOf.2.2.1 10 = .ok (.iload_n 1, 1) := by decide +kernel
theorem d_Mo_sizeOf_11 : decode Y_Mo_sizeOf.2.2.1 11 = .ok (.iload_n 0, 1) := by decide +kernel
theorem d_Mo_sizeOf_12 : decode Y_Mo_sizeOf.2.2.1 12 = .ok (.iload_n 2, 1) := by decide +kernel
theorem d_Mo_sizeOf_13 : decode Y_Mo_sizeOf.2.2.1 13 = .ok (.ishr, 1) := by decide +kernel
theorem d_Mo_sizeOf_14 : decode Y_Mo_sizeOf.2.2.1 14 = .ok (.iconst 1, 1) := by decide +kernel
theorem d_Mo_sizeOf_15 : decode Y_Mo_sizeOf.2.2.1 15 = .ok (.iand, 1) := by decide +kernel
theorem d_Mo_sizeOf_16 : decode Y_Mo_sizeOf.2.2.1 16 = .ok (.iadd, 1) := by decide +kernel
theorem d_Mo_sizeOf_17 : decode Y_Mo_sizeOf.2.2.1 17 = .ok (.istore_n 1, 1) := by decide +kernel
theorem d_Mo_sizeOf_18 : decode Y_Mo_sizeOf.2.2.1 18 = .ok (.iinc 2 1, 3) := by decide +kernel
theorem d_Mo_sizeOf_21 : decode Y_Mo_sizeOf.2.2.1 21 = .ok (.goto (-17), 3) := by decide +kernel
theorem d_Mo_sizeOf_24 : decode Y_Mo_sizeOf.2.2.1 24 = .ok (.iload_n 1, 1) := by decide +kernel
theorem d_Mo_sizeOf_25 : decode Y_Mo_sizeOf.2.2.1 25 = .ok (.ireturn, 1) := by decide +kernel
theorem d_Mo_tell_0 : decode Y_Mo_tell.2.2.1 0 = .ok (.aload_n 0, 1) := by decide +kernel
theorem d_Mo_tell_1 : decode Y_Mo_tell.2.2.1 1 = .ok (.iload_n 2, 1) := by decide +kernel
theorem d_Mo_tell_2 : decode Y_Mo_tell.2.2.1 2 = .ok (.invokevirtual 86, 3) := by decide +kernel
theorem d_Mo_tell_5 : decode Y_Mo_tell.2.2.1 5 = .ok (.iload_n 1, 1) := by decide +kernel
theorem d_Mo_tell_6 : decode Y_Mo_tell.2.2.1 6 = .ok (.ifCond .ne 10, 3) := by decide +kernel
theorem d_Mo_tell_9 : decode Y_Mo_tell.2.2.1 9 = .ok (.aload_n 0, 1) := by decide +kernel
theorem d_Mo_tell_10 : decode Y_Mo_tell.2.2.1 10 = .ok (.invokevirtual 116, 3) := by decide +kernel
theorem d_Mo_tell_13 : decode Y_Mo_tell.2.2.1 13 = .ok (.goto 19, 3) := by decide +kernel
theorem d_Mo_tell_16 : decode Y_Mo_tell.2.2.1 16 = .ok (.iload_n 1, 1) := by decide +kernel
theorem d_Mo_tell_17 : decode Y_Mo_tell.2.2.1 17 = .ok (.iconst 1, 1) := by decide +kernel
theorem d_Mo_tell_18 : decode Y_Mo_tell.2.2.1 18 = .ok (.if_icmp .ne 10, 3) := by decide +kernel
theorem d_Mo_tell_21 : decode Y_Mo_tell.2.2.1 21 = .ok (.aload_n 0, 1) := by decide +kernel
theorem d_Mo_tell_22 : decode Y_Mo_tell.2.2.1 22 = .ok (.invokevirtual 119, 3) := by decide +kernel
theorem d_Mo_tell_25 : decode Y_Mo_tell.2.2.1 25 = .ok (.goto 7, 3) := by decide +kernel
theorem d_Mo_tell_28 : decode Y_Mo_tell.2.2.1 28 = .ok (.aload_n 0, 1) := by decide +kernel
theorem d_Mo_tell_29 : decode Y_Mo_tell.2.2.1 29 = .ok (.invokevirtual 122, 3) := by decide +kernel
theorem d_Mo_tell_32 : decode Y_Mo_tell.2.2.1 32 = .ok (.aload_n 0, 1) := by decide +kernel
theorem d_Mo_tell_33 : decode Y_Mo_tell.2.2.1 33 = .ok (.iload_n 3, 1) := by decide +kernel
theorem d_Mo_tell_34 : decode Y_Mo_tell.2.2.1 34 = .ok (.ifCond .lt 11, 3) := by decide +kernel
theorem d_Mo_tell_37 : decode Y_Mo_tell.2.2.1 37 = .ok (.iload_n 3, 1) := by decide +kernel
theorem d_Mo_tell_38 : decode Y_Mo_tell.2.2.1 38 = .ok (.aload_n 0, 1) := by decide +kernel
theorem d_Mo_tell_39 : decode Y_Mo_tell.2.2.1 39 = .ok (.getfield 101, 3) := by decide +kernel
theorem d_Mo_tell_42 : decode Y_Mo_tell.2.2.1 42 = .ok (.if_icmp .lt 8, 3) := by decide +kernel
theorem d_Mo_tell_45 : decode Y_Mo_tell.2.2.1 45 = .ok (.iload 4, 2) := by decide +kernel
theorem d_Mo_tell_47 : decode Y_Mo_tell.2.2.1 47 = .ok (.goto 4, 3) := by decide +kernel
theorem d_Mo_tell_50 : decode Y_Mo_tell.2.2.1 50 = .ok (.iconst 0, 1) := by decide +kernel
theorem d_Mo_tell_51 : decode Y_Mo_tell.2.2.1 51 = .ok (.putfield 51, 3) := by decide +kernel
theorem d_Mo_tell_54 : decode Y_Mo_tell.2.2.1 54 = .ok (.aload_n 0, 1) := by decide +kernel
theorem d_Mo_tell_55 : decode Y_Mo_tell.2.2.1 55 = .ok (.getfield 51, 3) := by decide +kernel
theorem d_Mo_tell_58 : decode Y_Mo_tell.2.2.1 58 = .ok (.ifCond .le 7, 3) := by decide +kernel
theorem d_Mo_tell_61 : decode Y_Mo_tell.2.2.1 61 = .ok (.iconst 0, 1) := by decide +kernel
theorem d_Mo_tell_62 : decode Y_Mo_tell.2.2.1 62 = .ok (.goto 9, 3) := by decide +kernel
theorem d_Mo_tell_65 : decode Y_Mo_tell.2.2.1 65 = .ok (.aload_n 0, 1) := by decide +kernel
theorem d_Mo_tell_66 : decode Y_Mo_tell.2.2.1 66 = .ok (.getfield 44, 3) := by decide +kernel
theorem d_Mo_tell_69 : decode Y_Mo_tell.2.2.1 69 = .ok (.iload_n 3, 1) := by decide +kernel
theorem d_Mo_tell_70 : decode Y_Mo_tell.2.2.1 70 = .ok (.iaload, 1) := by decide +kernel
theorem d_Mo_tell_71 : decode Y_Mo_tell.2.2.1 71 = .ok (.ireturn, 1) := by decide +kernel
theorem d_Mo_winner_0 : decode Y_Mo_winner.2.2.1 0 = .ok (.aload_n 0, 1) := by decide +kernel
theorem d_Mo_winner_1 : decode Y_Mo_winner.2.2.1 1 = .ok (.iconst 0, 1) := by decide +kernel
theorem d_Mo_winner_2 : decode Y_Mo_winner.2.2.1 2 = .ok (.iconst (-1), 1) := by decide +kernel
theorem d_Mo_winner_3 : decode Y_Mo_winner.2.2.1 3 = .ok (.iload_n 1, 1) := by decide +kernel
theorem d_Mo_winner_4 : decode Y_Mo_winner.2.2.1 4 = .ok (.iconst 1, 1) := by decide +kernel
theorem d_Mo_winner_5 : decode Y_Mo_winner.2.2.1 5 = .ok (.invokevirtual 125, 3) := by decide +kernel
theorem d_Mo_winner_8 : decode Y_Mo_winner.2.2.1 8 = .ok (.ireturn, 1) := by decide +kernel
theorem d_Mo_locked_0 : decode Y_Mo_locked.2.2.1 0 = .ok (.aload_n 0, 1) := by decide +kernel
theorem d_Mo_locked_1 : decode Y_Mo_locked.2.2.1 1 = .ok (.iload_n 1, 1) := by decide +kernel
theorem d_Mo_locked_2 : decode Y_Mo_locked.2.2.1 2 = .ok (.iload_n 2, 1) := by decide +kernel
theorem d_Mo_locked_3 : decode Y_Mo_locked.2.2.1 3 = .ok (.invokevirtual 93, 3) := by decide +kernel
theorem d_Mo_locked_6 : decode Y_Mo_locked.2.2.1 6 = .ok (.ifCond .eq 5, 3) := by decide +kernel
theorem d_Mo_locked_9 : decode Y_Mo_locked.2.2.1 9 = .ok (.iconst 0, 1) := by decide +kernel
theorem d_Mo_locked_10 : decode Y_Mo_locked.2.2.1 10 = .ok (.ireturn, 1) := by decide +kernel
theorem d_Mo_locked_11 : decode Y_Mo_locked.2.2.1 11 = .ok (.aload_n 0, 1) := by decide +kernel
theorem d_Mo_locked_12 : decode Y_Mo_locked.2.2.1 12 = .ok (.invokevirtual 110, 3) := by decide +kernel
theorem d_Mo_locked_15 : decode Y_Mo_locked.2.2.1 15 = .ok (.aload_n 0, 1) := by decide +kernel
theorem d_Mo_locked_16 : decode Y_Mo_locked.2.2.1 16 = .ok (.getfield 34, 3) := by decide +kernel
theorem d_Mo_locked_19 : decode Y_Mo_locked.2.2.1 19 = .ok (.bipush 8, 2) := by decide +kernel
theorem d_Mo_locked_21 : decode Y_Mo_locked.2.2.1 21 = .ok (.iload_n 1, 1) := by decide +kernel
theorem d_Mo_locked_22 : decode Y_Mo_locked.2.2.1 22 = .ok (.imul, 1) := by decide +kernel
theorem d_Mo_locked_23 : decode Y_Mo_locked.2.2.1 23 = .ok (.iload_n 2, 1) := by decide +kernel
theorem d_Mo_locked_24 : decode Y_Mo_locked.2.2.1 24 = .ok (.iadd, 1) := by decide +kernel
theorem d_Mo_locked_25 : decode Y_Mo_locked.2.2.1 25 = .ok (.baload, 1) := by decide +kernel
theorem d_Mo_locked_26 : decode Y_Mo_locked.2.2.1 26 = .ok (.ireturn, 1) := by decide +kernel
theorem d_Mo_order_0 : decode Y_Mo_order.2.2.1 0 = .ok (.aload_n 0, 1) := by decide +kernel
theorem d_Mo_order_1 : decode Y_Mo_order.2.2.1 1 = .ok (.iconst 1, 1) := by decide +kernel
theorem d_Mo_order_2 : decode Y_Mo_order.2.2.1 2 = .ok (.iconst (-1), 1) := by decide +kernel
theorem d_Mo_order_3 : decode Y_Mo_order.2.2.1 3 = .ok (.iload_n 1, 1) := by decide +kernel
theorem d_Mo_order_4 : decode Y_Mo_order.2.2.1 4 = .ok (.iconst 1, 1) := by decide +kernel
theorem d_Mo_order_5 : decode Y_Mo_order.2.2.1 5 = .ok (.invokevirtual 125, 3) := by decide +kernel
theorem d_Mo_order_8 : decode Y_Mo_order.2.2.1 8 = .ok (.ireturn, 1) := by decide +kernel
theorem d_Mo_top_0 : decode Y_Mo_top.2.2.1 0 = .ok (.aload_n 0, 1) := by decide +kernel
theorem d_Mo_top_1 : decode Y_Mo_top.2.2.1 1 = .ok (.iconst 2, 1) := by decide +kernel
theorem d_Mo_top_2 : decode Y_Mo_top.2.2.1 2 = .ok (.iconst (-1), 1) := by decide +kernel
theorem d_Mo_top_3 : decode Y_Mo_top.2.2.1 3 = .ok (.iload_n 1, 1) := by decide +kernel
theorem d_Mo_top_4 : decode Y_Mo_top.2.2.1 4 = .ok (.iconst 1, 1) := by decide +kernel
theorem d_Mo_top_5 : decode Y_Mo_top.2.2.1 5 = .ok (.invokevirtual 125, 3) := by decide +kernel
theorem d_Mo_top_8 : decode Y_Mo_top.2.2.1 8 = .ok (.ireturn, 1) := by decide +kernel
theorem d_Mo_without_0 : decode Y_Mo_without.2.2.1 0 = .ok (.aload_n 0, 1) := by decide +kernel
theorem d_Mo_without_1 : decode Y_Mo_without.2.2.1 1 = .ok (.aload_n 0, 1) := by decide +kernel
theorem d_Mo_without_2 : decode Y_Mo_without.2.2.1 2 = .ok (.iload_n 1, 1) := by decide +kernel
theorem d_Mo_without_3 : decode Y_Mo_without.2.2.1 3 = .ok (.invokevirtual 73, 3) := by decide +kernel
theorem d_Mo_without_6 : decode Y_Mo_without.2.2.1 6 = .ok (.ifCond .eq 12, 3) := by decide +kernel
theorem d_Mo_without_9 : decode Y_Mo_without.2.2.1 9 = .ok (.iload_n 2, 1) := by decide +kernel
theorem d_Mo_without_10 : decode Y_Mo_without.2.2.1 10 = .ok (.ifCond .lt 8, 3) := by decide +kernel
theorem d_Mo_without_13 : decode Y_Mo_without.2.2.1 13 = .ok (.iload_n 2, 1) := by decide +kernel
theorem d_Mo_without_14 : decode Y_Mo_without.2.2.1 14 = .ok (.iconst 2, 1) := by decide +kernel
theorem d_Mo_without_15 : decode Y_Mo_without.2.2.1 15 = .ok (.if_icmp .le 7, 3) := by decide +kernel
theorem d_Mo_without_18 : decode Y_Mo_without.2.2.1 18 = .ok (.iconst 1, 1) := by decide +kernel
theorem d_Mo_without_19 : decode Y_Mo_without.2.2.1 19 = .ok (.goto 4, 3) := by decide +kernel
theorem d_Mo_without_22 : decode Y_Mo_without.2.2.1 22 = .ok (.iconst 0, 1) := by decide +kernel
theorem d_Mo_without_23 : decode Y_Mo_without.2.2.1 23 = .ok (.putfield 51, 3) := by decide +kernel
theorem d_Mo_without_26 : decode Y_Mo_without.2.2.1 26 = .ok (.aload_n 0, 1) := by decide +kernel
theorem d_Mo_without_27 : decode Y_Mo_without.2.2.1 27 = .ok (.getfield 51, 3) := by decide +kernel
theorem d_Mo_without_30 : decode Y_Mo_without.2.2.1 30 = .ok (.ifCond .le 7, 3) := by decide +kernel
theorem d_Mo_without_33 : decode Y_Mo_without.2.2.1 33 = .ok (.iconst 0, 1) := by decide +kernel
theorem d_Mo_without_34 : decode Y_Mo_without.2.2.1 34 = .ok (.goto 11, 3) := by decide +kernel
theorem d_Mo_without_37 : decode Y_Mo_without.2.2.1 37 = .ok (.aload_n 0, 1) := by decide +kernel
theorem d_Mo_without_38 : decode Y_Mo_without.2.2.1 38 = .ok (.iload_n 2, 1) := by decide +kernel
theorem d_Mo_without_39 : decode Y_Mo_without.2.2.1 39 = .ok (.iload_n 1, 1) := by decide +kernel
theorem d_Mo_without_40 : decode Y_Mo_without.2.2.1 40 = .ok (.iload_n 3, 1) := by decide +kernel
theorem d_Mo_without_41 : decode Y_Mo_without.2.2.1 41 = .ok (.iconst 2, 1) := by decide +kernel
theorem d_Mo_without_42 : decode Y_Mo_without.2.2.1 42 = .ok (.invokevirtual 125, 3) := by decide +kernel
theorem d_Mo_without_45 : decode Y_Mo_without.2.2.1 45 = .ok (.ireturn, 1) := by decide +kernel
theorem d_Mo_seal_0 : decode Y_Mo_seal.2.2.1 0 = .ok (.aload_n 0, 1) := by decide +kernel
theorem d_Mo_seal_1 : decode Y_Mo_seal.2.2.1 1 = .ok (.iconst 0, 1) := by decide +kernel
theorem d_Mo_seal_2 : decode Y_Mo_seal.2.2.1 2 = .ok (.putfield 51, 3) := by decide +kernel
theorem d_Mo_seal_5 : decode Y_Mo_seal.2.2.1 5 = .ok (.aload_n 0, 1) := by decide +kernel
theorem d_Mo_seal_6 : decode Y_Mo_seal.2.2.1 6 = .ok (.getfield 61, 3) := by decide +kernel
theorem d_Mo_seal_9 : decode Y_Mo_seal.2.2.1 9 = .ok (.istore_n 1, 1) := by decide +kernel
theorem d_Mo_seal_10 : decode Y_Mo_seal.2.2.1 10 = .ok (.aload_n 0, 1) := by decide +kernel
theorem d_Mo_seal_11 : decode Y_Mo_seal.2.2.1 11 = .ok (.iconst 1, 1) := by decide +kernel
theorem d_Mo_seal_12 : decode Y_Mo_seal.2.2.1 12 = .ok (.putfield 61, 3) := by decide +kernel
theorem d_Mo_seal_15 : decode Y_Mo_seal.2.2.1 15 = .ok (.iload_n 1, 1) := by decide +kernel
theorem d_Mo_seal_16 : decode Y_Mo_seal.2.2.1 16 = .ok (.ifCond .ne 7, 3) := by decide +kernel
theorem d_Mo_seal_19 : decode Y_Mo_seal.2.2.1 19 = .ok (.iconst 1, 1) := by decide +kernel
theorem d_Mo_seal_20 : decode Y_Mo_seal.2.2.1 20 = .ok (.goto 4, 3) := by decide +kernel
theorem d_Mo_seal_23 : decode Y_Mo_seal.2.2.1 23 = .ok (.iconst 0, 1) := by decide +kernel
theorem d_Mo_seal_24 : decode Y_Mo_seal.2.2.1 24 = .ok (.ireturn, 1) := by decide +kernel
