/-! decode rows, written by gen/dec.py -/
theorem d_Of_moveInDrawnOrder_87 : decode Y_Of_moveInDrawnOrder.2.2.1 87 = .ok (.isub, 1) := by decide +kernel
theorem d_Of_moveInDrawnOrder_88 : decode Y_Of_moveInDrawnOrder.2.2.1 88 = .ok (.iaload, 1) := by decide +kernel
theorem d_Of_moveInDrawnOrder_89 : decode Y_Of_moveInDrawnOrder.2.2.1 89 = .ok (.iastore, 1) := by decide +kernel
theorem d_Of_moveInDrawnOrder_90 : decode Y_Of_moveInDrawnOrder.2.2.1 90 = .ok (.iinc 4 (-1), 3) := by decide +kernel
theorem d_Of_moveInDrawnOrder_93 : decode Y_Of_moveInDrawnOrder.2.2.1 93 = .ok (.goto (-25), 3) := by decide +kernel
theorem d_Of_moveInDrawnOrder_96 : decode Y_Of_moveInDrawnOrder.2.2.1 96 = .ok (.aload_n 0, 1) := by decide +kernel
theorem d_Of_moveInDrawnOrder_97 : decode Y_Of_moveInDrawnOrder.2.2.1 97 = .ok (.getfield 13, 3) := by decide +kernel
theorem d_Of_moveInDrawnOrder_100 : decode Y_Of_moveInDrawnOrder.2.2.1 100 = .ok (.iload_n 2, 1) := by decide +kernel
theorem d_Of_moveInDrawnOrder_101 : decode Y_Of_moveInDrawnOrder.2.2.1 101 = .ok (.iload_n 1, 1) := by decide +kernel
theorem d_Of_moveInDrawnOrder_102 : decode Y_Of_moveInDrawnOrder.2.2.1 102 = .ok (.iastore, 1) := by decide +kernel
theorem d_Of_moveInDrawnOrder_103 : decode Y_Of_moveInDrawnOrder.2.2.1 103 = .ok (.return_, 1) := by decide +kernel
theorem d_Of_winnerSet_0 : decode Y_Of_winnerSet.2.2.1 0 = .ok (.aload_n 0, 1) := by decide +kernel
theorem d_Of_winnerSet_1 : decode Y_Of_winnerSet.2.2.1 1 = .ok (.getfield 46, 3) := by decide +kernel
theorem d_Of_winnerSet_4 : decode Y_Of_winnerSet.2.2.1 4 = .ok (.aload_n 1, 1) := by decide +kernel
theorem d_Of_winnerSet_5 : decode Y_Of_winnerSet.2.2.1 5 = .ok (.invokevirtual 145, 3) := by decide +kernel
theorem d_Of_winnerSet_8 : decode Y_Of_winnerSet.2.2.1 8 = .ok (.aload_n 0, 1) := by decide +kernel
theorem d_Of_winnerSet_9 : decode Y_Of_winnerSet.2.2.1 9 = .ok (.getfield 46, 3) := by decide +kernel
theorem d_Of_winnerSet_12 : decode Y_Of_winnerSet.2.2.1 12 = .ok (.invokevirtual 218, 3) := by decide +kernel
theorem d_Of_winnerSet_15 : decode Y_Of_winnerSet.2.2.1 15 = .ok (.ireturn, 1) := by decide +kernel
theorem d_Of_inOrder_0 : decode Y_Of_inOrder.2.2.1 0 = .ok (.aload_n 0, 1) := by decide +kernel
theorem d_Of_inOrder_1 : decode Y_Of_inOrder.2.2.1 1 = .ok (.iload_n 2, 1) := by decide +kernel
theorem d_Of_inOrder_2 : decode Y_Of_inOrder.2.2.1 2 = .ok (.invokevirtual 60, 3) := by decide +kernel
theorem d_Of_inOrder_5 : decode Y_Of_inOrder.2.2.1 5 = .ok (.ifCond .ne 5, 3) := by decide +kernel
theorem d_Of_inOrder_8 : decode Y_Of_inOrder.2.2.1 8 = .ok (.iconst (-1), 1) := by decide +kernel
theorem d_Of_inOrder_9 : decode Y_Of_inOrder.2.2.1 9 = .ok (.ireturn, 1) := by decide +kernel
theorem d_Of_inOrder_10 : decode Y_Of_inOrder.2.2.1 10 = .ok (.aload_n 0, 1) := by decide +kernel
theorem d_Of_inOrder_11 : decode Y_Of_inOrder.2.2.1 11 = .ok (.getfield 53, 3) := by decide +kernel
theorem d_Of_inOrder_14 : decode Y_Of_inOrder.2.2.1 14 = .ok (.aload_n 1, 1) := by decide +kernel
theorem d_Of_inOrder_15 : decode Y_Of_inOrder.2.2.1 15 = .ok (.aload_n 0, 1) := by decide +kernel
theorem d_Of_inOrder_16 : decode Y_Of_inOrder.2.2.1 16 = .ok (.getfield 13, 3) := by decide +kernel
theorem d_Of_inOrder_19 : decode Y_Of_inOrder.2.2.1 19 = .ok (.invokevirtual 180, 3) := by decide +kernel
theorem d_Of_inOrder_22 : decode Y_Of_inOrder.2.2.1 22 = .ok (.aload_n 0, 1) := by decide +kernel
theorem d_Of_inOrder_23 : decode Y_Of_inOrder.2.2.1 23 = .ok (.getfield 53, 3) := by decide +kernel
theorem d_Of_inOrder_26 : decode Y_Of_inOrder.2.2.1 26 = .ok (.aload_n 0, 1) := by decide +kernel
theorem d_Of_inOrder_27 : decode Y_Of_inOrder.2.2.1 27 = .ok (.getfield 13, 3) := by decide +kernel
theorem d_Of_inOrder_30 : decode Y_Of_inOrder.2.2.1 30 = .ok (.iload_n 2, 1) := by decide +kernel
theorem d_Of_inOrder_31 : decode Y_Of_inOrder.2.2.1 31 = .ok (.invokevirtual 221, 3) := by decide +kernel
theorem d_Of_inOrder_34 : decode Y_Of_inOrder.2.2.1 34 = .ok (.ireturn, 1) := by decide +kernel
theorem d_Of_member_0 : decode Y_Of_member.2.2.1 0 = .ok (.iconst 0, 1) := by decide +kernel
theorem d_Of_member_1 : decode Y_Of_member.2.2.1 1 = .ok (.istore_n 2, 1) := by decide +kernel
theorem d_Of_member_2 : decode Y_Of_member.2.2.1 2 = .ok (.iconst 0, 1) := by decide +kernel
theorem d_Of_member_3 : decode Y_Of_member.2.2.1 3 = .ok (.istore_n 3, 1) := by decide +kernel
theorem d_Of_member_4 : decode Y_Of_member.2.2.1 4 = .ok (.iload_n 3, 1) := by decide +kernel
theorem d_Of_member_5 : decode Y_Of_member.2.2.1 5 = .ok (.bipush 8, 2) := by decide +kernel
theorem d_Of_member_7 : decode Y_Of_member.2.2.1 7 = .ok (.if_icmp .ge 27, 3) := by decide +kernel
theorem d_Of_member_10 : decode Y_Of_member.2.2.1 10 = .ok (.iload_n 0, 1) := by decide +kernel
theorem d_Of_member_11 : decode Y_Of_member.2.2.1 11 = .ok (.iload_n 3, 1) := by decide +kernel
theorem d_Of_member_12 : decode Y_Of_member.2.2.1 12 = .ok (.invokestatic 163, 3) := by decide +kernel
theorem d_Of_member_15 : decode Y_Of_member.2.2.1 15 = .ok (.ifCond .eq 13, 3) := by decide +kernel
theorem d_Of_member_18 : decode Y_Of_member.2.2.1 18 = .ok (.iload_n 2, 1) := by decide +kernel
theorem d_Of_member_19 : decode Y_Of_member.2.2.1 19 = .ok (.iload_n 1, 1) := by decide +kernel
theorem d_Of_member_20 : decode Y_Of_member.2.2.1 20 = .ok (.if_icmp .ne 5, 3) := by decide +kernel
theorem d_Of_member_23 : decode Y_Of_member.2.2.1 23 = .ok (.iload_n 3, 1) := by decide +kernel
theorem d_Of_member_24 : decode Y_Of_member.2.2.1 24 = .ok (.ireturn, 1) := by decide +kernel
theorem d_Of_member_25 : decode Y_Of_member.2.2.1 25 = .ok (.iinc 2 1, 3) := by decide +kernel
theorem d_Of_member_28 : decode Y_Of_member.2.2.1 28 = .ok (.iinc 3 1, 3) := by decide +kernel
theorem d_Of_member_31 : decode Y_Of_member.2.2.1 31 = .ok (.goto (-27), 3) := by decide +kernel
theorem d_Of_member_34 : decode Y_Of_member.2.2.1 34 = .ok (.iconst (-1), 1) := by decide +kernel
theorem d_Of_member_35 : decode Y_Of_member.2.2.1 35 = .ok (.ireturn, 1) := by decide +kernel
theorem d_Of_has_0 : decode Y_Of_has.2.2.1 0 = .ok (.iload_n 0, 1) := by decide +kernel
theorem d_Of_has_1 : decode Y_Of_has.2.2.1 1 = .ok (.iload_n 1, 1) := by decide +kernel
theorem d_Of_has_2 : decode Y_Of_has.2.2.1 2 = .ok (.iushr, 1) := by decide +kernel
theorem d_Of_has_3 : decode Y_Of_has.2.2.1 3 = .ok (.iconst 1, 1) := by decide +kernel
theorem d_Of_has_4 : decode Y_Of_has.2.2.1 4 = .ok (.iand, 1) := by decide +kernel
theorem d_Of_has_5 : decode Y_Of_has.2.2.1 5 = .ok (.ifCond .eq 7, 3) := by decide +kernel
theorem d_Of_has_8 : decode Y_Of_has.2.2.1 8 = .ok (.iconst 1, 1) := by decide +kernel
theorem d_Of_has_9 : decode Y_Of_has.2.2.1 9 = .ok (.goto 4, 3) := by decide +kernel
theorem d_Of_has_12 : decode Y_Of_has.2.2.1 12 = .ok (.iconst 0, 1) := by decide +kernel
theorem d_Of_has_13 : decode Y_Of_has.2.2.1 13 = .ok (.ireturn, 1) := by decide +kernel
theorem d_Of_nibble_0 : decode Y_Of_nibble.2.2.1 0 = .ok (.iload_n 0, 1) := by decide +kernel
theorem d_Of_nibble_1 : decode Y_Of_nibble.2.2.1 1 = .ok (.iconst 4, 1) := by decide +kernel
theorem d_Of_nibble_2 : decode Y_Of_nibble.2.2.1 2 = .ok (.iload_n 1, 1) := by decide +kernel
theorem d_Of_nibble_3 : decode Y_Of_nibble.2.2.1 3 = .ok (.imul, 1) := by decide +kernel
theorem d_Of_nibble_4 : decode Y_Of_nibble.2.2.1 4 = .ok (.iushr, 1) := by decide +kernel
theorem d_Of_nibble_5 : decode Y_Of_nibble.2.2.1 5 = .ok (.bipush 15, 2) := by decide +kernel
theorem d_Of_nibble_7 : decode Y_Of_nibble.2.2.1 7 = .ok (.iand, 1) := by decide +kernel
theorem d_Of_nibble_8 : decode Y_Of_nibble.2.2.1 8 = .ok (.ireturn, 1) := by decide +kernel
