/-! decode rows, written by gen/dec.py -/
theorem d_La_cell_0 : decode Y_La_cell.2.2.1 0 = .ok (.iload_n 1, 1) := by decide +kernel
theorem d_La_cell_1 : decode Y_La_cell.2.2.1 1 = .ok (.aload_n 0, 1) := by decide +kernel
theorem d_La_cell_2 : decode Y_La_cell.2.2.1 2 = .ok (.arraylength, 1) := by decide +kernel
theorem d_La_cell_3 : decode Y_La_cell.2.2.1 3 = .ok (.if_icmp .ge 9, 3) := by decide +kernel
theorem d_La_cell_6 : decode Y_La_cell.2.2.1 6 = .ok (.aload_n 0, 1) := by decide +kernel
theorem d_La_cell_7 : decode Y_La_cell.2.2.1 7 = .ok (.iload_n 1, 1) := by decide +kernel
theorem d_La_cell_8 : decode Y_La_cell.2.2.1 8 = .ok (.iaload, 1) := by decide +kernel
theorem d_La_cell_9 : decode Y_La_cell.2.2.1 9 = .ok (.goto 4, 3) := by decide +kernel
theorem d_La_cell_12 : decode Y_La_cell.2.2.1 12 = .ok (.iconst 0, 1) := by decide +kernel
theorem d_La_cell_13 : decode Y_La_cell.2.2.1 13 = .ok (.ireturn, 1) := by decide +kernel
theorem d_La_tie_0 : decode Y_La_tie.2.2.1 0 = .ok (.aload_n 0, 1) := by decide +kernel
theorem d_La_tie_1 : decode Y_La_tie.2.2.1 1 = .ok (.iload_n 1, 1) := by decide +kernel
theorem d_La_tie_2 : decode Y_La_tie.2.2.1 2 = .ok (.iload_n 2, 1) := by decide +kernel
theorem d_La_tie_3 : decode Y_La_tie.2.2.1 3 = .ok (.invokevirtual 7, 3) := by decide +kernel
theorem d_La_tie_6 : decode Y_La_tie.2.2.1 6 = .ok (.goto 9, 3) := by decide +kernel
theorem d_La_tie_9 : decode Y_La_tie.2.2.1 9 = .ok (.astore_n 3, 1) := by decide +kernel
theorem d_La_tie_10 : decode Y_La_tie.2.2.1 10 = .ok (.iconst 1, 1) := by decide +kernel
theorem d_La_tie_11 : decode Y_La_tie.2.2.1 11 = .ok (.ireturn, 1) := by decide +kernel
theorem d_La_tie_12 : decode Y_La_tie.2.2.1 12 = .ok (.astore_n 3, 1) := by decide +kernel
theorem d_La_tie_13 : decode Y_La_tie.2.2.1 13 = .ok (.iconst 2, 1) := by decide +kernel
theorem d_La_tie_14 : decode Y_La_tie.2.2.1 14 = .ok (.ireturn, 1) := by decide +kernel
theorem d_La_tie_15 : decode Y_La_tie.2.2.1 15 = .ok (.iconst 0, 1) := by decide +kernel
theorem d_La_tie_16 : decode Y_La_tie.2.2.1 16 = .ok (.ireturn, 1) := by decide +kernel
theorem d_La_drawn_0 : decode Y_La_drawn.2.2.1 0 = .ok (.aload_n 2, 1) := by decide +kernel
theorem d_La_drawn_1 : decode Y_La_drawn.2.2.1 1 = .ok (.iconst 0, 1) := by decide +kernel
theorem d_La_drawn_2 : decode Y_La_drawn.2.2.1 2 = .ok (.aload_n 0, 1) := by decide +kernel
theorem d_La_drawn_3 : decode Y_La_drawn.2.2.1 3 = .ok (.iload_n 1, 1) := by decide +kernel
theorem d_La_drawn_4 : decode Y_La_drawn.2.2.1 4 = .ok (.invokevirtual 17, 3) := by decide +kernel
theorem d_La_drawn_7 : decode Y_La_drawn.2.2.1 7 = .ok (.i2l, 1) := by decide +kernel
theorem d_La_drawn_8 : decode Y_La_drawn.2.2.1 8 = .ok (.lastore, 1) := by decide +kernel
theorem d_La_drawn_9 : decode Y_La_drawn.2.2.1 9 = .ok (.goto 6, 3) := by decide +kernel
theorem d_La_drawn_12 : decode Y_La_drawn.2.2.1 12 = .ok (.astore_n 3, 1) := by decide +kernel
theorem d_La_drawn_13 : decode Y_La_drawn.2.2.1 13 = .ok (.iconst 1, 1) := by decide +kernel
theorem d_La_drawn_14 : decode Y_La_drawn.2.2.1 14 = .ok (.ireturn, 1) := by decide +kernel
theorem d_La_drawn_15 : decode Y_La_drawn.2.2.1 15 = .ok (.iconst 0, 1) := by decide +kernel
theorem d_La_drawn_16 : decode Y_La_drawn.2.2.1 16 = .ok (.ireturn, 1) := by decide +kernel
theorem d_La_open_0 : decode Y_La_open.2.2.1 0 = .ok (.aload_n 1, 1) := by decide +kernel
theorem d_La_open_1 : decode Y_La_open.2.2.1 1 = .ok (.iconst 0, 1) := by decide +kernel
theorem d_La_open_2 : decode Y_La_open.2.2.1 2 = .ok (.aload_n 0, 1) := by decide +kernel
theorem d_La_open_3 : decode Y_La_open.2.2.1 3 = .ok (.invokevirtual 23, 3) := by decide +kernel
theorem d_La_open_6 : decode Y_La_open.2.2.1 6 = .ok (.i2l, 1) := by decide +kernel
theorem d_La_open_7 : decode Y_La_open.2.2.1 7 = .ok (.lastore, 1) := by decide +kernel
theorem d_La_open_8 : decode Y_La_open.2.2.1 8 = .ok (.goto 6, 3) := by decide +kernel
theorem d_La_open_11 : decode Y_La_open.2.2.1 11 = .ok (.astore_n 2, 1) := by decide +kernel
theorem d_La_open_12 : decode Y_La_open.2.2.1 12 = .ok (.iconst 1, 1) := by decide +kernel
theorem d_La_open_13 : decode Y_La_open.2.2.1 13 = .ok (.ireturn, 1) := by decide +kernel
theorem d_La_open_14 : decode Y_La_open.2.2.1 14 = .ok (.iconst 0, 1) := by decide +kernel
theorem d_La_open_15 : decode Y_La_open.2.2.1 15 = .ok (.ireturn, 1) := by decide +kernel
theorem d_La_ballot_0 : decode Y_La_ballot.2.2.1 0 = .ok (.aload 4, 2) := by decide +kernel
theorem d_La_ballot_2 : decode Y_La_ballot.2.2.1 2 = .ok (.iconst 0, 1) := by decide +kernel
theorem d_La_ballot_3 : decode Y_La_ballot.2.2.1 3 = .ok (.aload_n 0, 1) := by decide +kernel
theorem d_La_ballot_4 : decode Y_La_ballot.2.2.1 4 = .ok (.iload_n 1, 1) := by decide +kernel
theorem d_La_ballot_5 : decode Y_La_ballot.2.2.1 5 = .ok (.iload_n 2, 1) := by decide +kernel
theorem d_La_ballot_6 : decode Y_La_ballot.2.2.1 6 = .ok (.iload_n 3, 1) := by decide +kernel
theorem d_La_ballot_7 : decode Y_La_ballot.2.2.1 7 = .ok (.invokevirtual 27, 3) := by decide +kernel
theorem d_La_ballot_10 : decode Y_La_ballot.2.2.1 10 = .ok (.i2l, 1) := by decide +kernel
theorem d_La_ballot_11 : decode Y_La_ballot.2.2.1 11 = .ok (.lastore, 1) := by decide +kernel
theorem d_La_ballot_12 : decode Y_La_ballot.2.2.1 12 = .ok (.goto 11, 3) := by decide +kernel
theorem d_La_ballot_15 : decode Y_La_ballot.2.2.1 15 = .ok (.astore 5, 2) := by decide +kernel
theorem d_La_ballot_17 : decode Y_La_ballot.2.2.1 17 = .ok (.iconst 1, 1) := by decide +kernel
theorem d_La_ballot_18 : decode Y_La_ballot.2.2.1 18 = .ok (.ireturn, 1) := by decide +kernel
theorem d_La_ballot_19 : decode Y_La_ballot.2.2.1 19 = .ok (.astore 5, 2) := by decide +kernel
theorem d_La_ballot_21 : decode Y_La_ballot.2.2.1 21 = .ok (.iconst 2, 1) := by decide +kernel
theorem d_La_ballot_22 : decode Y_La_ballot.2.2.1 22 = .ok (.ireturn, 1) := by decide +kernel
theorem d_La_ballot_23 : decode Y_La_ballot.2.2.1 23 = .ok (.iconst 0, 1) := by decide +kernel
theorem d_La_ballot_24 : decode Y_La_ballot.2.2.1 24 = .ok (.ireturn, 1) := by decide +kernel
theorem d_La_turn_0 : decode Y_La_turn.2.2.1 0 = .ok (.aload_n 0, 1) := by decide +kernel
theorem d_La_turn_1 : decode Y_La_turn.2.2.1 1 = .ok (.iload_n 1, 1) := by decide +kernel
theorem d_La_turn_2 : decode Y_La_turn.2.2.1 2 = .ok (.iload_n 2, 1) := by decide +kernel
theorem d_La_turn_3 : decode Y_La_turn.2.2.1 3 = .ok (.invokevirtual 31, 3) := by decide +kernel
theorem d_La_turn_6 : decode Y_La_turn.2.2.1 6 = .ok (.goto 9, 3) := by decide +kernel
theorem d_La_turn_9 : decode Y_La_turn.2.2.1 9 = .ok (.astore_n 3, 1) := by decide +kernel
theorem d_La_turn_10 : decode Y_La_turn.2.2.1 10 = .ok (.iconst 1, 1) := by decide +kernel
theorem d_La_turn_11 : decode Y_La_turn.2.2.1 11 = .ok (.ireturn, 1) := by decide +kernel
theorem d_La_turn_12 : decode Y_La_turn.2.2.1 12 = .ok (.astore_n 3, 1) := by decide +kernel
theorem d_La_turn_13 : decode Y_La_turn.2.2.1 13 = .ok (.iconst 2, 1) := by decide +kernel
theorem d_La_turn_14 : decode Y_La_turn.2.2.1 14 = .ok (.ireturn, 1) := by decide +kernel
theorem d_La_turn_15 : decode Y_La_turn.2.2.1 15 = .ok (.iconst 0, 1) := by decide +kernel
theorem d_La_turn_16 : decode Y_La_turn.2.2.1 16 = .ok (.ireturn, 1) := by decide +kernel
theorem d_La_correct_0 : decode Y_La_correct.2.2.1 0 = .ok (.aload 4, 2) := by decide +kernel
theorem d_La_correct_2 : decode Y_La_correct.2.2.1 2 = .ok (.iconst 0, 1) := by decide +kernel
theorem d_La_correct_3 : decode Y_La_correct.2.2.1 3 = .ok (.aload_n 0, 1) := by decide +kernel
theorem d_La_correct_4 : decode Y_La_correct.2.2.1 4 = .ok (.iload_n 1, 1) := by decide +kernel
theorem d_La_correct_5 : decode Y_La_correct.2.2.1 5 = .ok (.iload_n 2, 1) := by decide +kernel
theorem d_La_correct_6 : decode Y_La_correct.2.2.1 6 = .ok (.iload_n 3, 1) := by decide +kernel
theorem d_La_correct_7 : decode Y_La_correct.2.2.1 7 = .ok (.invokevirtual 34, 3) := by decide +kernel
theorem d_La_correct_10 : decode Y_La_correct.2.2.1 10 = .ok (.i2l, 1) := by decide +kernel
theorem d_La_correct_11 : decode Y_La_correct.2.2.1 11 = .ok (.lastore, 1) := by decide +kernel
theorem d_La_correct_12 : decode Y_La_correct.2.2.1 12 = .ok (.goto 15, 3) := by decide +kernel
theorem d_La_correct_15 : decode Y_La_correct.2.2.1 15 = .ok (.astore 5, 2) := by decide +kernel
theorem d_La_correct_17 : decode Y_La_correct.2.2.1 17 = .ok (.iconst 1, 1) := by decide +kernel
theorem d_La_correct_18 : decode Y_La_correct.2.2.1 18 = .ok (.ireturn, 1) := by decide +kernel
theorem d_La_correct_19 : decode Y_La_correct.2.2.1 19 = .ok (.astore 5, 2) := by decide +kernel
theorem d_La_correct_21 : decode Y_La_correct.2.2.1 21 = .ok (.iconst 2, 1) := by decide +kernel
theorem d_La_correct_22 : decode Y_La_correct.2.2.1 22 = .ok (.ireturn, 1) := by decide +kernel
theorem d_La_correct_23 : decode Y_La_correct.2.2.1 23 = .ok (.astore 5, 2) := by decide +kernel
theorem d_La_correct_25 : decode Y_La_correct.2.2.1 25 = .ok (.iconst 3, 1) := by decide +kernel
theorem d_La_correct_26 : decode Y_La_correct.2.2.1 26 = .ok (.ireturn, 1) := by decide +kernel
theorem d_La_correct_27 : decode Y_La_correct.2.2.1 27 = .ok (.iconst 0, 1) := by decide +kernel
theorem d_La_correct_28 : decode Y_La_correct.2.2.1 28 = .ok (.ireturn, 1) := by decide +kernel
theorem d_La_state_0 : decode Y_La_state.2.2.1 0 = .ok (.aload_n 2, 1) := by decide +kernel
theorem d_La_state_1 : decode Y_La_state.2.2.1 1 = .ok (.iconst 0, 1) := by decide +kernel
theorem d_La_state_2 : decode Y_La_state.2.2.1 2 = .ok (.aload_n 0, 1) := by decide +kernel
theorem d_La_state_3 : decode Y_La_state.2.2.1 3 = .ok (.iload_n 1, 1) := by decide +kernel
theorem d_La_state_4 : decode Y_La_state.2.2.1 4 = .ok (.invokevirtual 37, 3) := by decide +kernel
theorem d_La_state_7 : decode Y_La_state.2.2.1 7 = .ok (.i2l, 1) := by decide +kernel
theorem d_La_state_8 : decode Y_La_state.2.2.1 8 = .ok (.lastore, 1) := by decide +kernel
theorem d_La_state_9 : decode Y_La_state.2.2.1 9 = .ok (.goto 6, 3) := by decide +kernel
theorem d_La_state_12 : decode Y_La_state.2.2.1 12 = .ok (.astore_n 3, 1) := by decide +kernel
theorem d_La_state_13 : decode Y_La_state.2.2.1 13 = .ok (.iconst 1, 1) := by decide +kernel
theorem d_La_state_14 : decode Y_La_state.2.2.1 14 = .ok (.ireturn, 1) := by decide +kernel
theorem d_La_state_15 : decode Y_La_state.2.2.1 15 = .ok (.iconst 0, 1) := by decide +kernel
theorem d_La_state_16 : decode Y_La_state.2.2.1 16 = .ok (.ireturn, 1) := by decide +kernel
theorem d_La_prefer_0 : decode Y_La_prefer.2.2.1 0 = .ok (.aload_n 3, 1) := by decide +kernel
theorem d_La_prefer_1 : decode Y_La_prefer.2.2.1 1 = .ok (.iconst 0, 1) := by decide +kernel
theorem d_La_prefer_2 : decode Y_La_prefer.2.2.1 2 = .ok (.aload_n 0, 1) := by decide +kernel
theorem d_La_prefer_3 : decode Y_La_prefer.2.2.1 3 = .ok (.iload_n 1, 1) := by decide +kernel
theorem d_La_prefer_4 : decode Y_La_prefer.2.2.1 4 = .ok (.iload_n 2, 1) := by decide +kernel
theorem d_La_prefer_5 : decode Y_La_prefer.2.2.1 5 = .ok (.invokevirtual 40, 3) := by decide +kernel
theorem d_La_prefer_8 : decode Y_La_prefer.2.2.1 8 = .ok (.i2l, 1) := by decide +kernel
theorem d_La_prefer_9 : decode Y_La_prefer.2.2.1 9 = .ok (.lastore, 1) := by decide +kernel
theorem d_La_prefer_10 : decode Y_La_prefer.2.2.1 10 = .ok (.goto 7, 3) := by decide +kernel
theorem d_La_prefer_13 : decode Y_La_prefer.2.2.1 13 = .ok (.astore 4, 2) := by decide +kernel
theorem d_La_prefer_15 : decode Y_La_prefer.2.2.1 15 = .ok (.iconst 1, 1) := by decide +kernel
theorem d_La_prefer_16 : decode Y_La_prefer.2.2.1 16 = .ok (.ireturn, 1) := by decide +kernel
theorem d_La_prefer_17 : decode Y_La_prefer.2.2.1 17 = .ok (.iconst 0, 1) := by decide +kernel
theorem d_La_prefer_18 : decode Y_La_prefer.2.2.1 18 = .ok (.ireturn, 1) := by decide +kernel
theorem d_La_strength_0 : decode Y_La_strength.2.2.1 0 = .ok (.aload_n 3, 1) := by decide +kernel
theorem d_La_strength_1 : decode Y_La_strength.2.2.1 1 = .ok (.iconst 0, 1) := by decide +kernel
theorem d_La_strength_2 : decode Y_La_strength.2.2.1 2 = .ok (.aload_n 0, 1) := by decide +kernel
theorem d_La_strength_3 : decode Y_La_strength.2.2.1 3 = .ok (.iload_n 1, 1) := by decide +kernel
theorem d_La_strength_4 : decode Y_La_strength.2.2.1 4 = .ok (.iload_n 2, 1) := by decide +kernel
theorem d_La_strength_5 : decode Y_La_strength.2.2.1 5 = .ok (.invokevirtual 44, 3) := by decide +kernel
theorem d_La_strength_8 : decode Y_La_strength.2.2.1 8 = .ok (.i2l, 1) := by decide +kernel
theorem d_La_strength_9 : decode Y_La_strength.2.2.1 9 = .ok (.lastore, 1) := by decide +kernel
theorem d_La_strength_10 : decode Y_La_strength.2.2.1 10 = .ok (.goto 7, 3) := by decide +kernel
theorem d_La_strength_13 : decode Y_La_strength.2.2.1 13 = .ok (.astore 4, 2) := by decide +kernel
theorem d_La_strength_15 : decode Y_La_strength.2.2.1 15 = .ok (.iconst 1, 1) := by decide +kernel
theorem d_La_strength_16 : decode Y_La_strength.2.2.1 16 = .ok (.ireturn, 1) := by decide +kernel
theorem d_La_strength_17 : decode Y_La_strength.2.2.1 17 = .ok (.iconst 0, 1) := by decide +kernel
theorem d_La_strength_18 : decode Y_La_strength.2.2.1 18 = .ok (.ireturn, 1) := by decide +kernel
theorem d_La_way_0 : decode Y_La_way.2.2.1 0 = .ok (.aload_n 3, 1) := by decide +kernel
theorem d_La_way_1 : decode Y_La_way.2.2.1 1 = .ok (.iconst 0, 1) := by decide +kernel
theorem d_La_way_2 : decode Y_La_way.2.2.1 2 = .ok (.aload_n 0, 1) := by decide +kernel
theorem d_La_way_3 : decode Y_La_way.2.2.1 3 = .ok (.iload_n 1, 1) := by decide +kernel
theorem d_La_way_4 : decode Y_La_way.2.2.1 4 = .ok (.iload_n 2, 1) := by decide +kernel
theorem d_La_way_5 : decode Y_La_way.2.2.1 5 = .ok (.invokevirtual 47, 3) := by decide +kernel
theorem d_La_way_8 : decode Y_La_way.2.2.1 8 = .ok (.i2l, 1) := by decide +kernel
theorem d_La_way_9 : decode Y_La_way.2.2.1 9 = .ok (.lastore, 1) := by decide +kernel
theorem d_La_way_10 : decode Y_La_way.2.2.1 10 = .ok (.goto 7, 3) := by decide +kernel
theorem d_La_way_13 : decode Y_La_way.2.2.1 13 = .ok (.astore 4, 2) := by decide +kernel
theorem d_La_way_15 : decode Y_La_way.2.2.1 15 = .ok (.iconst 1, 1) := by decide +kernel
theorem d_La_way_16 : decode Y_La_way.2.2.1 16 = .ok (.ireturn, 1) := by decide +kernel
theorem d_La_way_17 : decode Y_La_way.2.2.1 17 = .ok (.iconst 0, 1) := by decide +kernel
theorem d_La_way_18 : decode Y_La_way.2.2.1 18 = .ok (.ireturn, 1) := by decide +kernel
theorem d_La_cut_0 : decode Y_La_cut.2.2.1 0 = .ok (.aload_n 3, 1) := by decide +kernel
theorem d_La_cut_1 : decode Y_La_cut.2.2.1 1 = .ok (.iconst 0, 1) := by decide +kernel
theorem d_La_cut_2 : decode Y_La_cut.2.2.1 2 = .ok (.aload_n 0, 1) := by decide +kernel
theorem d_La_cut_3 : decode Y_La_cut.2.2.1 3 = .ok (.iload_n 1, 1) := by decide +kernel
theorem d_La_cut_4 : decode Y_La_cut.2.2.1 4 = .ok (.iload_n 2, 1) := by decide +kernel
theorem d_La_cut_5 : decode Y_La_cut.2.2.1 5 = .ok (.invokevirtual 50, 3) := by decide +kernel
theorem d_La_cut_8 : decode Y_La_cut.2.2.1 8 = .ok (.i2l, 1) := by decide +kernel
theorem d_La_cut_9 : decode Y_La_cut.2.2.1 9 = .ok (.lastore, 1) := by decide +kernel
theorem d_La_cut_10 : decode Y_La_cut.2.2.1 10 = .ok (.goto 7, 3) := by decide +kernel
theorem d_La_cut_13 : decode Y_La_cut.2.2.1 13 = .ok (.astore 4, 2) := by decide +kernel
theorem d_La_cut_15 : decode Y_La_cut.2.2.1 15 = .ok (.iconst 1, 1) := by decide +kernel
theorem d_La_cut_16 : decode Y_La_cut.2.2.1 16 = .ok (.ireturn, 1) := by decide +kernel
theorem d_La_cut_17 : decode Y_La_cut.2.2.1 17 = .ok (.iconst 0, 1) := by decide +kernel
theorem d_La_cut_18 : decode Y_La_cut.2.2.1 18 = .ok (.ireturn, 1) := by decide +kernel
theorem d_La_proves_0 : decode Y_La_proves.2.2.1 0 = .ok (.aload 6, 2) := by decide +kernel
theorem d_La_proves_2 : decode Y_La_proves.2.2.1 2 = .ok (.iconst 0, 1) := by decide +kernel
theorem d_La_proves_3 : decode Y_La_proves.2.2.1 3 = .ok (.aload_n 0, 1) := by decide +kernel
theorem d_La_proves_4 : decode Y_La_proves.2.2.1 4 = .ok (.iload_n 1, 1) := by decide +kernel
theorem d_La_proves_5 : decode Y_La_proves.2.2.1 5 = .ok (.iload_n 2, 1) := by decide +kernel
theorem d_La_proves_6 : decode Y_La_proves.2.2.1 6 = .ok (.iload_n 3, 1) := by decide +kernel
theorem d_La_proves_7 : decode Y_La_proves.2.2.1 7 = .ok (.iload 4, 2) := by decide +kernel
theorem d_La_proves_9 : decode Y_La_proves.2.2.1 9 = .ok (.iload 5, 2) := by decide +kernel
theorem d_La_proves_11 : decode Y_La_proves.2.2.1 11 = .ok (.invokevirtual 53, 3) := by decide +kernel
theorem d_La_proves_14 : decode Y_La_proves.2.2.1 14 = .ok (.ifCond .eq 7, 3) := by decide +kernel
theorem d_La_proves_17 : decode Y_La_proves.2.2.1 17 = .ok (.lconst 1, 1) := by decide +kernel
theorem d_La_proves_18 : decode Y_La_proves.2.2.1 18 = .ok (.goto 4, 3) := by decide +kernel
theorem d_La_proves_21 : decode Y_La_proves.2.2.1 21 = .ok (.lconst 0, 1) := by decide +kernel
theorem d_La_proves_22 : decode Y_La_proves.2.2.1 22 = .ok (.lastore, 1) := by decide +kernel
theorem d_La_proves_23 : decode Y_La_proves.2.2.1 23 = .ok (.goto 7, 3) := by decide +kernel
theorem d_La_proves_26 : decode Y_La_proves.2.2.1 26 = .ok (.astore 7, 2) := by decide +kernel
theorem d_La_proves_28 : decode Y_La_proves.2.2.1 28 = .ok (.iconst 1, 1) := by decide +kernel
theorem d_La_proves_29 : decode Y_La_proves.2.2.1 29 = .ok (.ireturn, 1) := by decide +kernel
theorem d_La_proves_30 : decode Y_La_proves.2.2.1 30 = .ok (.iconst 0, 1) := by decide +kernel
theorem d_La_proves_31 : decode Y_La_proves.2.2.1 31 = .ok (.ireturn, 1) := by decide +kernel
theorem d_La_winner_0 : decode Y_La_winner.2.2.1 0 = .ok (.aload_n 2, 1) := by decide +kernel
theorem d_La_winner_1 : decode Y_La_winner.2.2.1 1 = .ok (.iconst 0, 1) := by decide +kernel
theorem d_La_winner_2 : decode Y_La_winner.2.2.1 2 = .ok (.aload_n 0, 1) := by decide +kernel
theorem d_La_winner_3 : decode Y_La_winner.2.2.1 3 = .ok (.iload_n 1, 1) := by decide +kernel
theorem d_La_winner_4 : decode Y_La_winner.2.2.1 4 = .ok (.invokevirtual 57, 3) := by decide +kernel
theorem d_La_winner_7 : decode Y_La_winner.2.2.1 7 = .ok (.i2l, 1) := by decide +kernel
theorem d_La_winner_8 : decode Y_La_winner.2.2.1 8 = .ok (.lastore, 1) := by decide +kernel
theorem d_La_winner_9 : decode Y_La_winner.2.2.1 9 = .ok (.goto 6, 3) := by decide +kernel
theorem d_La_winner_12 : decode Y_La_winner.2.2.1 12 = .ok (.astore_n 3, 1) := by decide +kernel
theorem d_La_winner_13 : decode Y_La_winner.2.2.1 13 = .ok (.iconst 1, 1) := by decide +kernel
theorem d_La_winner_14 : decode Y_La_winner.2.2.1 14 = .ok (.ireturn, 1) := by decide +kernel
theorem d_La_winner_15 : decode Y_La_winner.2.2.1 15 = .ok (.iconst 0, 1) := by decide +kernel
theorem d_La_winner_16 : decode Y_La_winner.2.2.1 16 = .ok (.ireturn, 1) := by decide +kernel
theorem d_La_locked_0 : decode Y_La_locked.2.2.1 0 = .ok (.aload_n 3, 1) := by decide +kernel
theorem d_La_locked_1 : decode Y_La_locked.2.2.1 1 = .ok (.iconst 0, 1) := by decide +kernel
theorem d_La_locked_2 : decode Y_La_locked.2.2.1 2 = .ok (.aload_n 0, 1) := by decide +kernel
theorem d_La_locked_3 : decode Y_La_locked.2.2.1 3 = .ok (.iload_n 1, 1) := by decide +kernel
theorem d_La_locked_4 : decode Y_La_locked.2.2.1 4 = .ok (.iload_n 2, 1) := by decide +kernel
theorem d_La_locked_5 : decode Y_La_locked.2.2.1 5 = .ok (.invokevirtual 60, 3) := by decide +kernel
theorem d_La_locked_8 : decode Y_La_locked.2.2.1 8 = .ok (.ifCond .eq 7, 3) := by decide +kernel
theorem d_La_locked_11 : decode Y_La_locked.2.2.1 11 = .ok (.lconst 1, 1) := by decide +kernel
theorem d_La_locked_12 : decode Y_La_locked.2.2.1 12 = .ok (.goto 4, 3) := by decide +kernel
theorem d_La_locked_15 : decode Y_La_locked.2.2.1 15 = .ok (.lconst 0, 1) := by decide +kernel
theorem d_La_locked_16 : decode Y_La_locked.2.2.1 16 = .ok (.lastore, 1) := by decide +kernel
theorem d_La_locked_17 : decode Y_La_locked.2.2.1 17 = .ok (.goto 7, 3) := by decide +kernel
theorem d_La_locked_20 : decode Y_La_locked.2.2.1 20 = .ok (.astore 4, 2) := by decide +kernel
theorem d_La_locked_22 : decode Y_La_locked.2.2.1 22 = .ok (.iconst 1, 1) := by decide +kernel
theorem d_La_locked_23 : decode Y_La_locked.2.2.1 23 = .ok (.ireturn, 1) := by decide +kernel
theorem d_La_locked_24 : decode Y_La_locked.2.2.1 24 = .ok (.iconst 0, 1) := by decide +kernel
theorem d_La_locked_25 : decode Y_La_locked.2.2.1 25 = .ok (.ireturn, 1) := by decide +kernel
theorem d_La_order_0 : decode Y_La_order.2.2.1 0 = .ok (.aload_n 2, 1) := by decide +kernel
theorem d_La_order_1 : decode Y_La_order.2.2.1 1 = .ok (.iconst 0, 1) := by decide +kernel
theorem d_La_order_2 : decode Y_La_order.2.2.1 2 = .ok (.aload_n 0, 1) := by decide +kernel
theorem d_La_order_3 : decode Y_La_order.2.2.1 3 = .ok (.iload_n 1, 1) := by decide +kernel
theorem d_La_order_4 : decode Y_La_order.2.2.1 4 = .ok (.invokevirtual 64, 3) := by decide +kernel
theorem d_La_order_7 : decode Y_La_order.2.2.1 7 = .ok (.i2l, 1) := by decide +kernel
theorem d_La_order_8 : decode Y_La_order.2.2.1 8 = .ok (.lastore, 1) := by decide +kernel
theorem d_La_order_9 : decode Y_La_order.2.2.1 9 = .ok (.goto 6, 3) := by decide +kernel
theorem d_La_order_12 : decode Y_La_order.2.2.1 12 = .ok (.astore_n 3, 1) := by decide +kernel
theorem d_La_order_13 : decode Y_La_order.2.2.1 13 = .ok (.iconst 1, 1) := by decide +kernel
theorem d_La_order_14 : decode Y_La_order.2.2.1 14 = .ok (.ireturn, 1) := by decide +kernel
theorem d_La_order_15 : decode Y_La_order.2.2.1 15 = .ok (.iconst 0, 1) := by decide +kernel
theorem d_La_order_16 : decode Y_La_order.2.2.1 16 = .ok (.ireturn, 1) := by decide +kernel
theorem d_La_top_0 : decode Y_La_top.2.2.1 0 = .ok (.aload_n 2, 1) := by decide +kernel
theorem d_La_top_1 : decode Y_La_top.2.2.1 1 = .ok (.iconst 0, 1) := by decide +kernel
theorem d_La_top_2 : decode Y_La_top.2.2.1 2 = .ok (.aload_n 0, 1) := by decide +kernel
theorem d_La_top_3 : decode Y_La_top.2.2.1 3 = .ok (.iload_n 1, 1) := by decide +kernel
theorem d_La_top_4 : decode Y_La_top.2.2.1 4 = .ok (.invokevirtual 67, 3) := by decide +kernel
theorem d_La_top_7 : decode Y_La_top.2.2.1 7 = .ok (.i2l, 1) := by decide +kernel
theorem d_La_top_8 : decode Y_La_top.2.2.1 8 = .ok (.lastore, 1) := by decide +kernel
theorem d_La_top_9 : decode Y_La_top.2.2.1 9 = .ok (.goto 6, 3) := by decide +kernel
theorem d_La_top_12 : decode Y_La_top.2.2.1 12 = .ok (.astore_n 3, 1) := by decide +kernel
theorem d_La_top_13 : decode Y_La_top.2.2.1 13 = .ok (.iconst 1, 1) := by decide +kernel
theorem d_La_top_14 : decode Y_La_top.2.2.1 14 = .ok (.ireturn, 1) := by decide +kernel
theorem d_La_top_15 : decode Y_La_top.2.2.1 15 = .ok (.iconst 0, 1) := by decide +kernel
theorem d_La_top_16 : decode Y_La_top.2.2.1 16 = .ok (.ireturn, 1) := by decide +kernel
theorem d_La_without_0 : decode Y_La_without.2.2.1 0 = .ok (.aload 4, 2) := by decide +kernel
theorem d_La_without_2 : decode Y_La_without.2.2.1 2 = .ok (.iconst 0, 1) := by decide +kernel
theorem d_La_without_3 : decode Y_La_without.2.2.1 3 = .ok (.aload_n 0, 1) := by decide +kernel
theorem d_La_without_4 : decode Y_La_without.2.2.1 4 = .ok (.iload_n 1, 1) := by decide +kernel
theorem d_La_without_5 : decode Y_La_without.2.2.1 5 = .ok (.iload_n 2, 1) := by decide +kernel
theorem d_La_without_6 : decode Y_La_without.2.2.1 6 = .ok (.iload_n 3, 1) := by decide +kernel
theorem d_La_without_7 : decode Y_La_without.2.2.1 7 = .ok (.invokevirtual 70, 3) := by decide +kernel
theorem d_La_without_10 : decode Y_La_without.2.2.1 10 = .ok (.i2l, 1) := by decide +kernel
theorem d_La_without_11 : decode Y_La_without.2.2.1 11 = .ok (.lastore, 1) := by decide +kernel
theorem d_La_without_12 : decode Y_La_without.2.2.1 12 = .ok (.goto 11, 3) := by decide +kernel
theorem d_La_without_15 : decode Y_La_without.2.2.1 15 = .ok (.astore 5, 2) := by decide +kernel
theorem d_La_without_17 : decode Y_La_without.2.2.1 17 = .ok (.iconst 1, 1) := by decide +kernel
theorem d_La_without_18 : decode Y_La_without.2.2.1 18 = .ok (.ireturn, 1) := by decide +kernel
theorem d_La_without_19 : decode Y_La_without.2.2.1 19 = .ok (.astore 5, 2) := by decide +kernel
theorem d_La_without_21 : decode Y_La_without.2.2.1 21 = .ok (.iconst 2, 1) := by decide +kernel
theorem d_La_without_22 : decode Y_La_without.2.2.1 22 = .ok (.ireturn, 1) := by decide +kernel
theorem d_La_without_23 : decode Y_La_without.2.2.1 23 = .ok (.iconst 0, 1) := by decide +kernel
theorem d_La_without_24 : decode Y_La_without.2.2.1 24 = .ok (.ireturn, 1) := by decide +kernel
