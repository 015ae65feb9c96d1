theorem dL_cell_0 : decode cL_cell 0 = .ok (.iload_n 1, 1) := by decide +kernel
theorem dL_cell_1 : decode cL_cell 1 = .ok (.aload_n 0, 1) := by decide +kernel
theorem dL_cell_2 : decode cL_cell 2 = .ok (.arraylength, 1) := by decide +kernel
theorem dL_cell_3 : decode cL_cell 3 = .ok (.if_icmp .ge 9, 3) := by decide +kernel
theorem dL_cell_6 : decode cL_cell 6 = .ok (.aload_n 0, 1) := by decide +kernel
theorem dL_cell_7 : decode cL_cell 7 = .ok (.iload_n 1, 1) := by decide +kernel
theorem dL_cell_8 : decode cL_cell 8 = .ok (.iaload, 1) := by decide +kernel
theorem dL_cell_9 : decode cL_cell 9 = .ok (.goto 15, 3) := by decide +kernel
theorem dL_cell_12 : decode cL_cell 12 = .ok (.ldc2_w 7, 3) := by decide +kernel
theorem dL_cell_15 : decode cL_cell 15 = .ok (.iload_n 1, 1) := by decide +kernel
theorem dL_cell_16 : decode cL_cell 16 = .ok (.iconst 4, 1) := by decide +kernel
theorem dL_cell_17 : decode cL_cell 17 = .ok (.iadd, 1) := by decide +kernel
theorem dL_cell_18 : decode cL_cell 18 = .ok (.i2l, 1) := by decide +kernel
theorem dL_cell_19 : decode cL_cell 19 = .ok (.lmul, 1) := by decide +kernel
theorem dL_cell_20 : decode cL_cell 20 = .ok (.bipush 8, 2) := by decide +kernel
theorem dL_cell_22 : decode cL_cell 22 = .ok (.lushr, 1) := by decide +kernel
theorem dL_cell_23 : decode cL_cell 23 = .ok (.l2i, 1) := by decide +kernel
theorem dL_cell_24 : decode cL_cell 24 = .ok (.ireturn, 1) := by decide +kernel
theorem dL_some_0 : decode cL_some 0 = .ok (.iload_n 0, 1) := by decide +kernel
theorem dL_some_1 : decode cL_some 1 = .ok (.iconst 2, 1) := by decide +kernel
theorem dL_some_2 : decode cL_some 2 = .ok (.iushr, 1) := by decide +kernel
theorem dL_some_3 : decode cL_some 3 = .ok (.iload_n 1, 1) := by decide +kernel
theorem dL_some_4 : decode cL_some 4 = .ok (.irem, 1) := by decide +kernel
theorem dL_some_5 : decode cL_some 5 = .ok (.ireturn, 1) := by decide +kernel
theorem dL_edges_0 : decode cL_edges 0 = .ok (.aload_n 0, 1) := by decide +kernel
theorem dL_edges_1 : decode cL_edges 1 = .ok (.iconst 1, 1) := by decide +kernel
theorem dL_edges_2 : decode cL_edges 2 = .ok (.iaload, 1) := by decide +kernel
theorem dL_edges_3 : decode cL_edges 3 = .ok (.iconst 1, 1) := by decide +kernel
theorem dL_edges_4 : decode cL_edges 4 = .ok (.iadd, 1) := by decide +kernel
theorem dL_edges_5 : decode cL_edges 5 = .ok (.aload_n 0, 1) := by decide +kernel
theorem dL_edges_6 : decode cL_edges 6 = .ok (.iconst 0, 1) := by decide +kernel
theorem dL_edges_7 : decode cL_edges 7 = .ok (.iaload, 1) := by decide +kernel
theorem dL_edges_8 : decode cL_edges 8 = .ok (.imul, 1) := by decide +kernel
theorem dL_edges_9 : decode cL_edges 9 = .ok (.aload_n 0, 1) := by decide +kernel
theorem dL_edges_10 : decode cL_edges 10 = .ok (.iconst 1, 1) := by decide +kernel
theorem dL_edges_11 : decode cL_edges 11 = .ok (.iaload, 1) := by decide +kernel
theorem dL_edges_12 : decode cL_edges 12 = .ok (.aload_n 0, 1) := by decide +kernel
theorem dL_edges_13 : decode cL_edges 13 = .ok (.iconst 0, 1) := by decide +kernel
theorem dL_edges_14 : decode cL_edges 14 = .ok (.iaload, 1) := by decide +kernel
theorem dL_edges_15 : decode cL_edges 15 = .ok (.iconst 1, 1) := by decide +kernel
theorem dL_edges_16 : decode cL_edges 16 = .ok (.iadd, 1) := by decide +kernel
theorem dL_edges_17 : decode cL_edges 17 = .ok (.imul, 1) := by decide +kernel
theorem dL_edges_18 : decode cL_edges 18 = .ok (.iadd, 1) := by decide +kernel
theorem dL_edges_19 : decode cL_edges 19 = .ok (.ireturn, 1) := by decide +kernel
theorem dL_isFlat_0 : decode cL_isFlat 0 = .ok (.iload_n 1, 1) := by decide +kernel
theorem dL_isFlat_1 : decode cL_isFlat 1 = .ok (.aload_n 0, 1) := by decide +kernel
theorem dL_isFlat_2 : decode cL_isFlat 2 = .ok (.iconst 1, 1) := by decide +kernel
theorem dL_isFlat_3 : decode cL_isFlat 3 = .ok (.iaload, 1) := by decide +kernel
theorem dL_isFlat_4 : decode cL_isFlat 4 = .ok (.iconst 1, 1) := by decide +kernel
theorem dL_isFlat_5 : decode cL_isFlat 5 = .ok (.iadd, 1) := by decide +kernel
theorem dL_isFlat_6 : decode cL_isFlat 6 = .ok (.aload_n 0, 1) := by decide +kernel
theorem dL_isFlat_7 : decode cL_isFlat 7 = .ok (.iconst 0, 1) := by decide +kernel
theorem dL_isFlat_8 : decode cL_isFlat 8 = .ok (.iaload, 1) := by decide +kernel
theorem dL_isFlat_9 : decode cL_isFlat 9 = .ok (.imul, 1) := by decide +kernel
theorem dL_isFlat_10 : decode cL_isFlat 10 = .ok (.if_icmp .ge 7, 3) := by decide +kernel
theorem dL_isFlat_13 : decode cL_isFlat 13 = .ok (.iconst 1, 1) := by decide +kernel
theorem dL_isFlat_14 : decode cL_isFlat 14 = .ok (.goto 4, 3) := by decide +kernel
theorem dL_isFlat_17 : decode cL_isFlat 17 = .ok (.iconst 0, 1) := by decide +kernel
theorem dL_isFlat_18 : decode cL_isFlat 18 = .ok (.ireturn, 1) := by decide +kernel
theorem dL_row_0 : decode cL_row 0 = .ok (.aload_n 0, 1) := by decide +kernel
theorem dL_row_1 : decode cL_row 1 = .ok (.iload_n 1, 1) := by decide +kernel
theorem dL_row_2 : decode cL_row 2 = .ok (.invokestatic 9, 3) := by decide +kernel
theorem dL_row_5 : decode cL_row 5 = .ok (.ifCond .eq 11, 3) := by decide +kernel
theorem dL_row_8 : decode cL_row 8 = .ok (.iload_n 1, 1) := by decide +kernel
theorem dL_row_9 : decode cL_row 9 = .ok (.aload_n 0, 1) := by decide +kernel
theorem dL_row_10 : decode cL_row 10 = .ok (.iconst 0, 1) := by decide +kernel
theorem dL_row_11 : decode cL_row 11 = .ok (.iaload, 1) := by decide +kernel
theorem dL_row_12 : decode cL_row 12 = .ok (.idiv, 1) := by decide +kernel
theorem dL_row_13 : decode cL_row 13 = .ok (.goto 20, 3) := by decide +kernel
theorem dL_row_16 : decode cL_row 16 = .ok (.iload_n 1, 1) := by decide +kernel
theorem dL_row_17 : decode cL_row 17 = .ok (.aload_n 0, 1) := by decide +kernel
theorem dL_row_18 : decode cL_row 18 = .ok (.iconst 1, 1) := by decide +kernel
theorem dL_row_19 : decode cL_row 19 = .ok (.iaload, 1) := by decide +kernel
theorem dL_row_20 : decode cL_row 20 = .ok (.iconst 1, 1) := by decide +kernel
theorem dL_row_21 : decode cL_row 21 = .ok (.iadd, 1) := by decide +kernel
theorem dL_row_22 : decode cL_row 22 = .ok (.aload_n 0, 1) := by decide +kernel
theorem dL_row_23 : decode cL_row 23 = .ok (.iconst 0, 1) := by decide +kernel
theorem dL_row_24 : decode cL_row 24 = .ok (.iaload, 1) := by decide +kernel
theorem dL_row_25 : decode cL_row 25 = .ok (.imul, 1) := by decide +kernel
theorem dL_row_26 : decode cL_row 26 = .ok (.isub, 1) := by decide +kernel
theorem dL_row_27 : decode cL_row 27 = .ok (.aload_n 0, 1) := by decide +kernel
theorem dL_row_28 : decode cL_row 28 = .ok (.iconst 0, 1) := by decide +kernel
theorem dL_row_29 : decode cL_row 29 = .ok (.iaload, 1) := by decide +kernel
theorem dL_row_30 : decode cL_row 30 = .ok (.iconst 1, 1) := by decide +kernel
theorem dL_row_31 : decode cL_row 31 = .ok (.iadd, 1) := by decide +kernel
theorem dL_row_32 : decode cL_row 32 = .ok (.idiv, 1) := by decide +kernel
theorem dL_row_33 : decode cL_row 33 = .ok (.ireturn, 1) := by decide +kernel
theorem dL_column_0 : decode cL_column 0 = .ok (.aload_n 0, 1) := by decide +kernel
theorem dL_column_1 : decode cL_column 1 = .ok (.iload_n 1, 1) := by decide +kernel
theorem dL_column_2 : decode cL_column 2 = .ok (.invokestatic 9, 3) := by decide +kernel
theorem dL_column_5 : decode cL_column 5 = .ok (.ifCond .eq 11, 3) := by decide +kernel
theorem dL_column_8 : decode cL_column 8 = .ok (.iload_n 1, 1) := by decide +kernel
theorem dL_column_9 : decode cL_column 9 = .ok (.aload_n 0, 1) := by decide +kernel
theorem dL_column_10 : decode cL_column 10 = .ok (.iconst 0, 1) := by decide +kernel
theorem dL_column_11 : decode cL_column 11 = .ok (.iaload, 1) := by decide +kernel
theorem dL_column_12 : decode cL_column 12 = .ok (.irem, 1) := by decide +kernel
theorem dL_column_13 : decode cL_column 13 = .ok (.goto 20, 3) := by decide +kernel
theorem dL_column_16 : decode cL_column 16 = .ok (.iload_n 1, 1) := by decide +kernel
theorem dL_column_17 : decode cL_column 17 = .ok (.aload_n 0, 1) := by decide +kernel
theorem dL_column_18 : decode cL_column 18 = .ok (.iconst 1, 1) := by decide +kernel
theorem dL_column_19 : decode cL_column 19 = .ok (.iaload, 1) := by decide +kernel
theorem dL_column_20 : decode cL_column 20 = .ok (.iconst 1, 1) := by decide +kernel
theorem dL_column_21 : decode cL_column 21 = .ok (.iadd, 1) := by decide +kernel
theorem dL_column_22 : decode cL_column 22 = .ok (.aload_n 0, 1) := by decide +kernel
theorem dL_column_23 : decode cL_column 23 = .ok (.iconst 0, 1) := by decide +kernel
theorem dL_column_24 : decode cL_column 24 = .ok (.iaload, 1) := by decide +kernel
theorem dL_column_25 : decode cL_column 25 = .ok (.imul, 1) := by decide +kernel
theorem dL_column_26 : decode cL_column 26 = .ok (.isub, 1) := by decide +kernel
theorem dL_column_27 : decode cL_column 27 = .ok (.aload_n 0, 1) := by decide +kernel
theorem dL_column_28 : decode cL_column 28 = .ok (.iconst 0, 1) := by decide +kernel
theorem dL_column_29 : decode cL_column 29 = .ok (.iaload, 1) := by decide +kernel
theorem dL_column_30 : decode cL_column 30 = .ok (.iconst 1, 1) := by decide +kernel
theorem dL_column_31 : decode cL_column 31 = .ok (.iadd, 1) := by decide +kernel
theorem dL_column_32 : decode cL_column 32 = .ok (.irem, 1) := by decide +kernel
theorem dL_column_33 : decode cL_column 33 = .ok (.ireturn, 1) := by decide +kernel
theorem dL_from_0 : decode cL_from 0 = .ok (.aload_n 0, 1) := by decide +kernel
theorem dL_from_1 : decode cL_from 1 = .ok (.iload_n 1, 1) := by decide +kernel
theorem dL_from_2 : decode cL_from 2 = .ok (.invokestatic 15, 3) := by decide +kernel
theorem dL_from_5 : decode cL_from 5 = .ok (.aload_n 0, 1) := by decide +kernel
theorem dL_from_6 : decode cL_from 6 = .ok (.iconst 0, 1) := by decide +kernel
theorem dL_from_7 : decode cL_from 7 = .ok (.iaload, 1) := by decide +kernel
theorem dL_from_8 : decode cL_from 8 = .ok (.iconst 1, 1) := by decide +kernel
theorem dL_from_9 : decode cL_from 9 = .ok (.iadd, 1) := by decide +kernel
theorem dL_from_10 : decode cL_from 10 = .ok (.imul, 1) := by decide +kernel
theorem dL_from_11 : decode cL_from 11 = .ok (.aload_n 0, 1) := by decide +kernel
theorem dL_from_12 : decode cL_from 12 = .ok (.iload_n 1, 1) := by decide +kernel
theorem dL_from_13 : decode cL_from 13 = .ok (.invokestatic 19, 3) := by decide +kernel
theorem dL_from_16 : decode cL_from 16 = .ok (.iadd, 1) := by decide +kernel
theorem dL_from_17 : decode cL_from 17 = .ok (.ireturn, 1) := by decide +kernel
theorem dL_to_0 : decode cL_to 0 = .ok (.aload_n 0, 1) := by decide +kernel
theorem dL_to_1 : decode cL_to 1 = .ok (.iload_n 1, 1) := by decide +kernel
theorem dL_to_2 : decode cL_to 2 = .ok (.invokestatic 22, 3) := by decide +kernel
theorem dL_to_5 : decode cL_to 5 = .ok (.aload_n 0, 1) := by decide +kernel
theorem dL_to_6 : decode cL_to 6 = .ok (.iload_n 1, 1) := by decide +kernel
theorem dL_to_7 : decode cL_to 7 = .ok (.invokestatic 9, 3) := by decide +kernel
theorem dL_to_10 : decode cL_to 10 = .ok (.ifCond .eq 7, 3) := by decide +kernel
theorem dL_to_13 : decode cL_to 13 = .ok (.iconst 1, 1) := by decide +kernel
theorem dL_to_14 : decode cL_to 14 = .ok (.goto 8, 3) := by decide +kernel
theorem dL_to_17 : decode cL_to 17 = .ok (.aload_n 0, 1) := by decide +kernel
theorem dL_to_18 : decode cL_to 18 = .ok (.iconst 0, 1) := by decide +kernel
theorem dL_to_19 : decode cL_to 19 = .ok (.iaload, 1) := by decide +kernel
theorem dL_to_20 : decode cL_to 20 = .ok (.iconst 1, 1) := by decide +kernel
theorem dL_to_21 : decode cL_to 21 = .ok (.iadd, 1) := by decide +kernel
theorem dL_to_22 : decode cL_to 22 = .ok (.iadd, 1) := by decide +kernel
theorem dL_to_23 : decode cL_to 23 = .ok (.ireturn, 1) := by decide +kernel
theorem dL_areaAt_0 : decode cL_areaAt 0 = .ok (.iload_n 1, 1) := by decide +kernel
theorem dL_areaAt_1 : decode cL_areaAt 1 = .ok (.ifCond .lt 21, 3) := by decide +kernel
theorem dL_areaAt_4 : decode cL_areaAt 4 = .ok (.iload_n 2, 1) := by decide +kernel
theorem dL_areaAt_5 : decode cL_areaAt 5 = .ok (.ifCond .lt 17, 3) := by decide +kernel
theorem dL_areaAt_8 : decode cL_areaAt 8 = .ok (.iload_n 1, 1) := by decide +kernel
theorem dL_areaAt_9 : decode cL_areaAt 9 = .ok (.aload_n 0, 1) := by decide +kernel
theorem dL_areaAt_10 : decode cL_areaAt 10 = .ok (.iconst 1, 1) := by decide +kernel
theorem dL_areaAt_11 : decode cL_areaAt 11 = .ok (.iaload, 1) := by decide +kernel
theorem dL_areaAt_12 : decode cL_areaAt 12 = .ok (.if_icmp .ge 10, 3) := by decide +kernel
theorem dL_areaAt_15 : decode cL_areaAt 15 = .ok (.iload_n 2, 1) := by decide +kernel
theorem dL_areaAt_16 : decode cL_areaAt 16 = .ok (.aload_n 0, 1) := by decide +kernel
theorem dL_areaAt_17 : decode cL_areaAt 17 = .ok (.iconst 0, 1) := by decide +kernel
theorem dL_areaAt_18 : decode cL_areaAt 18 = .ok (.iaload, 1) := by decide +kernel
theorem dL_areaAt_19 : decode cL_areaAt 19 = .ok (.if_icmp .lt 13, 3) := by decide +kernel
theorem dL_areaAt_22 : decode cL_areaAt 22 = .ok (.aload_n 0, 1) := by decide +kernel
theorem dL_areaAt_23 : decode cL_areaAt 23 = .ok (.iconst 0, 1) := by decide +kernel
theorem dL_areaAt_24 : decode cL_areaAt 24 = .ok (.iaload, 1) := by decide +kernel
theorem dL_areaAt_25 : decode cL_areaAt 25 = .ok (.aload_n 0, 1) := by decide +kernel
theorem dL_areaAt_26 : decode cL_areaAt 26 = .ok (.iconst 1, 1) := by decide +kernel
theorem dL_areaAt_27 : decode cL_areaAt 27 = .ok (.iaload, 1) := by decide +kernel
theorem dL_areaAt_28 : decode cL_areaAt 28 = .ok (.imul, 1) := by decide +kernel
theorem dL_areaAt_29 : decode cL_areaAt 29 = .ok (.goto 10, 3) := by decide +kernel
theorem dL_areaAt_32 : decode cL_areaAt 32 = .ok (.iload_n 1, 1) := by decide +kernel
theorem dL_areaAt_33 : decode cL_areaAt 33 = .ok (.aload_n 0, 1) := by decide +kernel
theorem dL_areaAt_34 : decode cL_areaAt 34 = .ok (.iconst 0, 1) := by decide +kernel
theorem dL_areaAt_35 : decode cL_areaAt 35 = .ok (.iaload, 1) := by decide +kernel
theorem dL_areaAt_36 : decode cL_areaAt 36 = .ok (.imul, 1) := by decide +kernel
theorem dL_areaAt_37 : decode cL_areaAt 37 = .ok (.iload_n 2, 1) := by decide +kernel
theorem dL_areaAt_38 : decode cL_areaAt 38 = .ok (.iadd, 1) := by decide +kernel
theorem dL_areaAt_39 : decode cL_areaAt 39 = .ok (.ireturn, 1) := by decide +kernel
theorem dL_ahead_0 : decode cL_ahead 0 = .ok (.aload_n 0, 1) := by decide +kernel
theorem dL_ahead_1 : decode cL_ahead 1 = .ok (.iload_n 1, 1) := by decide +kernel
theorem dL_ahead_2 : decode cL_ahead 2 = .ok (.invokestatic 9, 3) := by decide +kernel
theorem dL_ahead_5 : decode cL_ahead 5 = .ok (.ifCond .eq 22, 3) := by decide +kernel
theorem dL_ahead_8 : decode cL_ahead 8 = .ok (.aload_n 0, 1) := by decide +kernel
theorem dL_ahead_9 : decode cL_ahead 9 = .ok (.aload_n 0, 1) := by decide +kernel
theorem dL_ahead_10 : decode cL_ahead 10 = .ok (.iload_n 1, 1) := by decide +kernel
theorem dL_ahead_11 : decode cL_ahead 11 = .ok (.invokestatic 15, 3) := by decide +kernel
theorem dL_ahead_14 : decode cL_ahead 14 = .ok (.iconst 1, 1) := by decide +kernel
theorem dL_ahead_15 : decode cL_ahead 15 = .ok (.isub, 1) := by decide +kernel
theorem dL_ahead_16 : decode cL_ahead 16 = .ok (.aload_n 0, 1) := by decide +kernel
theorem dL_ahead_17 : decode cL_ahead 17 = .ok (.iload_n 1, 1) := by decide +kernel
theorem dL_ahead_18 : decode cL_ahead 18 = .ok (.invokestatic 19, 3) := by decide +kernel
theorem dL_ahead_21 : decode cL_ahead 21 = .ok (.invokestatic 25, 3) := by decide +kernel
theorem dL_ahead_24 : decode cL_ahead 24 = .ok (.goto 19, 3) := by decide +kernel
theorem dL_ahead_27 : decode cL_ahead 27 = .ok (.aload_n 0, 1) := by decide +kernel
theorem dL_ahead_28 : decode cL_ahead 28 = .ok (.aload_n 0, 1) := by decide +kernel
theorem dL_ahead_29 : decode cL_ahead 29 = .ok (.iload_n 1, 1) := by decide +kernel
theorem dL_ahead_30 : decode cL_ahead 30 = .ok (.invokestatic 15, 3) := by decide +kernel
theorem dL_ahead_33 : decode cL_ahead 33 = .ok (.aload_n 0, 1) := by decide +kernel
theorem dL_ahead_34 : decode cL_ahead 34 = .ok (.iload_n 1, 1) := by decide +kernel
theorem dL_ahead_35 : decode cL_ahead 35 = .ok (.invokestatic 19, 3) := by decide +kernel
theorem dL_ahead_38 : decode cL_ahead 38 = .ok (.iconst 1, 1) := by decide +kernel
theorem dL_ahead_39 : decode cL_ahead 39 = .ok (.isub, 1) := by decide +kernel
theorem dL_ahead_40 : decode cL_ahead 40 = .ok (.invokestatic 25, 3) := by decide +kernel
theorem dL_ahead_43 : decode cL_ahead 43 = .ok (.ireturn, 1) := by decide +kernel
theorem dL_behind_0 : decode cL_behind 0 = .ok (.aload_n 0, 1) := by decide +kernel
theorem dL_behind_1 : decode cL_behind 1 = .ok (.aload_n 0, 1) := by decide +kernel
theorem dL_behind_2 : decode cL_behind 2 = .ok (.iload_n 1, 1) := by decide +kernel
theorem dL_behind_3 : decode cL_behind 3 = .ok (.invokestatic 15, 3) := by decide +kernel
theorem dL_behind_6 : decode cL_behind 6 = .ok (.aload_n 0, 1) := by decide +kernel
theorem dL_behind_7 : decode cL_behind 7 = .ok (.iload_n 1, 1) := by decide +kernel
theorem dL_behind_8 : decode cL_behind 8 = .ok (.invokestatic 19, 3) := by decide +kernel
theorem dL_behind_11 : decode cL_behind 11 = .ok (.invokestatic 25, 3) := by decide +kernel
theorem dL_behind_14 : decode cL_behind 14 = .ok (.ireturn, 1) := by decide +kernel
theorem dL_side_0 : decode cL_side 0 = .ok (.iload_n 1, 1) := by decide +kernel
theorem dL_side_1 : decode cL_side 1 = .ok (.aload_n 0, 1) := by decide +kernel
theorem dL_side_2 : decode cL_side 2 = .ok (.iconst 0, 1) := by decide +kernel
theorem dL_side_3 : decode cL_side 3 = .ok (.iaload, 1) := by decide +kernel
theorem dL_side_4 : decode cL_side 4 = .ok (.idiv, 1) := by decide +kernel
theorem dL_side_5 : decode cL_side 5 = .ok (.istore_n 3, 1) := by decide +kernel
theorem dL_side_6 : decode cL_side 6 = .ok (.iload_n 1, 1) := by decide +kernel
theorem dL_side_7 : decode cL_side 7 = .ok (.aload_n 0, 1) := by decide +kernel
theorem dL_side_8 : decode cL_side 8 = .ok (.iconst 0, 1) := by decide +kernel
theorem dL_side_9 : decode cL_side 9 = .ok (.iaload, 1) := by decide +kernel
theorem dL_side_10 : decode cL_side 10 = .ok (.irem, 1) := by decide +kernel
theorem dL_side_11 : decode cL_side 11 = .ok (.istore 4, 2) := by decide +kernel
theorem dL_side_13 : decode cL_side 13 = .ok (.iload_n 2, 1) := by decide +kernel
theorem dL_side_14 : decode cL_side 14 = .ok (.iconst 2, 1) := by decide +kernel
theorem dL_side_15 : decode cL_side 15 = .ok (.if_icmp .ge 16, 3) := by decide +kernel
theorem dL_side_18 : decode cL_side 18 = .ok (.iload_n 3, 1) := by decide +kernel
theorem dL_side_19 : decode cL_side 19 = .ok (.iload_n 2, 1) := by decide +kernel
theorem dL_side_20 : decode cL_side 20 = .ok (.iadd, 1) := by decide +kernel
theorem dL_side_21 : decode cL_side 21 = .ok (.aload_n 0, 1) := by decide +kernel
theorem dL_side_22 : decode cL_side 22 = .ok (.iconst 0, 1) := by decide +kernel
theorem dL_side_23 : decode cL_side 23 = .ok (.iaload, 1) := by decide +kernel
theorem dL_side_24 : decode cL_side 24 = .ok (.imul, 1) := by decide +kernel
theorem dL_side_25 : decode cL_side 25 = .ok (.iload 4, 2) := by decide +kernel
theorem dL_side_27 : decode cL_side 27 = .ok (.iadd, 1) := by decide +kernel
theorem dL_side_28 : decode cL_side 28 = .ok (.goto 27, 3) := by decide +kernel
theorem dL_side_31 : decode cL_side 31 = .ok (.aload_n 0, 1) := by decide +kernel
theorem dL_side_32 : decode cL_side 32 = .ok (.iconst 1, 1) := by decide +kernel
theorem dL_side_33 : decode cL_side 33 = .ok (.iaload, 1) := by decide +kernel
theorem dL_side_34 : decode cL_side 34 = .ok (.iconst 1, 1) := by decide +kernel
theorem dL_side_35 : decode cL_side 35 = .ok (.iadd, 1) := by decide +kernel
theorem dL_side_36 : decode cL_side 36 = .ok (.aload_n 0, 1) := by decide +kernel
theorem dL_side_37 : decode cL_side 37 = .ok (.iconst 0, 1) := by decide +kernel
theorem dL_side_38 : decode cL_side 38 = .ok (.iaload, 1) := by decide +kernel
theorem dL_side_39 : decode cL_side 39 = .ok (.imul, 1) := by decide +kernel
theorem dL_side_40 : decode cL_side 40 = .ok (.iload_n 3, 1) := by decide +kernel
theorem dL_side_41 : decode cL_side 41 = .ok (.aload_n 0, 1) := by decide +kernel
theorem dL_side_42 : decode cL_side 42 = .ok (.iconst 0, 1) := by decide +kernel
theorem dL_side_43 : decode cL_side 43 = .ok (.iaload, 1) := by decide +kernel
theorem dL_side_44 : decode cL_side 44 = .ok (.iconst 1, 1) := by decide +kernel
theorem dL_side_45 : decode cL_side 45 = .ok (.iadd, 1) := by decide +kernel
theorem dL_side_46 : decode cL_side 46 = .ok (.imul, 1) := by decide +kernel
theorem dL_side_47 : decode cL_side 47 = .ok (.iadd, 1) := by decide +kernel
theorem dL_side_48 : decode cL_side 48 = .ok (.iload 4, 2) := by decide +kernel
theorem dL_side_50 : decode cL_side 50 = .ok (.iadd, 1) := by decide +kernel
theorem dL_side_51 : decode cL_side 51 = .ok (.iload_n 2, 1) := by decide +kernel
theorem dL_side_52 : decode cL_side 52 = .ok (.iadd, 1) := by decide +kernel
theorem dL_side_53 : decode cL_side 53 = .ok (.iconst 2, 1) := by decide +kernel
theorem dL_side_54 : decode cL_side 54 = .ok (.isub, 1) := by decide +kernel
theorem dL_side_55 : decode cL_side 55 = .ok (.ireturn, 1) := by decide +kernel
theorem dL_around_0 : decode cL_around 0 = .ok (.iconst 0, 1) := by decide +kernel
theorem dL_around_1 : decode cL_around 1 = .ok (.istore 4, 2) := by decide +kernel
theorem dL_around_3 : decode cL_around 3 = .ok (.iconst 0, 1) := by decide +kernel
theorem dL_around_4 : decode cL_around 4 = .ok (.istore 5, 2) := by decide +kernel
theorem dL_around_6 : decode cL_around 6 = .ok (.iload 5, 2) := by decide +kernel
theorem dL_around_8 : decode cL_around 8 = .ok (.iconst 4, 1) := by decide +kernel
theorem dL_around_9 : decode cL_around 9 = .ok (.if_icmp .ge 32, 3) := by decide +kernel
theorem dL_around_12 : decode cL_around 12 = .ok (.iload 4, 2) := by decide +kernel
theorem dL_around_14 : decode cL_around 14 = .ok (.aload_n 1, 1) := by decide +kernel
theorem dL_around_15 : decode cL_around 15 = .ok (.aload_n 0, 1) := by decide +kernel
theorem dL_around_16 : decode cL_around 16 = .ok (.iload_n 2, 1) := by decide +kernel
theorem dL_around_17 : decode cL_around 17 = .ok (.iload 5, 2) := by decide +kernel
theorem dL_around_19 : decode cL_around 19 = .ok (.invokestatic 29, 3) := by decide +kernel
theorem dL_around_22 : decode cL_around 22 = .ok (.iaload, 1) := by decide +kernel
theorem dL_around_23 : decode cL_around 23 = .ok (.iload_n 3, 1) := by decide +kernel
theorem dL_around_24 : decode cL_around 24 = .ok (.if_icmp .ne 7, 3) := by decide +kernel
theorem dL_around_27 : decode cL_around 27 = .ok (.iconst 1, 1) := by decide +kernel
theorem dL_around_28 : decode cL_around 28 = .ok (.goto 4, 3) := by decide +kernel
theorem dL_around_31 : decode cL_around 31 = .ok (.iconst 0, 1) := by decide +kernel
theorem dL_around_32 : decode cL_around 32 = .ok (.iadd, 1) := by decide +kernel
theorem dL_around_33 : decode cL_around 33 = .ok (.istore 4, 2) := by decide +kernel
theorem dL_around_35 : decode cL_around 35 = .ok (.iinc 5 1, 3) := by decide +kernel
theorem dL_around_38 : decode cL_around 38 = .ok (.goto (-32), 3) := by decide +kernel
theorem dL_around_41 : decode cL_around 41 = .ok (.iload 4, 2) := by decide +kernel
theorem dL_around_43 : decode cL_around 43 = .ok (.ireturn, 1) := by decide +kernel
theorem dL_at_0 : decode cL_at 0 = .ok (.iconst 0, 1) := by decide +kernel
theorem dL_at_1 : decode cL_at 1 = .ok (.istore 4, 2) := by decide +kernel
theorem dL_at_3 : decode cL_at 3 = .ok (.iconst 0, 1) := by decide +kernel
theorem dL_at_4 : decode cL_at 4 = .ok (.istore 5, 2) := by decide +kernel
theorem dL_at_6 : decode cL_at 6 = .ok (.iload 5, 2) := by decide +kernel
theorem dL_at_8 : decode cL_at 8 = .ok (.aload_n 0, 1) := by decide +kernel
theorem dL_at_9 : decode cL_at 9 = .ok (.invokestatic 32, 3) := by decide +kernel
theorem dL_at_12 : decode cL_at 12 = .ok (.if_icmp .ge 47, 3) := by decide +kernel
theorem dL_at_15 : decode cL_at 15 = .ok (.iload 4, 2) := by decide +kernel
theorem dL_at_17 : decode cL_at 17 = .ok (.aload_n 1, 1) := by decide +kernel
theorem dL_at_18 : decode cL_at 18 = .ok (.iload 5, 2) := by decide +kernel
theorem dL_at_20 : decode cL_at 20 = .ok (.iaload, 1) := by decide +kernel
theorem dL_at_21 : decode cL_at 21 = .ok (.iload_n 3, 1) := by decide +kernel
theorem dL_at_22 : decode cL_at 22 = .ok (.if_icmp .ne 27, 3) := by decide +kernel
theorem dL_at_25 : decode cL_at 25 = .ok (.aload_n 0, 1) := by decide +kernel
theorem dL_at_26 : decode cL_at 26 = .ok (.iload 5, 2) := by decide +kernel
theorem dL_at_28 : decode cL_at 28 = .ok (.invokestatic 22, 3) := by decide +kernel
theorem dL_at_31 : decode cL_at 31 = .ok (.iload_n 2, 1) := by decide +kernel
theorem dL_at_32 : decode cL_at 32 = .ok (.if_icmp .eq 13, 3) := by decide +kernel
theorem dL_at_35 : decode cL_at 35 = .ok (.aload_n 0, 1) := by decide +kernel
theorem dL_at_36 : decode cL_at 36 = .ok (.iload 5, 2) := by decide +kernel
theorem dL_at_38 : decode cL_at 38 = .ok (.invokestatic 36, 3) := by decide +kernel
theorem dL_at_41 : decode cL_at 41 = .ok (.iload_n 2, 1) := by decide +kernel
theorem dL_at_42 : decode cL_at 42 = .ok (.if_icmp .ne 7, 3) := by decide +kernel
theorem dL_at_45 : decode cL_at 45 = .ok (.iconst 1, 1) := by decide +kernel
theorem dL_at_46 : decode cL_at 46 = .ok (.goto 4, 3) := by decide +kernel
theorem dL_at_49 : decode cL_at 49 = .ok (.iconst 0, 1) := by decide +kernel
theorem dL_at_50 : decode cL_at 50 = .ok (.iadd, 1) := by decide +kernel
theorem dL_at_51 : decode cL_at 51 = .ok (.istore 4, 2) := by decide +kernel
theorem dL_at_53 : decode cL_at 53 = .ok (.iinc 5 1, 3) := by decide +kernel
theorem dL_at_56 : decode cL_at 56 = .ok (.goto (-50), 3) := by decide +kernel
theorem dL_at_59 : decode cL_at 59 = .ok (.iload 4, 2) := by decide +kernel
theorem dL_at_61 : decode cL_at 61 = .ok (.ireturn, 1) := by decide +kernel
theorem dL_reached_0 : decode cL_reached 0 = .ok (.iconst 1, 1) := by decide +kernel
theorem dL_reached_1 : decode cL_reached 1 = .ok (.iload_n 2, 1) := by decide +kernel
theorem dL_reached_2 : decode cL_reached 2 = .ok (.ishl, 1) := by decide +kernel
theorem dL_reached_3 : decode cL_reached 3 = .ok (.istore 4, 2) := by decide +kernel
theorem dL_reached_5 : decode cL_reached 5 = .ok (.iconst 0, 1) := by decide +kernel
theorem dL_reached_6 : decode cL_reached 6 = .ok (.istore 5, 2) := by decide +kernel
theorem dL_reached_8 : decode cL_reached 8 = .ok (.iload 5, 2) := by decide +kernel
theorem dL_reached_10 : decode cL_reached 10 = .ok (.bipush 16, 2) := by decide +kernel
theorem dL_reached_12 : decode cL_reached 12 = .ok (.if_icmp .ge 79, 3) := by decide +kernel
theorem dL_reached_15 : decode cL_reached 15 = .ok (.iconst 0, 1) := by decide +kernel
theorem dL_reached_16 : decode cL_reached 16 = .ok (.istore 6, 2) := by decide +kernel
theorem dL_reached_18 : decode cL_reached 18 = .ok (.iload 6, 2) := by decide +kernel
theorem dL_reached_20 : decode cL_reached 20 = .ok (.aload_n 0, 1) := by decide +kernel
theorem dL_reached_21 : decode cL_reached 21 = .ok (.invokestatic 32, 3) := by decide +kernel
theorem dL_reached_24 : decode cL_reached 24 = .ok (.if_icmp .ge 61, 3) := by decide +kernel
theorem dL_reached_27 : decode cL_reached 27 = .ok (.iconst 1, 1) := by decide +kernel
theorem dL_reached_28 : decode cL_reached 28 = .ok (.aload_n 0, 1) := by decide +kernel
theorem dL_reached_29 : decode cL_reached 29 = .ok (.iload 6, 2) := by decide +kernel
theorem dL_reached_31 : decode cL_reached 31 = .ok (.invokestatic 22, 3) := by decide +kernel
theorem dL_reached_34 : decode cL_reached 34 = .ok (.ishl, 1) := by decide +kernel
theorem dL_reached_35 : decode cL_reached 35 = .ok (.iconst 1, 1) := by decide +kernel
theorem dL_reached_36 : decode cL_reached 36 = .ok (.aload_n 0, 1) := by decide +kernel
theorem dL_reached_37 : decode cL_reached 37 = .ok (.iload 6, 2) := by decide +kernel
theorem dL_reached_39 : decode cL_reached 39 = .ok (.invokestatic 36, 3) := by decide +kernel
theorem dL_reached_42 : decode cL_reached 42 = .ok (.ishl, 1) := by decide +kernel
theorem dL_reached_43 : decode cL_reached 43 = .ok (.ior, 1) := by decide +kernel
theorem dL_reached_44 : decode cL_reached 44 = .ok (.istore 7, 2) := by decide +kernel
theorem dL_reached_46 : decode cL_reached 46 = .ok (.iload 4, 2) := by decide +kernel
theorem dL_reached_48 : decode cL_reached 48 = .ok (.aload_n 1, 1) := by decide +kernel
theorem dL_reached_49 : decode cL_reached 49 = .ok (.iload 6, 2) := by decide +kernel
theorem dL_reached_51 : decode cL_reached 51 = .ok (.iaload, 1) := by decide +kernel
theorem dL_reached_52 : decode cL_reached 52 = .ok (.iconst 1, 1) := by decide +kernel
theorem dL_reached_53 : decode cL_reached 53 = .ok (.if_icmp .ne 22, 3) := by decide +kernel
theorem dL_reached_56 : decode cL_reached 56 = .ok (.iload 6, 2) := by decide +kernel
theorem dL_reached_58 : decode cL_reached 58 = .ok (.iload_n 3, 1) := by decide +kernel
theorem dL_reached_59 : decode cL_reached 59 = .ok (.if_icmp .eq 16, 3) := by decide +kernel
theorem dL_reached_62 : decode cL_reached 62 = .ok (.iload 4, 2) := by decide +kernel
theorem dL_reached_64 : decode cL_reached 64 = .ok (.iload 7, 2) := by decide +kernel
theorem dL_reached_66 : decode cL_reached 66 = .ok (.iand, 1) := by decide +kernel
theorem dL_reached_67 : decode cL_reached 67 = .ok (.ifCond .eq 8, 3) := by decide +kernel
theorem dL_reached_70 : decode cL_reached 70 = .ok (.iload 7, 2) := by decide +kernel
theorem dL_reached_72 : decode cL_reached 72 = .ok (.goto 4, 3) := by decide +kernel
theorem dL_reached_75 : decode cL_reached 75 = .ok (.iconst 0, 1) := by decide +kernel
theorem dL_reached_76 : decode cL_reached 76 = .ok (.ior, 1) := by decide +kernel
theorem dL_reached_77 : decode cL_reached 77 = .ok (.istore 4, 2) := by decide +kernel
theorem dL_reached_79 : decode cL_reached 79 = .ok (.iinc 6 1, 3) := by decide +kernel
theorem dL_reached_82 : decode cL_reached 82 = .ok (.goto (-64), 3) := by decide +kernel
theorem dL_reached_85 : decode cL_reached 85 = .ok (.iinc 5 1, 3) := by decide +kernel
theorem dL_reached_88 : decode cL_reached 88 = .ok (.goto (-80), 3) := by decide +kernel
theorem dL_reached_91 : decode cL_reached 91 = .ok (.iload 4, 2) := by decide +kernel
theorem dL_reached_93 : decode cL_reached 93 = .ok (.ireturn, 1) := by decide +kernel
theorem dL_chained_0 : decode cL_chained 0 = .ok (.iconst 1, 1) := by decide +kernel
theorem dL_chained_1 : decode cL_chained 1 = .ok (.iconst 2, 1) := by decide +kernel
theorem dL_chained_2 : decode cL_chained 2 = .ok (.iload_n 2, 1) := by decide +kernel
theorem dL_chained_3 : decode cL_chained 3 = .ok (.imul, 1) := by decide +kernel
theorem dL_chained_4 : decode cL_chained 4 = .ok (.ishl, 1) := by decide +kernel
theorem dL_chained_5 : decode cL_chained 5 = .ok (.istore_n 3, 1) := by decide +kernel
theorem dL_chained_6 : decode cL_chained 6 = .ok (.iconst 0, 1) := by decide +kernel
theorem dL_chained_7 : decode cL_chained 7 = .ok (.istore 4, 2) := by decide +kernel
theorem dL_chained_9 : decode cL_chained 9 = .ok (.iload 4, 2) := by decide +kernel
theorem dL_chained_11 : decode cL_chained 11 = .ok (.bipush 20, 2) := by decide +kernel
theorem dL_chained_13 : decode cL_chained 13 = .ok (.if_icmp .ge 152, 3) := by decide +kernel
theorem dL_chained_16 : decode cL_chained 16 = .ok (.iconst 0, 1) := by decide +kernel
theorem dL_chained_17 : decode cL_chained 17 = .ok (.istore 5, 2) := by decide +kernel
theorem dL_chained_19 : decode cL_chained 19 = .ok (.iload 5, 2) := by decide +kernel
theorem dL_chained_21 : decode cL_chained 21 = .ok (.aload_n 0, 1) := by decide +kernel
theorem dL_chained_22 : decode cL_chained 22 = .ok (.invokestatic 32, 3) := by decide +kernel
theorem dL_chained_25 : decode cL_chained 25 = .ok (.if_icmp .ge 134, 3) := by decide +kernel
theorem dL_chained_28 : decode cL_chained 28 = .ok (.aload_n 1, 1) := by decide +kernel
theorem dL_chained_29 : decode cL_chained 29 = .ok (.iload 5, 2) := by decide +kernel
theorem dL_chained_31 : decode cL_chained 31 = .ok (.iaload, 1) := by decide +kernel
theorem dL_chained_32 : decode cL_chained 32 = .ok (.iconst 1, 1) := by decide +kernel
theorem dL_chained_33 : decode cL_chained 33 = .ok (.if_icmp .ne 7, 3) := by decide +kernel
theorem dL_chained_36 : decode cL_chained 36 = .ok (.iconst 1, 1) := by decide +kernel
theorem dL_chained_37 : decode cL_chained 37 = .ok (.goto 4, 3) := by decide +kernel
theorem dL_chained_40 : decode cL_chained 40 = .ok (.iconst 0, 1) := by decide +kernel
theorem dL_chained_41 : decode cL_chained 41 = .ok (.istore 6, 2) := by decide +kernel
theorem dL_chained_43 : decode cL_chained 43 = .ok (.iconst 0, 1) := by decide +kernel
theorem dL_chained_44 : decode cL_chained 44 = .ok (.istore 7, 2) := by decide +kernel
theorem dL_chained_46 : decode cL_chained 46 = .ok (.iload 7, 2) := by decide +kernel
theorem dL_chained_48 : decode cL_chained 48 = .ok (.iconst 4, 1) := by decide +kernel
theorem dL_chained_49 : decode cL_chained 49 = .ok (.if_icmp .ge 104, 3) := by decide +kernel
theorem dL_chained_52 : decode cL_chained 52 = .ok (.aload_n 1, 1) := by decide +kernel
theorem dL_chained_53 : decode cL_chained 53 = .ok (.iload 5, 2) := by decide +kernel
theorem dL_chained_55 : decode cL_chained 55 = .ok (.iaload, 1) := by decide +kernel
theorem dL_chained_56 : decode cL_chained 56 = .ok (.ifCond .eq 97, 3) := by decide +kernel
theorem dL_chained_59 : decode cL_chained 59 = .ok (.iload 7, 2) := by decide +kernel
theorem dL_chained_61 : decode cL_chained 61 = .ok (.iconst 2, 1) := by decide +kernel
theorem dL_chained_62 : decode cL_chained 62 = .ok (.if_icmp .ge 12, 3) := by decide +kernel
theorem dL_chained_65 : decode cL_chained 65 = .ok (.aload_n 0, 1) := by decide +kernel
theorem dL_chained_66 : decode cL_chained 66 = .ok (.iload 5, 2) := by decide +kernel
theorem dL_chained_68 : decode cL_chained 68 = .ok (.invokestatic 39, 3) := by decide +kernel
theorem dL_chained_71 : decode cL_chained 71 = .ok (.goto 9, 3) := by decide +kernel
theorem dL_chained_74 : decode cL_chained 74 = .ok (.aload_n 0, 1) := by decide +kernel
theorem dL_chained_75 : decode cL_chained 75 = .ok (.iload 5, 2) := by decide +kernel
theorem dL_chained_77 : decode cL_chained 77 = .ok (.invokestatic 42, 3) := by decide +kernel
theorem dL_chained_80 : decode cL_chained 80 = .ok (.istore 8, 2) := by decide +kernel
theorem dL_chained_82 : decode cL_chained 82 = .ok (.iload 7, 2) := by decide +kernel
theorem dL_chained_84 : decode cL_chained 84 = .ok (.iconst 2, 1) := by decide +kernel
theorem dL_chained_85 : decode cL_chained 85 = .ok (.if_icmp .ge 12, 3) := by decide +kernel
theorem dL_chained_88 : decode cL_chained 88 = .ok (.aload_n 0, 1) := by decide +kernel
theorem dL_chained_89 : decode cL_chained 89 = .ok (.iload 5, 2) := by decide +kernel
theorem dL_chained_91 : decode cL_chained 91 = .ok (.invokestatic 42, 3) := by decide +kernel
theorem dL_chained_94 : decode cL_chained 94 = .ok (.goto 9, 3) := by decide +kernel
theorem dL_chained_97 : decode cL_chained 97 = .ok (.aload_n 0, 1) := by decide +kernel
theorem dL_chained_98 : decode cL_chained 98 = .ok (.iload 5, 2) := by decide +kernel
theorem dL_chained_100 : decode cL_chained 100 = .ok (.invokestatic 39, 3) := by decide +kernel
theorem dL_chained_103 : decode cL_chained 103 = .ok (.istore 9, 2) := by decide +kernel
theorem dL_chained_105 : decode cL_chained 105 = .ok (.iload 7, 2) := by decide +kernel
theorem dL_chained_107 : decode cL_chained 107 = .ok (.iconst 2, 1) := by decide +kernel
theorem dL_chained_108 : decode cL_chained 108 = .ok (.irem, 1) := by decide +kernel
theorem dL_chained_109 : decode cL_chained 109 = .ok (.istore 10, 2) := by decide +kernel
theorem dL_chained_111 : decode cL_chained 111 = .ok (.iload_n 3, 1) := by decide +kernel
theorem dL_chained_112 : decode cL_chained 112 = .ok (.iload_n 3, 1) := by decide +kernel
theorem dL_chained_113 : decode cL_chained 113 = .ok (.iconst 2, 1) := by decide +kernel
theorem dL_chained_114 : decode cL_chained 114 = .ok (.iload 8, 2) := by decide +kernel
theorem dL_chained_116 : decode cL_chained 116 = .ok (.imul, 1) := by decide +kernel
theorem dL_chained_117 : decode cL_chained 117 = .ok (.iload 10, 2) := by decide +kernel
theorem dL_chained_119 : decode cL_chained 119 = .ok (.iadd, 1) := by decide +kernel
theorem dL_chained_120 : decode cL_chained 120 = .ok (.ishr, 1) := by decide +kernel
theorem dL_chained_121 : decode cL_chained 121 = .ok (.iconst 1, 1) := by decide +kernel
theorem dL_chained_122 : decode cL_chained 122 = .ok (.iand, 1) := by decide +kernel
theorem dL_chained_123 : decode cL_chained 123 = .ok (.iconst 1, 1) := by decide +kernel
theorem dL_chained_124 : decode cL_chained 124 = .ok (.if_icmp .ne 20, 3) := by decide +kernel
theorem dL_chained_127 : decode cL_chained 127 = .ok (.iconst 1, 1) := by decide +kernel
theorem dL_chained_128 : decode cL_chained 128 = .ok (.iconst 2, 1) := by decide +kernel
theorem dL_chained_129 : decode cL_chained 129 = .ok (.iload 9, 2) := by decide +kernel
theorem dL_chained_131 : decode cL_chained 131 = .ok (.imul, 1) := by decide +kernel
theorem dL_chained_132 : decode cL_chained 132 = .ok (.iload 10, 2) := by decide +kernel
theorem dL_chained_134 : decode cL_chained 134 = .ok (.iload 6, 2) := by decide +kernel
theorem dL_chained_136 : decode cL_chained 136 = .ok (.iadd, 1) := by decide +kernel
theorem dL_chained_137 : decode cL_chained 137 = .ok (.iconst 2, 1) := by decide +kernel
theorem dL_chained_138 : decode cL_chained 138 = .ok (.irem, 1) := by decide +kernel
theorem dL_chained_139 : decode cL_chained 139 = .ok (.iadd, 1) := by decide +kernel
theorem dL_chained_140 : decode cL_chained 140 = .ok (.ishl, 1) := by decide +kernel
theorem dL_chained_141 : decode cL_chained 141 = .ok (.goto 4, 3) := by decide +kernel
theorem dL_chained_144 : decode cL_chained 144 = .ok (.iconst 0, 1) := by decide +kernel
theorem dL_chained_145 : decode cL_chained 145 = .ok (.ior, 1) := by decide +kernel
theorem dL_chained_146 : decode cL_chained 146 = .ok (.istore_n 3, 1) := by decide +kernel
theorem dL_chained_147 : decode cL_chained 147 = .ok (.iinc 7 1, 3) := by decide +kernel
theorem dL_chained_150 : decode cL_chained 150 = .ok (.goto (-104), 3) := by decide +kernel
theorem dL_chained_153 : decode cL_chained 153 = .ok (.iinc 5 1, 3) := by decide +kernel
theorem dL_chained_156 : decode cL_chained 156 = .ok (.goto (-137), 3) := by decide +kernel
theorem dL_chained_159 : decode cL_chained 159 = .ok (.iinc 4 1, 3) := by decide +kernel
theorem dL_chained_162 : decode cL_chained 162 = .ok (.goto (-153), 3) := by decide +kernel
theorem dL_chained_165 : decode cL_chained 165 = .ok (.iload_n 3, 1) := by decide +kernel
theorem dL_chained_166 : decode cL_chained 166 = .ok (.ireturn, 1) := by decide +kernel
theorem dL_areRight_0 : decode cL_areRight 0 = .ok (.iconst 0, 1) := by decide +kernel
theorem dL_areRight_1 : decode cL_areRight 1 = .ok (.istore 4, 2) := by decide +kernel
theorem dL_areRight_3 : decode cL_areRight 3 = .ok (.iload 4, 2) := by decide +kernel
theorem dL_areRight_5 : decode cL_areRight 5 = .ok (.aload_n 0, 1) := by decide +kernel
theorem dL_areRight_6 : decode cL_areRight 6 = .ok (.iconst 0, 1) := by decide +kernel
theorem dL_areRight_7 : decode cL_areRight 7 = .ok (.iaload, 1) := by decide +kernel
theorem dL_areRight_8 : decode cL_areRight 8 = .ok (.aload_n 0, 1) := by decide +kernel
theorem dL_areRight_9 : decode cL_areRight 9 = .ok (.iconst 1, 1) := by decide +kernel
theorem dL_areRight_10 : decode cL_areRight 10 = .ok (.iaload, 1) := by decide +kernel
theorem dL_areRight_11 : decode cL_areRight 11 = .ok (.imul, 1) := by decide +kernel
theorem dL_areRight_12 : decode cL_areRight 12 = .ok (.if_icmp .ge 39, 3) := by decide +kernel
theorem dL_areRight_15 : decode cL_areRight 15 = .ok (.aload_n 2, 1) := by decide +kernel
theorem dL_areRight_16 : decode cL_areRight 16 = .ok (.iload 4, 2) := by decide +kernel
theorem dL_areRight_18 : decode cL_areRight 18 = .ok (.iaload, 1) := by decide +kernel
theorem dL_areRight_19 : decode cL_areRight 19 = .ok (.ifCond .lt 26, 3) := by decide +kernel
theorem dL_areRight_22 : decode cL_areRight 22 = .ok (.iload 4, 2) := by decide +kernel
theorem dL_areRight_24 : decode cL_areRight 24 = .ok (.iload_n 3, 1) := by decide +kernel
theorem dL_areRight_25 : decode cL_areRight 25 = .ok (.if_icmp .eq 20, 3) := by decide +kernel
theorem dL_areRight_28 : decode cL_areRight 28 = .ok (.aload_n 0, 1) := by decide +kernel
theorem dL_areRight_29 : decode cL_areRight 29 = .ok (.aload_n 1, 1) := by decide +kernel
theorem dL_areRight_30 : decode cL_areRight 30 = .ok (.iload 4, 2) := by decide +kernel
theorem dL_areRight_32 : decode cL_areRight 32 = .ok (.iconst 1, 1) := by decide +kernel
theorem dL_areRight_33 : decode cL_areRight 33 = .ok (.invokestatic 45, 3) := by decide +kernel
theorem dL_areRight_36 : decode cL_areRight 36 = .ok (.aload_n 2, 1) := by decide +kernel
theorem dL_areRight_37 : decode cL_areRight 37 = .ok (.iload 4, 2) := by decide +kernel
theorem dL_areRight_39 : decode cL_areRight 39 = .ok (.iaload, 1) := by decide +kernel
theorem dL_areRight_40 : decode cL_areRight 40 = .ok (.if_icmp .eq 5, 3) := by decide +kernel
theorem dL_areRight_43 : decode cL_areRight 43 = .ok (.iconst 0, 1) := by decide +kernel
theorem dL_areRight_44 : decode cL_areRight 44 = .ok (.ireturn, 1) := by decide +kernel
theorem dL_areRight_45 : decode cL_areRight 45 = .ok (.iinc 4 1, 3) := by decide +kernel
theorem dL_areRight_48 : decode cL_areRight 48 = .ok (.goto (-45), 3) := by decide +kernel
theorem dL_areRight_51 : decode cL_areRight 51 = .ok (.iconst 1, 1) := by decide +kernel
theorem dL_areRight_52 : decode cL_areRight 52 = .ok (.ireturn, 1) := by decide +kernel
theorem dL_isLoop_0 : decode cL_isLoop 0 = .ok (.iconst 0, 1) := by decide +kernel
theorem dL_isLoop_1 : decode cL_isLoop 1 = .ok (.istore_n 2, 1) := by decide +kernel
theorem dL_isLoop_2 : decode cL_isLoop 2 = .ok (.iconst 0, 1) := by decide +kernel
theorem dL_isLoop_3 : decode cL_isLoop 3 = .ok (.istore_n 3, 1) := by decide +kernel
theorem dL_isLoop_4 : decode cL_isLoop 4 = .ok (.iload_n 3, 1) := by decide +kernel
theorem dL_isLoop_5 : decode cL_isLoop 5 = .ok (.aload_n 0, 1) := by decide +kernel
theorem dL_isLoop_6 : decode cL_isLoop 6 = .ok (.invokestatic 32, 3) := by decide +kernel
theorem dL_isLoop_9 : decode cL_isLoop 9 = .ok (.if_icmp .ge 80, 3) := by decide +kernel
theorem dL_isLoop_12 : decode cL_isLoop 12 = .ok (.aload_n 1, 1) := by decide +kernel
theorem dL_isLoop_13 : decode cL_isLoop 13 = .ok (.iload_n 3, 1) := by decide +kernel
theorem dL_isLoop_14 : decode cL_isLoop 14 = .ok (.iaload, 1) := by decide +kernel
theorem dL_isLoop_15 : decode cL_isLoop 15 = .ok (.iconst 1, 1) := by decide +kernel
theorem dL_isLoop_16 : decode cL_isLoop 16 = .ok (.if_icmp .ne 67, 3) := by decide +kernel
theorem dL_isLoop_19 : decode cL_isLoop 19 = .ok (.iload_n 2, 1) := by decide +kernel
theorem dL_isLoop_20 : decode cL_isLoop 20 = .ok (.ifCond .ne 17, 3) := by decide +kernel
theorem dL_isLoop_23 : decode cL_isLoop 23 = .ok (.aload_n 0, 1) := by decide +kernel
theorem dL_isLoop_24 : decode cL_isLoop 24 = .ok (.aload_n 1, 1) := by decide +kernel
theorem dL_isLoop_25 : decode cL_isLoop 25 = .ok (.aload_n 0, 1) := by decide +kernel
theorem dL_isLoop_26 : decode cL_isLoop 26 = .ok (.iload_n 3, 1) := by decide +kernel
theorem dL_isLoop_27 : decode cL_isLoop 27 = .ok (.invokestatic 22, 3) := by decide +kernel
theorem dL_isLoop_30 : decode cL_isLoop 30 = .ok (.iconst (-1), 1) := by decide +kernel
theorem dL_isLoop_31 : decode cL_isLoop 31 = .ok (.invokestatic 49, 3) := by decide +kernel
theorem dL_isLoop_34 : decode cL_isLoop 34 = .ok (.goto 4, 3) := by decide +kernel
theorem dL_isLoop_37 : decode cL_isLoop 37 = .ok (.iload_n 2, 1) := by decide +kernel
theorem dL_isLoop_38 : decode cL_isLoop 38 = .ok (.istore_n 2, 1) := by decide +kernel
theorem dL_isLoop_39 : decode cL_isLoop 39 = .ok (.iload_n 2, 1) := by decide +kernel
theorem dL_isLoop_40 : decode cL_isLoop 40 = .ok (.aload_n 0, 1) := by decide +kernel
theorem dL_isLoop_41 : decode cL_isLoop 41 = .ok (.iload_n 3, 1) := by decide +kernel
theorem dL_isLoop_42 : decode cL_isLoop 42 = .ok (.invokestatic 22, 3) := by decide +kernel
theorem dL_isLoop_45 : decode cL_isLoop 45 = .ok (.ishr, 1) := by decide +kernel
theorem dL_isLoop_46 : decode cL_isLoop 46 = .ok (.iconst 1, 1) := by decide +kernel
theorem dL_isLoop_47 : decode cL_isLoop 47 = .ok (.iand, 1) := by decide +kernel
theorem dL_isLoop_48 : decode cL_isLoop 48 = .ok (.ifCond .eq 33, 3) := by decide +kernel
theorem dL_isLoop_51 : decode cL_isLoop 51 = .ok (.aload_n 0, 1) := by decide +kernel
theorem dL_isLoop_52 : decode cL_isLoop 52 = .ok (.aload_n 1, 1) := by decide +kernel
theorem dL_isLoop_53 : decode cL_isLoop 53 = .ok (.aload_n 0, 1) := by decide +kernel
theorem dL_isLoop_54 : decode cL_isLoop 54 = .ok (.iload_n 3, 1) := by decide +kernel
theorem dL_isLoop_55 : decode cL_isLoop 55 = .ok (.invokestatic 22, 3) := by decide +kernel
theorem dL_isLoop_58 : decode cL_isLoop 58 = .ok (.iconst 1, 1) := by decide +kernel
theorem dL_isLoop_59 : decode cL_isLoop 59 = .ok (.invokestatic 52, 3) := by decide +kernel
theorem dL_isLoop_62 : decode cL_isLoop 62 = .ok (.iconst 2, 1) := by decide +kernel
theorem dL_isLoop_63 : decode cL_isLoop 63 = .ok (.if_icmp .ne 18, 3) := by decide +kernel
theorem dL_isLoop_66 : decode cL_isLoop 66 = .ok (.aload_n 0, 1) := by decide +kernel
theorem dL_isLoop_67 : decode cL_isLoop 67 = .ok (.aload_n 1, 1) := by decide +kernel
theorem dL_isLoop_68 : decode cL_isLoop 68 = .ok (.aload_n 0, 1) := by decide +kernel
theorem dL_isLoop_69 : decode cL_isLoop 69 = .ok (.iload_n 3, 1) := by decide +kernel
theorem dL_isLoop_70 : decode cL_isLoop 70 = .ok (.invokestatic 36, 3) := by decide +kernel
theorem dL_isLoop_73 : decode cL_isLoop 73 = .ok (.iconst 1, 1) := by decide +kernel
theorem dL_isLoop_74 : decode cL_isLoop 74 = .ok (.invokestatic 52, 3) := by decide +kernel
theorem dL_isLoop_77 : decode cL_isLoop 77 = .ok (.iconst 2, 1) := by decide +kernel
theorem dL_isLoop_78 : decode cL_isLoop 78 = .ok (.if_icmp .eq 5, 3) := by decide +kernel
theorem dL_isLoop_81 : decode cL_isLoop 81 = .ok (.iconst 0, 1) := by decide +kernel
theorem dL_isLoop_82 : decode cL_isLoop 82 = .ok (.ireturn, 1) := by decide +kernel
theorem dL_isLoop_83 : decode cL_isLoop 83 = .ok (.iinc 3 1, 3) := by decide +kernel
theorem dL_isLoop_86 : decode cL_isLoop 86 = .ok (.goto (-82), 3) := by decide +kernel
theorem dL_isLoop_89 : decode cL_isLoop 89 = .ok (.iload_n 2, 1) := by decide +kernel
theorem dL_isLoop_90 : decode cL_isLoop 90 = .ok (.ifCond .eq 7, 3) := by decide +kernel
theorem dL_isLoop_93 : decode cL_isLoop 93 = .ok (.iconst 1, 1) := by decide +kernel
theorem dL_isLoop_94 : decode cL_isLoop 94 = .ok (.goto 4, 3) := by decide +kernel
theorem dL_isLoop_97 : decode cL_isLoop 97 = .ok (.iconst 0, 1) := by decide +kernel
theorem dL_isLoop_98 : decode cL_isLoop 98 = .ok (.ireturn, 1) := by decide +kernel
theorem dL_broken_0 : decode cL_broken 0 = .ok (.iconst 0, 1) := by decide +kernel
theorem dL_broken_1 : decode cL_broken 1 = .ok (.istore_n 3, 1) := by decide +kernel
theorem dL_broken_2 : decode cL_broken 2 = .ok (.iload_n 3, 1) := by decide +kernel
theorem dL_broken_3 : decode cL_broken 3 = .ok (.aload_n 0, 1) := by decide +kernel
theorem dL_broken_4 : decode cL_broken 4 = .ok (.iconst 0, 1) := by decide +kernel
theorem dL_broken_5 : decode cL_broken 5 = .ok (.iaload, 1) := by decide +kernel
theorem dL_broken_6 : decode cL_broken 6 = .ok (.aload_n 0, 1) := by decide +kernel
theorem dL_broken_7 : decode cL_broken 7 = .ok (.iconst 1, 1) := by decide +kernel
theorem dL_broken_8 : decode cL_broken 8 = .ok (.iaload, 1) := by decide +kernel
theorem dL_broken_9 : decode cL_broken 9 = .ok (.imul, 1) := by decide +kernel
theorem dL_broken_10 : decode cL_broken 10 = .ok (.if_icmp .ge 50, 3) := by decide +kernel
theorem dL_broken_13 : decode cL_broken 13 = .ok (.aload_n 0, 1) := by decide +kernel
theorem dL_broken_14 : decode cL_broken 14 = .ok (.aload_n 1, 1) := by decide +kernel
theorem dL_broken_15 : decode cL_broken 15 = .ok (.iload_n 3, 1) := by decide +kernel
theorem dL_broken_16 : decode cL_broken 16 = .ok (.iconst 1, 1) := by decide +kernel
theorem dL_broken_17 : decode cL_broken 17 = .ok (.invokestatic 45, 3) := by decide +kernel
theorem dL_broken_20 : decode cL_broken 20 = .ok (.istore 4, 2) := by decide +kernel
theorem dL_broken_22 : decode cL_broken 22 = .ok (.aload_n 2, 1) := by decide +kernel
theorem dL_broken_23 : decode cL_broken 23 = .ok (.iload_n 3, 1) := by decide +kernel
theorem dL_broken_24 : decode cL_broken 24 = .ok (.iaload, 1) := by decide +kernel
theorem dL_broken_25 : decode cL_broken 25 = .ok (.ifCond .lt 29, 3) := by decide +kernel
theorem dL_broken_28 : decode cL_broken 28 = .ok (.iload 4, 2) := by decide +kernel
theorem dL_broken_30 : decode cL_broken 30 = .ok (.aload_n 2, 1) := by decide +kernel
theorem dL_broken_31 : decode cL_broken 31 = .ok (.iload_n 3, 1) := by decide +kernel
theorem dL_broken_32 : decode cL_broken 32 = .ok (.iaload, 1) := by decide +kernel
theorem dL_broken_33 : decode cL_broken 33 = .ok (.if_icmp .gt 19, 3) := by decide +kernel
theorem dL_broken_36 : decode cL_broken 36 = .ok (.iload 4, 2) := by decide +kernel
theorem dL_broken_38 : decode cL_broken 38 = .ok (.aload_n 0, 1) := by decide +kernel
theorem dL_broken_39 : decode cL_broken 39 = .ok (.aload_n 1, 1) := by decide +kernel
theorem dL_broken_40 : decode cL_broken 40 = .ok (.iload_n 3, 1) := by decide +kernel
theorem dL_broken_41 : decode cL_broken 41 = .ok (.iconst 0, 1) := by decide +kernel
theorem dL_broken_42 : decode cL_broken 42 = .ok (.invokestatic 45, 3) := by decide +kernel
theorem dL_broken_45 : decode cL_broken 45 = .ok (.iadd, 1) := by decide +kernel
theorem dL_broken_46 : decode cL_broken 46 = .ok (.aload_n 2, 1) := by decide +kernel
theorem dL_broken_47 : decode cL_broken 47 = .ok (.iload_n 3, 1) := by decide +kernel
theorem dL_broken_48 : decode cL_broken 48 = .ok (.iaload, 1) := by decide +kernel
theorem dL_broken_49 : decode cL_broken 49 = .ok (.if_icmp .ge 5, 3) := by decide +kernel
theorem dL_broken_52 : decode cL_broken 52 = .ok (.iconst 1, 1) := by decide +kernel
theorem dL_broken_53 : decode cL_broken 53 = .ok (.ireturn, 1) := by decide +kernel
theorem dL_broken_54 : decode cL_broken 54 = .ok (.iinc 3 1, 3) := by decide +kernel
theorem dL_broken_57 : decode cL_broken 57 = .ok (.goto (-55), 3) := by decide +kernel
theorem dL_broken_60 : decode cL_broken 60 = .ok (.iconst 0, 1) := by decide +kernel
theorem dL_broken_61 : decode cL_broken 61 = .ok (.istore_n 3, 1) := by decide +kernel
theorem dL_broken_62 : decode cL_broken 62 = .ok (.iload_n 3, 1) := by decide +kernel
theorem dL_broken_63 : decode cL_broken 63 = .ok (.aload_n 0, 1) := by decide +kernel
theorem dL_broken_64 : decode cL_broken 64 = .ok (.iconst 0, 1) := by decide +kernel
theorem dL_broken_65 : decode cL_broken 65 = .ok (.iaload, 1) := by decide +kernel
theorem dL_broken_66 : decode cL_broken 66 = .ok (.iconst 1, 1) := by decide +kernel
theorem dL_broken_67 : decode cL_broken 67 = .ok (.iadd, 1) := by decide +kernel
theorem dL_broken_68 : decode cL_broken 68 = .ok (.aload_n 0, 1) := by decide +kernel
theorem dL_broken_69 : decode cL_broken 69 = .ok (.iconst 1, 1) := by decide +kernel
theorem dL_broken_70 : decode cL_broken 70 = .ok (.iaload, 1) := by decide +kernel
theorem dL_broken_71 : decode cL_broken 71 = .ok (.iconst 1, 1) := by decide +kernel
theorem dL_broken_72 : decode cL_broken 72 = .ok (.iadd, 1) := by decide +kernel
theorem dL_broken_73 : decode cL_broken 73 = .ok (.imul, 1) := by decide +kernel
theorem dL_broken_74 : decode cL_broken 74 = .ok (.if_icmp .ge 42, 3) := by decide +kernel
theorem dL_broken_77 : decode cL_broken 77 = .ok (.aload_n 0, 1) := by decide +kernel
theorem dL_broken_78 : decode cL_broken 78 = .ok (.aload_n 1, 1) := by decide +kernel
theorem dL_broken_79 : decode cL_broken 79 = .ok (.iload_n 3, 1) := by decide +kernel
theorem dL_broken_80 : decode cL_broken 80 = .ok (.iconst 1, 1) := by decide +kernel
theorem dL_broken_81 : decode cL_broken 81 = .ok (.invokestatic 52, 3) := by decide +kernel
theorem dL_broken_84 : decode cL_broken 84 = .ok (.istore 4, 2) := by decide +kernel
theorem dL_broken_86 : decode cL_broken 86 = .ok (.iload 4, 2) := by decide +kernel
theorem dL_broken_88 : decode cL_broken 88 = .ok (.iconst 2, 1) := by decide +kernel
theorem dL_broken_89 : decode cL_broken 89 = .ok (.if_icmp .gt 19, 3) := by decide +kernel
theorem dL_broken_92 : decode cL_broken 92 = .ok (.iload 4, 2) := by decide +kernel
theorem dL_broken_94 : decode cL_broken 94 = .ok (.iconst 1, 1) := by decide +kernel
theorem dL_broken_95 : decode cL_broken 95 = .ok (.if_icmp .ne 15, 3) := by decide +kernel
theorem dL_broken_98 : decode cL_broken 98 = .ok (.aload_n 0, 1) := by decide +kernel
theorem dL_broken_99 : decode cL_broken 99 = .ok (.aload_n 1, 1) := by decide +kernel
theorem dL_broken_100 : decode cL_broken 100 = .ok (.iload_n 3, 1) := by decide +kernel
theorem dL_broken_101 : decode cL_broken 101 = .ok (.iconst 0, 1) := by decide +kernel
theorem dL_broken_102 : decode cL_broken 102 = .ok (.invokestatic 52, 3) := by decide +kernel
theorem dL_broken_105 : decode cL_broken 105 = .ok (.ifCond .ne 5, 3) := by decide +kernel
theorem dL_broken_108 : decode cL_broken 108 = .ok (.iconst 2, 1) := by decide +kernel
theorem dL_broken_109 : decode cL_broken 109 = .ok (.ireturn, 1) := by decide +kernel
theorem dL_broken_110 : decode cL_broken 110 = .ok (.iinc 3 1, 3) := by decide +kernel
theorem dL_broken_113 : decode cL_broken 113 = .ok (.goto (-51), 3) := by decide +kernel
theorem dL_broken_116 : decode cL_broken 116 = .ok (.iconst 0, 1) := by decide +kernel
theorem dL_broken_117 : decode cL_broken 117 = .ok (.istore_n 3, 1) := by decide +kernel
theorem dL_broken_118 : decode cL_broken 118 = .ok (.iload_n 3, 1) := by decide +kernel
theorem dL_broken_119 : decode cL_broken 119 = .ok (.aload_n 0, 1) := by decide +kernel
theorem dL_broken_120 : decode cL_broken 120 = .ok (.invokestatic 32, 3) := by decide +kernel
theorem dL_broken_123 : decode cL_broken 123 = .ok (.if_icmp .ge 128, 3) := by decide +kernel
theorem dL_broken_126 : decode cL_broken 126 = .ok (.aload_n 1, 1) := by decide +kernel
theorem dL_broken_127 : decode cL_broken 127 = .ok (.iload_n 3, 1) := by decide +kernel
theorem dL_broken_128 : decode cL_broken 128 = .ok (.iaload, 1) := by decide +kernel
theorem dL_broken_129 : decode cL_broken 129 = .ok (.iconst 1, 1) := by decide +kernel
theorem dL_broken_130 : decode cL_broken 130 = .ok (.if_icmp .ne 115, 3) := by decide +kernel
theorem dL_broken_133 : decode cL_broken 133 = .ok (.aload_n 0, 1) := by decide +kernel
theorem dL_broken_134 : decode cL_broken 134 = .ok (.aload_n 1, 1) := by decide +kernel
theorem dL_broken_135 : decode cL_broken 135 = .ok (.aload_n 0, 1) := by decide +kernel
theorem dL_broken_136 : decode cL_broken 136 = .ok (.iload_n 3, 1) := by decide +kernel
theorem dL_broken_137 : decode cL_broken 137 = .ok (.invokestatic 22, 3) := by decide +kernel
theorem dL_broken_140 : decode cL_broken 140 = .ok (.iload_n 3, 1) := by decide +kernel
theorem dL_broken_141 : decode cL_broken 141 = .ok (.invokestatic 49, 3) := by decide +kernel
theorem dL_broken_144 : decode cL_broken 144 = .ok (.aload_n 0, 1) := by decide +kernel
theorem dL_broken_145 : decode cL_broken 145 = .ok (.iload_n 3, 1) := by decide +kernel
theorem dL_broken_146 : decode cL_broken 146 = .ok (.invokestatic 36, 3) := by decide +kernel
theorem dL_broken_149 : decode cL_broken 149 = .ok (.ishr, 1) := by decide +kernel
theorem dL_broken_150 : decode cL_broken 150 = .ok (.iconst 1, 1) := by decide +kernel
theorem dL_broken_151 : decode cL_broken 151 = .ok (.iand, 1) := by decide +kernel
theorem dL_broken_152 : decode cL_broken 152 = .ok (.iconst 1, 1) := by decide +kernel
theorem dL_broken_153 : decode cL_broken 153 = .ok (.if_icmp .ne 92, 3) := by decide +kernel
theorem dL_broken_156 : decode cL_broken 156 = .ok (.aload_n 0, 1) := by decide +kernel
theorem dL_broken_157 : decode cL_broken 157 = .ok (.aload_n 1, 1) := by decide +kernel
theorem dL_broken_158 : decode cL_broken 158 = .ok (.aload_n 0, 1) := by decide +kernel
theorem dL_broken_159 : decode cL_broken 159 = .ok (.iload_n 3, 1) := by decide +kernel
theorem dL_broken_160 : decode cL_broken 160 = .ok (.invokestatic 22, 3) := by decide +kernel
theorem dL_broken_163 : decode cL_broken 163 = .ok (.iconst (-1), 1) := by decide +kernel
theorem dL_broken_164 : decode cL_broken 164 = .ok (.invokestatic 49, 3) := by decide +kernel
theorem dL_broken_167 : decode cL_broken 167 = .ok (.istore 4, 2) := by decide +kernel
theorem dL_broken_169 : decode cL_broken 169 = .ok (.aload_n 0, 1) := by decide +kernel
theorem dL_broken_170 : decode cL_broken 170 = .ok (.aload_n 1, 1) := by decide +kernel
theorem dL_broken_171 : decode cL_broken 171 = .ok (.aload_n 2, 1) := by decide +kernel
theorem dL_broken_172 : decode cL_broken 172 = .ok (.iconst (-1), 1) := by decide +kernel
theorem dL_broken_173 : decode cL_broken 173 = .ok (.invokestatic 55, 3) := by decide +kernel
theorem dL_broken_176 : decode cL_broken 176 = .ok (.ifCond .ne 7, 3) := by decide +kernel
theorem dL_broken_179 : decode cL_broken 179 = .ok (.iconst 1, 1) := by decide +kernel
theorem dL_broken_180 : decode cL_broken 180 = .ok (.goto 4, 3) := by decide +kernel
theorem dL_broken_183 : decode cL_broken 183 = .ok (.iconst 0, 1) := by decide +kernel
theorem dL_broken_184 : decode cL_broken 184 = .ok (.istore 5, 2) := by decide +kernel
theorem dL_broken_186 : decode cL_broken 186 = .ok (.iconst 0, 1) := by decide +kernel
theorem dL_broken_187 : decode cL_broken 187 = .ok (.istore 6, 2) := by decide +kernel
theorem dL_broken_189 : decode cL_broken 189 = .ok (.iload 6, 2) := by decide +kernel
theorem dL_broken_191 : decode cL_broken 191 = .ok (.aload_n 0, 1) := by decide +kernel
theorem dL_broken_192 : decode cL_broken 192 = .ok (.invokestatic 32, 3) := by decide +kernel
theorem dL_broken_195 : decode cL_broken 195 = .ok (.if_icmp .ge 43, 3) := by decide +kernel
theorem dL_broken_198 : decode cL_broken 198 = .ok (.iload 5, 2) := by decide +kernel
theorem dL_broken_200 : decode cL_broken 200 = .ok (.ifCond .ne 25, 3) := by decide +kernel
theorem dL_broken_203 : decode cL_broken 203 = .ok (.aload_n 1, 1) := by decide +kernel
theorem dL_broken_204 : decode cL_broken 204 = .ok (.iload 6, 2) := by decide +kernel
theorem dL_broken_206 : decode cL_broken 206 = .ok (.iaload, 1) := by decide +kernel
theorem dL_broken_207 : decode cL_broken 207 = .ok (.iconst 1, 1) := by decide +kernel
theorem dL_broken_208 : decode cL_broken 208 = .ok (.if_icmp .ne 21, 3) := by decide +kernel
theorem dL_broken_211 : decode cL_broken 211 = .ok (.iload 4, 2) := by decide +kernel
theorem dL_broken_213 : decode cL_broken 213 = .ok (.aload_n 0, 1) := by decide +kernel
theorem dL_broken_214 : decode cL_broken 214 = .ok (.iload 6, 2) := by decide +kernel
theorem dL_broken_216 : decode cL_broken 216 = .ok (.invokestatic 22, 3) := by decide +kernel
theorem dL_broken_219 : decode cL_broken 219 = .ok (.ishr, 1) := by decide +kernel
theorem dL_broken_220 : decode cL_broken 220 = .ok (.iconst 1, 1) := by decide +kernel
theorem dL_broken_221 : decode cL_broken 221 = .ok (.iand, 1) := by decide +kernel
theorem dL_broken_222 : decode cL_broken 222 = .ok (.ifCond .ne 7, 3) := by decide +kernel
theorem dL_broken_225 : decode cL_broken 225 = .ok (.iconst 1, 1) := by decide +kernel
theorem dL_broken_226 : decode cL_broken 226 = .ok (.goto 4, 3) := by decide +kernel
theorem dL_broken_229 : decode cL_broken 229 = .ok (.iconst 0, 1) := by decide +kernel
theorem dL_broken_230 : decode cL_broken 230 = .ok (.istore 5, 2) := by decide +kernel
theorem dL_broken_232 : decode cL_broken 232 = .ok (.iinc 6 1, 3) := by decide +kernel
theorem dL_broken_235 : decode cL_broken 235 = .ok (.goto (-46), 3) := by decide +kernel
theorem dL_broken_238 : decode cL_broken 238 = .ok (.iload 5, 2) := by decide +kernel
theorem dL_broken_240 : decode cL_broken 240 = .ok (.ifCond .eq 5, 3) := by decide +kernel
theorem dL_broken_243 : decode cL_broken 243 = .ok (.iconst 3, 1) := by decide +kernel
theorem dL_broken_244 : decode cL_broken 244 = .ok (.ireturn, 1) := by decide +kernel
theorem dL_broken_245 : decode cL_broken 245 = .ok (.iinc 3 1, 3) := by decide +kernel
theorem dL_broken_248 : decode cL_broken 248 = .ok (.goto (-130), 3) := by decide +kernel
theorem dL_broken_251 : decode cL_broken 251 = .ok (.iconst 0, 1) := by decide +kernel
theorem dL_broken_252 : decode cL_broken 252 = .ok (.istore_n 3, 1) := by decide +kernel
theorem dL_broken_253 : decode cL_broken 253 = .ok (.iload_n 3, 1) := by decide +kernel
theorem dL_broken_254 : decode cL_broken 254 = .ok (.aload_n 0, 1) := by decide +kernel
theorem dL_broken_255 : decode cL_broken 255 = .ok (.iconst 0, 1) := by decide +kernel
theorem dL_broken_256 : decode cL_broken 256 = .ok (.iaload, 1) := by decide +kernel
theorem dL_broken_257 : decode cL_broken 257 = .ok (.aload_n 0, 1) := by decide +kernel
theorem dL_broken_258 : decode cL_broken 258 = .ok (.iconst 1, 1) := by decide +kernel
theorem dL_broken_259 : decode cL_broken 259 = .ok (.iaload, 1) := by decide +kernel
theorem dL_broken_260 : decode cL_broken 260 = .ok (.imul, 1) := by decide +kernel
theorem dL_broken_261 : decode cL_broken 261 = .ok (.if_icmp .gt 29, 3) := by decide +kernel
theorem dL_broken_264 : decode cL_broken 264 = .ok (.aload_n 0, 1) := by decide +kernel
theorem dL_broken_265 : decode cL_broken 265 = .ok (.aload_n 1, 1) := by decide +kernel
theorem dL_broken_266 : decode cL_broken 266 = .ok (.iload_n 3, 1) := by decide +kernel
theorem dL_broken_267 : decode cL_broken 267 = .ok (.invokestatic 59, 3) := by decide +kernel
theorem dL_broken_270 : decode cL_broken 270 = .ok (.iconst 2, 1) := by decide +kernel
theorem dL_broken_271 : decode cL_broken 271 = .ok (.iload_n 3, 1) := by decide +kernel
theorem dL_broken_272 : decode cL_broken 272 = .ok (.imul, 1) := by decide +kernel
theorem dL_broken_273 : decode cL_broken 273 = .ok (.iconst 1, 1) := by decide +kernel
theorem dL_broken_274 : decode cL_broken 274 = .ok (.iadd, 1) := by decide +kernel
theorem dL_broken_275 : decode cL_broken 275 = .ok (.ishr, 1) := by decide +kernel
theorem dL_broken_276 : decode cL_broken 276 = .ok (.iconst 1, 1) := by decide +kernel
theorem dL_broken_277 : decode cL_broken 277 = .ok (.iand, 1) := by decide +kernel
theorem dL_broken_278 : decode cL_broken 278 = .ok (.iconst 1, 1) := by decide +kernel
theorem dL_broken_279 : decode cL_broken 279 = .ok (.if_icmp .ne 5, 3) := by decide +kernel
theorem dL_broken_282 : decode cL_broken 282 = .ok (.iconst 4, 1) := by decide +kernel
theorem dL_broken_283 : decode cL_broken 283 = .ok (.ireturn, 1) := by decide +kernel
theorem dL_broken_284 : decode cL_broken 284 = .ok (.iinc 3 1, 3) := by decide +kernel
theorem dL_broken_287 : decode cL_broken 287 = .ok (.goto (-34), 3) := by decide +kernel
theorem dL_broken_290 : decode cL_broken 290 = .ok (.iconst 0, 1) := by decide +kernel
theorem dL_broken_291 : decode cL_broken 291 = .ok (.ireturn, 1) := by decide +kernel
theorem dL_wants_0 : decode cL_wants 0 = .ok (.iload 4, 2) := by decide +kernel
theorem dL_wants_2 : decode cL_wants 2 = .ok (.iconst 3, 1) := by decide +kernel
theorem dL_wants_3 : decode cL_wants 3 = .ok (.if_icmp .ge 124, 3) := by decide +kernel
theorem dL_wants_6 : decode cL_wants 6 = .ok (.iconst 0, 1) := by decide +kernel
theorem dL_wants_7 : decode cL_wants 7 = .ok (.istore 5, 2) := by decide +kernel
theorem dL_wants_9 : decode cL_wants 9 = .ok (.iconst 0, 1) := by decide +kernel
theorem dL_wants_10 : decode cL_wants 10 = .ok (.istore 6, 2) := by decide +kernel
theorem dL_wants_12 : decode cL_wants 12 = .ok (.iload 6, 2) := by decide +kernel
theorem dL_wants_14 : decode cL_wants 14 = .ok (.iconst 2, 1) := by decide +kernel
theorem dL_wants_15 : decode cL_wants 15 = .ok (.if_icmp .ge 109, 3) := by decide +kernel
theorem dL_wants_18 : decode cL_wants 18 = .ok (.iload 6, 2) := by decide +kernel
theorem dL_wants_20 : decode cL_wants 20 = .ok (.ifCond .ne 11, 3) := by decide +kernel
theorem dL_wants_23 : decode cL_wants 23 = .ok (.aload_n 0, 1) := by decide +kernel
theorem dL_wants_24 : decode cL_wants 24 = .ok (.iload_n 3, 1) := by decide +kernel
theorem dL_wants_25 : decode cL_wants 25 = .ok (.invokestatic 39, 3) := by decide +kernel
theorem dL_wants_28 : decode cL_wants 28 = .ok (.goto 8, 3) := by decide +kernel
theorem dL_wants_31 : decode cL_wants 31 = .ok (.aload_n 0, 1) := by decide +kernel
theorem dL_wants_32 : decode cL_wants 32 = .ok (.iload_n 3, 1) := by decide +kernel
theorem dL_wants_33 : decode cL_wants 33 = .ok (.invokestatic 42, 3) := by decide +kernel
theorem dL_wants_36 : decode cL_wants 36 = .ok (.istore 7, 2) := by decide +kernel
theorem dL_wants_38 : decode cL_wants 38 = .ok (.iload 7, 2) := by decide +kernel
theorem dL_wants_40 : decode cL_wants 40 = .ok (.aload_n 0, 1) := by decide +kernel
theorem dL_wants_41 : decode cL_wants 41 = .ok (.iconst 0, 1) := by decide +kernel
theorem dL_wants_42 : decode cL_wants 42 = .ok (.iaload, 1) := by decide +kernel
theorem dL_wants_43 : decode cL_wants 43 = .ok (.aload_n 0, 1) := by decide +kernel
theorem dL_wants_44 : decode cL_wants 44 = .ok (.iconst 1, 1) := by decide +kernel
theorem dL_wants_45 : decode cL_wants 45 = .ok (.iaload, 1) := by decide +kernel
theorem dL_wants_46 : decode cL_wants 46 = .ok (.imul, 1) := by decide +kernel
theorem dL_wants_47 : decode cL_wants 47 = .ok (.if_icmp .ge 71, 3) := by decide +kernel
theorem dL_wants_50 : decode cL_wants 50 = .ok (.aload_n 2, 1) := by decide +kernel
theorem dL_wants_51 : decode cL_wants 51 = .ok (.iload 7, 2) := by decide +kernel
theorem dL_wants_53 : decode cL_wants 53 = .ok (.iaload, 1) := by decide +kernel
theorem dL_wants_54 : decode cL_wants 54 = .ok (.ifCond .lt 64, 3) := by decide +kernel
theorem dL_wants_57 : decode cL_wants 57 = .ok (.aload_n 0, 1) := by decide +kernel
theorem dL_wants_58 : decode cL_wants 58 = .ok (.aload_n 1, 1) := by decide +kernel
theorem dL_wants_59 : decode cL_wants 59 = .ok (.iload 7, 2) := by decide +kernel
theorem dL_wants_61 : decode cL_wants 61 = .ok (.iconst 1, 1) := by decide +kernel
theorem dL_wants_62 : decode cL_wants 62 = .ok (.invokestatic 45, 3) := by decide +kernel
theorem dL_wants_65 : decode cL_wants 65 = .ok (.istore 8, 2) := by decide +kernel
theorem dL_wants_67 : decode cL_wants 67 = .ok (.iload 5, 2) := by decide +kernel
theorem dL_wants_69 : decode cL_wants 69 = .ok (.iload 4, 2) := by decide +kernel
theorem dL_wants_71 : decode cL_wants 71 = .ok (.iconst 1, 1) := by decide +kernel
theorem dL_wants_72 : decode cL_wants 72 = .ok (.if_icmp .ne 20, 3) := by decide +kernel
theorem dL_wants_75 : decode cL_wants 75 = .ok (.iload 8, 2) := by decide +kernel
theorem dL_wants_77 : decode cL_wants 77 = .ok (.aload_n 2, 1) := by decide +kernel
theorem dL_wants_78 : decode cL_wants 78 = .ok (.iload 7, 2) := by decide +kernel
theorem dL_wants_80 : decode cL_wants 80 = .ok (.iaload, 1) := by decide +kernel
theorem dL_wants_81 : decode cL_wants 81 = .ok (.if_icmp .ne 7, 3) := by decide +kernel
theorem dL_wants_84 : decode cL_wants 84 = .ok (.iconst 2, 1) := by decide +kernel
theorem dL_wants_85 : decode cL_wants 85 = .ok (.goto 30, 3) := by decide +kernel
theorem dL_wants_88 : decode cL_wants 88 = .ok (.iconst 0, 1) := by decide +kernel
theorem dL_wants_89 : decode cL_wants 89 = .ok (.goto 26, 3) := by decide +kernel
theorem dL_wants_92 : decode cL_wants 92 = .ok (.iload 8, 2) := by decide +kernel
theorem dL_wants_94 : decode cL_wants 94 = .ok (.aload_n 0, 1) := by decide +kernel
theorem dL_wants_95 : decode cL_wants 95 = .ok (.aload_n 1, 1) := by decide +kernel
theorem dL_wants_96 : decode cL_wants 96 = .ok (.iload 7, 2) := by decide +kernel
theorem dL_wants_98 : decode cL_wants 98 = .ok (.iconst 0, 1) := by decide +kernel
theorem dL_wants_99 : decode cL_wants 99 = .ok (.invokestatic 45, 3) := by decide +kernel
theorem dL_wants_102 : decode cL_wants 102 = .ok (.iadd, 1) := by decide +kernel
theorem dL_wants_103 : decode cL_wants 103 = .ok (.aload_n 2, 1) := by decide +kernel
theorem dL_wants_104 : decode cL_wants 104 = .ok (.iload 7, 2) := by decide +kernel
theorem dL_wants_106 : decode cL_wants 106 = .ok (.iaload, 1) := by decide +kernel
theorem dL_wants_107 : decode cL_wants 107 = .ok (.if_icmp .ne 7, 3) := by decide +kernel
theorem dL_wants_110 : decode cL_wants 110 = .ok (.iconst 1, 1) := by decide +kernel
theorem dL_wants_111 : decode cL_wants 111 = .ok (.goto 4, 3) := by decide +kernel
theorem dL_wants_114 : decode cL_wants 114 = .ok (.iconst 0, 1) := by decide +kernel
theorem dL_wants_115 : decode cL_wants 115 = .ok (.ior, 1) := by decide +kernel
theorem dL_wants_116 : decode cL_wants 116 = .ok (.istore 5, 2) := by decide +kernel
theorem dL_wants_118 : decode cL_wants 118 = .ok (.iinc 6 1, 3) := by decide +kernel
theorem dL_wants_121 : decode cL_wants 121 = .ok (.goto (-109), 3) := by decide +kernel
theorem dL_wants_124 : decode cL_wants 124 = .ok (.iload 5, 2) := by decide +kernel
theorem dL_wants_126 : decode cL_wants 126 = .ok (.ireturn, 1) := by decide +kernel
theorem dL_wants_127 : decode cL_wants 127 = .ok (.iload 4, 2) := by decide +kernel
theorem dL_wants_129 : decode cL_wants 129 = .ok (.bipush 6, 2) := by decide +kernel
theorem dL_wants_131 : decode cL_wants 131 = .ok (.if_icmp .ge 131, 3) := by decide +kernel
theorem dL_wants_134 : decode cL_wants 134 = .ok (.iconst 0, 1) := by decide +kernel
theorem dL_wants_135 : decode cL_wants 135 = .ok (.istore 5, 2) := by decide +kernel
theorem dL_wants_137 : decode cL_wants 137 = .ok (.iconst 0, 1) := by decide +kernel
theorem dL_wants_138 : decode cL_wants 138 = .ok (.istore 6, 2) := by decide +kernel
theorem dL_wants_140 : decode cL_wants 140 = .ok (.iload 6, 2) := by decide +kernel
theorem dL_wants_142 : decode cL_wants 142 = .ok (.iconst 2, 1) := by decide +kernel
theorem dL_wants_143 : decode cL_wants 143 = .ok (.if_icmp .ge 116, 3) := by decide +kernel
theorem dL_wants_146 : decode cL_wants 146 = .ok (.iload 6, 2) := by decide +kernel
theorem dL_wants_148 : decode cL_wants 148 = .ok (.ifCond .ne 11, 3) := by decide +kernel
theorem dL_wants_151 : decode cL_wants 151 = .ok (.aload_n 0, 1) := by decide +kernel
theorem dL_wants_152 : decode cL_wants 152 = .ok (.iload_n 3, 1) := by decide +kernel
theorem dL_wants_153 : decode cL_wants 153 = .ok (.invokestatic 22, 3) := by decide +kernel
theorem dL_wants_156 : decode cL_wants 156 = .ok (.goto 8, 3) := by decide +kernel
theorem dL_wants_159 : decode cL_wants 159 = .ok (.aload_n 0, 1) := by decide +kernel
theorem dL_wants_160 : decode cL_wants 160 = .ok (.iload_n 3, 1) := by decide +kernel
theorem dL_wants_161 : decode cL_wants 161 = .ok (.invokestatic 36, 3) := by decide +kernel
theorem dL_wants_164 : decode cL_wants 164 = .ok (.istore 7, 2) := by decide +kernel
theorem dL_wants_166 : decode cL_wants 166 = .ok (.aload_n 0, 1) := by decide +kernel
theorem dL_wants_167 : decode cL_wants 167 = .ok (.aload_n 1, 1) := by decide +kernel
theorem dL_wants_168 : decode cL_wants 168 = .ok (.iload 7, 2) := by decide +kernel
theorem dL_wants_170 : decode cL_wants 170 = .ok (.iconst 1, 1) := by decide +kernel
theorem dL_wants_171 : decode cL_wants 171 = .ok (.invokestatic 52, 3) := by decide +kernel
theorem dL_wants_174 : decode cL_wants 174 = .ok (.istore 8, 2) := by decide +kernel
theorem dL_wants_176 : decode cL_wants 176 = .ok (.aload_n 0, 1) := by decide +kernel
theorem dL_wants_177 : decode cL_wants 177 = .ok (.aload_n 1, 1) := by decide +kernel
theorem dL_wants_178 : decode cL_wants 178 = .ok (.iload 7, 2) := by decide +kernel
theorem dL_wants_180 : decode cL_wants 180 = .ok (.iconst 0, 1) := by decide +kernel
theorem dL_wants_181 : decode cL_wants 181 = .ok (.invokestatic 52, 3) := by decide +kernel
theorem dL_wants_184 : decode cL_wants 184 = .ok (.istore 9, 2) := by decide +kernel
theorem dL_wants_186 : decode cL_wants 186 = .ok (.iload 5, 2) := by decide +kernel
theorem dL_wants_188 : decode cL_wants 188 = .ok (.iload 4, 2) := by decide +kernel
theorem dL_wants_190 : decode cL_wants 190 = .ok (.iconst 3, 1) := by decide +kernel
theorem dL_wants_191 : decode cL_wants 191 = .ok (.if_icmp .ne 17, 3) := by decide +kernel
theorem dL_wants_194 : decode cL_wants 194 = .ok (.iload 8, 2) := by decide +kernel
theorem dL_wants_196 : decode cL_wants 196 = .ok (.iconst 2, 1) := by decide +kernel
theorem dL_wants_197 : decode cL_wants 197 = .ok (.if_icmp .ne 7, 3) := by decide +kernel
theorem dL_wants_200 : decode cL_wants 200 = .ok (.iconst 2, 1) := by decide +kernel
theorem dL_wants_201 : decode cL_wants 201 = .ok (.goto 49, 3) := by decide +kernel
theorem dL_wants_204 : decode cL_wants 204 = .ok (.iconst 0, 1) := by decide +kernel
theorem dL_wants_205 : decode cL_wants 205 = .ok (.goto 45, 3) := by decide +kernel
theorem dL_wants_208 : decode cL_wants 208 = .ok (.iload 4, 2) := by decide +kernel
theorem dL_wants_210 : decode cL_wants 210 = .ok (.iconst 4, 1) := by decide +kernel
theorem dL_wants_211 : decode cL_wants 211 = .ok (.if_icmp .ne 23, 3) := by decide +kernel
theorem dL_wants_214 : decode cL_wants 214 = .ok (.iload 8, 2) := by decide +kernel
theorem dL_wants_216 : decode cL_wants 216 = .ok (.iconst 1, 1) := by decide +kernel
theorem dL_wants_217 : decode cL_wants 217 = .ok (.if_icmp .ne 13, 3) := by decide +kernel
theorem dL_wants_220 : decode cL_wants 220 = .ok (.iload 9, 2) := by decide +kernel
theorem dL_wants_222 : decode cL_wants 222 = .ok (.iconst 1, 1) := by decide +kernel
theorem dL_wants_223 : decode cL_wants 223 = .ok (.if_icmp .ne 7, 3) := by decide +kernel
theorem dL_wants_226 : decode cL_wants 226 = .ok (.iconst 1, 1) := by decide +kernel
theorem dL_wants_227 : decode cL_wants 227 = .ok (.goto 23, 3) := by decide +kernel
theorem dL_wants_230 : decode cL_wants 230 = .ok (.iconst 0, 1) := by decide +kernel
theorem dL_wants_231 : decode cL_wants 231 = .ok (.goto 19, 3) := by decide +kernel
theorem dL_wants_234 : decode cL_wants 234 = .ok (.iload 8, 2) := by decide +kernel
theorem dL_wants_236 : decode cL_wants 236 = .ok (.ifCond .ne 13, 3) := by decide +kernel
theorem dL_wants_239 : decode cL_wants 239 = .ok (.iload 9, 2) := by decide +kernel
theorem dL_wants_241 : decode cL_wants 241 = .ok (.iconst 1, 1) := by decide +kernel
theorem dL_wants_242 : decode cL_wants 242 = .ok (.if_icmp .ne 7, 3) := by decide +kernel
theorem dL_wants_245 : decode cL_wants 245 = .ok (.iconst 2, 1) := by decide +kernel
theorem dL_wants_246 : decode cL_wants 246 = .ok (.goto 4, 3) := by decide +kernel
theorem dL_wants_249 : decode cL_wants 249 = .ok (.iconst 0, 1) := by decide +kernel
