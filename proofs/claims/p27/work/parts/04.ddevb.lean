theorem dX4_hasBrokenCell_1 : decode cX4_hasBrokenCell 1 = .ok (.istore_n 1, 1) := by decide +kernel
theorem dX4_hasBrokenCell_2 : decode cX4_hasBrokenCell 2 = .ok (.iload_n 1, 1) := by decide +kernel
theorem dX4_hasBrokenCell_3 : decode cX4_hasBrokenCell 3 = .ok (.aload_n 0, 1) := by decide +kernel
theorem dX4_hasBrokenCell_4 : decode cX4_hasBrokenCell 4 = .ok (.getfield 22, 3) := by decide +kernel
theorem dX4_hasBrokenCell_7 : decode cX4_hasBrokenCell 7 = .ok (.getfield 40, 3) := by decide +kernel
theorem dX4_hasBrokenCell_10 : decode cX4_hasBrokenCell 10 = .ok (.if_icmp .ge 76, 3) := by decide +kernel
theorem dX4_hasBrokenCell_13 : decode cX4_hasBrokenCell 13 = .ok (.aload_n 0, 1) := by decide +kernel
theorem dX4_hasBrokenCell_14 : decode cX4_hasBrokenCell 14 = .ok (.getfield 22, 3) := by decide +kernel
theorem dX4_hasBrokenCell_17 : decode cX4_hasBrokenCell 17 = .ok (.getfield 80, 3) := by decide +kernel
theorem dX4_hasBrokenCell_20 : decode cX4_hasBrokenCell 20 = .ok (.iload_n 1, 1) := by decide +kernel
theorem dX4_hasBrokenCell_21 : decode cX4_hasBrokenCell 21 = .ok (.iaload, 1) := by decide +kernel
theorem dX4_hasBrokenCell_22 : decode cX4_hasBrokenCell 22 = .ok (.istore_n 2, 1) := by decide +kernel
theorem dX4_hasBrokenCell_23 : decode cX4_hasBrokenCell 23 = .ok (.aload_n 0, 1) := by decide +kernel
theorem dX4_hasBrokenCell_24 : decode cX4_hasBrokenCell 24 = .ok (.getfield 26, 3) := by decide +kernel
theorem dX4_hasBrokenCell_27 : decode cX4_hasBrokenCell 27 = .ok (.aload_n 0, 1) := by decide +kernel
theorem dX4_hasBrokenCell_28 : decode cX4_hasBrokenCell 28 = .ok (.getfield 22, 3) := by decide +kernel
theorem dX4_hasBrokenCell_31 : decode cX4_hasBrokenCell 31 = .ok (.getfield 83, 3) := by decide +kernel
theorem dX4_hasBrokenCell_34 : decode cX4_hasBrokenCell 34 = .ok (.iload_n 1, 1) := by decide +kernel
theorem dX4_hasBrokenCell_35 : decode cX4_hasBrokenCell 35 = .ok (.laload, 1) := by decide +kernel
theorem dX4_hasBrokenCell_36 : decode cX4_hasBrokenCell 36 = .ok (.land, 1) := by decide +kernel
theorem dX4_hasBrokenCell_37 : decode cX4_hasBrokenCell 37 = .ok (.invokestatic 86, 3) := by decide +kernel
theorem dX4_hasBrokenCell_40 : decode cX4_hasBrokenCell 40 = .ok (.istore_n 3, 1) := by decide +kernel
theorem dX4_hasBrokenCell_41 : decode cX4_hasBrokenCell 41 = .ok (.iload_n 3, 1) := by decide +kernel
theorem dX4_hasBrokenCell_42 : decode cX4_hasBrokenCell 42 = .ok (.aload_n 0, 1) := by decide +kernel
theorem dX4_hasBrokenCell_43 : decode cX4_hasBrokenCell 43 = .ok (.getfield 37, 3) := by decide +kernel
theorem dX4_hasBrokenCell_46 : decode cX4_hasBrokenCell 46 = .ok (.aload_n 0, 1) := by decide +kernel
theorem dX4_hasBrokenCell_47 : decode cX4_hasBrokenCell 47 = .ok (.getfield 22, 3) := by decide +kernel
theorem dX4_hasBrokenCell_50 : decode cX4_hasBrokenCell 50 = .ok (.getfield 83, 3) := by decide +kernel
theorem dX4_hasBrokenCell_53 : decode cX4_hasBrokenCell 53 = .ok (.iload_n 1, 1) := by decide +kernel
theorem dX4_hasBrokenCell_54 : decode cX4_hasBrokenCell 54 = .ok (.laload, 1) := by decide +kernel
theorem dX4_hasBrokenCell_55 : decode cX4_hasBrokenCell 55 = .ok (.land, 1) := by decide +kernel
theorem dX4_hasBrokenCell_56 : decode cX4_hasBrokenCell 56 = .ok (.invokestatic 86, 3) := by decide +kernel
theorem dX4_hasBrokenCell_59 : decode cX4_hasBrokenCell 59 = .ok (.iadd, 1) := by decide +kernel
theorem dX4_hasBrokenCell_60 : decode cX4_hasBrokenCell 60 = .ok (.istore 4, 2) := by decide +kernel
theorem dX4_hasBrokenCell_62 : decode cX4_hasBrokenCell 62 = .ok (.iload_n 2, 1) := by decide +kernel
theorem dX4_hasBrokenCell_63 : decode cX4_hasBrokenCell 63 = .ok (.iconst (-1), 1) := by decide +kernel
theorem dX4_hasBrokenCell_64 : decode cX4_hasBrokenCell 64 = .ok (.if_icmp .eq 16, 3) := by decide +kernel
theorem dX4_hasBrokenCell_67 : decode cX4_hasBrokenCell 67 = .ok (.iload_n 3, 1) := by decide +kernel
theorem dX4_hasBrokenCell_68 : decode cX4_hasBrokenCell 68 = .ok (.iload_n 2, 1) := by decide +kernel
theorem dX4_hasBrokenCell_69 : decode cX4_hasBrokenCell 69 = .ok (.if_icmp .gt 9, 3) := by decide +kernel
theorem dX4_hasBrokenCell_72 : decode cX4_hasBrokenCell 72 = .ok (.iload 4, 2) := by decide +kernel
theorem dX4_hasBrokenCell_74 : decode cX4_hasBrokenCell 74 = .ok (.iload_n 2, 1) := by decide +kernel
theorem dX4_hasBrokenCell_75 : decode cX4_hasBrokenCell 75 = .ok (.if_icmp .ge 5, 3) := by decide +kernel
theorem dX4_hasBrokenCell_78 : decode cX4_hasBrokenCell 78 = .ok (.iconst 1, 1) := by decide +kernel
theorem dX4_hasBrokenCell_79 : decode cX4_hasBrokenCell 79 = .ok (.ireturn, 1) := by decide +kernel
theorem dX4_hasBrokenCell_80 : decode cX4_hasBrokenCell 80 = .ok (.iinc 1 1, 3) := by decide +kernel
theorem dX4_hasBrokenCell_83 : decode cX4_hasBrokenCell 83 = .ok (.goto (-81), 3) := by decide +kernel
theorem dX4_hasBrokenCell_86 : decode cX4_hasBrokenCell 86 = .ok (.iconst 0, 1) := by decide +kernel
theorem dX4_hasBrokenCell_87 : decode cX4_hasBrokenCell 87 = .ok (.ireturn, 1) := by decide +kernel
theorem dX4_hasBrokenPoint_0 : decode cX4_hasBrokenPoint 0 = .ok (.iconst 0, 1) := by decide +kernel
theorem dX4_hasBrokenPoint_1 : decode cX4_hasBrokenPoint 1 = .ok (.istore_n 1, 1) := by decide +kernel
theorem dX4_hasBrokenPoint_2 : decode cX4_hasBrokenPoint 2 = .ok (.iload_n 1, 1) := by decide +kernel
theorem dX4_hasBrokenPoint_3 : decode cX4_hasBrokenPoint 3 = .ok (.aload_n 0, 1) := by decide +kernel
theorem dX4_hasBrokenPoint_4 : decode cX4_hasBrokenPoint 4 = .ok (.getfield 22, 3) := by decide +kernel
theorem dX4_hasBrokenPoint_7 : decode cX4_hasBrokenPoint 7 = .ok (.getfield 92, 3) := by decide +kernel
theorem dX4_hasBrokenPoint_10 : decode cX4_hasBrokenPoint 10 = .ok (.if_icmp .ge 54, 3) := by decide +kernel
theorem dX4_hasBrokenPoint_13 : decode cX4_hasBrokenPoint 13 = .ok (.aload_n 0, 1) := by decide +kernel
theorem dX4_hasBrokenPoint_14 : decode cX4_hasBrokenPoint 14 = .ok (.getfield 26, 3) := by decide +kernel
theorem dX4_hasBrokenPoint_17 : decode cX4_hasBrokenPoint 17 = .ok (.aload_n 0, 1) := by decide +kernel
theorem dX4_hasBrokenPoint_18 : decode cX4_hasBrokenPoint 18 = .ok (.getfield 22, 3) := by decide +kernel
theorem dX4_hasBrokenPoint_21 : decode cX4_hasBrokenPoint 21 = .ok (.getfield 95, 3) := by decide +kernel
theorem dX4_hasBrokenPoint_24 : decode cX4_hasBrokenPoint 24 = .ok (.iload_n 1, 1) := by decide +kernel
theorem dX4_hasBrokenPoint_25 : decode cX4_hasBrokenPoint 25 = .ok (.laload, 1) := by decide +kernel
theorem dX4_hasBrokenPoint_26 : decode cX4_hasBrokenPoint 26 = .ok (.land, 1) := by decide +kernel
theorem dX4_hasBrokenPoint_27 : decode cX4_hasBrokenPoint 27 = .ok (.invokestatic 86, 3) := by decide +kernel
theorem dX4_hasBrokenPoint_30 : decode cX4_hasBrokenPoint 30 = .ok (.istore_n 2, 1) := by decide +kernel
theorem dX4_hasBrokenPoint_31 : decode cX4_hasBrokenPoint 31 = .ok (.iload_n 2, 1) := by decide +kernel
theorem dX4_hasBrokenPoint_32 : decode cX4_hasBrokenPoint 32 = .ok (.iconst 2, 1) := by decide +kernel
theorem dX4_hasBrokenPoint_33 : decode cX4_hasBrokenPoint 33 = .ok (.if_icmp .gt 23, 3) := by decide +kernel
theorem dX4_hasBrokenPoint_36 : decode cX4_hasBrokenPoint 36 = .ok (.iload_n 2, 1) := by decide +kernel
theorem dX4_hasBrokenPoint_37 : decode cX4_hasBrokenPoint 37 = .ok (.iconst 1, 1) := by decide +kernel
theorem dX4_hasBrokenPoint_38 : decode cX4_hasBrokenPoint 38 = .ok (.if_icmp .ne 20, 3) := by decide +kernel
theorem dX4_hasBrokenPoint_41 : decode cX4_hasBrokenPoint 41 = .ok (.aload_n 0, 1) := by decide +kernel
theorem dX4_hasBrokenPoint_42 : decode cX4_hasBrokenPoint 42 = .ok (.getfield 22, 3) := by decide +kernel
theorem dX4_hasBrokenPoint_45 : decode cX4_hasBrokenPoint 45 = .ok (.aload_n 0, 1) := by decide +kernel
theorem dX4_hasBrokenPoint_46 : decode cX4_hasBrokenPoint 46 = .ok (.getfield 37, 3) := by decide +kernel
theorem dX4_hasBrokenPoint_49 : decode cX4_hasBrokenPoint 49 = .ok (.iload_n 1, 1) := by decide +kernel
theorem dX4_hasBrokenPoint_50 : decode cX4_hasBrokenPoint 50 = .ok (.invokevirtual 98, 3) := by decide +kernel
theorem dX4_hasBrokenPoint_53 : decode cX4_hasBrokenPoint 53 = .ok (.ifCond .ne 5, 3) := by decide +kernel
theorem dX4_hasBrokenPoint_56 : decode cX4_hasBrokenPoint 56 = .ok (.iconst 1, 1) := by decide +kernel
theorem dX4_hasBrokenPoint_57 : decode cX4_hasBrokenPoint 57 = .ok (.ireturn, 1) := by decide +kernel
theorem dX4_hasBrokenPoint_58 : decode cX4_hasBrokenPoint 58 = .ok (.iinc 1 1, 3) := by decide +kernel
theorem dX4_hasBrokenPoint_61 : decode cX4_hasBrokenPoint 61 = .ok (.goto (-59), 3) := by decide +kernel
theorem dX4_hasBrokenPoint_64 : decode cX4_hasBrokenPoint 64 = .ok (.iconst 0, 1) := by decide +kernel
theorem dX4_hasBrokenPoint_65 : decode cX4_hasBrokenPoint 65 = .ok (.ireturn, 1) := by decide +kernel
theorem dX4_hasBrokenLoop_0 : decode cX4_hasBrokenLoop 0 = .ok (.aload_n 0, 1) := by decide +kernel
theorem dX4_hasBrokenLoop_1 : decode cX4_hasBrokenLoop 1 = .ok (.getfield 26, 3) := by decide +kernel
theorem dX4_hasBrokenLoop_4 : decode cX4_hasBrokenLoop 4 = .ok (.lstore_n 1, 1) := by decide +kernel
theorem dX4_hasBrokenLoop_5 : decode cX4_hasBrokenLoop 5 = .ok (.iconst 0, 1) := by decide +kernel
theorem dX4_hasBrokenLoop_6 : decode cX4_hasBrokenLoop 6 = .ok (.istore_n 3, 1) := by decide +kernel
theorem dX4_hasBrokenLoop_7 : decode cX4_hasBrokenLoop 7 = .ok (.iload_n 3, 1) := by decide +kernel
theorem dX4_hasBrokenLoop_8 : decode cX4_hasBrokenLoop 8 = .ok (.bipush 40, 2) := by decide +kernel
theorem dX4_hasBrokenLoop_10 : decode cX4_hasBrokenLoop 10 = .ok (.if_icmp .ge 73, 3) := by decide +kernel
theorem dX4_hasBrokenLoop_13 : decode cX4_hasBrokenLoop 13 = .ok (.lload_n 1, 1) := by decide +kernel
theorem dX4_hasBrokenLoop_14 : decode cX4_hasBrokenLoop 14 = .ok (.lconst 0, 1) := by decide +kernel
theorem dX4_hasBrokenLoop_15 : decode cX4_hasBrokenLoop 15 = .ok (.lcmp, 1) := by decide +kernel
theorem dX4_hasBrokenLoop_16 : decode cX4_hasBrokenLoop 16 = .ok (.ifCond .eq 67, 3) := by decide +kernel
theorem dX4_hasBrokenLoop_19 : decode cX4_hasBrokenLoop 19 = .ok (.aload_n 0, 1) := by decide +kernel
theorem dX4_hasBrokenLoop_20 : decode cX4_hasBrokenLoop 20 = .ok (.getfield 22, 3) := by decide +kernel
theorem dX4_hasBrokenLoop_23 : decode cX4_hasBrokenLoop 23 = .ok (.lload_n 1, 1) := by decide +kernel
theorem dX4_hasBrokenLoop_24 : decode cX4_hasBrokenLoop 24 = .ok (.invokevirtual 101, 3) := by decide +kernel
theorem dX4_hasBrokenLoop_27 : decode cX4_hasBrokenLoop 27 = .ok (.lstore 4, 2) := by decide +kernel
theorem dX4_hasBrokenLoop_29 : decode cX4_hasBrokenLoop 29 = .ok (.lload_n 1, 1) := by decide +kernel
theorem dX4_hasBrokenLoop_30 : decode cX4_hasBrokenLoop 30 = .ok (.lload 4, 2) := by decide +kernel
theorem dX4_hasBrokenLoop_32 : decode cX4_hasBrokenLoop 32 = .ok (.ldc2_w 35, 3) := by decide +kernel
theorem dX4_hasBrokenLoop_35 : decode cX4_hasBrokenLoop 35 = .ok (.lxor, 1) := by decide +kernel
theorem dX4_hasBrokenLoop_36 : decode cX4_hasBrokenLoop 36 = .ok (.land, 1) := by decide +kernel
theorem dX4_hasBrokenLoop_37 : decode cX4_hasBrokenLoop 37 = .ok (.lstore_n 1, 1) := by decide +kernel
theorem dX4_hasBrokenLoop_38 : decode cX4_hasBrokenLoop 38 = .ok (.aload_n 0, 1) := by decide +kernel
theorem dX4_hasBrokenLoop_39 : decode cX4_hasBrokenLoop 39 = .ok (.getfield 22, 3) := by decide +kernel
theorem dX4_hasBrokenLoop_42 : decode cX4_hasBrokenLoop 42 = .ok (.lload 4, 2) := by decide +kernel
theorem dX4_hasBrokenLoop_44 : decode cX4_hasBrokenLoop 44 = .ok (.invokevirtual 105, 3) := by decide +kernel
theorem dX4_hasBrokenLoop_47 : decode cX4_hasBrokenLoop 47 = .ok (.ifCond .eq 30, 3) := by decide +kernel
theorem dX4_hasBrokenLoop_50 : decode cX4_hasBrokenLoop 50 = .ok (.lload 4, 2) := by decide +kernel
theorem dX4_hasBrokenLoop_52 : decode cX4_hasBrokenLoop 52 = .ok (.aload_n 0, 1) := by decide +kernel
theorem dX4_hasBrokenLoop_53 : decode cX4_hasBrokenLoop 53 = .ok (.getfield 26, 3) := by decide +kernel
theorem dX4_hasBrokenLoop_56 : decode cX4_hasBrokenLoop 56 = .ok (.lcmp, 1) := by decide +kernel
theorem dX4_hasBrokenLoop_57 : decode cX4_hasBrokenLoop 57 = .ok (.ifCond .ne 18, 3) := by decide +kernel
theorem dX4_hasBrokenLoop_60 : decode cX4_hasBrokenLoop 60 = .ok (.aload_n 0, 1) := by decide +kernel
theorem dX4_hasBrokenLoop_61 : decode cX4_hasBrokenLoop 61 = .ok (.getfield 22, 3) := by decide +kernel
theorem dX4_hasBrokenLoop_64 : decode cX4_hasBrokenLoop 64 = .ok (.aload_n 0, 1) := by decide +kernel
theorem dX4_hasBrokenLoop_65 : decode cX4_hasBrokenLoop 65 = .ok (.getfield 26, 3) := by decide +kernel
theorem dX4_hasBrokenLoop_68 : decode cX4_hasBrokenLoop 68 = .ok (.iconst (-1), 1) := by decide +kernel
theorem dX4_hasBrokenLoop_69 : decode cX4_hasBrokenLoop 69 = .ok (.invokevirtual 109, 3) := by decide +kernel
theorem dX4_hasBrokenLoop_72 : decode cX4_hasBrokenLoop 72 = .ok (.ifCond .ne 5, 3) := by decide +kernel
theorem dX4_hasBrokenLoop_75 : decode cX4_hasBrokenLoop 75 = .ok (.iconst 1, 1) := by decide +kernel
theorem dX4_hasBrokenLoop_76 : decode cX4_hasBrokenLoop 76 = .ok (.ireturn, 1) := by decide +kernel
theorem dX4_hasBrokenLoop_77 : decode cX4_hasBrokenLoop 77 = .ok (.iinc 3 1, 3) := by decide +kernel
theorem dX4_hasBrokenLoop_80 : decode cX4_hasBrokenLoop 80 = .ok (.goto (-73), 3) := by decide +kernel
theorem dX4_hasBrokenLoop_83 : decode cX4_hasBrokenLoop 83 = .ok (.iconst 0, 1) := by decide +kernel
theorem dX4_hasBrokenLoop_84 : decode cX4_hasBrokenLoop 84 = .ok (.ireturn, 1) := by decide +kernel
theorem dX4_askRules_0 : decode cX4_askRules 0 = .ok (.aload_n 0, 1) := by decide +kernel
theorem dX4_askRules_1 : decode cX4_askRules 1 = .ok (.getfield 18, 3) := by decide +kernel
theorem dX4_askRules_4 : decode cX4_askRules 4 = .ok (.lconst 0, 1) := by decide +kernel
theorem dX4_askRules_5 : decode cX4_askRules 5 = .ok (.invokestatic 112, 3) := by decide +kernel
theorem dX4_askRules_8 : decode cX4_askRules 8 = .ok (.aload_n 0, 1) := by decide +kernel
theorem dX4_askRules_9 : decode cX4_askRules 9 = .ok (.lconst 0, 1) := by decide +kernel
theorem dX4_askRules_10 : decode cX4_askRules 10 = .ok (.putfield 118, 3) := by decide +kernel
theorem dX4_askRules_13 : decode cX4_askRules 13 = .ok (.aload_n 0, 1) := by decide +kernel
theorem dX4_askRules_14 : decode cX4_askRules 14 = .ok (.lconst 0, 1) := by decide +kernel
theorem dX4_askRules_15 : decode cX4_askRules 15 = .ok (.putfield 121, 3) := by decide +kernel
theorem dX4_askRules_18 : decode cX4_askRules 18 = .ok (.aload_n 0, 1) := by decide +kernel
theorem dX4_askRules_19 : decode cX4_askRules 19 = .ok (.invokevirtual 124, 3) := by decide +kernel
theorem dX4_askRules_22 : decode cX4_askRules 22 = .ok (.aload_n 0, 1) := by decide +kernel
theorem dX4_askRules_23 : decode cX4_askRules 23 = .ok (.invokevirtual 127, 3) := by decide +kernel
theorem dX4_askRules_26 : decode cX4_askRules 26 = .ok (.aload_n 0, 1) := by decide +kernel
theorem dX4_askRules_27 : decode cX4_askRules 27 = .ok (.invokevirtual 130, 3) := by decide +kernel
theorem dX4_askRules_30 : decode cX4_askRules 30 = .ok (.aload_n 0, 1) := by decide +kernel
theorem dX4_askRules_31 : decode cX4_askRules 31 = .ok (.invokevirtual 133, 3) := by decide +kernel
theorem dX4_askRules_34 : decode cX4_askRules 34 = .ok (.return_, 1) := by decide +kernel
theorem dX4_want_0 : decode cX4_want 0 = .ok (.lload_n 3, 1) := by decide +kernel
theorem dX4_want_1 : decode cX4_want 1 = .ok (.aload_n 0, 1) := by decide +kernel
theorem dX4_want_2 : decode cX4_want 2 = .ok (.getfield 37, 3) := by decide +kernel
theorem dX4_want_5 : decode cX4_want 5 = .ok (.land, 1) := by decide +kernel
theorem dX4_want_6 : decode cX4_want 6 = .ok (.lstore 5, 2) := by decide +kernel
theorem dX4_want_8 : decode cX4_want 8 = .ok (.aload_n 0, 1) := by decide +kernel
theorem dX4_want_9 : decode cX4_want 9 = .ok (.getfield 18, 3) := by decide +kernel
theorem dX4_want_12 : decode cX4_want 12 = .ok (.iload_n 1, 1) := by decide +kernel
theorem dX4_want_13 : decode cX4_want 13 = .ok (.dup2, 1) := by decide +kernel
theorem dX4_want_14 : decode cX4_want 14 = .ok (.laload, 1) := by decide +kernel
theorem dX4_want_15 : decode cX4_want 15 = .ok (.lload 5, 2) := by decide +kernel
theorem dX4_want_17 : decode cX4_want 17 = .ok (.lor, 1) := by decide +kernel
theorem dX4_want_18 : decode cX4_want 18 = .ok (.lastore, 1) := by decide +kernel
theorem dX4_want_19 : decode cX4_want 19 = .ok (.iload_n 2, 1) := by decide +kernel
theorem dX4_want_20 : decode cX4_want 20 = .ok (.iconst 1, 1) := by decide +kernel
theorem dX4_want_21 : decode cX4_want 21 = .ok (.if_icmp .ne 17, 3) := by decide +kernel
theorem dX4_want_24 : decode cX4_want 24 = .ok (.aload_n 0, 1) := by decide +kernel
theorem dX4_want_25 : decode cX4_want 25 = .ok (.dup, 1) := by decide +kernel
theorem dX4_want_26 : decode cX4_want 26 = .ok (.getfield 118, 3) := by decide +kernel
theorem dX4_want_29 : decode cX4_want 29 = .ok (.lload 5, 2) := by decide +kernel
theorem dX4_want_31 : decode cX4_want 31 = .ok (.lor, 1) := by decide +kernel
theorem dX4_want_32 : decode cX4_want 32 = .ok (.putfield 118, 3) := by decide +kernel
theorem dX4_want_35 : decode cX4_want 35 = .ok (.goto 14, 3) := by decide +kernel
theorem dX4_want_38 : decode cX4_want 38 = .ok (.aload_n 0, 1) := by decide +kernel
theorem dX4_want_39 : decode cX4_want 39 = .ok (.dup, 1) := by decide +kernel
theorem dX4_want_40 : decode cX4_want 40 = .ok (.getfield 121, 3) := by decide +kernel
theorem dX4_want_43 : decode cX4_want 43 = .ok (.lload 5, 2) := by decide +kernel
theorem dX4_want_45 : decode cX4_want 45 = .ok (.lor, 1) := by decide +kernel
theorem dX4_want_46 : decode cX4_want 46 = .ok (.putfield 121, 3) := by decide +kernel
theorem dX4_want_49 : decode cX4_want 49 = .ok (.return_, 1) := by decide +kernel
theorem dX4_askCells_0 : decode cX4_askCells 0 = .ok (.iconst 0, 1) := by decide +kernel
theorem dX4_askCells_1 : decode cX4_askCells 1 = .ok (.istore_n 1, 1) := by decide +kernel
theorem dX4_askCells_2 : decode cX4_askCells 2 = .ok (.iload_n 1, 1) := by decide +kernel
theorem dX4_askCells_3 : decode cX4_askCells 3 = .ok (.aload_n 0, 1) := by decide +kernel
theorem dX4_askCells_4 : decode cX4_askCells 4 = .ok (.getfield 22, 3) := by decide +kernel
theorem dX4_askCells_7 : decode cX4_askCells 7 = .ok (.getfield 40, 3) := by decide +kernel
theorem dX4_askCells_10 : decode cX4_askCells 10 = .ok (.if_icmp .ge 91, 3) := by decide +kernel
theorem dX4_askCells_13 : decode cX4_askCells 13 = .ok (.aload_n 0, 1) := by decide +kernel
theorem dX4_askCells_14 : decode cX4_askCells 14 = .ok (.getfield 22, 3) := by decide +kernel
theorem dX4_askCells_17 : decode cX4_askCells 17 = .ok (.getfield 83, 3) := by decide +kernel
theorem dX4_askCells_20 : decode cX4_askCells 20 = .ok (.iload_n 1, 1) := by decide +kernel
theorem dX4_askCells_21 : decode cX4_askCells 21 = .ok (.laload, 1) := by decide +kernel
theorem dX4_askCells_22 : decode cX4_askCells 22 = .ok (.lstore_n 2, 1) := by decide +kernel
theorem dX4_askCells_23 : decode cX4_askCells 23 = .ok (.aload_n 0, 1) := by decide +kernel
theorem dX4_askCells_24 : decode cX4_askCells 24 = .ok (.getfield 22, 3) := by decide +kernel
theorem dX4_askCells_27 : decode cX4_askCells 27 = .ok (.getfield 80, 3) := by decide +kernel
theorem dX4_askCells_30 : decode cX4_askCells 30 = .ok (.iload_n 1, 1) := by decide +kernel
theorem dX4_askCells_31 : decode cX4_askCells 31 = .ok (.iaload, 1) := by decide +kernel
theorem dX4_askCells_32 : decode cX4_askCells 32 = .ok (.istore 4, 2) := by decide +kernel
theorem dX4_askCells_34 : decode cX4_askCells 34 = .ok (.aload_n 0, 1) := by decide +kernel
theorem dX4_askCells_35 : decode cX4_askCells 35 = .ok (.getfield 26, 3) := by decide +kernel
theorem dX4_askCells_38 : decode cX4_askCells 38 = .ok (.lload_n 2, 1) := by decide +kernel
theorem dX4_askCells_39 : decode cX4_askCells 39 = .ok (.land, 1) := by decide +kernel
theorem dX4_askCells_40 : decode cX4_askCells 40 = .ok (.invokestatic 86, 3) := by decide +kernel
theorem dX4_askCells_43 : decode cX4_askCells 43 = .ok (.istore 5, 2) := by decide +kernel
theorem dX4_askCells_45 : decode cX4_askCells 45 = .ok (.iload 4, 2) := by decide +kernel
theorem dX4_askCells_47 : decode cX4_askCells 47 = .ok (.iconst (-1), 1) := by decide +kernel
theorem dX4_askCells_48 : decode cX4_askCells 48 = .ok (.if_icmp .eq 17, 3) := by decide +kernel
theorem dX4_askCells_51 : decode cX4_askCells 51 = .ok (.iload 5, 2) := by decide +kernel
theorem dX4_askCells_53 : decode cX4_askCells 53 = .ok (.iload 4, 2) := by decide +kernel
theorem dX4_askCells_55 : decode cX4_askCells 55 = .ok (.if_icmp .ne 10, 3) := by decide +kernel
theorem dX4_askCells_58 : decode cX4_askCells 58 = .ok (.aload_n 0, 1) := by decide +kernel
theorem dX4_askCells_59 : decode cX4_askCells 59 = .ok (.iconst 1, 1) := by decide +kernel
theorem dX4_askCells_60 : decode cX4_askCells 60 = .ok (.iconst 2, 1) := by decide +kernel
theorem dX4_askCells_61 : decode cX4_askCells 61 = .ok (.lload_n 2, 1) := by decide +kernel
theorem dX4_askCells_62 : decode cX4_askCells 62 = .ok (.invokevirtual 136, 3) := by decide +kernel
theorem dX4_askCells_65 : decode cX4_askCells 65 = .ok (.iload 4, 2) := by decide +kernel
theorem dX4_askCells_67 : decode cX4_askCells 67 = .ok (.iconst (-1), 1) := by decide +kernel
theorem dX4_askCells_68 : decode cX4_askCells 68 = .ok (.if_icmp .eq 27, 3) := by decide +kernel
theorem dX4_askCells_71 : decode cX4_askCells 71 = .ok (.iload 5, 2) := by decide +kernel
theorem dX4_askCells_73 : decode cX4_askCells 73 = .ok (.aload_n 0, 1) := by decide +kernel
theorem dX4_askCells_74 : decode cX4_askCells 74 = .ok (.getfield 37, 3) := by decide +kernel
theorem dX4_askCells_77 : decode cX4_askCells 77 = .ok (.lload_n 2, 1) := by decide +kernel
theorem dX4_askCells_78 : decode cX4_askCells 78 = .ok (.land, 1) := by decide +kernel
theorem dX4_askCells_79 : decode cX4_askCells 79 = .ok (.invokestatic 86, 3) := by decide +kernel
theorem dX4_askCells_82 : decode cX4_askCells 82 = .ok (.iadd, 1) := by decide +kernel
theorem dX4_askCells_83 : decode cX4_askCells 83 = .ok (.iload 4, 2) := by decide +kernel
theorem dX4_askCells_85 : decode cX4_askCells 85 = .ok (.if_icmp .ne 10, 3) := by decide +kernel
theorem dX4_askCells_88 : decode cX4_askCells 88 = .ok (.aload_n 0, 1) := by decide +kernel
theorem dX4_askCells_89 : decode cX4_askCells 89 = .ok (.iconst 2, 1) := by decide +kernel
theorem dX4_askCells_90 : decode cX4_askCells 90 = .ok (.iconst 1, 1) := by decide +kernel
theorem dX4_askCells_91 : decode cX4_askCells 91 = .ok (.lload_n 2, 1) := by decide +kernel
theorem dX4_askCells_92 : decode cX4_askCells 92 = .ok (.invokevirtual 136, 3) := by decide +kernel
theorem dX4_askCells_95 : decode cX4_askCells 95 = .ok (.iinc 1 1, 3) := by decide +kernel
theorem dX4_askCells_98 : decode cX4_askCells 98 = .ok (.goto (-96), 3) := by decide +kernel
theorem dX4_askCells_101 : decode cX4_askCells 101 = .ok (.return_, 1) := by decide +kernel
theorem dX4_askPoints_0 : decode cX4_askPoints 0 = .ok (.iconst 0, 1) := by decide +kernel
theorem dX4_askPoints_1 : decode cX4_askPoints 1 = .ok (.istore_n 1, 1) := by decide +kernel
theorem dX4_askPoints_2 : decode cX4_askPoints 2 = .ok (.iload_n 1, 1) := by decide +kernel
theorem dX4_askPoints_3 : decode cX4_askPoints 3 = .ok (.aload_n 0, 1) := by decide +kernel
theorem dX4_askPoints_4 : decode cX4_askPoints 4 = .ok (.getfield 22, 3) := by decide +kernel
theorem dX4_askPoints_7 : decode cX4_askPoints 7 = .ok (.getfield 92, 3) := by decide +kernel
theorem dX4_askPoints_10 : decode cX4_askPoints 10 = .ok (.if_icmp .ge 91, 3) := by decide +kernel
theorem dX4_askPoints_13 : decode cX4_askPoints 13 = .ok (.aload_n 0, 1) := by decide +kernel
theorem dX4_askPoints_14 : decode cX4_askPoints 14 = .ok (.getfield 22, 3) := by decide +kernel
theorem dX4_askPoints_17 : decode cX4_askPoints 17 = .ok (.getfield 95, 3) := by decide +kernel
theorem dX4_askPoints_20 : decode cX4_askPoints 20 = .ok (.iload_n 1, 1) := by decide +kernel
theorem dX4_askPoints_21 : decode cX4_askPoints 21 = .ok (.laload, 1) := by decide +kernel
theorem dX4_askPoints_22 : decode cX4_askPoints 22 = .ok (.lstore_n 2, 1) := by decide +kernel
theorem dX4_askPoints_23 : decode cX4_askPoints 23 = .ok (.aload_n 0, 1) := by decide +kernel
theorem dX4_askPoints_24 : decode cX4_askPoints 24 = .ok (.getfield 26, 3) := by decide +kernel
theorem dX4_askPoints_27 : decode cX4_askPoints 27 = .ok (.lload_n 2, 1) := by decide +kernel
theorem dX4_askPoints_28 : decode cX4_askPoints 28 = .ok (.land, 1) := by decide +kernel
theorem dX4_askPoints_29 : decode cX4_askPoints 29 = .ok (.invokestatic 86, 3) := by decide +kernel
theorem dX4_askPoints_32 : decode cX4_askPoints 32 = .ok (.istore 4, 2) := by decide +kernel
theorem dX4_askPoints_34 : decode cX4_askPoints 34 = .ok (.aload_n 0, 1) := by decide +kernel
theorem dX4_askPoints_35 : decode cX4_askPoints 35 = .ok (.getfield 37, 3) := by decide +kernel
theorem dX4_askPoints_38 : decode cX4_askPoints 38 = .ok (.lload_n 2, 1) := by decide +kernel
theorem dX4_askPoints_39 : decode cX4_askPoints 39 = .ok (.land, 1) := by decide +kernel
theorem dX4_askPoints_40 : decode cX4_askPoints 40 = .ok (.invokestatic 86, 3) := by decide +kernel
theorem dX4_askPoints_43 : decode cX4_askPoints 43 = .ok (.istore 5, 2) := by decide +kernel
theorem dX4_askPoints_45 : decode cX4_askPoints 45 = .ok (.iload 4, 2) := by decide +kernel
theorem dX4_askPoints_47 : decode cX4_askPoints 47 = .ok (.iconst 2, 1) := by decide +kernel
theorem dX4_askPoints_48 : decode cX4_askPoints 48 = .ok (.if_icmp .ne 10, 3) := by decide +kernel
theorem dX4_askPoints_51 : decode cX4_askPoints 51 = .ok (.aload_n 0, 1) := by decide +kernel
theorem dX4_askPoints_52 : decode cX4_askPoints 52 = .ok (.iconst 3, 1) := by decide +kernel
theorem dX4_askPoints_53 : decode cX4_askPoints 53 = .ok (.iconst 2, 1) := by decide +kernel
theorem dX4_askPoints_54 : decode cX4_askPoints 54 = .ok (.lload_n 2, 1) := by decide +kernel
theorem dX4_askPoints_55 : decode cX4_askPoints 55 = .ok (.invokevirtual 136, 3) := by decide +kernel
theorem dX4_askPoints_58 : decode cX4_askPoints 58 = .ok (.iload 4, 2) := by decide +kernel
theorem dX4_askPoints_60 : decode cX4_askPoints 60 = .ok (.iconst 1, 1) := by decide +kernel
theorem dX4_askPoints_61 : decode cX4_askPoints 61 = .ok (.if_icmp .ne 16, 3) := by decide +kernel
theorem dX4_askPoints_64 : decode cX4_askPoints 64 = .ok (.iload 5, 2) := by decide +kernel
theorem dX4_askPoints_66 : decode cX4_askPoints 66 = .ok (.iconst 1, 1) := by decide +kernel
theorem dX4_askPoints_67 : decode cX4_askPoints 67 = .ok (.if_icmp .ne 10, 3) := by decide +kernel
theorem dX4_askPoints_70 : decode cX4_askPoints 70 = .ok (.aload_n 0, 1) := by decide +kernel
theorem dX4_askPoints_71 : decode cX4_askPoints 71 = .ok (.iconst 4, 1) := by decide +kernel
theorem dX4_askPoints_72 : decode cX4_askPoints 72 = .ok (.iconst 1, 1) := by decide +kernel
theorem dX4_askPoints_73 : decode cX4_askPoints 73 = .ok (.lload_n 2, 1) := by decide +kernel
theorem dX4_askPoints_74 : decode cX4_askPoints 74 = .ok (.invokevirtual 136, 3) := by decide +kernel
theorem dX4_askPoints_77 : decode cX4_askPoints 77 = .ok (.iload 4, 2) := by decide +kernel
theorem dX4_askPoints_79 : decode cX4_askPoints 79 = .ok (.ifCond .ne 16, 3) := by decide +kernel
theorem dX4_askPoints_82 : decode cX4_askPoints 82 = .ok (.iload 5, 2) := by decide +kernel
theorem dX4_askPoints_84 : decode cX4_askPoints 84 = .ok (.iconst 1, 1) := by decide +kernel
theorem dX4_askPoints_85 : decode cX4_askPoints 85 = .ok (.if_icmp .ne 10, 3) := by decide +kernel
theorem dX4_askPoints_88 : decode cX4_askPoints 88 = .ok (.aload_n 0, 1) := by decide +kernel
theorem dX4_askPoints_89 : decode cX4_askPoints 89 = .ok (.iconst 5, 1) := by decide +kernel
theorem dX4_askPoints_90 : decode cX4_askPoints 90 = .ok (.iconst 2, 1) := by decide +kernel
theorem dX4_askPoints_91 : decode cX4_askPoints 91 = .ok (.lload_n 2, 1) := by decide +kernel
theorem dX4_askPoints_92 : decode cX4_askPoints 92 = .ok (.invokevirtual 136, 3) := by decide +kernel
theorem dX4_askPoints_95 : decode cX4_askPoints 95 = .ok (.iinc 1 1, 3) := by decide +kernel
theorem dX4_askPoints_98 : decode cX4_askPoints 98 = .ok (.goto (-96), 3) := by decide +kernel
theorem dX4_askPoints_101 : decode cX4_askPoints 101 = .ok (.return_, 1) := by decide +kernel
theorem dX4_askWays_0 : decode cX4_askWays 0 = .ok (.aload_n 0, 1) := by decide +kernel
theorem dX4_askWays_1 : decode cX4_askWays 1 = .ok (.getfield 26, 3) := by decide +kernel
theorem dX4_askWays_4 : decode cX4_askWays 4 = .ok (.lstore_n 1, 1) := by decide +kernel
theorem dX4_askWays_5 : decode cX4_askWays 5 = .ok (.iconst 0, 1) := by decide +kernel
theorem dX4_askWays_6 : decode cX4_askWays 6 = .ok (.istore_n 3, 1) := by decide +kernel
theorem dX4_askWays_7 : decode cX4_askWays 7 = .ok (.iload_n 3, 1) := by decide +kernel
theorem dX4_askWays_8 : decode cX4_askWays 8 = .ok (.bipush 40, 2) := by decide +kernel
theorem dX4_askWays_10 : decode cX4_askWays 10 = .ok (.if_icmp .ge 128, 3) := by decide +kernel
theorem dX4_askWays_13 : decode cX4_askWays 13 = .ok (.lload_n 1, 1) := by decide +kernel
theorem dX4_askWays_14 : decode cX4_askWays 14 = .ok (.lconst 0, 1) := by decide +kernel
theorem dX4_askWays_15 : decode cX4_askWays 15 = .ok (.lcmp, 1) := by decide +kernel
theorem dX4_askWays_16 : decode cX4_askWays 16 = .ok (.ifCond .eq 122, 3) := by decide +kernel
theorem dX4_askWays_19 : decode cX4_askWays 19 = .ok (.aload_n 0, 1) := by decide +kernel
theorem dX4_askWays_20 : decode cX4_askWays 20 = .ok (.getfield 22, 3) := by decide +kernel
theorem dX4_askWays_23 : decode cX4_askWays 23 = .ok (.lload_n 1, 1) := by decide +kernel
theorem dX4_askWays_24 : decode cX4_askWays 24 = .ok (.invokevirtual 101, 3) := by decide +kernel
theorem dX4_askWays_27 : decode cX4_askWays 27 = .ok (.lstore 4, 2) := by decide +kernel
theorem dX4_askWays_29 : decode cX4_askWays 29 = .ok (.lload_n 1, 1) := by decide +kernel
theorem dX4_askWays_30 : decode cX4_askWays 30 = .ok (.lload 4, 2) := by decide +kernel
theorem dX4_askWays_32 : decode cX4_askWays 32 = .ok (.ldc2_w 35, 3) := by decide +kernel
theorem dX4_askWays_35 : decode cX4_askWays 35 = .ok (.lxor, 1) := by decide +kernel
theorem dX4_askWays_36 : decode cX4_askWays 36 = .ok (.land, 1) := by decide +kernel
theorem dX4_askWays_37 : decode cX4_askWays 37 = .ok (.lstore_n 1, 1) := by decide +kernel
theorem dX4_askWays_38 : decode cX4_askWays 38 = .ok (.iconst 0, 1) := by decide +kernel
theorem dX4_askWays_39 : decode cX4_askWays 39 = .ok (.istore 6, 2) := by decide +kernel
theorem dX4_askWays_41 : decode cX4_askWays 41 = .ok (.iload 6, 2) := by decide +kernel
theorem dX4_askWays_43 : decode cX4_askWays 43 = .ok (.aload_n 0, 1) := by decide +kernel
theorem dX4_askWays_44 : decode cX4_askWays 44 = .ok (.getfield 22, 3) := by decide +kernel
theorem dX4_askWays_47 : decode cX4_askWays 47 = .ok (.getfield 48, 3) := by decide +kernel
theorem dX4_askWays_50 : decode cX4_askWays 50 = .ok (.if_icmp .ge 82, 3) := by decide +kernel
theorem dX4_askWays_53 : decode cX4_askWays 53 = .ok (.aload_n 0, 1) := by decide +kernel
theorem dX4_askWays_54 : decode cX4_askWays 54 = .ok (.getfield 26, 3) := by decide +kernel
theorem dX4_askWays_57 : decode cX4_askWays 57 = .ok (.lconst 1, 1) := by decide +kernel
theorem dX4_askWays_58 : decode cX4_askWays 58 = .ok (.iload 6, 2) := by decide +kernel
theorem dX4_askWays_60 : decode cX4_askWays 60 = .ok (.lshl, 1) := by decide +kernel
theorem dX4_askWays_61 : decode cX4_askWays 61 = .ok (.lor, 1) := by decide +kernel
theorem dX4_askWays_62 : decode cX4_askWays 62 = .ok (.lstore 7, 2) := by decide +kernel
theorem dX4_askWays_64 : decode cX4_askWays 64 = .ok (.aload_n 0, 1) := by decide +kernel
theorem dX4_askWays_65 : decode cX4_askWays 65 = .ok (.getfield 37, 3) := by decide +kernel
theorem dX4_askWays_68 : decode cX4_askWays 68 = .ok (.iload 6, 2) := by decide +kernel
theorem dX4_askWays_70 : decode cX4_askWays 70 = .ok (.invokestatic 51, 3) := by decide +kernel
theorem dX4_askWays_73 : decode cX4_askWays 73 = .ok (.ifCond .eq 53, 3) := by decide +kernel
theorem dX4_askWays_76 : decode cX4_askWays 76 = .ok (.aload_n 0, 1) := by decide +kernel
theorem dX4_askWays_77 : decode cX4_askWays 77 = .ok (.getfield 22, 3) := by decide +kernel
theorem dX4_askWays_80 : decode cX4_askWays 80 = .ok (.lload 4, 2) := by decide +kernel
theorem dX4_askWays_82 : decode cX4_askWays 82 = .ok (.iload 6, 2) := by decide +kernel
theorem dX4_askWays_84 : decode cX4_askWays 84 = .ok (.invokevirtual 140, 3) := by decide +kernel
theorem dX4_askWays_87 : decode cX4_askWays 87 = .ok (.ifCond .eq 39, 3) := by decide +kernel
theorem dX4_askWays_90 : decode cX4_askWays 90 = .ok (.aload_n 0, 1) := by decide +kernel
theorem dX4_askWays_91 : decode cX4_askWays 91 = .ok (.getfield 22, 3) := by decide +kernel
theorem dX4_askWays_94 : decode cX4_askWays 94 = .ok (.lload 7, 2) := by decide +kernel
theorem dX4_askWays_96 : decode cX4_askWays 96 = .ok (.invokevirtual 105, 3) := by decide +kernel
theorem dX4_askWays_99 : decode cX4_askWays 99 = .ok (.ifCond .eq 16, 3) := by decide +kernel
theorem dX4_askWays_102 : decode cX4_askWays 102 = .ok (.aload_n 0, 1) := by decide +kernel
theorem dX4_askWays_103 : decode cX4_askWays 103 = .ok (.getfield 22, 3) := by decide +kernel
theorem dX4_askWays_106 : decode cX4_askWays 106 = .ok (.lload 7, 2) := by decide +kernel
theorem dX4_askWays_108 : decode cX4_askWays 108 = .ok (.iconst (-1), 1) := by decide +kernel
theorem dX4_askWays_109 : decode cX4_askWays 109 = .ok (.invokevirtual 109, 3) := by decide +kernel
theorem dX4_askWays_112 : decode cX4_askWays 112 = .ok (.ifCond .ne 14, 3) := by decide +kernel
theorem dX4_askWays_115 : decode cX4_askWays 115 = .ok (.aload_n 0, 1) := by decide +kernel
theorem dX4_askWays_116 : decode cX4_askWays 116 = .ok (.bipush 6, 2) := by decide +kernel
theorem dX4_askWays_118 : decode cX4_askWays 118 = .ok (.iconst 2, 1) := by decide +kernel
theorem dX4_askWays_119 : decode cX4_askWays 119 = .ok (.lconst 1, 1) := by decide +kernel
theorem dX4_askWays_120 : decode cX4_askWays 120 = .ok (.iload 6, 2) := by decide +kernel
theorem dX4_askWays_122 : decode cX4_askWays 122 = .ok (.lshl, 1) := by decide +kernel
theorem dX4_askWays_123 : decode cX4_askWays 123 = .ok (.invokevirtual 136, 3) := by decide +kernel
theorem dX4_askWays_126 : decode cX4_askWays 126 = .ok (.iinc 6 1, 3) := by decide +kernel
theorem dX4_askWays_129 : decode cX4_askWays 129 = .ok (.goto (-88), 3) := by decide +kernel
theorem dX4_askWays_132 : decode cX4_askWays 132 = .ok (.iinc 3 1, 3) := by decide +kernel
theorem dX4_askWays_135 : decode cX4_askWays 135 = .ok (.goto (-128), 3) := by decide +kernel
theorem dX4_askWays_138 : decode cX4_askWays 138 = .ok (.return_, 1) := by decide +kernel
theorem dX4_askColours_0 : decode cX4_askColours 0 = .ok (.iconst 0, 1) := by decide +kernel
theorem dX4_askColours_1 : decode cX4_askColours 1 = .ok (.istore_n 1, 1) := by decide +kernel
theorem dX4_askColours_2 : decode cX4_askColours 2 = .ok (.iload_n 1, 1) := by decide +kernel
theorem dX4_askColours_3 : decode cX4_askColours 3 = .ok (.aload_n 0, 1) := by decide +kernel
theorem dX4_askColours_4 : decode cX4_askColours 4 = .ok (.getfield 22, 3) := by decide +kernel
theorem dX4_askColours_7 : decode cX4_askColours 7 = .ok (.getfield 48, 3) := by decide +kernel
theorem dX4_askColours_10 : decode cX4_askColours 10 = .ok (.if_icmp .ge 67, 3) := by decide +kernel
theorem dX4_askColours_13 : decode cX4_askColours 13 = .ok (.aload_n 0, 1) := by decide +kernel
theorem dX4_askColours_14 : decode cX4_askColours 14 = .ok (.getfield 22, 3) := by decide +kernel
theorem dX4_askColours_17 : decode cX4_askColours 17 = .ok (.getfield 55, 3) := by decide +kernel
theorem dX4_askColours_20 : decode cX4_askColours 20 = .ok (.iload_n 1, 1) := by decide +kernel
theorem dX4_askColours_21 : decode cX4_askColours 21 = .ok (.iaload, 1) := by decide +kernel
theorem dX4_askColours_22 : decode cX4_askColours 22 = .ok (.istore_n 2, 1) := by decide +kernel
theorem dX4_askColours_23 : decode cX4_askColours 23 = .ok (.aload_n 0, 1) := by decide +kernel
theorem dX4_askColours_24 : decode cX4_askColours 24 = .ok (.getfield 22, 3) := by decide +kernel
theorem dX4_askColours_27 : decode cX4_askColours 27 = .ok (.getfield 59, 3) := by decide +kernel
theorem dX4_askColours_30 : decode cX4_askColours 30 = .ok (.iload_n 1, 1) := by decide +kernel
theorem dX4_askColours_31 : decode cX4_askColours 31 = .ok (.iaload, 1) := by decide +kernel
theorem dX4_askColours_32 : decode cX4_askColours 32 = .ok (.istore_n 3, 1) := by decide +kernel
theorem dX4_askColours_33 : decode cX4_askColours 33 = .ok (.aload_n 0, 1) := by decide +kernel
theorem dX4_askColours_34 : decode cX4_askColours 34 = .ok (.getfield 12, 3) := by decide +kernel
theorem dX4_askColours_37 : decode cX4_askColours 37 = .ok (.iload_n 2, 1) := by decide +kernel
theorem dX4_askColours_38 : decode cX4_askColours 38 = .ok (.iload_n 3, 1) := by decide +kernel
theorem dX4_askColours_39 : decode cX4_askColours 39 = .ok (.invokevirtual 143, 3) := by decide +kernel
theorem dX4_askColours_42 : decode cX4_askColours 42 = .ok (.ifCond .eq 29, 3) := by decide +kernel
theorem dX4_askColours_45 : decode cX4_askColours 45 = .ok (.aload_n 0, 1) := by decide +kernel
theorem dX4_askColours_46 : decode cX4_askColours 46 = .ok (.bipush 7, 2) := by decide +kernel
theorem dX4_askColours_48 : decode cX4_askColours 48 = .ok (.aload_n 0, 1) := by decide +kernel
theorem dX4_askColours_49 : decode cX4_askColours 49 = .ok (.getfield 12, 3) := by decide +kernel
theorem dX4_askColours_52 : decode cX4_askColours 52 = .ok (.iload_n 2, 1) := by decide +kernel
theorem dX4_askColours_53 : decode cX4_askColours 53 = .ok (.iload_n 3, 1) := by decide +kernel
theorem dX4_askColours_54 : decode cX4_askColours 54 = .ok (.invokevirtual 147, 3) := by decide +kernel
theorem dX4_askColours_57 : decode cX4_askColours 57 = .ok (.ifCond .eq 7, 3) := by decide +kernel
theorem dX4_askColours_60 : decode cX4_askColours 60 = .ok (.iconst 1, 1) := by decide +kernel
theorem dX4_askColours_61 : decode cX4_askColours 61 = .ok (.goto 4, 3) := by decide +kernel
theorem dX4_askColours_64 : decode cX4_askColours 64 = .ok (.iconst 2, 1) := by decide +kernel
theorem dX4_askColours_65 : decode cX4_askColours 65 = .ok (.lconst 1, 1) := by decide +kernel
theorem dX4_askColours_66 : decode cX4_askColours 66 = .ok (.iload_n 1, 1) := by decide +kernel
theorem dX4_askColours_67 : decode cX4_askColours 67 = .ok (.lshl, 1) := by decide +kernel
theorem dX4_askColours_68 : decode cX4_askColours 68 = .ok (.invokevirtual 136, 3) := by decide +kernel
theorem dX4_askColours_71 : decode cX4_askColours 71 = .ok (.iinc 1 1, 3) := by decide +kernel
theorem dX4_askColours_74 : decode cX4_askColours 74 = .ok (.goto (-72), 3) := by decide +kernel
theorem dX4_askColours_77 : decode cX4_askColours 77 = .ok (.return_, 1) := by decide +kernel
theorem dX4_isTorn_0 : decode cX4_isTorn 0 = .ok (.aload_n 0, 1) := by decide +kernel
theorem dX4_isTorn_1 : decode cX4_isTorn 1 = .ok (.getfield 118, 3) := by decide +kernel
theorem dX4_isTorn_4 : decode cX4_isTorn 4 = .ok (.aload_n 0, 1) := by decide +kernel
theorem dX4_isTorn_5 : decode cX4_isTorn 5 = .ok (.getfield 121, 3) := by decide +kernel
theorem dX4_isTorn_8 : decode cX4_isTorn 8 = .ok (.land, 1) := by decide +kernel
theorem dX4_isTorn_9 : decode cX4_isTorn 9 = .ok (.lconst 0, 1) := by decide +kernel
theorem dX4_isTorn_10 : decode cX4_isTorn 10 = .ok (.lcmp, 1) := by decide +kernel
theorem dX4_isTorn_11 : decode cX4_isTorn 11 = .ok (.ifCond .eq 7, 3) := by decide +kernel
theorem dX4_isTorn_14 : decode cX4_isTorn 14 = .ok (.iconst 1, 1) := by decide +kernel
theorem dX4_isTorn_15 : decode cX4_isTorn 15 = .ok (.goto 4, 3) := by decide +kernel
theorem dX4_isTorn_18 : decode cX4_isTorn 18 = .ok (.iconst 0, 1) := by decide +kernel
theorem dX4_isTorn_19 : decode cX4_isTorn 19 = .ok (.ireturn, 1) := by decide +kernel
theorem dX4_firstRuleFor_0 : decode cX4_firstRuleFor 0 = .ok (.iconst 1, 1) := by decide +kernel
theorem dX4_firstRuleFor_1 : decode cX4_firstRuleFor 1 = .ok (.istore_n 2, 1) := by decide +kernel
theorem dX4_firstRuleFor_2 : decode cX4_firstRuleFor 2 = .ok (.iload_n 2, 1) := by decide +kernel
theorem dX4_firstRuleFor_3 : decode cX4_firstRuleFor 3 = .ok (.bipush 7, 2) := by decide +kernel
theorem dX4_firstRuleFor_5 : decode cX4_firstRuleFor 5 = .ok (.if_icmp .gt 24, 3) := by decide +kernel
theorem dX4_firstRuleFor_8 : decode cX4_firstRuleFor 8 = .ok (.aload_n 0, 1) := by decide +kernel
theorem dX4_firstRuleFor_9 : decode cX4_firstRuleFor 9 = .ok (.getfield 18, 3) := by decide +kernel
theorem dX4_firstRuleFor_12 : decode cX4_firstRuleFor 12 = .ok (.iload_n 2, 1) := by decide +kernel
theorem dX4_firstRuleFor_13 : decode cX4_firstRuleFor 13 = .ok (.laload, 1) := by decide +kernel
theorem dX4_firstRuleFor_14 : decode cX4_firstRuleFor 14 = .ok (.iload_n 1, 1) := by decide +kernel
theorem dX4_firstRuleFor_15 : decode cX4_firstRuleFor 15 = .ok (.invokestatic 51, 3) := by decide +kernel
theorem dX4_firstRuleFor_18 : decode cX4_firstRuleFor 18 = .ok (.ifCond .eq 5, 3) := by decide +kernel
theorem dX4_firstRuleFor_21 : decode cX4_firstRuleFor 21 = .ok (.iload_n 2, 1) := by decide +kernel
theorem dX4_firstRuleFor_22 : decode cX4_firstRuleFor 22 = .ok (.ireturn, 1) := by decide +kernel
theorem dX4_firstRuleFor_23 : decode cX4_firstRuleFor 23 = .ok (.iinc 2 1, 3) := by decide +kernel
theorem dX4_firstRuleFor_26 : decode cX4_firstRuleFor 26 = .ok (.goto (-24), 3) := by decide +kernel
theorem dX4_firstRuleFor_29 : decode cX4_firstRuleFor 29 = .ok (.iconst (-1), 1) := by decide +kernel
theorem dX4_firstRuleFor_30 : decode cX4_firstRuleFor 30 = .ok (.ireturn, 1) := by decide +kernel
theorem dX5_init_0 : decode cX5_init 0 = .ok (.aload_n 0, 1) := by decide +kernel
theorem dX5_init_1 : decode cX5_init 1 = .ok (.invokespecial 1, 3) := by decide +kernel
theorem dX5_init_4 : decode cX5_init 4 = .ok (.aload_n 0, 1) := by decide +kernel
theorem dX5_init_5 : decode cX5_init 5 = .ok (.new 7, 3) := by decide +kernel
theorem dX5_init_8 : decode cX5_init 8 = .ok (.dup, 1) := by decide +kernel
theorem dX5_init_9 : decode cX5_init 9 = .ok (.invokespecial 9, 3) := by decide +kernel
theorem dX5_init_12 : decode cX5_init 12 = .ok (.putfield 10, 3) := by decide +kernel
theorem dX5_init_15 : decode cX5_init 15 = .ok (.aload_n 0, 1) := by decide +kernel
theorem dX5_init_16 : decode cX5_init 16 = .ok (.new 16, 3) := by decide +kernel
theorem dX5_init_19 : decode cX5_init 19 = .ok (.dup, 1) := by decide +kernel
theorem dX5_init_20 : decode cX5_init 20 = .ok (.aload_n 0, 1) := by decide +kernel
theorem dX5_init_21 : decode cX5_init 21 = .ok (.getfield 10, 3) := by decide +kernel
theorem dX5_init_24 : decode cX5_init 24 = .ok (.invokespecial 18, 3) := by decide +kernel
theorem dX5_init_27 : decode cX5_init 27 = .ok (.putfield 21, 3) := by decide +kernel
theorem dX5_init_30 : decode cX5_init 30 = .ok (.aload_n 0, 1) := by decide +kernel
theorem dX5_init_31 : decode cX5_init 31 = .ok (.new 25, 3) := by decide +kernel
theorem dX5_init_34 : decode cX5_init 34 = .ok (.dup, 1) := by decide +kernel
theorem dX5_init_35 : decode cX5_init 35 = .ok (.aload_n 0, 1) := by decide +kernel
theorem dX5_init_36 : decode cX5_init 36 = .ok (.getfield 10, 3) := by decide +kernel
theorem dX5_init_39 : decode cX5_init 39 = .ok (.aload_n 0, 1) := by decide +kernel
theorem dX5_init_40 : decode cX5_init 40 = .ok (.getfield 21, 3) := by decide +kernel
theorem dX5_init_43 : decode cX5_init 43 = .ok (.invokespecial 27, 3) := by decide +kernel
theorem dX5_init_46 : decode cX5_init 46 = .ok (.putfield 30, 3) := by decide +kernel
theorem dX5_init_49 : decode cX5_init 49 = .ok (.aload_n 0, 1) := by decide +kernel
theorem dX5_init_50 : decode cX5_init 50 = .ok (.new 34, 3) := by decide +kernel
theorem dX5_init_53 : decode cX5_init 53 = .ok (.dup, 1) := by decide +kernel
theorem dX5_init_54 : decode cX5_init 54 = .ok (.aload_n 0, 1) := by decide +kernel
theorem dX5_init_55 : decode cX5_init 55 = .ok (.getfield 10, 3) := by decide +kernel
theorem dX5_init_58 : decode cX5_init 58 = .ok (.invokespecial 36, 3) := by decide +kernel
theorem dX5_init_61 : decode cX5_init 61 = .ok (.putfield 37, 3) := by decide +kernel
theorem dX5_init_64 : decode cX5_init 64 = .ok (.aload_n 0, 1) := by decide +kernel
theorem dX5_init_65 : decode cX5_init 65 = .ok (.getfield 10, 3) := by decide +kernel
theorem dX5_init_68 : decode cX5_init 68 = .ok (.iconst 3, 1) := by decide +kernel
theorem dX5_init_69 : decode cX5_init 69 = .ok (.iconst 3, 1) := by decide +kernel
theorem dX5_init_70 : decode cX5_init 70 = .ok (.invokevirtual 41, 3) := by decide +kernel
theorem dX5_init_73 : decode cX5_init 73 = .ok (.return_, 1) := by decide +kernel
theorem dX5_lay_0 : decode cX5_lay 0 = .ok (.iload_n 1, 1) := by decide +kernel
theorem dX5_lay_1 : decode cX5_lay 1 = .ok (.iconst 1, 1) := by decide +kernel
theorem dX5_lay_2 : decode cX5_lay 2 = .ok (.if_icmp .lt 18, 3) := by decide +kernel
theorem dX5_lay_5 : decode cX5_lay 5 = .ok (.iload_n 1, 1) := by decide +kernel
theorem dX5_lay_6 : decode cX5_lay 6 = .ok (.iconst 4, 1) := by decide +kernel
theorem dX5_lay_7 : decode cX5_lay 7 = .ok (.if_icmp .gt 13, 3) := by decide +kernel
theorem dX5_lay_10 : decode cX5_lay 10 = .ok (.iload_n 2, 1) := by decide +kernel
theorem dX5_lay_11 : decode cX5_lay 11 = .ok (.iconst 1, 1) := by decide +kernel
theorem dX5_lay_12 : decode cX5_lay 12 = .ok (.if_icmp .lt 8, 3) := by decide +kernel
theorem dX5_lay_15 : decode cX5_lay 15 = .ok (.iload_n 2, 1) := by decide +kernel
theorem dX5_lay_16 : decode cX5_lay 16 = .ok (.iconst 4, 1) := by decide +kernel
theorem dX5_lay_17 : decode cX5_lay 17 = .ok (.if_icmp .le 13, 3) := by decide +kernel
theorem dX5_lay_20 : decode cX5_lay 20 = .ok (.new 45, 3) := by decide +kernel
theorem dX5_lay_23 : decode cX5_lay 23 = .ok (.dup, 1) := by decide +kernel
theorem dX5_lay_24 : decode cX5_lay 24 = .ok (.ldc 47, 2) := by decide +kernel
theorem dX5_lay_26 : decode cX5_lay 26 = .ok (.invokespecial 49, 3) := by decide +kernel
theorem dX5_lay_29 : decode cX5_lay 29 = .ok (.athrow, 1) := by decide +kernel
theorem dX5_lay_30 : decode cX5_lay 30 = .ok (.aload_n 0, 1) := by decide +kernel
theorem dX5_lay_31 : decode cX5_lay 31 = .ok (.getfield 10, 3) := by decide +kernel
theorem dX5_lay_34 : decode cX5_lay 34 = .ok (.iload_n 1, 1) := by decide +kernel
theorem dX5_lay_35 : decode cX5_lay 35 = .ok (.iload_n 2, 1) := by decide +kernel
theorem dX5_lay_36 : decode cX5_lay 36 = .ok (.invokevirtual 41, 3) := by decide +kernel
theorem dX5_lay_39 : decode cX5_lay 39 = .ok (.aload_n 0, 1) := by decide +kernel
theorem dX5_lay_40 : decode cX5_lay 40 = .ok (.getfield 37, 3) := by decide +kernel
theorem dX5_lay_43 : decode cX5_lay 43 = .ok (.invokevirtual 52, 3) := by decide +kernel
theorem dX5_lay_46 : decode cX5_lay 46 = .ok (.aload_n 0, 1) := by decide +kernel
theorem dX5_lay_47 : decode cX5_lay 47 = .ok (.invokevirtual 55, 3) := by decide +kernel
theorem dX5_lay_50 : decode cX5_lay 50 = .ok (.return_, 1) := by decide +kernel
theorem dX5_cells_0 : decode cX5_cells 0 = .ok (.aload_n 0, 1) := by decide +kernel
theorem dX5_cells_1 : decode cX5_cells 1 = .ok (.getfield 10, 3) := by decide +kernel
theorem dX5_cells_4 : decode cX5_cells 4 = .ok (.getfield 58, 3) := by decide +kernel
theorem dX5_cells_7 : decode cX5_cells 7 = .ok (.ireturn, 1) := by decide +kernel
theorem dX5_edges_0 : decode cX5_edges 0 = .ok (.aload_n 0, 1) := by decide +kernel
theorem dX5_edges_1 : decode cX5_edges 1 = .ok (.getfield 10, 3) := by decide +kernel
theorem dX5_edges_4 : decode cX5_edges 4 = .ok (.getfield 62, 3) := by decide +kernel
theorem dX5_edges_7 : decode cX5_edges 7 = .ok (.ireturn, 1) := by decide +kernel
theorem dX5_number_0 : decode cX5_number 0 = .ok (.aload_n 0, 1) := by decide +kernel
theorem dX5_number_1 : decode cX5_number 1 = .ok (.iload_n 1, 1) := by decide +kernel
theorem dX5_number_2 : decode cX5_number 2 = .ok (.invokevirtual 65, 3) := by decide +kernel
theorem dX5_number_5 : decode cX5_number 5 = .ok (.iload_n 2, 1) := by decide +kernel
theorem dX5_number_6 : decode cX5_number 6 = .ok (.iconst (-1), 1) := by decide +kernel
theorem dX5_number_7 : decode cX5_number 7 = .ok (.if_icmp .eq 22, 3) := by decide +kernel
theorem dX5_number_10 : decode cX5_number 10 = .ok (.iload_n 2, 1) := by decide +kernel
theorem dX5_number_11 : decode cX5_number 11 = .ok (.ifCond .lt 8, 3) := by decide +kernel
theorem dX5_number_14 : decode cX5_number 14 = .ok (.iload_n 2, 1) := by decide +kernel
theorem dX5_number_15 : decode cX5_number 15 = .ok (.iconst 3, 1) := by decide +kernel
theorem dX5_number_16 : decode cX5_number 16 = .ok (.if_icmp .le 13, 3) := by decide +kernel
theorem dX5_number_19 : decode cX5_number 19 = .ok (.new 45, 3) := by decide +kernel
theorem dX5_number_22 : decode cX5_number 22 = .ok (.dup, 1) := by decide +kernel
theorem dX5_number_23 : decode cX5_number 23 = .ok (.ldc 69, 2) := by decide +kernel
theorem dX5_number_25 : decode cX5_number 25 = .ok (.invokespecial 49, 3) := by decide +kernel
theorem dX5_number_28 : decode cX5_number 28 = .ok (.athrow, 1) := by decide +kernel
theorem dX5_number_29 : decode cX5_number 29 = .ok (.aload_n 0, 1) := by decide +kernel
theorem dX5_number_30 : decode cX5_number 30 = .ok (.getfield 10, 3) := by decide +kernel
theorem dX5_number_33 : decode cX5_number 33 = .ok (.getfield 71, 3) := by decide +kernel
theorem dX5_number_36 : decode cX5_number 36 = .ok (.iload_n 1, 1) := by decide +kernel
theorem dX5_number_37 : decode cX5_number 37 = .ok (.iaload, 1) := by decide +kernel
theorem dX5_number_38 : decode cX5_number 38 = .ok (.istore_n 3, 1) := by decide +kernel
theorem dX5_number_39 : decode cX5_number 39 = .ok (.aload_n 0, 1) := by decide +kernel
theorem dX5_number_40 : decode cX5_number 40 = .ok (.getfield 10, 3) := by decide +kernel
theorem dX5_number_43 : decode cX5_number 43 = .ok (.getfield 71, 3) := by decide +kernel
theorem dX5_number_46 : decode cX5_number 46 = .ok (.iload_n 1, 1) := by decide +kernel
theorem dX5_number_47 : decode cX5_number 47 = .ok (.iload_n 2, 1) := by decide +kernel
theorem dX5_number_48 : decode cX5_number 48 = .ok (.iastore, 1) := by decide +kernel
theorem dX5_number_49 : decode cX5_number 49 = .ok (.iload_n 3, 1) := by decide +kernel
theorem dX5_number_50 : decode cX5_number 50 = .ok (.ireturn, 1) := by decide +kernel
theorem dX5_mark_0 : decode cX5_mark 0 = .ok (.aload_n 0, 1) := by decide +kernel
theorem dX5_mark_1 : decode cX5_mark 1 = .ok (.iload_n 1, 1) := by decide +kernel
theorem dX5_mark_2 : decode cX5_mark 2 = .ok (.invokevirtual 75, 3) := by decide +kernel
theorem dX5_mark_5 : decode cX5_mark 5 = .ok (.iload_n 2, 1) := by decide +kernel
theorem dX5_mark_6 : decode cX5_mark 6 = .ok (.ifCond .eq 23, 3) := by decide +kernel
theorem dX5_mark_9 : decode cX5_mark 9 = .ok (.iload_n 2, 1) := by decide +kernel
theorem dX5_mark_10 : decode cX5_mark 10 = .ok (.iconst 1, 1) := by decide +kernel
theorem dX5_mark_11 : decode cX5_mark 11 = .ok (.if_icmp .eq 18, 3) := by decide +kernel
theorem dX5_mark_14 : decode cX5_mark 14 = .ok (.iload_n 2, 1) := by decide +kernel
theorem dX5_mark_15 : decode cX5_mark 15 = .ok (.iconst 2, 1) := by decide +kernel
theorem dX5_mark_16 : decode cX5_mark 16 = .ok (.if_icmp .eq 13, 3) := by decide +kernel
theorem dX5_mark_19 : decode cX5_mark 19 = .ok (.new 45, 3) := by decide +kernel
theorem dX5_mark_22 : decode cX5_mark 22 = .ok (.dup, 1) := by decide +kernel
theorem dX5_mark_23 : decode cX5_mark 23 = .ok (.ldc 78, 2) := by decide +kernel
theorem dX5_mark_25 : decode cX5_mark 25 = .ok (.invokespecial 49, 3) := by decide +kernel
theorem dX5_mark_28 : decode cX5_mark 28 = .ok (.athrow, 1) := by decide +kernel
theorem dX5_mark_29 : decode cX5_mark 29 = .ok (.aload_n 0, 1) := by decide +kernel
theorem dX5_mark_30 : decode cX5_mark 30 = .ok (.getfield 80, 3) := by decide +kernel
theorem dX5_mark_33 : decode cX5_mark 33 = .ok (.aload_n 0, 1) := by decide +kernel
theorem dX5_mark_34 : decode cX5_mark 34 = .ok (.getfield 84, 3) := by decide +kernel
theorem dX5_mark_37 : decode cX5_mark 37 = .ok (.iload_n 1, 1) := by decide +kernel
theorem dX5_mark_38 : decode cX5_mark 38 = .ok (.invokestatic 87, 3) := by decide +kernel
theorem dX5_mark_41 : decode cX5_mark 41 = .ok (.istore_n 3, 1) := by decide +kernel
theorem dX5_mark_42 : decode cX5_mark 42 = .ok (.lconst 1, 1) := by decide +kernel
theorem dX5_mark_43 : decode cX5_mark 43 = .ok (.iload_n 1, 1) := by decide +kernel
theorem dX5_mark_44 : decode cX5_mark 44 = .ok (.lshl, 1) := by decide +kernel
theorem dX5_mark_45 : decode cX5_mark 45 = .ok (.lstore 4, 2) := by decide +kernel
theorem dX5_mark_47 : decode cX5_mark 47 = .ok (.aload_n 0, 1) := by decide +kernel
theorem dX5_mark_48 : decode cX5_mark 48 = .ok (.iload_n 2, 1) := by decide +kernel
theorem dX5_mark_49 : decode cX5_mark 49 = .ok (.iconst 1, 1) := by decide +kernel
theorem dX5_mark_50 : decode cX5_mark 50 = .ok (.if_icmp .ne 13, 3) := by decide +kernel
theorem dX5_mark_53 : decode cX5_mark 53 = .ok (.aload_n 0, 1) := by decide +kernel
theorem dX5_mark_54 : decode cX5_mark 54 = .ok (.getfield 80, 3) := by decide +kernel
theorem dX5_mark_57 : decode cX5_mark 57 = .ok (.lload 4, 2) := by decide +kernel
theorem dX5_mark_59 : decode cX5_mark 59 = .ok (.lor, 1) := by decide +kernel
theorem dX5_mark_60 : decode cX5_mark 60 = .ok (.goto 14, 3) := by decide +kernel
theorem dX5_mark_63 : decode cX5_mark 63 = .ok (.aload_n 0, 1) := by decide +kernel
theorem dX5_mark_64 : decode cX5_mark 64 = .ok (.getfield 80, 3) := by decide +kernel
theorem dX5_mark_67 : decode cX5_mark 67 = .ok (.lload 4, 2) := by decide +kernel
theorem dX5_mark_69 : decode cX5_mark 69 = .ok (.ldc2_w 91, 3) := by decide +kernel
theorem dX5_mark_72 : decode cX5_mark 72 = .ok (.lxor, 1) := by decide +kernel
theorem dX5_mark_73 : decode cX5_mark 73 = .ok (.land, 1) := by decide +kernel
theorem dX5_mark_74 : decode cX5_mark 74 = .ok (.putfield 80, 3) := by decide +kernel
theorem dX5_mark_77 : decode cX5_mark 77 = .ok (.aload_n 0, 1) := by decide +kernel
theorem dX5_mark_78 : decode cX5_mark 78 = .ok (.iload_n 2, 1) := by decide +kernel
theorem dX5_mark_79 : decode cX5_mark 79 = .ok (.iconst 2, 1) := by decide +kernel
theorem dX5_mark_80 : decode cX5_mark 80 = .ok (.if_icmp .ne 13, 3) := by decide +kernel
theorem dX5_mark_83 : decode cX5_mark 83 = .ok (.aload_n 0, 1) := by decide +kernel
theorem dX5_mark_84 : decode cX5_mark 84 = .ok (.getfield 84, 3) := by decide +kernel
theorem dX5_mark_87 : decode cX5_mark 87 = .ok (.lload 4, 2) := by decide +kernel
theorem dX5_mark_89 : decode cX5_mark 89 = .ok (.lor, 1) := by decide +kernel
theorem dX5_mark_90 : decode cX5_mark 90 = .ok (.goto 14, 3) := by decide +kernel
theorem dX5_mark_93 : decode cX5_mark 93 = .ok (.aload_n 0, 1) := by decide +kernel
theorem dX5_mark_94 : decode cX5_mark 94 = .ok (.getfield 84, 3) := by decide +kernel
theorem dX5_mark_97 : decode cX5_mark 97 = .ok (.lload 4, 2) := by decide +kernel
theorem dX5_mark_99 : decode cX5_mark 99 = .ok (.ldc2_w 91, 3) := by decide +kernel
theorem dX5_mark_102 : decode cX5_mark 102 = .ok (.lxor, 1) := by decide +kernel
theorem dX5_mark_103 : decode cX5_mark 103 = .ok (.land, 1) := by decide +kernel
theorem dX5_mark_104 : decode cX5_mark 104 = .ok (.putfield 84, 3) := by decide +kernel
theorem dX5_mark_107 : decode cX5_mark 107 = .ok (.iload_n 3, 1) := by decide +kernel
theorem dX5_mark_108 : decode cX5_mark 108 = .ok (.ireturn, 1) := by decide +kernel
theorem dX5_wipe_0 : decode cX5_wipe 0 = .ok (.aload_n 0, 1) := by decide +kernel
theorem dX5_wipe_1 : decode cX5_wipe 1 = .ok (.invokevirtual 55, 3) := by decide +kernel
theorem dX5_wipe_4 : decode cX5_wipe 4 = .ok (.return_, 1) := by decide +kernel
theorem dX5_markAll_0 : decode cX5_markAll 0 = .ok (.aload_n 0, 1) := by decide +kernel
theorem dX5_markAll_1 : decode cX5_markAll 1 = .ok (.getfield 30, 3) := by decide +kernel
theorem dX5_markAll_4 : decode cX5_markAll 4 = .ok (.aload_n 0, 1) := by decide +kernel
theorem dX5_markAll_5 : decode cX5_markAll 5 = .ok (.getfield 80, 3) := by decide +kernel
theorem dX5_markAll_8 : decode cX5_markAll 8 = .ok (.aload_n 0, 1) := by decide +kernel
theorem dX5_markAll_9 : decode cX5_markAll 9 = .ok (.getfield 84, 3) := by decide +kernel
theorem dX5_markAll_12 : decode cX5_markAll 12 = .ok (.invokevirtual 93, 3) := by decide +kernel
theorem dX5_markAll_15 : decode cX5_markAll 15 = .ok (.aload_n 0, 1) := by decide +kernel
theorem dX5_markAll_16 : decode cX5_markAll 16 = .ok (.getfield 30, 3) := by decide +kernel
theorem dX5_markAll_19 : decode cX5_markAll 19 = .ok (.getfield 97, 3) := by decide +kernel
theorem dX5_markAll_22 : decode cX5_markAll 22 = .ok (.ifCond .eq 5, 3) := by decide +kernel
theorem dX5_markAll_25 : decode cX5_markAll 25 = .ok (.iconst 0, 1) := by decide +kernel
theorem dX5_markAll_26 : decode cX5_markAll 26 = .ok (.ireturn, 1) := by decide +kernel
theorem dX5_markAll_27 : decode cX5_markAll 27 = .ok (.aload_n 0, 1) := by decide +kernel
theorem dX5_markAll_28 : decode cX5_markAll 28 = .ok (.getfield 80, 3) := by decide +kernel
theorem dX5_markAll_31 : decode cX5_markAll 31 = .ok (.aload_n 0, 1) := by decide +kernel
theorem dX5_markAll_32 : decode cX5_markAll 32 = .ok (.getfield 84, 3) := by decide +kernel
theorem dX5_markAll_35 : decode cX5_markAll 35 = .ok (.lor, 1) := by decide +kernel
theorem dX5_markAll_36 : decode cX5_markAll 36 = .ok (.invokestatic 100, 3) := by decide +kernel
theorem dX5_markAll_39 : decode cX5_markAll 39 = .ok (.istore_n 1, 1) := by decide +kernel
theorem dX5_markAll_40 : decode cX5_markAll 40 = .ok (.aload_n 0, 1) := by decide +kernel
theorem dX5_markAll_41 : decode cX5_markAll 41 = .ok (.aload_n 0, 1) := by decide +kernel
theorem dX5_markAll_42 : decode cX5_markAll 42 = .ok (.getfield 30, 3) := by decide +kernel
theorem dX5_markAll_45 : decode cX5_markAll 45 = .ok (.getfield 106, 3) := by decide +kernel
theorem dX5_markAll_48 : decode cX5_markAll 48 = .ok (.putfield 80, 3) := by decide +kernel
theorem dX5_markAll_51 : decode cX5_markAll 51 = .ok (.aload_n 0, 1) := by decide +kernel
theorem dX5_markAll_52 : decode cX5_markAll 52 = .ok (.aload_n 0, 1) := by decide +kernel
theorem dX5_markAll_53 : decode cX5_markAll 53 = .ok (.getfield 30, 3) := by decide +kernel
theorem dX5_markAll_56 : decode cX5_markAll 56 = .ok (.getfield 107, 3) := by decide +kernel
theorem dX5_markAll_59 : decode cX5_markAll 59 = .ok (.putfield 84, 3) := by decide +kernel
theorem dX5_markAll_62 : decode cX5_markAll 62 = .ok (.aload_n 0, 1) := by decide +kernel
theorem dX5_markAll_63 : decode cX5_markAll 63 = .ok (.getfield 80, 3) := by decide +kernel
theorem dX5_markAll_66 : decode cX5_markAll 66 = .ok (.aload_n 0, 1) := by decide +kernel
theorem dX5_markAll_67 : decode cX5_markAll 67 = .ok (.getfield 84, 3) := by decide +kernel
theorem dX5_markAll_70 : decode cX5_markAll 70 = .ok (.lor, 1) := by decide +kernel
theorem dX5_markAll_71 : decode cX5_markAll 71 = .ok (.invokestatic 100, 3) := by decide +kernel
theorem dX5_markAll_74 : decode cX5_markAll 74 = .ok (.iload_n 1, 1) := by decide +kernel
theorem dX5_markAll_75 : decode cX5_markAll 75 = .ok (.isub, 1) := by decide +kernel
theorem dX5_markAll_76 : decode cX5_markAll 76 = .ok (.ireturn, 1) := by decide +kernel
theorem dX5_edgeOf_0 : decode cX5_edgeOf 0 = .ok (.aload_n 0, 1) := by decide +kernel
theorem dX5_edgeOf_1 : decode cX5_edgeOf 1 = .ok (.iload_n 1, 1) := by decide +kernel
theorem dX5_edgeOf_2 : decode cX5_edgeOf 2 = .ok (.invokevirtual 65, 3) := by decide +kernel
theorem dX5_edgeOf_5 : decode cX5_edgeOf 5 = .ok (.iload_n 2, 1) := by decide +kernel
theorem dX5_edgeOf_6 : decode cX5_edgeOf 6 = .ok (.ifCond .lt 8, 3) := by decide +kernel
theorem dX5_edgeOf_9 : decode cX5_edgeOf 9 = .ok (.iload_n 2, 1) := by decide +kernel
theorem dX5_edgeOf_10 : decode cX5_edgeOf 10 = .ok (.iconst 4, 1) := by decide +kernel
theorem dX5_edgeOf_11 : decode cX5_edgeOf 11 = .ok (.if_icmp .lt 13, 3) := by decide +kernel
theorem dX5_edgeOf_14 : decode cX5_edgeOf 14 = .ok (.new 108, 3) := by decide +kernel
theorem dX5_edgeOf_17 : decode cX5_edgeOf 17 = .ok (.dup, 1) := by decide +kernel
theorem dX5_edgeOf_18 : decode cX5_edgeOf 18 = .ok (.ldc 110, 2) := by decide +kernel
theorem dX5_edgeOf_20 : decode cX5_edgeOf 20 = .ok (.invokespecial 112, 3) := by decide +kernel
theorem dX5_edgeOf_23 : decode cX5_edgeOf 23 = .ok (.athrow, 1) := by decide +kernel
theorem dX5_edgeOf_24 : decode cX5_edgeOf 24 = .ok (.aload_n 0, 1) := by decide +kernel
theorem dX5_edgeOf_25 : decode cX5_edgeOf 25 = .ok (.getfield 10, 3) := by decide +kernel
theorem dX5_edgeOf_28 : decode cX5_edgeOf 28 = .ok (.iload_n 1, 1) := by decide +kernel
theorem dX5_edgeOf_29 : decode cX5_edgeOf 29 = .ok (.iload_n 2, 1) := by decide +kernel
theorem dX5_edgeOf_30 : decode cX5_edgeOf 30 = .ok (.invokevirtual 113, 3) := by decide +kernel
theorem dX5_edgeOf_33 : decode cX5_edgeOf 33 = .ok (.ireturn, 1) := by decide +kernel
theorem dX5_lines_0 : decode cX5_lines 0 = .ok (.aload_n 0, 1) := by decide +kernel
theorem dX5_lines_1 : decode cX5_lines 1 = .ok (.getfield 80, 3) := by decide +kernel
theorem dX5_lines_4 : decode cX5_lines 4 = .ok (.invokestatic 100, 3) := by decide +kernel
theorem dX5_lines_7 : decode cX5_lines 7 = .ok (.ireturn, 1) := by decide +kernel
theorem dX5_ways_0 : decode cX5_ways 0 = .ok (.iconst 0, 1) := by decide +kernel
theorem dX5_ways_1 : decode cX5_ways 1 = .ok (.istore_n 1, 1) := by decide +kernel
theorem dX5_ways_2 : decode cX5_ways 2 = .ok (.aload_n 0, 1) := by decide +kernel
theorem dX5_ways_3 : decode cX5_ways 3 = .ok (.getfield 80, 3) := by decide +kernel
theorem dX5_ways_6 : decode cX5_ways 6 = .ok (.lstore_n 2, 1) := by decide +kernel
theorem dX5_ways_7 : decode cX5_ways 7 = .ok (.iconst 0, 1) := by decide +kernel
theorem dX5_ways_8 : decode cX5_ways 8 = .ok (.istore 4, 2) := by decide +kernel
theorem dX5_ways_10 : decode cX5_ways 10 = .ok (.iload 4, 2) := by decide +kernel
theorem dX5_ways_12 : decode cX5_ways 12 = .ok (.bipush 40, 2) := by decide +kernel
theorem dX5_ways_14 : decode cX5_ways 14 = .ok (.if_icmp .ge 33, 3) := by decide +kernel
theorem dX5_ways_17 : decode cX5_ways 17 = .ok (.lload_n 2, 1) := by decide +kernel
theorem dX5_ways_18 : decode cX5_ways 18 = .ok (.lconst 0, 1) := by decide +kernel
theorem dX5_ways_19 : decode cX5_ways 19 = .ok (.lcmp, 1) := by decide +kernel
theorem dX5_ways_20 : decode cX5_ways 20 = .ok (.ifCond .eq 27, 3) := by decide +kernel
theorem dX5_ways_23 : decode cX5_ways 23 = .ok (.lload_n 2, 1) := by decide +kernel
theorem dX5_ways_24 : decode cX5_ways 24 = .ok (.aload_n 0, 1) := by decide +kernel
theorem dX5_ways_25 : decode cX5_ways 25 = .ok (.getfield 10, 3) := by decide +kernel
theorem dX5_ways_28 : decode cX5_ways 28 = .ok (.lload_n 2, 1) := by decide +kernel
theorem dX5_ways_29 : decode cX5_ways 29 = .ok (.invokevirtual 117, 3) := by decide +kernel
theorem dX5_ways_32 : decode cX5_ways 32 = .ok (.ldc2_w 91, 3) := by decide +kernel
theorem dX5_ways_35 : decode cX5_ways 35 = .ok (.lxor, 1) := by decide +kernel
theorem dX5_ways_36 : decode cX5_ways 36 = .ok (.land, 1) := by decide +kernel
theorem dX5_ways_37 : decode cX5_ways 37 = .ok (.lstore_n 2, 1) := by decide +kernel
theorem dX5_ways_38 : decode cX5_ways 38 = .ok (.iinc 1 1, 3) := by decide +kernel
theorem dX5_ways_41 : decode cX5_ways 41 = .ok (.iinc 4 1, 3) := by decide +kernel
theorem dX5_ways_44 : decode cX5_ways 44 = .ok (.goto (-34), 3) := by decide +kernel
theorem dX5_ways_47 : decode cX5_ways 47 = .ok (.iload_n 1, 1) := by decide +kernel
theorem dX5_ways_48 : decode cX5_ways 48 = .ok (.ireturn, 1) := by decide +kernel
theorem dX5_broken_0 : decode cX5_broken 0 = .ok (.aload_n 0, 1) := by decide +kernel
theorem dX5_broken_1 : decode cX5_broken 1 = .ok (.getfield 21, 3) := by decide +kernel
theorem dX5_broken_4 : decode cX5_broken 4 = .ok (.aload_n 0, 1) := by decide +kernel
theorem dX5_broken_5 : decode cX5_broken 5 = .ok (.getfield 80, 3) := by decide +kernel
theorem dX5_broken_8 : decode cX5_broken 8 = .ok (.aload_n 0, 1) := by decide +kernel
theorem dX5_broken_9 : decode cX5_broken 9 = .ok (.getfield 84, 3) := by decide +kernel
theorem dX5_broken_12 : decode cX5_broken 12 = .ok (.invokevirtual 121, 3) := by decide +kernel
theorem dX5_broken_15 : decode cX5_broken 15 = .ok (.aload_n 0, 1) := by decide +kernel
theorem dX5_broken_16 : decode cX5_broken 16 = .ok (.getfield 21, 3) := by decide +kernel
theorem dX5_broken_19 : decode cX5_broken 19 = .ok (.invokevirtual 124, 3) := by decide +kernel
theorem dX5_broken_22 : decode cX5_broken 22 = .ok (.ireturn, 1) := by decide +kernel
theorem dX5_isAnswer_0 : decode cX5_isAnswer 0 = .ok (.aload_n 0, 1) := by decide +kernel
theorem dX5_isAnswer_1 : decode cX5_isAnswer 1 = .ok (.getfield 10, 3) := by decide +kernel
theorem dX5_isAnswer_4 : decode cX5_isAnswer 4 = .ok (.aload_n 0, 1) := by decide +kernel
theorem dX5_isAnswer_5 : decode cX5_isAnswer 5 = .ok (.getfield 80, 3) := by decide +kernel
theorem dX5_isAnswer_8 : decode cX5_isAnswer 8 = .ok (.invokevirtual 128, 3) := by decide +kernel
theorem dX5_isAnswer_11 : decode cX5_isAnswer 11 = .ok (.ifCond .eq 22, 3) := by decide +kernel
theorem dX5_isAnswer_14 : decode cX5_isAnswer 14 = .ok (.aload_n 0, 1) := by decide +kernel
theorem dX5_isAnswer_15 : decode cX5_isAnswer 15 = .ok (.getfield 10, 3) := by decide +kernel
theorem dX5_isAnswer_18 : decode cX5_isAnswer 18 = .ok (.aload_n 0, 1) := by decide +kernel
theorem dX5_isAnswer_19 : decode cX5_isAnswer 19 = .ok (.getfield 80, 3) := by decide +kernel
theorem dX5_isAnswer_22 : decode cX5_isAnswer 22 = .ok (.iconst (-1), 1) := by decide +kernel
theorem dX5_isAnswer_23 : decode cX5_isAnswer 23 = .ok (.invokevirtual 132, 3) := by decide +kernel
theorem dX5_isAnswer_26 : decode cX5_isAnswer 26 = .ok (.ifCond .eq 7, 3) := by decide +kernel
theorem dX5_isAnswer_29 : decode cX5_isAnswer 29 = .ok (.iconst 1, 1) := by decide +kernel
theorem dX5_isAnswer_30 : decode cX5_isAnswer 30 = .ok (.goto 4, 3) := by decide +kernel
theorem dX5_isAnswer_33 : decode cX5_isAnswer 33 = .ok (.iconst 0, 1) := by decide +kernel
theorem dX5_isAnswer_34 : decode cX5_isAnswer 34 = .ok (.ireturn, 1) := by decide +kernel
theorem dX5_follows_0 : decode cX5_follows 0 = .ok (.aload_n 0, 1) := by decide +kernel
theorem dX5_follows_1 : decode cX5_follows 1 = .ok (.iload_n 1, 1) := by decide +kernel
theorem dX5_follows_2 : decode cX5_follows 2 = .ok (.invokevirtual 75, 3) := by decide +kernel
theorem dX5_follows_5 : decode cX5_follows 5 = .ok (.aload_n 0, 1) := by decide +kernel
theorem dX5_follows_6 : decode cX5_follows 6 = .ok (.getfield 30, 3) := by decide +kernel
theorem dX5_follows_9 : decode cX5_follows 9 = .ok (.aload_n 0, 1) := by decide +kernel
theorem dX5_follows_10 : decode cX5_follows 10 = .ok (.getfield 80, 3) := by decide +kernel
theorem dX5_follows_13 : decode cX5_follows 13 = .ok (.aload_n 0, 1) := by decide +kernel
theorem dX5_follows_14 : decode cX5_follows 14 = .ok (.getfield 84, 3) := by decide +kernel
theorem dX5_follows_17 : decode cX5_follows 17 = .ok (.invokevirtual 93, 3) := by decide +kernel
theorem dX5_follows_20 : decode cX5_follows 20 = .ok (.aload_n 0, 1) := by decide +kernel
theorem dX5_follows_21 : decode cX5_follows 21 = .ok (.getfield 30, 3) := by decide +kernel
theorem dX5_follows_24 : decode cX5_follows 24 = .ok (.getfield 106, 3) := by decide +kernel
theorem dX5_follows_27 : decode cX5_follows 27 = .ok (.aload_n 0, 1) := by decide +kernel
theorem dX5_follows_28 : decode cX5_follows 28 = .ok (.getfield 30, 3) := by decide +kernel
theorem dX5_follows_31 : decode cX5_follows 31 = .ok (.getfield 107, 3) := by decide +kernel
theorem dX5_follows_34 : decode cX5_follows 34 = .ok (.iload_n 1, 1) := by decide +kernel
theorem dX5_follows_35 : decode cX5_follows 35 = .ok (.invokestatic 87, 3) := by decide +kernel
theorem dX5_follows_38 : decode cX5_follows 38 = .ok (.ireturn, 1) := by decide +kernel
theorem dX5_roundOf_0 : decode cX5_roundOf 0 = .ok (.aload_n 0, 1) := by decide +kernel
theorem dX5_roundOf_1 : decode cX5_roundOf 1 = .ok (.iload_n 1, 1) := by decide +kernel
theorem dX5_roundOf_2 : decode cX5_roundOf 2 = .ok (.invokevirtual 75, 3) := by decide +kernel
theorem dX5_roundOf_5 : decode cX5_roundOf 5 = .ok (.aload_n 0, 1) := by decide +kernel
theorem dX5_roundOf_6 : decode cX5_roundOf 6 = .ok (.getfield 30, 3) := by decide +kernel
theorem dX5_roundOf_9 : decode cX5_roundOf 9 = .ok (.aload_n 0, 1) := by decide +kernel
theorem dX5_roundOf_10 : decode cX5_roundOf 10 = .ok (.getfield 80, 3) := by decide +kernel
theorem dX5_roundOf_13 : decode cX5_roundOf 13 = .ok (.aload_n 0, 1) := by decide +kernel
theorem dX5_roundOf_14 : decode cX5_roundOf 14 = .ok (.getfield 84, 3) := by decide +kernel
theorem dX5_roundOf_17 : decode cX5_roundOf 17 = .ok (.invokevirtual 93, 3) := by decide +kernel
theorem dX5_roundOf_20 : decode cX5_roundOf 20 = .ok (.aload_n 0, 1) := by decide +kernel
theorem dX5_roundOf_21 : decode cX5_roundOf 21 = .ok (.getfield 30, 3) := by decide +kernel
theorem dX5_roundOf_24 : decode cX5_roundOf 24 = .ok (.getfield 136, 3) := by decide +kernel
theorem dX5_roundOf_27 : decode cX5_roundOf 27 = .ok (.iload_n 1, 1) := by decide +kernel
theorem dX5_roundOf_28 : decode cX5_roundOf 28 = .ok (.iaload, 1) := by decide +kernel
theorem dX5_roundOf_29 : decode cX5_roundOf 29 = .ok (.ireturn, 1) := by decide +kernel
theorem dX5_ruleOf_0 : decode cX5_ruleOf 0 = .ok (.aload_n 0, 1) := by decide +kernel
theorem dX5_ruleOf_1 : decode cX5_ruleOf 1 = .ok (.iload_n 1, 1) := by decide +kernel
theorem dX5_ruleOf_2 : decode cX5_ruleOf 2 = .ok (.invokevirtual 75, 3) := by decide +kernel
theorem dX5_ruleOf_5 : decode cX5_ruleOf 5 = .ok (.aload_n 0, 1) := by decide +kernel
theorem dX5_ruleOf_6 : decode cX5_ruleOf 6 = .ok (.getfield 30, 3) := by decide +kernel
theorem dX5_ruleOf_9 : decode cX5_ruleOf 9 = .ok (.aload_n 0, 1) := by decide +kernel
theorem dX5_ruleOf_10 : decode cX5_ruleOf 10 = .ok (.getfield 80, 3) := by decide +kernel
theorem dX5_ruleOf_13 : decode cX5_ruleOf 13 = .ok (.aload_n 0, 1) := by decide +kernel
theorem dX5_ruleOf_14 : decode cX5_ruleOf 14 = .ok (.getfield 84, 3) := by decide +kernel
theorem dX5_ruleOf_17 : decode cX5_ruleOf 17 = .ok (.invokevirtual 93, 3) := by decide +kernel
theorem dX5_ruleOf_20 : decode cX5_ruleOf 20 = .ok (.aload_n 0, 1) := by decide +kernel
theorem dX5_ruleOf_21 : decode cX5_ruleOf 21 = .ok (.getfield 30, 3) := by decide +kernel
theorem dX5_ruleOf_24 : decode cX5_ruleOf 24 = .ok (.getfield 139, 3) := by decide +kernel
theorem dX5_ruleOf_27 : decode cX5_ruleOf 27 = .ok (.iload_n 1, 1) := by decide +kernel
theorem dX5_ruleOf_28 : decode cX5_ruleOf 28 = .ok (.iaload, 1) := by decide +kernel
theorem dX5_ruleOf_29 : decode cX5_ruleOf 29 = .ok (.ireturn, 1) := by decide +kernel
theorem dX5_rounds_0 : decode cX5_rounds 0 = .ok (.aload_n 0, 1) := by decide +kernel
theorem dX5_rounds_1 : decode cX5_rounds 1 = .ok (.getfield 30, 3) := by decide +kernel
theorem dX5_rounds_4 : decode cX5_rounds 4 = .ok (.aload_n 0, 1) := by decide +kernel
theorem dX5_rounds_5 : decode cX5_rounds 5 = .ok (.getfield 80, 3) := by decide +kernel
theorem dX5_rounds_8 : decode cX5_rounds 8 = .ok (.aload_n 0, 1) := by decide +kernel
theorem dX5_rounds_9 : decode cX5_rounds 9 = .ok (.getfield 84, 3) := by decide +kernel
theorem dX5_rounds_12 : decode cX5_rounds 12 = .ok (.invokevirtual 93, 3) := by decide +kernel
theorem dX5_rounds_15 : decode cX5_rounds 15 = .ok (.aload_n 0, 1) := by decide +kernel
theorem dX5_rounds_16 : decode cX5_rounds 16 = .ok (.getfield 30, 3) := by decide +kernel
theorem dX5_rounds_19 : decode cX5_rounds 19 = .ok (.getfield 142, 3) := by decide +kernel
theorem dX5_rounds_22 : decode cX5_rounds 22 = .ok (.ireturn, 1) := by decide +kernel
theorem dX5_end_0 : decode cX5_end 0 = .ok (.aload_n 0, 1) := by decide +kernel
theorem dX5_end_1 : decode cX5_end 1 = .ok (.getfield 30, 3) := by decide +kernel
theorem dX5_end_4 : decode cX5_end 4 = .ok (.aload_n 0, 1) := by decide +kernel
theorem dX5_end_5 : decode cX5_end 5 = .ok (.getfield 80, 3) := by decide +kernel
theorem dX5_end_8 : decode cX5_end 8 = .ok (.aload_n 0, 1) := by decide +kernel
theorem dX5_end_9 : decode cX5_end 9 = .ok (.getfield 84, 3) := by decide +kernel
theorem dX5_end_12 : decode cX5_end 12 = .ok (.invokevirtual 93, 3) := by decide +kernel
theorem dX5_end_15 : decode cX5_end 15 = .ok (.aload_n 0, 1) := by decide +kernel
theorem dX5_end_16 : decode cX5_end 16 = .ok (.getfield 30, 3) := by decide +kernel
theorem dX5_end_19 : decode cX5_end 19 = .ok (.getfield 97, 3) := by decide +kernel
theorem dX5_end_22 : decode cX5_end 22 = .ok (.ireturn, 1) := by decide +kernel
theorem dX5_hint_0 : decode cX5_hint 0 = .ok (.aload_n 0, 1) := by decide +kernel
theorem dX5_hint_1 : decode cX5_hint 1 = .ok (.getfield 21, 3) := by decide +kernel
theorem dX5_hint_4 : decode cX5_hint 4 = .ok (.aload_n 0, 1) := by decide +kernel
theorem dX5_hint_5 : decode cX5_hint 5 = .ok (.getfield 80, 3) := by decide +kernel
theorem dX5_hint_8 : decode cX5_hint 8 = .ok (.aload_n 0, 1) := by decide +kernel
theorem dX5_hint_9 : decode cX5_hint 9 = .ok (.getfield 84, 3) := by decide +kernel
theorem dX5_hint_12 : decode cX5_hint 12 = .ok (.invokevirtual 121, 3) := by decide +kernel
theorem dX5_hint_15 : decode cX5_hint 15 = .ok (.aload_n 0, 1) := by decide +kernel
theorem dX5_hint_16 : decode cX5_hint 16 = .ok (.getfield 21, 3) := by decide +kernel
theorem dX5_hint_19 : decode cX5_hint 19 = .ok (.invokevirtual 124, 3) := by decide +kernel
theorem dX5_hint_22 : decode cX5_hint 22 = .ok (.ifCond .eq 5, 3) := by decide +kernel
theorem dX5_hint_25 : decode cX5_hint 25 = .ok (.iconst (-1), 1) := by decide +kernel
theorem dX5_hint_26 : decode cX5_hint 26 = .ok (.ireturn, 1) := by decide +kernel
theorem dX5_hint_27 : decode cX5_hint 27 = .ok (.aload_n 0, 1) := by decide +kernel
theorem dX5_hint_28 : decode cX5_hint 28 = .ok (.getfield 21, 3) := by decide +kernel
theorem dX5_hint_31 : decode cX5_hint 31 = .ok (.invokevirtual 145, 3) := by decide +kernel
theorem dX5_hint_34 : decode cX5_hint 34 = .ok (.aload_n 0, 1) := by decide +kernel
theorem dX5_hint_35 : decode cX5_hint 35 = .ok (.getfield 21, 3) := by decide +kernel
theorem dX5_hint_38 : decode cX5_hint 38 = .ok (.getfield 148, 3) := by decide +kernel
theorem dX5_hint_41 : decode cX5_hint 41 = .ok (.aload_n 0, 1) := by decide +kernel
theorem dX5_hint_42 : decode cX5_hint 42 = .ok (.getfield 21, 3) := by decide +kernel
theorem dX5_hint_45 : decode cX5_hint 45 = .ok (.getfield 151, 3) := by decide +kernel
theorem dX5_hint_48 : decode cX5_hint 48 = .ok (.lor, 1) := by decide +kernel
theorem dX5_hint_49 : decode cX5_hint 49 = .ok (.lstore_n 1, 1) := by decide +kernel
theorem dX5_hint_50 : decode cX5_hint 50 = .ok (.iconst 0, 1) := by decide +kernel
theorem dX5_hint_51 : decode cX5_hint 51 = .ok (.istore_n 3, 1) := by decide +kernel
theorem dX5_hint_52 : decode cX5_hint 52 = .ok (.iload_n 3, 1) := by decide +kernel
theorem dX5_hint_53 : decode cX5_hint 53 = .ok (.aload_n 0, 1) := by decide +kernel
theorem dX5_hint_54 : decode cX5_hint 54 = .ok (.getfield 10, 3) := by decide +kernel
theorem dX5_hint_57 : decode cX5_hint 57 = .ok (.getfield 62, 3) := by decide +kernel
theorem dX5_hint_60 : decode cX5_hint 60 = .ok (.if_icmp .ge 19, 3) := by decide +kernel
theorem dX5_hint_63 : decode cX5_hint 63 = .ok (.lload_n 1, 1) := by decide +kernel
theorem dX5_hint_64 : decode cX5_hint 64 = .ok (.iload_n 3, 1) := by decide +kernel
theorem dX5_hint_65 : decode cX5_hint 65 = .ok (.invokestatic 154, 3) := by decide +kernel
theorem dX5_hint_68 : decode cX5_hint 68 = .ok (.ifCond .eq 5, 3) := by decide +kernel
theorem dX5_hint_71 : decode cX5_hint 71 = .ok (.iload_n 3, 1) := by decide +kernel
theorem dX5_hint_72 : decode cX5_hint 72 = .ok (.ireturn, 1) := by decide +kernel
theorem dX5_hint_73 : decode cX5_hint 73 = .ok (.iinc 3 1, 3) := by decide +kernel
theorem dX5_hint_76 : decode cX5_hint 76 = .ok (.goto (-24), 3) := by decide +kernel
theorem dX5_hint_79 : decode cX5_hint 79 = .ok (.iconst (-1), 1) := by decide +kernel
theorem dX5_hint_80 : decode cX5_hint 80 = .ok (.ireturn, 1) := by decide +kernel
theorem dX5_answers_0 : decode cX5_answers 0 = .ok (.aload_n 0, 1) := by decide +kernel
theorem dX5_answers_1 : decode cX5_answers 1 = .ok (.getfield 37, 3) := by decide +kernel
theorem dX5_answers_4 : decode cX5_answers 4 = .ok (.aload_n 0, 1) := by decide +kernel
theorem dX5_answers_5 : decode cX5_answers 5 = .ok (.getfield 80, 3) := by decide +kernel
theorem dX5_answers_8 : decode cX5_answers 8 = .ok (.aload_n 0, 1) := by decide +kernel
theorem dX5_answers_9 : decode cX5_answers 9 = .ok (.getfield 84, 3) := by decide +kernel
theorem dX5_answers_12 : decode cX5_answers 12 = .ok (.iconst (-1), 1) := by decide +kernel
theorem dX5_answers_13 : decode cX5_answers 13 = .ok (.invokevirtual 157, 3) := by decide +kernel
theorem dX5_answers_16 : decode cX5_answers 16 = .ok (.ireturn, 1) := by decide +kernel
theorem dX5_answer_0 : decode cX5_answer 0 = .ok (.aload_n 0, 1) := by decide +kernel
theorem dX5_answer_1 : decode cX5_answer 1 = .ok (.iload_n 1, 1) := by decide +kernel
theorem dX5_answer_2 : decode cX5_answer 2 = .ok (.invokevirtual 160, 3) := by decide +kernel
theorem dX5_answer_5 : decode cX5_answer 5 = .ok (.lreturn, 1) := by decide +kernel
theorem dX5_isInside_0 : decode cX5_isInside 0 = .ok (.aload_n 0, 1) := by decide +kernel
theorem dX5_isInside_1 : decode cX5_isInside 1 = .ok (.iload_n 1, 1) := by decide +kernel
theorem dX5_isInside_2 : decode cX5_isInside 2 = .ok (.invokevirtual 160, 3) := by decide +kernel
theorem dX5_isInside_5 : decode cX5_isInside 5 = .ok (.lstore_n 3, 1) := by decide +kernel
theorem dX5_isInside_6 : decode cX5_isInside 6 = .ok (.aload_n 0, 1) := by decide +kernel
theorem dX5_isInside_7 : decode cX5_isInside 7 = .ok (.iload_n 2, 1) := by decide +kernel
theorem dX5_isInside_8 : decode cX5_isInside 8 = .ok (.invokevirtual 65, 3) := by decide +kernel
theorem dX5_isInside_11 : decode cX5_isInside 11 = .ok (.lload_n 3, 1) := by decide +kernel
theorem dX5_isInside_12 : decode cX5_isInside 12 = .ok (.aload_n 0, 1) := by decide +kernel
theorem dX5_isInside_13 : decode cX5_isInside 13 = .ok (.getfield 10, 3) := by decide +kernel
theorem dX5_isInside_16 : decode cX5_isInside 16 = .ok (.getfield 164, 3) := by decide +kernel
theorem dX5_isInside_19 : decode cX5_isInside 19 = .ok (.iload_n 2, 1) := by decide +kernel
theorem dX5_isInside_20 : decode cX5_isInside 20 = .ok (.laload, 1) := by decide +kernel
theorem dX5_isInside_21 : decode cX5_isInside 21 = .ok (.land, 1) := by decide +kernel
theorem dX5_isInside_22 : decode cX5_isInside 22 = .ok (.invokestatic 100, 3) := by decide +kernel
theorem dX5_isInside_25 : decode cX5_isInside 25 = .ok (.iconst 2, 1) := by decide +kernel
theorem dX5_isInside_26 : decode cX5_isInside 26 = .ok (.irem, 1) := by decide +kernel
theorem dX5_isInside_27 : decode cX5_isInside 27 = .ok (.iconst 1, 1) := by decide +kernel
theorem dX5_isInside_28 : decode cX5_isInside 28 = .ok (.if_icmp .ne 7, 3) := by decide +kernel
theorem dX5_isInside_31 : decode cX5_isInside 31 = .ok (.iconst 1, 1) := by decide +kernel
theorem dX5_isInside_32 : decode cX5_isInside 32 = .ok (.goto 4, 3) := by decide +kernel
theorem dX5_isInside_35 : decode cX5_isInside 35 = .ok (.iconst 0, 1) := by decide +kernel
theorem dX5_isInside_36 : decode cX5_isInside 36 = .ok (.ireturn, 1) := by decide +kernel
theorem dX5_proved_0 : decode cX5_proved 0 = .ok (.aload_n 0, 1) := by decide +kernel
theorem dX5_proved_1 : decode cX5_proved 1 = .ok (.iload_n 1, 1) := by decide +kernel
theorem dX5_proved_2 : decode cX5_proved 2 = .ok (.invokevirtual 75, 3) := by decide +kernel
theorem dX5_proved_5 : decode cX5_proved 5 = .ok (.aload_n 0, 1) := by decide +kernel
theorem dX5_proved_6 : decode cX5_proved 6 = .ok (.invokevirtual 168, 3) := by decide +kernel
theorem dX5_proved_9 : decode cX5_proved 9 = .ok (.aload_n 0, 1) := by decide +kernel
theorem dX5_proved_10 : decode cX5_proved 10 = .ok (.getfield 37, 3) := by decide +kernel
theorem dX5_proved_13 : decode cX5_proved 13 = .ok (.aload_n 0, 1) := by decide +kernel
theorem dX5_proved_14 : decode cX5_proved 14 = .ok (.getfield 80, 3) := by decide +kernel
theorem dX5_proved_17 : decode cX5_proved 17 = .ok (.aload_n 0, 1) := by decide +kernel
theorem dX5_proved_18 : decode cX5_proved 18 = .ok (.getfield 84, 3) := by decide +kernel
theorem dX5_proved_21 : decode cX5_proved 21 = .ok (.invokevirtual 171, 3) := by decide +kernel
theorem dX5_proved_24 : decode cX5_proved 24 = .ok (.iload_n 1, 1) := by decide +kernel
theorem dX5_proved_25 : decode cX5_proved 25 = .ok (.invokestatic 154, 3) := by decide +kernel
theorem dX5_proved_28 : decode cX5_proved 28 = .ok (.ifCond .eq 5, 3) := by decide +kernel
theorem dX5_proved_31 : decode cX5_proved 31 = .ok (.iconst 1, 1) := by decide +kernel
theorem dX5_proved_32 : decode cX5_proved 32 = .ok (.ireturn, 1) := by decide +kernel
theorem dX5_proved_33 : decode cX5_proved 33 = .ok (.aload_n 0, 1) := by decide +kernel
theorem dX5_proved_34 : decode cX5_proved 34 = .ok (.getfield 37, 3) := by decide +kernel
theorem dX5_proved_37 : decode cX5_proved 37 = .ok (.aload_n 0, 1) := by decide +kernel
theorem dX5_proved_38 : decode cX5_proved 38 = .ok (.getfield 80, 3) := by decide +kernel
theorem dX5_proved_41 : decode cX5_proved 41 = .ok (.aload_n 0, 1) := by decide +kernel
theorem dX5_proved_42 : decode cX5_proved 42 = .ok (.getfield 84, 3) := by decide +kernel
theorem dX5_proved_45 : decode cX5_proved 45 = .ok (.invokevirtual 175, 3) := by decide +kernel
theorem dX5_proved_48 : decode cX5_proved 48 = .ok (.iload_n 1, 1) := by decide +kernel
theorem dX5_proved_49 : decode cX5_proved 49 = .ok (.invokestatic 154, 3) := by decide +kernel
theorem dX5_proved_52 : decode cX5_proved 52 = .ok (.ifCond .eq 7, 3) := by decide +kernel
theorem dX5_proved_55 : decode cX5_proved 55 = .ok (.iconst 0, 1) := by decide +kernel
theorem dX5_proved_56 : decode cX5_proved 56 = .ok (.goto 4, 3) := by decide +kernel
theorem dX5_proved_59 : decode cX5_proved 59 = .ok (.iconst 2, 1) := by decide +kernel
theorem dX5_proved_60 : decode cX5_proved 60 = .ok (.ireturn, 1) := by decide +kernel
theorem dX5_beyondRules_0 : decode cX5_beyondRules 0 = .ok (.aload_n 0, 1) := by decide +kernel
theorem dX5_beyondRules_1 : decode cX5_beyondRules 1 = .ok (.invokevirtual 168, 3) := by decide +kernel
theorem dX5_beyondRules_4 : decode cX5_beyondRules 4 = .ok (.aload_n 0, 1) := by decide +kernel
theorem dX5_beyondRules_5 : decode cX5_beyondRules 5 = .ok (.getfield 37, 3) := by decide +kernel
theorem dX5_beyondRules_8 : decode cX5_beyondRules 8 = .ok (.aload_n 0, 1) := by decide +kernel
theorem dX5_beyondRules_9 : decode cX5_beyondRules 9 = .ok (.getfield 80, 3) := by decide +kernel
theorem dX5_beyondRules_12 : decode cX5_beyondRules 12 = .ok (.aload_n 0, 1) := by decide +kernel
theorem dX5_beyondRules_13 : decode cX5_beyondRules 13 = .ok (.getfield 84, 3) := by decide +kernel
theorem dX5_beyondRules_16 : decode cX5_beyondRules 16 = .ok (.invokevirtual 175, 3) := by decide +kernel
theorem dX5_beyondRules_19 : decode cX5_beyondRules 19 = .ok (.aload_n 0, 1) := by decide +kernel
theorem dX5_beyondRules_20 : decode cX5_beyondRules 20 = .ok (.getfield 37, 3) := by decide +kernel
theorem dX5_beyondRules_23 : decode cX5_beyondRules 23 = .ok (.aload_n 0, 1) := by decide +kernel
theorem dX5_beyondRules_24 : decode cX5_beyondRules 24 = .ok (.getfield 80, 3) := by decide +kernel
theorem dX5_beyondRules_27 : decode cX5_beyondRules 27 = .ok (.aload_n 0, 1) := by decide +kernel
theorem dX5_beyondRules_28 : decode cX5_beyondRules 28 = .ok (.getfield 84, 3) := by decide +kernel
theorem dX5_beyondRules_31 : decode cX5_beyondRules 31 = .ok (.invokevirtual 171, 3) := by decide +kernel
theorem dX5_beyondRules_34 : decode cX5_beyondRules 34 = .ok (.ldc2_w 91, 3) := by decide +kernel
theorem dX5_beyondRules_37 : decode cX5_beyondRules 37 = .ok (.lxor, 1) := by decide +kernel
theorem dX5_beyondRules_38 : decode cX5_beyondRules 38 = .ok (.land, 1) := by decide +kernel
theorem dX5_beyondRules_39 : decode cX5_beyondRules 39 = .ok (.lstore_n 1, 1) := by decide +kernel
theorem dX5_beyondRules_40 : decode cX5_beyondRules 40 = .ok (.aload_n 0, 1) := by decide +kernel
theorem dX5_beyondRules_41 : decode cX5_beyondRules 41 = .ok (.getfield 30, 3) := by decide +kernel
theorem dX5_beyondRules_44 : decode cX5_beyondRules 44 = .ok (.aload_n 0, 1) := by decide +kernel
theorem dX5_beyondRules_45 : decode cX5_beyondRules 45 = .ok (.getfield 80, 3) := by decide +kernel
theorem dX5_beyondRules_48 : decode cX5_beyondRules 48 = .ok (.aload_n 0, 1) := by decide +kernel
theorem dX5_beyondRules_49 : decode cX5_beyondRules 49 = .ok (.getfield 84, 3) := by decide +kernel
theorem dX5_beyondRules_52 : decode cX5_beyondRules 52 = .ok (.invokevirtual 93, 3) := by decide +kernel
theorem dX5_beyondRules_55 : decode cX5_beyondRules 55 = .ok (.aload_n 0, 1) := by decide +kernel
theorem dX5_beyondRules_56 : decode cX5_beyondRules 56 = .ok (.getfield 10, 3) := by decide +kernel
theorem dX5_beyondRules_59 : decode cX5_beyondRules 59 = .ok (.getfield 178, 3) := by decide +kernel
theorem dX5_beyondRules_62 : decode cX5_beyondRules 62 = .ok (.lload_n 1, 1) := by decide +kernel
theorem dX5_beyondRules_63 : decode cX5_beyondRules 63 = .ok (.ldc2_w 91, 3) := by decide +kernel
theorem dX5_beyondRules_66 : decode cX5_beyondRules 66 = .ok (.lxor, 1) := by decide +kernel
theorem dX5_beyondRules_67 : decode cX5_beyondRules 67 = .ok (.land, 1) := by decide +kernel
theorem dX5_beyondRules_68 : decode cX5_beyondRules 68 = .ok (.aload_n 0, 1) := by decide +kernel
theorem dX5_beyondRules_69 : decode cX5_beyondRules 69 = .ok (.getfield 30, 3) := by decide +kernel
theorem dX5_beyondRules_72 : decode cX5_beyondRules 72 = .ok (.getfield 106, 3) := by decide +kernel
theorem dX5_beyondRules_75 : decode cX5_beyondRules 75 = .ok (.ldc2_w 91, 3) := by decide +kernel
theorem dX5_beyondRules_78 : decode cX5_beyondRules 78 = .ok (.lxor, 1) := by decide +kernel
theorem dX5_beyondRules_79 : decode cX5_beyondRules 79 = .ok (.land, 1) := by decide +kernel
theorem dX5_beyondRules_80 : decode cX5_beyondRules 80 = .ok (.aload_n 0, 1) := by decide +kernel
theorem dX5_beyondRules_81 : decode cX5_beyondRules 81 = .ok (.getfield 30, 3) := by decide +kernel
theorem dX5_beyondRules_84 : decode cX5_beyondRules 84 = .ok (.getfield 107, 3) := by decide +kernel
theorem dX5_beyondRules_87 : decode cX5_beyondRules 87 = .ok (.ldc2_w 91, 3) := by decide +kernel
theorem dX5_beyondRules_90 : decode cX5_beyondRules 90 = .ok (.lxor, 1) := by decide +kernel
theorem dX5_beyondRules_91 : decode cX5_beyondRules 91 = .ok (.land, 1) := by decide +kernel
theorem dX5_beyondRules_92 : decode cX5_beyondRules 92 = .ok (.invokestatic 100, 3) := by decide +kernel
theorem dX5_beyondRules_95 : decode cX5_beyondRules 95 = .ok (.ireturn, 1) := by decide +kernel
theorem dX5_isNeeded_0 : decode cX5_isNeeded 0 = .ok (.aload_n 0, 1) := by decide +kernel
theorem dX5_isNeeded_1 : decode cX5_isNeeded 1 = .ok (.iload_n 1, 1) := by decide +kernel
theorem dX5_isNeeded_2 : decode cX5_isNeeded 2 = .ok (.invokevirtual 65, 3) := by decide +kernel
theorem dX5_isNeeded_5 : decode cX5_isNeeded 5 = .ok (.aload_n 0, 1) := by decide +kernel
theorem dX5_isNeeded_6 : decode cX5_isNeeded 6 = .ok (.getfield 37, 3) := by decide +kernel
theorem dX5_isNeeded_9 : decode cX5_isNeeded 9 = .ok (.aload_n 0, 1) := by decide +kernel
theorem dX5_isNeeded_10 : decode cX5_isNeeded 10 = .ok (.getfield 80, 3) := by decide +kernel
theorem dX5_isNeeded_13 : decode cX5_isNeeded 13 = .ok (.aload_n 0, 1) := by decide +kernel
theorem dX5_isNeeded_14 : decode cX5_isNeeded 14 = .ok (.getfield 84, 3) := by decide +kernel
theorem dX5_isNeeded_17 : decode cX5_isNeeded 17 = .ok (.iload_n 1, 1) := by decide +kernel
theorem dX5_isNeeded_18 : decode cX5_isNeeded 18 = .ok (.invokevirtual 157, 3) := by decide +kernel
theorem dX5_isNeeded_21 : decode cX5_isNeeded 21 = .ok (.aload_n 0, 1) := by decide +kernel
theorem dX5_isNeeded_22 : decode cX5_isNeeded 22 = .ok (.getfield 37, 3) := by decide +kernel
theorem dX5_isNeeded_25 : decode cX5_isNeeded 25 = .ok (.aload_n 0, 1) := by decide +kernel
theorem dX5_isNeeded_26 : decode cX5_isNeeded 26 = .ok (.getfield 80, 3) := by decide +kernel
theorem dX5_isNeeded_29 : decode cX5_isNeeded 29 = .ok (.aload_n 0, 1) := by decide +kernel
theorem dX5_isNeeded_30 : decode cX5_isNeeded 30 = .ok (.getfield 84, 3) := by decide +kernel
theorem dX5_isNeeded_33 : decode cX5_isNeeded 33 = .ok (.iconst (-1), 1) := by decide +kernel
theorem dX5_isNeeded_34 : decode cX5_isNeeded 34 = .ok (.invokevirtual 157, 3) := by decide +kernel
theorem dX5_isNeeded_37 : decode cX5_isNeeded 37 = .ok (.if_icmp .le 7, 3) := by decide +kernel
theorem dX5_isNeeded_40 : decode cX5_isNeeded 40 = .ok (.iconst 1, 1) := by decide +kernel
theorem dX5_isNeeded_41 : decode cX5_isNeeded 41 = .ok (.goto 4, 3) := by decide +kernel
theorem dX5_isNeeded_44 : decode cX5_isNeeded 44 = .ok (.iconst 0, 1) := by decide +kernel
theorem dX5_isNeeded_45 : decode cX5_isNeeded 45 = .ok (.ireturn, 1) := by decide +kernel
theorem dX5_unmark_0 : decode cX5_unmark 0 = .ok (.aload_n 0, 1) := by decide +kernel
theorem dX5_unmark_1 : decode cX5_unmark 1 = .ok (.lconst 0, 1) := by decide +kernel
theorem dX5_unmark_2 : decode cX5_unmark 2 = .ok (.putfield 80, 3) := by decide +kernel
theorem dX5_unmark_5 : decode cX5_unmark 5 = .ok (.aload_n 0, 1) := by decide +kernel
theorem dX5_unmark_6 : decode cX5_unmark 6 = .ok (.lconst 0, 1) := by decide +kernel
theorem dX5_unmark_7 : decode cX5_unmark 7 = .ok (.putfield 84, 3) := by decide +kernel
theorem dX5_unmark_10 : decode cX5_unmark 10 = .ok (.return_, 1) := by decide +kernel
theorem dX5_requireCell_0 : decode cX5_requireCell 0 = .ok (.iload_n 1, 1) := by decide +kernel
theorem dX5_requireCell_1 : decode cX5_requireCell 1 = .ok (.ifCond .lt 14, 3) := by decide +kernel
theorem dX5_requireCell_4 : decode cX5_requireCell 4 = .ok (.iload_n 1, 1) := by decide +kernel
theorem dX5_requireCell_5 : decode cX5_requireCell 5 = .ok (.aload_n 0, 1) := by decide +kernel
theorem dX5_requireCell_6 : decode cX5_requireCell 6 = .ok (.getfield 10, 3) := by decide +kernel
theorem dX5_requireCell_9 : decode cX5_requireCell 9 = .ok (.getfield 58, 3) := by decide +kernel
theorem dX5_requireCell_12 : decode cX5_requireCell 12 = .ok (.if_icmp .lt 13, 3) := by decide +kernel
theorem dX5_requireCell_15 : decode cX5_requireCell 15 = .ok (.new 108, 3) := by decide +kernel
theorem dX5_requireCell_18 : decode cX5_requireCell 18 = .ok (.dup, 1) := by decide +kernel
theorem dX5_requireCell_19 : decode cX5_requireCell 19 = .ok (.ldc 181, 2) := by decide +kernel
theorem dX5_requireCell_21 : decode cX5_requireCell 21 = .ok (.invokespecial 112, 3) := by decide +kernel
theorem dX5_requireCell_24 : decode cX5_requireCell 24 = .ok (.athrow, 1) := by decide +kernel
theorem dX5_requireCell_25 : decode cX5_requireCell 25 = .ok (.return_, 1) := by decide +kernel
theorem dX5_requireEdge_0 : decode cX5_requireEdge 0 = .ok (.iload_n 1, 1) := by decide +kernel
theorem dX5_requireEdge_1 : decode cX5_requireEdge 1 = .ok (.ifCond .lt 14, 3) := by decide +kernel
theorem dX5_requireEdge_4 : decode cX5_requireEdge 4 = .ok (.iload_n 1, 1) := by decide +kernel
theorem dX5_requireEdge_5 : decode cX5_requireEdge 5 = .ok (.aload_n 0, 1) := by decide +kernel
theorem dX5_requireEdge_6 : decode cX5_requireEdge 6 = .ok (.getfield 10, 3) := by decide +kernel
theorem dX5_requireEdge_9 : decode cX5_requireEdge 9 = .ok (.getfield 62, 3) := by decide +kernel
theorem dX5_requireEdge_12 : decode cX5_requireEdge 12 = .ok (.if_icmp .lt 13, 3) := by decide +kernel
theorem dX5_requireEdge_15 : decode cX5_requireEdge 15 = .ok (.new 108, 3) := by decide +kernel
theorem dX5_requireEdge_18 : decode cX5_requireEdge 18 = .ok (.dup, 1) := by decide +kernel
theorem dX5_requireEdge_19 : decode cX5_requireEdge 19 = .ok (.ldc 183, 2) := by decide +kernel
theorem dX5_requireEdge_21 : decode cX5_requireEdge 21 = .ok (.invokespecial 112, 3) := by decide +kernel
theorem dX5_requireEdge_24 : decode cX5_requireEdge 24 = .ok (.athrow, 1) := by decide +kernel
theorem dX5_requireEdge_25 : decode cX5_requireEdge 25 = .ok (.return_, 1) := by decide +kernel
theorem dX5_requireAnswer_0 : decode cX5_requireAnswer 0 = .ok (.aload_n 0, 1) := by decide +kernel
theorem dX5_requireAnswer_1 : decode cX5_requireAnswer 1 = .ok (.getfield 37, 3) := by decide +kernel
theorem dX5_requireAnswer_4 : decode cX5_requireAnswer 4 = .ok (.aload_n 0, 1) := by decide +kernel
theorem dX5_requireAnswer_5 : decode cX5_requireAnswer 5 = .ok (.getfield 80, 3) := by decide +kernel
theorem dX5_requireAnswer_8 : decode cX5_requireAnswer 8 = .ok (.aload_n 0, 1) := by decide +kernel
theorem dX5_requireAnswer_9 : decode cX5_requireAnswer 9 = .ok (.getfield 84, 3) := by decide +kernel
theorem dX5_requireAnswer_12 : decode cX5_requireAnswer 12 = .ok (.iload_n 1, 1) := by decide +kernel
theorem dX5_requireAnswer_13 : decode cX5_requireAnswer 13 = .ok (.invokevirtual 185, 3) := by decide +kernel
theorem dX5_requireAnswer_16 : decode cX5_requireAnswer 16 = .ok (.lstore_n 2, 1) := by decide +kernel
theorem dX5_requireAnswer_17 : decode cX5_requireAnswer 17 = .ok (.lload_n 2, 1) := by decide +kernel
theorem dX5_requireAnswer_18 : decode cX5_requireAnswer 18 = .ok (.lconst 0, 1) := by decide +kernel
theorem dX5_requireAnswer_19 : decode cX5_requireAnswer 19 = .ok (.lcmp, 1) := by decide +kernel
theorem dX5_requireAnswer_20 : decode cX5_requireAnswer 20 = .ok (.ifCond .ne 13, 3) := by decide +kernel
theorem dX5_requireAnswer_23 : decode cX5_requireAnswer 23 = .ok (.new 108, 3) := by decide +kernel
theorem dX5_requireAnswer_26 : decode cX5_requireAnswer 26 = .ok (.dup, 1) := by decide +kernel
theorem dX5_requireAnswer_27 : decode cX5_requireAnswer 27 = .ok (.ldc 189, 2) := by decide +kernel
theorem dX5_requireAnswer_29 : decode cX5_requireAnswer 29 = .ok (.invokespecial 112, 3) := by decide +kernel
theorem dX5_requireAnswer_32 : decode cX5_requireAnswer 32 = .ok (.athrow, 1) := by decide +kernel
theorem dX5_requireAnswer_33 : decode cX5_requireAnswer 33 = .ok (.lload_n 2, 1) := by decide +kernel
theorem dX5_requireAnswer_34 : decode cX5_requireAnswer 34 = .ok (.lreturn, 1) := by decide +kernel
theorem dX5_requireSomeAnswer_0 : decode cX5_requireSomeAnswer 0 = .ok (.aload_n 0, 1) := by decide +kernel
theorem dX5_requireSomeAnswer_1 : decode cX5_requireSomeAnswer 1 = .ok (.getfield 37, 3) := by decide +kernel
theorem dX5_requireSomeAnswer_4 : decode cX5_requireSomeAnswer 4 = .ok (.aload_n 0, 1) := by decide +kernel
theorem dX5_requireSomeAnswer_5 : decode cX5_requireSomeAnswer 5 = .ok (.getfield 80, 3) := by decide +kernel
theorem dX5_requireSomeAnswer_8 : decode cX5_requireSomeAnswer 8 = .ok (.aload_n 0, 1) := by decide +kernel
theorem dX5_requireSomeAnswer_9 : decode cX5_requireSomeAnswer 9 = .ok (.getfield 84, 3) := by decide +kernel
theorem dX5_requireSomeAnswer_12 : decode cX5_requireSomeAnswer 12 = .ok (.iconst 0, 1) := by decide +kernel
theorem dX5_requireSomeAnswer_13 : decode cX5_requireSomeAnswer 13 = .ok (.invokevirtual 185, 3) := by decide +kernel
theorem dX5_requireSomeAnswer_16 : decode cX5_requireSomeAnswer 16 = .ok (.lconst 0, 1) := by decide +kernel
theorem dX5_requireSomeAnswer_17 : decode cX5_requireSomeAnswer 17 = .ok (.lcmp, 1) := by decide +kernel
theorem dX5_requireSomeAnswer_18 : decode cX5_requireSomeAnswer 18 = .ok (.ifCond .ne 13, 3) := by decide +kernel
theorem dX5_requireSomeAnswer_21 : decode cX5_requireSomeAnswer 21 = .ok (.new 191, 3) := by decide +kernel
theorem dX5_requireSomeAnswer_24 : decode cX5_requireSomeAnswer 24 = .ok (.dup, 1) := by decide +kernel
theorem dX5_requireSomeAnswer_25 : decode cX5_requireSomeAnswer 25 = .ok (.ldc 193, 2) := by decide +kernel
theorem dX5_requireSomeAnswer_27 : decode cX5_requireSomeAnswer 27 = .ok (.invokespecial 195, 3) := by decide +kernel
theorem dX5_requireSomeAnswer_30 : decode cX5_requireSomeAnswer 30 = .ok (.athrow, 1) := by decide +kernel
theorem dX5_requireSomeAnswer_31 : decode cX5_requireSomeAnswer 31 = .ok (.return_, 1) := by decide +kernel
theorem dX5_has_0 : decode cX5_has 0 = .ok (.lload_n 0, 1) := by decide +kernel
theorem dX5_has_1 : decode cX5_has 1 = .ok (.lconst 1, 1) := by decide +kernel
theorem dX5_has_2 : decode cX5_has 2 = .ok (.iload_n 2, 1) := by decide +kernel
theorem dX5_has_3 : decode cX5_has 3 = .ok (.lshl, 1) := by decide +kernel
theorem dX5_has_4 : decode cX5_has 4 = .ok (.land, 1) := by decide +kernel
theorem dX5_has_5 : decode cX5_has 5 = .ok (.lconst 0, 1) := by decide +kernel
theorem dX5_has_6 : decode cX5_has 6 = .ok (.lcmp, 1) := by decide +kernel
theorem dX5_has_7 : decode cX5_has 7 = .ok (.ifCond .eq 7, 3) := by decide +kernel
theorem dX5_has_10 : decode cX5_has 10 = .ok (.iconst 1, 1) := by decide +kernel
theorem dX5_has_11 : decode cX5_has 11 = .ok (.goto 4, 3) := by decide +kernel
theorem dX5_has_14 : decode cX5_has 14 = .ok (.iconst 0, 1) := by decide +kernel
theorem dX5_has_15 : decode cX5_has 15 = .ok (.ireturn, 1) := by decide +kernel
theorem dX5_stateIn_0 : decode cX5_stateIn 0 = .ok (.lload_n 0, 1) := by decide +kernel
theorem dX5_stateIn_1 : decode cX5_stateIn 1 = .ok (.iload 4, 2) := by decide +kernel
theorem dX5_stateIn_3 : decode cX5_stateIn 3 = .ok (.invokestatic 154, 3) := by decide +kernel
theorem dX5_stateIn_6 : decode cX5_stateIn 6 = .ok (.ifCond .eq 5, 3) := by decide +kernel
theorem dX5_stateIn_9 : decode cX5_stateIn 9 = .ok (.iconst 1, 1) := by decide +kernel
theorem dX5_stateIn_10 : decode cX5_stateIn 10 = .ok (.ireturn, 1) := by decide +kernel
theorem dX5_stateIn_11 : decode cX5_stateIn 11 = .ok (.lload_n 2, 1) := by decide +kernel
theorem dX5_stateIn_12 : decode cX5_stateIn 12 = .ok (.iload 4, 2) := by decide +kernel
theorem dX5_stateIn_14 : decode cX5_stateIn 14 = .ok (.invokestatic 154, 3) := by decide +kernel
theorem dX5_stateIn_17 : decode cX5_stateIn 17 = .ok (.ifCond .eq 7, 3) := by decide +kernel
theorem dX5_stateIn_20 : decode cX5_stateIn 20 = .ok (.iconst 2, 1) := by decide +kernel
theorem dX5_stateIn_21 : decode cX5_stateIn 21 = .ok (.goto 4, 3) := by decide +kernel
theorem dX5_stateIn_24 : decode cX5_stateIn 24 = .ok (.iconst 0, 1) := by decide +kernel
theorem dX5_stateIn_25 : decode cX5_stateIn 25 = .ok (.ireturn, 1) := by decide +kernel
theorem dJ13_bitCount_95d88_0 : decode cJ13_bitCount_95d88 0 = .ok (.lload_n 0, 1) := by decide +kernel
theorem dJ13_bitCount_95d88_1 : decode cJ13_bitCount_95d88 1 = .ok (.lload_n 0, 1) := by decide +kernel
theorem dJ13_bitCount_95d88_2 : decode cJ13_bitCount_95d88 2 = .ok (.iconst 1, 1) := by decide +kernel
theorem dJ13_bitCount_95d88_3 : decode cJ13_bitCount_95d88 3 = .ok (.lushr, 1) := by decide +kernel
theorem dJ13_bitCount_95d88_4 : decode cJ13_bitCount_95d88 4 = .ok (.ldc2_w 314, 3) := by decide +kernel
theorem dJ13_bitCount_95d88_7 : decode cJ13_bitCount_95d88 7 = .ok (.land, 1) := by decide +kernel
theorem dJ13_bitCount_95d88_8 : decode cJ13_bitCount_95d88 8 = .ok (.lsub, 1) := by decide +kernel
theorem dJ13_bitCount_95d88_9 : decode cJ13_bitCount_95d88 9 = .ok (.lstore_n 0, 1) := by decide +kernel
theorem dJ13_bitCount_95d88_10 : decode cJ13_bitCount_95d88 10 = .ok (.lload_n 0, 1) := by decide +kernel
theorem dJ13_bitCount_95d88_11 : decode cJ13_bitCount_95d88 11 = .ok (.ldc2_w 316, 3) := by decide +kernel
theorem dJ13_bitCount_95d88_14 : decode cJ13_bitCount_95d88 14 = .ok (.land, 1) := by decide +kernel
theorem dJ13_bitCount_95d88_15 : decode cJ13_bitCount_95d88 15 = .ok (.lload_n 0, 1) := by decide +kernel
theorem dJ13_bitCount_95d88_16 : decode cJ13_bitCount_95d88 16 = .ok (.iconst 2, 1) := by decide +kernel
theorem dJ13_bitCount_95d88_17 : decode cJ13_bitCount_95d88 17 = .ok (.lushr, 1) := by decide +kernel
theorem dJ13_bitCount_95d88_18 : decode cJ13_bitCount_95d88 18 = .ok (.ldc2_w 316, 3) := by decide +kernel
theorem dJ13_bitCount_95d88_21 : decode cJ13_bitCount_95d88 21 = .ok (.land, 1) := by decide +kernel
theorem dJ13_bitCount_95d88_22 : decode cJ13_bitCount_95d88 22 = .ok (.ladd, 1) := by decide +kernel
theorem dJ13_bitCount_95d88_23 : decode cJ13_bitCount_95d88 23 = .ok (.lstore_n 0, 1) := by decide +kernel
theorem dJ13_bitCount_95d88_24 : decode cJ13_bitCount_95d88 24 = .ok (.lload_n 0, 1) := by decide +kernel
theorem dJ13_bitCount_95d88_25 : decode cJ13_bitCount_95d88 25 = .ok (.lload_n 0, 1) := by decide +kernel
theorem dJ13_bitCount_95d88_26 : decode cJ13_bitCount_95d88 26 = .ok (.iconst 4, 1) := by decide +kernel
theorem dJ13_bitCount_95d88_27 : decode cJ13_bitCount_95d88 27 = .ok (.lushr, 1) := by decide +kernel
theorem dJ13_bitCount_95d88_28 : decode cJ13_bitCount_95d88 28 = .ok (.ladd, 1) := by decide +kernel
theorem dJ13_bitCount_95d88_29 : decode cJ13_bitCount_95d88 29 = .ok (.ldc2_w 318, 3) := by decide +kernel
theorem dJ13_bitCount_95d88_32 : decode cJ13_bitCount_95d88 32 = .ok (.land, 1) := by decide +kernel
theorem dJ13_bitCount_95d88_33 : decode cJ13_bitCount_95d88 33 = .ok (.lstore_n 0, 1) := by decide +kernel
theorem dJ13_bitCount_95d88_34 : decode cJ13_bitCount_95d88 34 = .ok (.lload_n 0, 1) := by decide +kernel
theorem dJ13_bitCount_95d88_35 : decode cJ13_bitCount_95d88 35 = .ok (.lload_n 0, 1) := by decide +kernel
theorem dJ13_bitCount_95d88_36 : decode cJ13_bitCount_95d88 36 = .ok (.bipush 8, 2) := by decide +kernel
theorem dJ13_bitCount_95d88_38 : decode cJ13_bitCount_95d88 38 = .ok (.lushr, 1) := by decide +kernel
theorem dJ13_bitCount_95d88_39 : decode cJ13_bitCount_95d88 39 = .ok (.ladd, 1) := by decide +kernel
theorem dJ13_bitCount_95d88_40 : decode cJ13_bitCount_95d88 40 = .ok (.lstore_n 0, 1) := by decide +kernel
theorem dJ13_bitCount_95d88_41 : decode cJ13_bitCount_95d88 41 = .ok (.lload_n 0, 1) := by decide +kernel
theorem dJ13_bitCount_95d88_42 : decode cJ13_bitCount_95d88 42 = .ok (.lload_n 0, 1) := by decide +kernel
theorem dJ13_bitCount_95d88_43 : decode cJ13_bitCount_95d88 43 = .ok (.bipush 16, 2) := by decide +kernel
theorem dJ13_bitCount_95d88_45 : decode cJ13_bitCount_95d88 45 = .ok (.lushr, 1) := by decide +kernel
theorem dJ13_bitCount_95d88_46 : decode cJ13_bitCount_95d88 46 = .ok (.ladd, 1) := by decide +kernel
theorem dJ13_bitCount_95d88_47 : decode cJ13_bitCount_95d88 47 = .ok (.lstore_n 0, 1) := by decide +kernel
theorem dJ13_bitCount_95d88_48 : decode cJ13_bitCount_95d88 48 = .ok (.lload_n 0, 1) := by decide +kernel
theorem dJ13_bitCount_95d88_49 : decode cJ13_bitCount_95d88 49 = .ok (.lload_n 0, 1) := by decide +kernel
theorem dJ13_bitCount_95d88_50 : decode cJ13_bitCount_95d88 50 = .ok (.bipush 32, 2) := by decide +kernel
theorem dJ13_bitCount_95d88_52 : decode cJ13_bitCount_95d88 52 = .ok (.lushr, 1) := by decide +kernel
theorem dJ13_bitCount_95d88_53 : decode cJ13_bitCount_95d88 53 = .ok (.ladd, 1) := by decide +kernel
theorem dJ13_bitCount_95d88_54 : decode cJ13_bitCount_95d88 54 = .ok (.lstore_n 0, 1) := by decide +kernel
theorem dJ13_bitCount_95d88_55 : decode cJ13_bitCount_95d88 55 = .ok (.lload_n 0, 1) := by decide +kernel
theorem dJ13_bitCount_95d88_56 : decode cJ13_bitCount_95d88 56 = .ok (.l2i, 1) := by decide +kernel
theorem dJ13_bitCount_95d88_57 : decode cJ13_bitCount_95d88 57 = .ok (.bipush 127, 2) := by decide +kernel
theorem dJ13_bitCount_95d88_59 : decode cJ13_bitCount_95d88 59 = .ok (.iand, 1) := by decide +kernel
theorem dJ13_bitCount_95d88_60 : decode cJ13_bitCount_95d88 60 = .ok (.ireturn, 1) := by decide +kernel
theorem dJ7_fill_d0a16_0 : decode cJ7_fill_d0a16 0 = .ok (.iconst 0, 1) := by decide +kernel
theorem dJ7_fill_d0a16_1 : decode cJ7_fill_d0a16 1 = .ok (.istore_n 3, 1) := by decide +kernel
theorem dJ7_fill_d0a16_2 : decode cJ7_fill_d0a16 2 = .ok (.aload_n 0, 1) := by decide +kernel
theorem dJ7_fill_d0a16_3 : decode cJ7_fill_d0a16 3 = .ok (.arraylength, 1) := by decide +kernel
theorem dJ7_fill_d0a16_4 : decode cJ7_fill_d0a16 4 = .ok (.istore 4, 2) := by decide +kernel
theorem dJ7_fill_d0a16_6 : decode cJ7_fill_d0a16 6 = .ok (.iload_n 3, 1) := by decide +kernel
theorem dJ7_fill_d0a16_7 : decode cJ7_fill_d0a16 7 = .ok (.iload 4, 2) := by decide +kernel
theorem dJ7_fill_d0a16_9 : decode cJ7_fill_d0a16 9 = .ok (.if_icmp .ge 13, 3) := by decide +kernel
theorem dJ7_fill_d0a16_12 : decode cJ7_fill_d0a16 12 = .ok (.aload_n 0, 1) := by decide +kernel
theorem dJ7_fill_d0a16_13 : decode cJ7_fill_d0a16 13 = .ok (.iload_n 3, 1) := by decide +kernel
theorem dJ7_fill_d0a16_14 : decode cJ7_fill_d0a16 14 = .ok (.lload_n 1, 1) := by decide +kernel
theorem dJ7_fill_d0a16_15 : decode cJ7_fill_d0a16 15 = .ok (.lastore, 1) := by decide +kernel
theorem dJ7_fill_d0a16_16 : decode cJ7_fill_d0a16 16 = .ok (.iinc 3 1, 3) := by decide +kernel
theorem dJ7_fill_d0a16_19 : decode cJ7_fill_d0a16 19 = .ok (.goto (-13), 3) := by decide +kernel
theorem dJ7_fill_d0a16_22 : decode cJ7_fill_d0a16 22 = .ok (.return_, 1) := by decide +kernel
theorem dJ7_fill_53178_0 : decode cJ7_fill_53178 0 = .ok (.iconst 0, 1) := by decide +kernel
theorem dJ7_fill_53178_1 : decode cJ7_fill_53178 1 = .ok (.istore_n 2, 1) := by decide +kernel
theorem dJ7_fill_53178_2 : decode cJ7_fill_53178 2 = .ok (.aload_n 0, 1) := by decide +kernel
theorem dJ7_fill_53178_3 : decode cJ7_fill_53178 3 = .ok (.arraylength, 1) := by decide +kernel
theorem dJ7_fill_53178_4 : decode cJ7_fill_53178 4 = .ok (.istore_n 3, 1) := by decide +kernel
theorem dJ7_fill_53178_5 : decode cJ7_fill_53178 5 = .ok (.iload_n 2, 1) := by decide +kernel
theorem dJ7_fill_53178_6 : decode cJ7_fill_53178 6 = .ok (.iload_n 3, 1) := by decide +kernel
theorem dJ7_fill_53178_7 : decode cJ7_fill_53178 7 = .ok (.if_icmp .ge 13, 3) := by decide +kernel
theorem dJ7_fill_53178_10 : decode cJ7_fill_53178 10 = .ok (.aload_n 0, 1) := by decide +kernel
theorem dJ7_fill_53178_11 : decode cJ7_fill_53178 11 = .ok (.iload_n 2, 1) := by decide +kernel
theorem dJ7_fill_53178_12 : decode cJ7_fill_53178 12 = .ok (.iload_n 1, 1) := by decide +kernel
theorem dJ7_fill_53178_13 : decode cJ7_fill_53178 13 = .ok (.iastore, 1) := by decide +kernel
theorem dJ7_fill_53178_14 : decode cJ7_fill_53178 14 = .ok (.iinc 2 1, 3) := by decide +kernel
theorem dJ7_fill_53178_17 : decode cJ7_fill_53178 17 = .ok (.goto (-12), 3) := by decide +kernel
theorem dJ7_fill_53178_20 : decode cJ7_fill_53178 20 = .ok (.return_, 1) := by decide +kernel
