theorem dX6_init_0 : decode cX6_init 0 = .ok (.aload_n 0, 1) := by decide +kernel
theorem dX6_init_1 : decode cX6_init 1 = .ok (.invokespecial 1, 3) := by decide +kernel
theorem dX6_init_4 : decode cX6_init 4 = .ok (.aload_n 0, 1) := by decide +kernel
theorem dX6_init_5 : decode cX6_init 5 = .ok (.bipush 40, 2) := by decide +kernel
theorem dX6_init_7 : decode cX6_init 7 = .ok (.newarray .int, 2) := by decide +kernel
theorem dX6_init_9 : decode cX6_init 9 = .ok (.putfield 7, 3) := by decide +kernel
theorem dX6_init_12 : decode cX6_init 12 = .ok (.aload_n 0, 1) := by decide +kernel
theorem dX6_init_13 : decode cX6_init 13 = .ok (.bipush 40, 2) := by decide +kernel
theorem dX6_init_15 : decode cX6_init 15 = .ok (.newarray .int, 2) := by decide +kernel
theorem dX6_init_17 : decode cX6_init 17 = .ok (.putfield 13, 3) := by decide +kernel
theorem dX6_init_20 : decode cX6_init 20 = .ok (.aload_n 0, 1) := by decide +kernel
theorem dX6_init_21 : decode cX6_init 21 = .ok (.bipush 40, 2) := by decide +kernel
theorem dX6_init_23 : decode cX6_init 23 = .ok (.newarray .int, 2) := by decide +kernel
theorem dX6_init_25 : decode cX6_init 25 = .ok (.putfield 16, 3) := by decide +kernel
theorem dX6_init_28 : decode cX6_init 28 = .ok (.aload_n 0, 1) := by decide +kernel
theorem dX6_init_29 : decode cX6_init 29 = .ok (.bipush 40, 2) := by decide +kernel
theorem dX6_init_31 : decode cX6_init 31 = .ok (.newarray .int, 2) := by decide +kernel
theorem dX6_init_33 : decode cX6_init 33 = .ok (.putfield 19, 3) := by decide +kernel
theorem dX6_init_36 : decode cX6_init 36 = .ok (.aload_n 0, 1) := by decide +kernel
theorem dX6_init_37 : decode cX6_init 37 = .ok (.bipush 64, 2) := by decide +kernel
theorem dX6_init_39 : decode cX6_init 39 = .ok (.newarray .int, 2) := by decide +kernel
theorem dX6_init_41 : decode cX6_init 41 = .ok (.putfield 22, 3) := by decide +kernel
theorem dX6_init_44 : decode cX6_init 44 = .ok (.aload_n 0, 1) := by decide +kernel
theorem dX6_init_45 : decode cX6_init 45 = .ok (.bipush 16, 2) := by decide +kernel
theorem dX6_init_47 : decode cX6_init 47 = .ok (.newarray .int, 2) := by decide +kernel
theorem dX6_init_49 : decode cX6_init 49 = .ok (.putfield 25, 3) := by decide +kernel
theorem dX6_init_52 : decode cX6_init 52 = .ok (.aload_n 0, 1) := by decide +kernel
theorem dX6_init_53 : decode cX6_init 53 = .ok (.bipush 40, 2) := by decide +kernel
theorem dX6_init_55 : decode cX6_init 55 = .ok (.newarray .int, 2) := by decide +kernel
theorem dX6_init_57 : decode cX6_init 57 = .ok (.putfield 28, 3) := by decide +kernel
theorem dX6_init_60 : decode cX6_init 60 = .ok (.aload_n 0, 1) := by decide +kernel
theorem dX6_init_61 : decode cX6_init 61 = .ok (.bipush 40, 2) := by decide +kernel
theorem dX6_init_63 : decode cX6_init 63 = .ok (.newarray .int, 2) := by decide +kernel
theorem dX6_init_65 : decode cX6_init 65 = .ok (.putfield 31, 3) := by decide +kernel
theorem dX6_init_68 : decode cX6_init 68 = .ok (.aload_n 0, 1) := by decide +kernel
theorem dX6_init_69 : decode cX6_init 69 = .ok (.bipush 40, 2) := by decide +kernel
theorem dX6_init_71 : decode cX6_init 71 = .ok (.newarray .int, 2) := by decide +kernel
theorem dX6_init_73 : decode cX6_init 73 = .ok (.putfield 34, 3) := by decide +kernel
theorem dX6_init_76 : decode cX6_init 76 = .ok (.aload_n 0, 1) := by decide +kernel
theorem dX6_init_77 : decode cX6_init 77 = .ok (.bipush 40, 2) := by decide +kernel
theorem dX6_init_79 : decode cX6_init 79 = .ok (.newarray .int, 2) := by decide +kernel
theorem dX6_init_81 : decode cX6_init 81 = .ok (.putfield 37, 3) := by decide +kernel
theorem dX6_init_84 : decode cX6_init 84 = .ok (.aload_n 0, 1) := by decide +kernel
theorem dX6_init_85 : decode cX6_init 85 = .ok (.bipush 40, 2) := by decide +kernel
theorem dX6_init_87 : decode cX6_init 87 = .ok (.newarray .int, 2) := by decide +kernel
theorem dX6_init_89 : decode cX6_init 89 = .ok (.putfield 40, 3) := by decide +kernel
theorem dX6_init_92 : decode cX6_init 92 = .ok (.aload_n 0, 1) := by decide +kernel
theorem dX6_init_93 : decode cX6_init 93 = .ok (.bipush 40, 2) := by decide +kernel
theorem dX6_init_95 : decode cX6_init 95 = .ok (.newarray .int, 2) := by decide +kernel
theorem dX6_init_97 : decode cX6_init 97 = .ok (.putfield 43, 3) := by decide +kernel
theorem dX6_init_100 : decode cX6_init 100 = .ok (.aload_n 0, 1) := by decide +kernel
theorem dX6_init_101 : decode cX6_init 101 = .ok (.bipush 25, 2) := by decide +kernel
theorem dX6_init_103 : decode cX6_init 103 = .ok (.newarray .int, 2) := by decide +kernel
theorem dX6_init_105 : decode cX6_init 105 = .ok (.putfield 46, 3) := by decide +kernel
theorem dX6_init_108 : decode cX6_init 108 = .ok (.aload_n 0, 1) := by decide +kernel
theorem dX6_init_109 : decode cX6_init 109 = .ok (.bipush 17, 2) := by decide +kernel
theorem dX6_init_111 : decode cX6_init 111 = .ok (.newarray .int, 2) := by decide +kernel
theorem dX6_init_113 : decode cX6_init 113 = .ok (.putfield 49, 3) := by decide +kernel
theorem dX6_init_116 : decode cX6_init 116 = .ok (.aload_n 0, 1) := by decide +kernel
theorem dX6_init_117 : decode cX6_init 117 = .ok (.bipush 17, 2) := by decide +kernel
theorem dX6_init_119 : decode cX6_init 119 = .ok (.newarray .boolean, 2) := by decide +kernel
theorem dX6_init_121 : decode cX6_init 121 = .ok (.putfield 52, 3) := by decide +kernel
theorem dX6_init_124 : decode cX6_init 124 = .ok (.aload_n 0, 1) := by decide +kernel
theorem dX6_init_125 : decode cX6_init 125 = .ok (.bipush 25, 2) := by decide +kernel
theorem dX6_init_127 : decode cX6_init 127 = .ok (.newarray .int, 2) := by decide +kernel
theorem dX6_init_129 : decode cX6_init 129 = .ok (.putfield 56, 3) := by decide +kernel
theorem dX6_init_132 : decode cX6_init 132 = .ok (.aload_n 0, 1) := by decide +kernel
theorem dX6_init_133 : decode cX6_init 133 = .ok (.sipush 9400, 3) := by decide +kernel
theorem dX6_init_136 : decode cX6_init 136 = .ok (.newarray .long, 2) := by decide +kernel
theorem dX6_init_138 : decode cX6_init 138 = .ok (.putfield 59, 3) := by decide +kernel
theorem dX6_init_141 : decode cX6_init 141 = .ok (.aload_n 0, 1) := by decide +kernel
theorem dX6_init_142 : decode cX6_init 142 = .ok (.iconst 3, 1) := by decide +kernel
theorem dX6_init_143 : decode cX6_init 143 = .ok (.iconst 3, 1) := by decide +kernel
theorem dX6_init_144 : decode cX6_init 144 = .ok (.invokevirtual 63, 3) := by decide +kernel
theorem dX6_init_147 : decode cX6_init 147 = .ok (.return_, 1) := by decide +kernel
theorem dX6_thrown_0 : decode cX6_thrown 0 = .ok (.aload_n 0, 1) := by decide +kernel
theorem dX6_thrown_1 : decode cX6_thrown 1 = .ok (.getfield 67, 3) := by decide +kernel
theorem dX6_thrown_4 : decode cX6_thrown 4 = .ok (.ireturn, 1) := by decide +kernel
theorem dX6_may_0 : decode cX6_may 0 = .ok (.aload_n 0, 1) := by decide +kernel
theorem dX6_may_1 : decode cX6_may 1 = .ok (.iload_n 1, 1) := by decide +kernel
theorem dX6_may_2 : decode cX6_may 2 = .ok (.ifCond .eq 7, 3) := by decide +kernel
theorem dX6_may_5 : decode cX6_may 5 = .ok (.iconst 0, 1) := by decide +kernel
theorem dX6_may_6 : decode cX6_may 6 = .ok (.goto 4, 3) := by decide +kernel
theorem dX6_may_9 : decode cX6_may 9 = .ok (.iconst 1, 1) := by decide +kernel
theorem dX6_may_10 : decode cX6_may 10 = .ok (.putfield 67, 3) := by decide +kernel
theorem dX6_may_13 : decode cX6_may 13 = .ok (.iload_n 1, 1) := by decide +kernel
theorem dX6_may_14 : decode cX6_may 14 = .ok (.ireturn, 1) := by decide +kernel
theorem dX6_mayBoth_0 : decode cX6_mayBoth 0 = .ok (.aload_n 0, 1) := by decide +kernel
theorem dX6_mayBoth_1 : decode cX6_mayBoth 1 = .ok (.iload_n 1, 1) := by decide +kernel
theorem dX6_mayBoth_2 : decode cX6_mayBoth 2 = .ok (.ifCond .ne 7, 3) := by decide +kernel
theorem dX6_mayBoth_5 : decode cX6_mayBoth 5 = .ok (.iconst 1, 1) := by decide +kernel
theorem dX6_mayBoth_6 : decode cX6_mayBoth 6 = .ok (.goto 12, 3) := by decide +kernel
theorem dX6_mayBoth_9 : decode cX6_mayBoth 9 = .ok (.iload_n 2, 1) := by decide +kernel
theorem dX6_mayBoth_10 : decode cX6_mayBoth 10 = .ok (.ifCond .ne 7, 3) := by decide +kernel
theorem dX6_mayBoth_13 : decode cX6_mayBoth 13 = .ok (.iconst 2, 1) := by decide +kernel
theorem dX6_mayBoth_14 : decode cX6_mayBoth 14 = .ok (.goto 4, 3) := by decide +kernel
theorem dX6_mayBoth_17 : decode cX6_mayBoth 17 = .ok (.iconst 0, 1) := by decide +kernel
theorem dX6_mayBoth_18 : decode cX6_mayBoth 18 = .ok (.putfield 67, 3) := by decide +kernel
theorem dX6_mayBoth_21 : decode cX6_mayBoth 21 = .ok (.aload_n 0, 1) := by decide +kernel
theorem dX6_mayBoth_22 : decode cX6_mayBoth 22 = .ok (.getfield 67, 3) := by decide +kernel
theorem dX6_mayBoth_25 : decode cX6_mayBoth 25 = .ok (.ifCond .ne 7, 3) := by decide +kernel
theorem dX6_mayBoth_28 : decode cX6_mayBoth 28 = .ok (.iconst 1, 1) := by decide +kernel
theorem dX6_mayBoth_29 : decode cX6_mayBoth 29 = .ok (.goto 4, 3) := by decide +kernel
theorem dX6_mayBoth_32 : decode cX6_mayBoth 32 = .ok (.iconst 0, 1) := by decide +kernel
theorem dX6_mayBoth_33 : decode cX6_mayBoth 33 = .ok (.ireturn, 1) := by decide +kernel
theorem dX6_isCell_0 : decode cX6_isCell 0 = .ok (.iload_n 1, 1) := by decide +kernel
theorem dX6_isCell_1 : decode cX6_isCell 1 = .ok (.ifCond .lt 15, 3) := by decide +kernel
theorem dX6_isCell_4 : decode cX6_isCell 4 = .ok (.iload_n 1, 1) := by decide +kernel
theorem dX6_isCell_5 : decode cX6_isCell 5 = .ok (.aload_n 0, 1) := by decide +kernel
theorem dX6_isCell_6 : decode cX6_isCell 6 = .ok (.getfield 71, 3) := by decide +kernel
theorem dX6_isCell_9 : decode cX6_isCell 9 = .ok (.if_icmp .ge 7, 3) := by decide +kernel
theorem dX6_isCell_12 : decode cX6_isCell 12 = .ok (.iconst 1, 1) := by decide +kernel
theorem dX6_isCell_13 : decode cX6_isCell 13 = .ok (.goto 4, 3) := by decide +kernel
theorem dX6_isCell_16 : decode cX6_isCell 16 = .ok (.iconst 0, 1) := by decide +kernel
theorem dX6_isCell_17 : decode cX6_isCell 17 = .ok (.ireturn, 1) := by decide +kernel
theorem dX6_isEdge_0 : decode cX6_isEdge 0 = .ok (.iload_n 1, 1) := by decide +kernel
theorem dX6_isEdge_1 : decode cX6_isEdge 1 = .ok (.ifCond .lt 15, 3) := by decide +kernel
theorem dX6_isEdge_4 : decode cX6_isEdge 4 = .ok (.iload_n 1, 1) := by decide +kernel
theorem dX6_isEdge_5 : decode cX6_isEdge 5 = .ok (.aload_n 0, 1) := by decide +kernel
theorem dX6_isEdge_6 : decode cX6_isEdge 6 = .ok (.getfield 74, 3) := by decide +kernel
theorem dX6_isEdge_9 : decode cX6_isEdge 9 = .ok (.if_icmp .ge 7, 3) := by decide +kernel
theorem dX6_isEdge_12 : decode cX6_isEdge 12 = .ok (.iconst 1, 1) := by decide +kernel
theorem dX6_isEdge_13 : decode cX6_isEdge 13 = .ok (.goto 4, 3) := by decide +kernel
theorem dX6_isEdge_16 : decode cX6_isEdge 16 = .ok (.iconst 0, 1) := by decide +kernel
theorem dX6_isEdge_17 : decode cX6_isEdge 17 = .ok (.ireturn, 1) := by decide +kernel
theorem dX6_cellAt_0 : decode cX6_cellAt 0 = .ok (.iload_n 1, 1) := by decide +kernel
theorem dX6_cellAt_1 : decode cX6_cellAt 1 = .ok (.ifCond .lt 34, 3) := by decide +kernel
theorem dX6_cellAt_4 : decode cX6_cellAt 4 = .ok (.iload_n 1, 1) := by decide +kernel
theorem dX6_cellAt_5 : decode cX6_cellAt 5 = .ok (.aload_n 0, 1) := by decide +kernel
theorem dX6_cellAt_6 : decode cX6_cellAt 6 = .ok (.getfield 77, 3) := by decide +kernel
theorem dX6_cellAt_9 : decode cX6_cellAt 9 = .ok (.if_icmp .ge 26, 3) := by decide +kernel
theorem dX6_cellAt_12 : decode cX6_cellAt 12 = .ok (.iload_n 2, 1) := by decide +kernel
theorem dX6_cellAt_13 : decode cX6_cellAt 13 = .ok (.ifCond .lt 22, 3) := by decide +kernel
theorem dX6_cellAt_16 : decode cX6_cellAt 16 = .ok (.iload_n 2, 1) := by decide +kernel
theorem dX6_cellAt_17 : decode cX6_cellAt 17 = .ok (.aload_n 0, 1) := by decide +kernel
theorem dX6_cellAt_18 : decode cX6_cellAt 18 = .ok (.getfield 80, 3) := by decide +kernel
theorem dX6_cellAt_21 : decode cX6_cellAt 21 = .ok (.if_icmp .ge 14, 3) := by decide +kernel
theorem dX6_cellAt_24 : decode cX6_cellAt 24 = .ok (.iload_n 1, 1) := by decide +kernel
theorem dX6_cellAt_25 : decode cX6_cellAt 25 = .ok (.aload_n 0, 1) := by decide +kernel
theorem dX6_cellAt_26 : decode cX6_cellAt 26 = .ok (.getfield 80, 3) := by decide +kernel
theorem dX6_cellAt_29 : decode cX6_cellAt 29 = .ok (.imul, 1) := by decide +kernel
theorem dX6_cellAt_30 : decode cX6_cellAt 30 = .ok (.iload_n 2, 1) := by decide +kernel
theorem dX6_cellAt_31 : decode cX6_cellAt 31 = .ok (.iadd, 1) := by decide +kernel
theorem dX6_cellAt_32 : decode cX6_cellAt 32 = .ok (.goto 7, 3) := by decide +kernel
theorem dX6_cellAt_35 : decode cX6_cellAt 35 = .ok (.aload_n 0, 1) := by decide +kernel
theorem dX6_cellAt_36 : decode cX6_cellAt 36 = .ok (.getfield 71, 3) := by decide +kernel
theorem dX6_cellAt_39 : decode cX6_cellAt 39 = .ok (.ireturn, 1) := by decide +kernel
theorem dX6_lays_0 : decode cX6_lays 0 = .ok (.aload_n 0, 1) := by decide +kernel
theorem dX6_lays_1 : decode cX6_lays 1 = .ok (.iload_n 1, 1) := by decide +kernel
theorem dX6_lays_2 : decode cX6_lays 2 = .ok (.putfield 80, 3) := by decide +kernel
theorem dX6_lays_5 : decode cX6_lays 5 = .ok (.aload_n 0, 1) := by decide +kernel
theorem dX6_lays_6 : decode cX6_lays 6 = .ok (.iload_n 2, 1) := by decide +kernel
theorem dX6_lays_7 : decode cX6_lays 7 = .ok (.putfield 77, 3) := by decide +kernel
theorem dX6_lays_10 : decode cX6_lays 10 = .ok (.aload_n 0, 1) := by decide +kernel
theorem dX6_lays_11 : decode cX6_lays 11 = .ok (.iload_n 1, 1) := by decide +kernel
theorem dX6_lays_12 : decode cX6_lays 12 = .ok (.iload_n 2, 1) := by decide +kernel
theorem dX6_lays_13 : decode cX6_lays 13 = .ok (.imul, 1) := by decide +kernel
theorem dX6_lays_14 : decode cX6_lays 14 = .ok (.putfield 71, 3) := by decide +kernel
theorem dX6_lays_17 : decode cX6_lays 17 = .ok (.aload_n 0, 1) := by decide +kernel
theorem dX6_lays_18 : decode cX6_lays 18 = .ok (.iload_n 1, 1) := by decide +kernel
theorem dX6_lays_19 : decode cX6_lays 19 = .ok (.iconst 1, 1) := by decide +kernel
theorem dX6_lays_20 : decode cX6_lays 20 = .ok (.iadd, 1) := by decide +kernel
theorem dX6_lays_21 : decode cX6_lays 21 = .ok (.iload_n 2, 1) := by decide +kernel
theorem dX6_lays_22 : decode cX6_lays 22 = .ok (.iconst 1, 1) := by decide +kernel
theorem dX6_lays_23 : decode cX6_lays 23 = .ok (.iadd, 1) := by decide +kernel
theorem dX6_lays_24 : decode cX6_lays 24 = .ok (.imul, 1) := by decide +kernel
theorem dX6_lays_25 : decode cX6_lays 25 = .ok (.putfield 83, 3) := by decide +kernel
theorem dX6_lays_28 : decode cX6_lays 28 = .ok (.iload_n 2, 1) := by decide +kernel
theorem dX6_lays_29 : decode cX6_lays 29 = .ok (.iconst 1, 1) := by decide +kernel
theorem dX6_lays_30 : decode cX6_lays 30 = .ok (.iadd, 1) := by decide +kernel
theorem dX6_lays_31 : decode cX6_lays 31 = .ok (.iload_n 1, 1) := by decide +kernel
theorem dX6_lays_32 : decode cX6_lays 32 = .ok (.imul, 1) := by decide +kernel
theorem dX6_lays_33 : decode cX6_lays 33 = .ok (.istore_n 3, 1) := by decide +kernel
theorem dX6_lays_34 : decode cX6_lays 34 = .ok (.aload_n 0, 1) := by decide +kernel
theorem dX6_lays_35 : decode cX6_lays 35 = .ok (.iload_n 3, 1) := by decide +kernel
theorem dX6_lays_36 : decode cX6_lays 36 = .ok (.iload_n 2, 1) := by decide +kernel
theorem dX6_lays_37 : decode cX6_lays 37 = .ok (.iload_n 1, 1) := by decide +kernel
theorem dX6_lays_38 : decode cX6_lays 38 = .ok (.iconst 1, 1) := by decide +kernel
theorem dX6_lays_39 : decode cX6_lays 39 = .ok (.iadd, 1) := by decide +kernel
theorem dX6_lays_40 : decode cX6_lays 40 = .ok (.imul, 1) := by decide +kernel
theorem dX6_lays_41 : decode cX6_lays 41 = .ok (.iadd, 1) := by decide +kernel
theorem dX6_lays_42 : decode cX6_lays 42 = .ok (.putfield 74, 3) := by decide +kernel
theorem dX6_lays_45 : decode cX6_lays 45 = .ok (.iconst 0, 1) := by decide +kernel
theorem dX6_lays_46 : decode cX6_lays 46 = .ok (.istore 4, 2) := by decide +kernel
theorem dX6_lays_48 : decode cX6_lays 48 = .ok (.iload 4, 2) := by decide +kernel
theorem dX6_lays_50 : decode cX6_lays 50 = .ok (.aload_n 0, 1) := by decide +kernel
theorem dX6_lays_51 : decode cX6_lays 51 = .ok (.getfield 74, 3) := by decide +kernel
theorem dX6_lays_54 : decode cX6_lays 54 = .ok (.if_icmp .ge 175, 3) := by decide +kernel
theorem dX6_lays_57 : decode cX6_lays 57 = .ok (.iload 4, 2) := by decide +kernel
theorem dX6_lays_59 : decode cX6_lays 59 = .ok (.iload_n 3, 1) := by decide +kernel
theorem dX6_lays_60 : decode cX6_lays 60 = .ok (.if_icmp .ge 7, 3) := by decide +kernel
theorem dX6_lays_63 : decode cX6_lays 63 = .ok (.iconst 1, 1) := by decide +kernel
theorem dX6_lays_64 : decode cX6_lays 64 = .ok (.goto 4, 3) := by decide +kernel
theorem dX6_lays_67 : decode cX6_lays 67 = .ok (.iconst 0, 1) := by decide +kernel
theorem dX6_lays_68 : decode cX6_lays 68 = .ok (.istore 5, 2) := by decide +kernel
theorem dX6_lays_70 : decode cX6_lays 70 = .ok (.iload 5, 2) := by decide +kernel
theorem dX6_lays_72 : decode cX6_lays 72 = .ok (.ifCond .eq 10, 3) := by decide +kernel
theorem dX6_lays_75 : decode cX6_lays 75 = .ok (.iload 4, 2) := by decide +kernel
theorem dX6_lays_77 : decode cX6_lays 77 = .ok (.iload_n 1, 1) := by decide +kernel
theorem dX6_lays_78 : decode cX6_lays 78 = .ok (.idiv, 1) := by decide +kernel
theorem dX6_lays_79 : decode cX6_lays 79 = .ok (.goto 11, 3) := by decide +kernel
theorem dX6_lays_82 : decode cX6_lays 82 = .ok (.iload 4, 2) := by decide +kernel
theorem dX6_lays_84 : decode cX6_lays 84 = .ok (.iload_n 3, 1) := by decide +kernel
theorem dX6_lays_85 : decode cX6_lays 85 = .ok (.isub, 1) := by decide +kernel
theorem dX6_lays_86 : decode cX6_lays 86 = .ok (.iload_n 1, 1) := by decide +kernel
theorem dX6_lays_87 : decode cX6_lays 87 = .ok (.iconst 1, 1) := by decide +kernel
theorem dX6_lays_88 : decode cX6_lays 88 = .ok (.iadd, 1) := by decide +kernel
theorem dX6_lays_89 : decode cX6_lays 89 = .ok (.idiv, 1) := by decide +kernel
theorem dX6_lays_90 : decode cX6_lays 90 = .ok (.istore 6, 2) := by decide +kernel
theorem dX6_lays_92 : decode cX6_lays 92 = .ok (.iload 5, 2) := by decide +kernel
theorem dX6_lays_94 : decode cX6_lays 94 = .ok (.ifCond .eq 10, 3) := by decide +kernel
theorem dX6_lays_97 : decode cX6_lays 97 = .ok (.iload 4, 2) := by decide +kernel
theorem dX6_lays_99 : decode cX6_lays 99 = .ok (.iload_n 1, 1) := by decide +kernel
theorem dX6_lays_100 : decode cX6_lays 100 = .ok (.irem, 1) := by decide +kernel
theorem dX6_lays_101 : decode cX6_lays 101 = .ok (.goto 11, 3) := by decide +kernel
theorem dX6_lays_104 : decode cX6_lays 104 = .ok (.iload 4, 2) := by decide +kernel
theorem dX6_lays_106 : decode cX6_lays 106 = .ok (.iload_n 3, 1) := by decide +kernel
theorem dX6_lays_107 : decode cX6_lays 107 = .ok (.isub, 1) := by decide +kernel
theorem dX6_lays_108 : decode cX6_lays 108 = .ok (.iload_n 1, 1) := by decide +kernel
theorem dX6_lays_109 : decode cX6_lays 109 = .ok (.iconst 1, 1) := by decide +kernel
theorem dX6_lays_110 : decode cX6_lays 110 = .ok (.iadd, 1) := by decide +kernel
theorem dX6_lays_111 : decode cX6_lays 111 = .ok (.irem, 1) := by decide +kernel
theorem dX6_lays_112 : decode cX6_lays 112 = .ok (.istore 7, 2) := by decide +kernel
theorem dX6_lays_114 : decode cX6_lays 114 = .ok (.aload_n 0, 1) := by decide +kernel
theorem dX6_lays_115 : decode cX6_lays 115 = .ok (.getfield 7, 3) := by decide +kernel
theorem dX6_lays_118 : decode cX6_lays 118 = .ok (.iload 4, 2) := by decide +kernel
theorem dX6_lays_120 : decode cX6_lays 120 = .ok (.iload 6, 2) := by decide +kernel
theorem dX6_lays_122 : decode cX6_lays 122 = .ok (.iload_n 1, 1) := by decide +kernel
theorem dX6_lays_123 : decode cX6_lays 123 = .ok (.iconst 1, 1) := by decide +kernel
theorem dX6_lays_124 : decode cX6_lays 124 = .ok (.iadd, 1) := by decide +kernel
theorem dX6_lays_125 : decode cX6_lays 125 = .ok (.imul, 1) := by decide +kernel
theorem dX6_lays_126 : decode cX6_lays 126 = .ok (.iload 7, 2) := by decide +kernel
theorem dX6_lays_128 : decode cX6_lays 128 = .ok (.iadd, 1) := by decide +kernel
theorem dX6_lays_129 : decode cX6_lays 129 = .ok (.iastore, 1) := by decide +kernel
theorem dX6_lays_130 : decode cX6_lays 130 = .ok (.aload_n 0, 1) := by decide +kernel
theorem dX6_lays_131 : decode cX6_lays 131 = .ok (.getfield 13, 3) := by decide +kernel
theorem dX6_lays_134 : decode cX6_lays 134 = .ok (.iload 4, 2) := by decide +kernel
theorem dX6_lays_136 : decode cX6_lays 136 = .ok (.iload 5, 2) := by decide +kernel
theorem dX6_lays_138 : decode cX6_lays 138 = .ok (.ifCond .eq 15, 3) := by decide +kernel
theorem dX6_lays_141 : decode cX6_lays 141 = .ok (.aload_n 0, 1) := by decide +kernel
theorem dX6_lays_142 : decode cX6_lays 142 = .ok (.getfield 7, 3) := by decide +kernel
theorem dX6_lays_145 : decode cX6_lays 145 = .ok (.iload 4, 2) := by decide +kernel
theorem dX6_lays_147 : decode cX6_lays 147 = .ok (.iaload, 1) := by decide +kernel
theorem dX6_lays_148 : decode cX6_lays 148 = .ok (.iconst 1, 1) := by decide +kernel
theorem dX6_lays_149 : decode cX6_lays 149 = .ok (.iadd, 1) := by decide +kernel
theorem dX6_lays_150 : decode cX6_lays 150 = .ok (.goto 14, 3) := by decide +kernel
theorem dX6_lays_153 : decode cX6_lays 153 = .ok (.aload_n 0, 1) := by decide +kernel
theorem dX6_lays_154 : decode cX6_lays 154 = .ok (.getfield 7, 3) := by decide +kernel
theorem dX6_lays_157 : decode cX6_lays 157 = .ok (.iload 4, 2) := by decide +kernel
theorem dX6_lays_159 : decode cX6_lays 159 = .ok (.iaload, 1) := by decide +kernel
theorem dX6_lays_160 : decode cX6_lays 160 = .ok (.iload_n 1, 1) := by decide +kernel
theorem dX6_lays_161 : decode cX6_lays 161 = .ok (.iadd, 1) := by decide +kernel
theorem dX6_lays_162 : decode cX6_lays 162 = .ok (.iconst 1, 1) := by decide +kernel
theorem dX6_lays_163 : decode cX6_lays 163 = .ok (.iadd, 1) := by decide +kernel
theorem dX6_lays_164 : decode cX6_lays 164 = .ok (.iastore, 1) := by decide +kernel
theorem dX6_lays_165 : decode cX6_lays 165 = .ok (.aload_n 0, 1) := by decide +kernel
theorem dX6_lays_166 : decode cX6_lays 166 = .ok (.getfield 16, 3) := by decide +kernel
theorem dX6_lays_169 : decode cX6_lays 169 = .ok (.iload 4, 2) := by decide +kernel
theorem dX6_lays_171 : decode cX6_lays 171 = .ok (.iload 5, 2) := by decide +kernel
theorem dX6_lays_173 : decode cX6_lays 173 = .ok (.ifCond .eq 16, 3) := by decide +kernel
theorem dX6_lays_176 : decode cX6_lays 176 = .ok (.aload_n 0, 1) := by decide +kernel
theorem dX6_lays_177 : decode cX6_lays 177 = .ok (.iload 6, 2) := by decide +kernel
theorem dX6_lays_179 : decode cX6_lays 179 = .ok (.iconst 1, 1) := by decide +kernel
theorem dX6_lays_180 : decode cX6_lays 180 = .ok (.isub, 1) := by decide +kernel
theorem dX6_lays_181 : decode cX6_lays 181 = .ok (.iload 7, 2) := by decide +kernel
theorem dX6_lays_183 : decode cX6_lays 183 = .ok (.invokevirtual 86, 3) := by decide +kernel
theorem dX6_lays_186 : decode cX6_lays 186 = .ok (.goto 13, 3) := by decide +kernel
theorem dX6_lays_189 : decode cX6_lays 189 = .ok (.aload_n 0, 1) := by decide +kernel
theorem dX6_lays_190 : decode cX6_lays 190 = .ok (.iload 6, 2) := by decide +kernel
theorem dX6_lays_192 : decode cX6_lays 192 = .ok (.iload 7, 2) := by decide +kernel
theorem dX6_lays_194 : decode cX6_lays 194 = .ok (.iconst 1, 1) := by decide +kernel
theorem dX6_lays_195 : decode cX6_lays 195 = .ok (.isub, 1) := by decide +kernel
theorem dX6_lays_196 : decode cX6_lays 196 = .ok (.invokevirtual 86, 3) := by decide +kernel
theorem dX6_lays_199 : decode cX6_lays 199 = .ok (.iastore, 1) := by decide +kernel
theorem dX6_lays_200 : decode cX6_lays 200 = .ok (.aload_n 0, 1) := by decide +kernel
theorem dX6_lays_201 : decode cX6_lays 201 = .ok (.getfield 19, 3) := by decide +kernel
theorem dX6_lays_204 : decode cX6_lays 204 = .ok (.iload 4, 2) := by decide +kernel
theorem dX6_lays_206 : decode cX6_lays 206 = .ok (.aload_n 0, 1) := by decide +kernel
theorem dX6_lays_207 : decode cX6_lays 207 = .ok (.iload 6, 2) := by decide +kernel
theorem dX6_lays_209 : decode cX6_lays 209 = .ok (.iload 7, 2) := by decide +kernel
theorem dX6_lays_211 : decode cX6_lays 211 = .ok (.invokevirtual 86, 3) := by decide +kernel
theorem dX6_lays_214 : decode cX6_lays 214 = .ok (.iastore, 1) := by decide +kernel
theorem dX6_lays_215 : decode cX6_lays 215 = .ok (.aload_n 0, 1) := by decide +kernel
theorem dX6_lays_216 : decode cX6_lays 216 = .ok (.getfield 28, 3) := by decide +kernel
theorem dX6_lays_219 : decode cX6_lays 219 = .ok (.iload 4, 2) := by decide +kernel
theorem dX6_lays_221 : decode cX6_lays 221 = .ok (.iconst 0, 1) := by decide +kernel
theorem dX6_lays_222 : decode cX6_lays 222 = .ok (.iastore, 1) := by decide +kernel
theorem dX6_lays_223 : decode cX6_lays 223 = .ok (.iinc 4 1, 3) := by decide +kernel
theorem dX6_lays_226 : decode cX6_lays 226 = .ok (.goto (-178), 3) := by decide +kernel
theorem dX6_lays_229 : decode cX6_lays 229 = .ok (.iconst 0, 1) := by decide +kernel
theorem dX6_lays_230 : decode cX6_lays 230 = .ok (.istore 4, 2) := by decide +kernel
theorem dX6_lays_232 : decode cX6_lays 232 = .ok (.iload 4, 2) := by decide +kernel
theorem dX6_lays_234 : decode cX6_lays 234 = .ok (.aload_n 0, 1) := by decide +kernel
theorem dX6_lays_235 : decode cX6_lays 235 = .ok (.getfield 71, 3) := by decide +kernel
theorem dX6_lays_238 : decode cX6_lays 238 = .ok (.if_icmp .ge 111, 3) := by decide +kernel
theorem dX6_lays_241 : decode cX6_lays 241 = .ok (.iload 4, 2) := by decide +kernel
theorem dX6_lays_243 : decode cX6_lays 243 = .ok (.iload_n 1, 1) := by decide +kernel
theorem dX6_lays_244 : decode cX6_lays 244 = .ok (.idiv, 1) := by decide +kernel
theorem dX6_lays_245 : decode cX6_lays 245 = .ok (.istore 5, 2) := by decide +kernel
theorem dX6_lays_247 : decode cX6_lays 247 = .ok (.iload 4, 2) := by decide +kernel
theorem dX6_lays_249 : decode cX6_lays 249 = .ok (.iload_n 1, 1) := by decide +kernel
theorem dX6_lays_250 : decode cX6_lays 250 = .ok (.irem, 1) := by decide +kernel
theorem dX6_lays_251 : decode cX6_lays 251 = .ok (.istore 6, 2) := by decide +kernel
theorem dX6_lays_253 : decode cX6_lays 253 = .ok (.aload_n 0, 1) := by decide +kernel
theorem dX6_lays_254 : decode cX6_lays 254 = .ok (.getfield 22, 3) := by decide +kernel
theorem dX6_lays_257 : decode cX6_lays 257 = .ok (.iconst 4, 1) := by decide +kernel
theorem dX6_lays_258 : decode cX6_lays 258 = .ok (.iload 4, 2) := by decide +kernel
theorem dX6_lays_260 : decode cX6_lays 260 = .ok (.imul, 1) := by decide +kernel
theorem dX6_lays_261 : decode cX6_lays 261 = .ok (.iload 5, 2) := by decide +kernel
theorem dX6_lays_263 : decode cX6_lays 263 = .ok (.iload_n 1, 1) := by decide +kernel
theorem dX6_lays_264 : decode cX6_lays 264 = .ok (.imul, 1) := by decide +kernel
theorem dX6_lays_265 : decode cX6_lays 265 = .ok (.iload 6, 2) := by decide +kernel
theorem dX6_lays_267 : decode cX6_lays 267 = .ok (.iadd, 1) := by decide +kernel
theorem dX6_lays_268 : decode cX6_lays 268 = .ok (.iastore, 1) := by decide +kernel
theorem dX6_lays_269 : decode cX6_lays 269 = .ok (.aload_n 0, 1) := by decide +kernel
theorem dX6_lays_270 : decode cX6_lays 270 = .ok (.getfield 22, 3) := by decide +kernel
theorem dX6_lays_273 : decode cX6_lays 273 = .ok (.iconst 4, 1) := by decide +kernel
theorem dX6_lays_274 : decode cX6_lays 274 = .ok (.iload 4, 2) := by decide +kernel
theorem dX6_lays_276 : decode cX6_lays 276 = .ok (.imul, 1) := by decide +kernel
theorem dX6_lays_277 : decode cX6_lays 277 = .ok (.iconst 1, 1) := by decide +kernel
theorem dX6_lays_278 : decode cX6_lays 278 = .ok (.iadd, 1) := by decide +kernel
theorem dX6_lays_279 : decode cX6_lays 279 = .ok (.iload 5, 2) := by decide +kernel
theorem dX6_lays_281 : decode cX6_lays 281 = .ok (.iconst 1, 1) := by decide +kernel
theorem dX6_lays_282 : decode cX6_lays 282 = .ok (.iadd, 1) := by decide +kernel
theorem dX6_lays_283 : decode cX6_lays 283 = .ok (.iload_n 1, 1) := by decide +kernel
theorem dX6_lays_284 : decode cX6_lays 284 = .ok (.imul, 1) := by decide +kernel
theorem dX6_lays_285 : decode cX6_lays 285 = .ok (.iload 6, 2) := by decide +kernel
theorem dX6_lays_287 : decode cX6_lays 287 = .ok (.iadd, 1) := by decide +kernel
theorem dX6_lays_288 : decode cX6_lays 288 = .ok (.iastore, 1) := by decide +kernel
theorem dX6_lays_289 : decode cX6_lays 289 = .ok (.aload_n 0, 1) := by decide +kernel
theorem dX6_lays_290 : decode cX6_lays 290 = .ok (.getfield 22, 3) := by decide +kernel
theorem dX6_lays_293 : decode cX6_lays 293 = .ok (.iconst 4, 1) := by decide +kernel
theorem dX6_lays_294 : decode cX6_lays 294 = .ok (.iload 4, 2) := by decide +kernel
theorem dX6_lays_296 : decode cX6_lays 296 = .ok (.imul, 1) := by decide +kernel
theorem dX6_lays_297 : decode cX6_lays 297 = .ok (.iconst 2, 1) := by decide +kernel
theorem dX6_lays_298 : decode cX6_lays 298 = .ok (.iadd, 1) := by decide +kernel
theorem dX6_lays_299 : decode cX6_lays 299 = .ok (.iload_n 3, 1) := by decide +kernel
theorem dX6_lays_300 : decode cX6_lays 300 = .ok (.iload 5, 2) := by decide +kernel
theorem dX6_lays_302 : decode cX6_lays 302 = .ok (.iload_n 1, 1) := by decide +kernel
theorem dX6_lays_303 : decode cX6_lays 303 = .ok (.iconst 1, 1) := by decide +kernel
theorem dX6_lays_304 : decode cX6_lays 304 = .ok (.iadd, 1) := by decide +kernel
theorem dX6_lays_305 : decode cX6_lays 305 = .ok (.imul, 1) := by decide +kernel
theorem dX6_lays_306 : decode cX6_lays 306 = .ok (.iadd, 1) := by decide +kernel
theorem dX6_lays_307 : decode cX6_lays 307 = .ok (.iload 6, 2) := by decide +kernel
theorem dX6_lays_309 : decode cX6_lays 309 = .ok (.iadd, 1) := by decide +kernel
theorem dX6_lays_310 : decode cX6_lays 310 = .ok (.iastore, 1) := by decide +kernel
theorem dX6_lays_311 : decode cX6_lays 311 = .ok (.aload_n 0, 1) := by decide +kernel
theorem dX6_lays_312 : decode cX6_lays 312 = .ok (.getfield 22, 3) := by decide +kernel
theorem dX6_lays_315 : decode cX6_lays 315 = .ok (.iconst 4, 1) := by decide +kernel
theorem dX6_lays_316 : decode cX6_lays 316 = .ok (.iload 4, 2) := by decide +kernel
theorem dX6_lays_318 : decode cX6_lays 318 = .ok (.imul, 1) := by decide +kernel
theorem dX6_lays_319 : decode cX6_lays 319 = .ok (.iconst 3, 1) := by decide +kernel
theorem dX6_lays_320 : decode cX6_lays 320 = .ok (.iadd, 1) := by decide +kernel
theorem dX6_lays_321 : decode cX6_lays 321 = .ok (.aload_n 0, 1) := by decide +kernel
theorem dX6_lays_322 : decode cX6_lays 322 = .ok (.getfield 22, 3) := by decide +kernel
theorem dX6_lays_325 : decode cX6_lays 325 = .ok (.iconst 4, 1) := by decide +kernel
theorem dX6_lays_326 : decode cX6_lays 326 = .ok (.iload 4, 2) := by decide +kernel
theorem dX6_lays_328 : decode cX6_lays 328 = .ok (.imul, 1) := by decide +kernel
theorem dX6_lays_329 : decode cX6_lays 329 = .ok (.iconst 2, 1) := by decide +kernel
theorem dX6_lays_330 : decode cX6_lays 330 = .ok (.iadd, 1) := by decide +kernel
theorem dX6_lays_331 : decode cX6_lays 331 = .ok (.iaload, 1) := by decide +kernel
theorem dX6_lays_332 : decode cX6_lays 332 = .ok (.iconst 1, 1) := by decide +kernel
theorem dX6_lays_333 : decode cX6_lays 333 = .ok (.iadd, 1) := by decide +kernel
theorem dX6_lays_334 : decode cX6_lays 334 = .ok (.iastore, 1) := by decide +kernel
theorem dX6_lays_335 : decode cX6_lays 335 = .ok (.aload_n 0, 1) := by decide +kernel
theorem dX6_lays_336 : decode cX6_lays 336 = .ok (.getfield 25, 3) := by decide +kernel
theorem dX6_lays_339 : decode cX6_lays 339 = .ok (.iload 4, 2) := by decide +kernel
theorem dX6_lays_341 : decode cX6_lays 341 = .ok (.iconst (-1), 1) := by decide +kernel
theorem dX6_lays_342 : decode cX6_lays 342 = .ok (.iastore, 1) := by decide +kernel
theorem dX6_lays_343 : decode cX6_lays 343 = .ok (.iinc 4 1, 3) := by decide +kernel
theorem dX6_lays_346 : decode cX6_lays 346 = .ok (.goto (-114), 3) := by decide +kernel
theorem dX6_lays_349 : decode cX6_lays 349 = .ok (.return_, 1) := by decide +kernel
theorem dX6_lay_0 : decode cX6_lay 0 = .ok (.aload_n 0, 1) := by decide +kernel
theorem dX6_lay_1 : decode cX6_lay 1 = .ok (.iload_n 1, 1) := by decide +kernel
theorem dX6_lay_2 : decode cX6_lay 2 = .ok (.iconst 1, 1) := by decide +kernel
theorem dX6_lay_3 : decode cX6_lay 3 = .ok (.if_icmp .lt 22, 3) := by decide +kernel
theorem dX6_lay_6 : decode cX6_lay 6 = .ok (.iload_n 1, 1) := by decide +kernel
theorem dX6_lay_7 : decode cX6_lay 7 = .ok (.iconst 4, 1) := by decide +kernel
theorem dX6_lay_8 : decode cX6_lay 8 = .ok (.if_icmp .gt 17, 3) := by decide +kernel
theorem dX6_lay_11 : decode cX6_lay 11 = .ok (.iload_n 2, 1) := by decide +kernel
theorem dX6_lay_12 : decode cX6_lay 12 = .ok (.iconst 1, 1) := by decide +kernel
theorem dX6_lay_13 : decode cX6_lay 13 = .ok (.if_icmp .lt 12, 3) := by decide +kernel
theorem dX6_lay_16 : decode cX6_lay 16 = .ok (.iload_n 2, 1) := by decide +kernel
theorem dX6_lay_17 : decode cX6_lay 17 = .ok (.iconst 4, 1) := by decide +kernel
theorem dX6_lay_18 : decode cX6_lay 18 = .ok (.if_icmp .gt 7, 3) := by decide +kernel
theorem dX6_lay_21 : decode cX6_lay 21 = .ok (.iconst 1, 1) := by decide +kernel
theorem dX6_lay_22 : decode cX6_lay 22 = .ok (.goto 4, 3) := by decide +kernel
theorem dX6_lay_25 : decode cX6_lay 25 = .ok (.iconst 0, 1) := by decide +kernel
theorem dX6_lay_26 : decode cX6_lay 26 = .ok (.invokevirtual 90, 3) := by decide +kernel
theorem dX6_lay_29 : decode cX6_lay 29 = .ok (.ifCond .eq 9, 3) := by decide +kernel
theorem dX6_lay_32 : decode cX6_lay 32 = .ok (.aload_n 0, 1) := by decide +kernel
theorem dX6_lay_33 : decode cX6_lay 33 = .ok (.iload_n 1, 1) := by decide +kernel
theorem dX6_lay_34 : decode cX6_lay 34 = .ok (.iload_n 2, 1) := by decide +kernel
theorem dX6_lay_35 : decode cX6_lay 35 = .ok (.invokevirtual 63, 3) := by decide +kernel
theorem dX6_lay_38 : decode cX6_lay 38 = .ok (.return_, 1) := by decide +kernel
theorem dX6_cells_0 : decode cX6_cells 0 = .ok (.aload_n 0, 1) := by decide +kernel
theorem dX6_cells_1 : decode cX6_cells 1 = .ok (.iconst 0, 1) := by decide +kernel
theorem dX6_cells_2 : decode cX6_cells 2 = .ok (.putfield 67, 3) := by decide +kernel
theorem dX6_cells_5 : decode cX6_cells 5 = .ok (.aload_n 0, 1) := by decide +kernel
theorem dX6_cells_6 : decode cX6_cells 6 = .ok (.getfield 71, 3) := by decide +kernel
theorem dX6_cells_9 : decode cX6_cells 9 = .ok (.ireturn, 1) := by decide +kernel
theorem dX6_edges_0 : decode cX6_edges 0 = .ok (.aload_n 0, 1) := by decide +kernel
theorem dX6_edges_1 : decode cX6_edges 1 = .ok (.iconst 0, 1) := by decide +kernel
theorem dX6_edges_2 : decode cX6_edges 2 = .ok (.putfield 67, 3) := by decide +kernel
theorem dX6_edges_5 : decode cX6_edges 5 = .ok (.aload_n 0, 1) := by decide +kernel
theorem dX6_edges_6 : decode cX6_edges 6 = .ok (.getfield 74, 3) := by decide +kernel
theorem dX6_edges_9 : decode cX6_edges 9 = .ok (.ireturn, 1) := by decide +kernel
theorem dX6_number_0 : decode cX6_number 0 = .ok (.aload_n 0, 1) := by decide +kernel
theorem dX6_number_1 : decode cX6_number 1 = .ok (.aload_n 0, 1) := by decide +kernel
theorem dX6_number_2 : decode cX6_number 2 = .ok (.iload_n 1, 1) := by decide +kernel
theorem dX6_number_3 : decode cX6_number 3 = .ok (.invokevirtual 94, 3) := by decide +kernel
theorem dX6_number_6 : decode cX6_number 6 = .ok (.iload_n 2, 1) := by decide +kernel
theorem dX6_number_7 : decode cX6_number 7 = .ok (.iconst (-1), 1) := by decide +kernel
theorem dX6_number_8 : decode cX6_number 8 = .ok (.if_icmp .lt 12, 3) := by decide +kernel
theorem dX6_number_11 : decode cX6_number 11 = .ok (.iload_n 2, 1) := by decide +kernel
theorem dX6_number_12 : decode cX6_number 12 = .ok (.iconst 3, 1) := by decide +kernel
theorem dX6_number_13 : decode cX6_number 13 = .ok (.if_icmp .gt 7, 3) := by decide +kernel
theorem dX6_number_16 : decode cX6_number 16 = .ok (.iconst 1, 1) := by decide +kernel
theorem dX6_number_17 : decode cX6_number 17 = .ok (.goto 4, 3) := by decide +kernel
theorem dX6_number_20 : decode cX6_number 20 = .ok (.iconst 0, 1) := by decide +kernel
theorem dX6_number_21 : decode cX6_number 21 = .ok (.invokevirtual 98, 3) := by decide +kernel
theorem dX6_number_24 : decode cX6_number 24 = .ok (.ifCond .ne 5, 3) := by decide +kernel
theorem dX6_number_27 : decode cX6_number 27 = .ok (.iconst 0, 1) := by decide +kernel
theorem dX6_number_28 : decode cX6_number 28 = .ok (.ireturn, 1) := by decide +kernel
theorem dX6_number_29 : decode cX6_number 29 = .ok (.aload_n 0, 1) := by decide +kernel
theorem dX6_number_30 : decode cX6_number 30 = .ok (.getfield 25, 3) := by decide +kernel
theorem dX6_number_33 : decode cX6_number 33 = .ok (.iload_n 1, 1) := by decide +kernel
theorem dX6_number_34 : decode cX6_number 34 = .ok (.iaload, 1) := by decide +kernel
theorem dX6_number_35 : decode cX6_number 35 = .ok (.istore_n 3, 1) := by decide +kernel
theorem dX6_number_36 : decode cX6_number 36 = .ok (.aload_n 0, 1) := by decide +kernel
theorem dX6_number_37 : decode cX6_number 37 = .ok (.getfield 25, 3) := by decide +kernel
theorem dX6_number_40 : decode cX6_number 40 = .ok (.iload_n 1, 1) := by decide +kernel
theorem dX6_number_41 : decode cX6_number 41 = .ok (.iload_n 2, 1) := by decide +kernel
theorem dX6_number_42 : decode cX6_number 42 = .ok (.iastore, 1) := by decide +kernel
theorem dX6_number_43 : decode cX6_number 43 = .ok (.iload_n 3, 1) := by decide +kernel
theorem dX6_number_44 : decode cX6_number 44 = .ok (.ireturn, 1) := by decide +kernel
theorem dX6_mark_0 : decode cX6_mark 0 = .ok (.aload_n 0, 1) := by decide +kernel
theorem dX6_mark_1 : decode cX6_mark 1 = .ok (.aload_n 0, 1) := by decide +kernel
theorem dX6_mark_2 : decode cX6_mark 2 = .ok (.iload_n 1, 1) := by decide +kernel
theorem dX6_mark_3 : decode cX6_mark 3 = .ok (.invokevirtual 102, 3) := by decide +kernel
theorem dX6_mark_6 : decode cX6_mark 6 = .ok (.iload_n 2, 1) := by decide +kernel
theorem dX6_mark_7 : decode cX6_mark 7 = .ok (.ifCond .lt 12, 3) := by decide +kernel
theorem dX6_mark_10 : decode cX6_mark 10 = .ok (.iload_n 2, 1) := by decide +kernel
theorem dX6_mark_11 : decode cX6_mark 11 = .ok (.iconst 2, 1) := by decide +kernel
theorem dX6_mark_12 : decode cX6_mark 12 = .ok (.if_icmp .gt 7, 3) := by decide +kernel
theorem dX6_mark_15 : decode cX6_mark 15 = .ok (.iconst 1, 1) := by decide +kernel
theorem dX6_mark_16 : decode cX6_mark 16 = .ok (.goto 4, 3) := by decide +kernel
theorem dX6_mark_19 : decode cX6_mark 19 = .ok (.iconst 0, 1) := by decide +kernel
theorem dX6_mark_20 : decode cX6_mark 20 = .ok (.invokevirtual 98, 3) := by decide +kernel
theorem dX6_mark_23 : decode cX6_mark 23 = .ok (.ifCond .ne 5, 3) := by decide +kernel
theorem dX6_mark_26 : decode cX6_mark 26 = .ok (.iconst 0, 1) := by decide +kernel
theorem dX6_mark_27 : decode cX6_mark 27 = .ok (.ireturn, 1) := by decide +kernel
theorem dX6_mark_28 : decode cX6_mark 28 = .ok (.aload_n 0, 1) := by decide +kernel
theorem dX6_mark_29 : decode cX6_mark 29 = .ok (.getfield 28, 3) := by decide +kernel
theorem dX6_mark_32 : decode cX6_mark 32 = .ok (.iload_n 1, 1) := by decide +kernel
theorem dX6_mark_33 : decode cX6_mark 33 = .ok (.iaload, 1) := by decide +kernel
theorem dX6_mark_34 : decode cX6_mark 34 = .ok (.istore_n 3, 1) := by decide +kernel
theorem dX6_mark_35 : decode cX6_mark 35 = .ok (.aload_n 0, 1) := by decide +kernel
theorem dX6_mark_36 : decode cX6_mark 36 = .ok (.getfield 28, 3) := by decide +kernel
theorem dX6_mark_39 : decode cX6_mark 39 = .ok (.iload_n 1, 1) := by decide +kernel
theorem dX6_mark_40 : decode cX6_mark 40 = .ok (.iload_n 2, 1) := by decide +kernel
theorem dX6_mark_41 : decode cX6_mark 41 = .ok (.iastore, 1) := by decide +kernel
theorem dX6_mark_42 : decode cX6_mark 42 = .ok (.iload_n 3, 1) := by decide +kernel
theorem dX6_mark_43 : decode cX6_mark 43 = .ok (.ireturn, 1) := by decide +kernel
theorem dX6_wipe_0 : decode cX6_wipe 0 = .ok (.aload_n 0, 1) := by decide +kernel
theorem dX6_wipe_1 : decode cX6_wipe 1 = .ok (.iconst 0, 1) := by decide +kernel
theorem dX6_wipe_2 : decode cX6_wipe 2 = .ok (.putfield 67, 3) := by decide +kernel
theorem dX6_wipe_5 : decode cX6_wipe 5 = .ok (.iconst 0, 1) := by decide +kernel
theorem dX6_wipe_6 : decode cX6_wipe 6 = .ok (.istore_n 1, 1) := by decide +kernel
theorem dX6_wipe_7 : decode cX6_wipe 7 = .ok (.iload_n 1, 1) := by decide +kernel
theorem dX6_wipe_8 : decode cX6_wipe 8 = .ok (.aload_n 0, 1) := by decide +kernel
theorem dX6_wipe_9 : decode cX6_wipe 9 = .ok (.getfield 74, 3) := by decide +kernel
theorem dX6_wipe_12 : decode cX6_wipe 12 = .ok (.if_icmp .ge 16, 3) := by decide +kernel
theorem dX6_wipe_15 : decode cX6_wipe 15 = .ok (.aload_n 0, 1) := by decide +kernel
theorem dX6_wipe_16 : decode cX6_wipe 16 = .ok (.getfield 28, 3) := by decide +kernel
theorem dX6_wipe_19 : decode cX6_wipe 19 = .ok (.iload_n 1, 1) := by decide +kernel
theorem dX6_wipe_20 : decode cX6_wipe 20 = .ok (.iconst 0, 1) := by decide +kernel
theorem dX6_wipe_21 : decode cX6_wipe 21 = .ok (.iastore, 1) := by decide +kernel
theorem dX6_wipe_22 : decode cX6_wipe 22 = .ok (.iinc 1 1, 3) := by decide +kernel
theorem dX6_wipe_25 : decode cX6_wipe 25 = .ok (.goto (-18), 3) := by decide +kernel
theorem dX6_wipe_28 : decode cX6_wipe 28 = .ok (.return_, 1) := by decide +kernel
theorem dX6_markAll_0 : decode cX6_markAll 0 = .ok (.aload_n 0, 1) := by decide +kernel
theorem dX6_markAll_1 : decode cX6_markAll 1 = .ok (.iconst 0, 1) := by decide +kernel
theorem dX6_markAll_2 : decode cX6_markAll 2 = .ok (.putfield 67, 3) := by decide +kernel
theorem dX6_markAll_5 : decode cX6_markAll 5 = .ok (.aload_n 0, 1) := by decide +kernel
theorem dX6_markAll_6 : decode cX6_markAll 6 = .ok (.invokevirtual 105, 3) := by decide +kernel
theorem dX6_markAll_9 : decode cX6_markAll 9 = .ok (.iconst 0, 1) := by decide +kernel
theorem dX6_markAll_10 : decode cX6_markAll 10 = .ok (.istore_n 1, 1) := by decide +kernel
theorem dX6_markAll_11 : decode cX6_markAll 11 = .ok (.iconst 0, 1) := by decide +kernel
theorem dX6_markAll_12 : decode cX6_markAll 12 = .ok (.istore_n 2, 1) := by decide +kernel
theorem dX6_markAll_13 : decode cX6_markAll 13 = .ok (.iload_n 2, 1) := by decide +kernel
theorem dX6_markAll_14 : decode cX6_markAll 14 = .ok (.aload_n 0, 1) := by decide +kernel
theorem dX6_markAll_15 : decode cX6_markAll 15 = .ok (.getfield 74, 3) := by decide +kernel
theorem dX6_markAll_18 : decode cX6_markAll 18 = .ok (.if_icmp .ge 51, 3) := by decide +kernel
theorem dX6_markAll_21 : decode cX6_markAll 21 = .ok (.aload_n 0, 1) := by decide +kernel
theorem dX6_markAll_22 : decode cX6_markAll 22 = .ok (.getfield 108, 3) := by decide +kernel
theorem dX6_markAll_25 : decode cX6_markAll 25 = .ok (.ifCond .ne 44, 3) := by decide +kernel
theorem dX6_markAll_28 : decode cX6_markAll 28 = .ok (.iload_n 1, 1) := by decide +kernel
theorem dX6_markAll_29 : decode cX6_markAll 29 = .ok (.aload_n 0, 1) := by decide +kernel
theorem dX6_markAll_30 : decode cX6_markAll 30 = .ok (.getfield 28, 3) := by decide +kernel
theorem dX6_markAll_33 : decode cX6_markAll 33 = .ok (.iload_n 2, 1) := by decide +kernel
theorem dX6_markAll_34 : decode cX6_markAll 34 = .ok (.iaload, 1) := by decide +kernel
theorem dX6_markAll_35 : decode cX6_markAll 35 = .ok (.aload_n 0, 1) := by decide +kernel
theorem dX6_markAll_36 : decode cX6_markAll 36 = .ok (.getfield 31, 3) := by decide +kernel
theorem dX6_markAll_39 : decode cX6_markAll 39 = .ok (.iload_n 2, 1) := by decide +kernel
theorem dX6_markAll_40 : decode cX6_markAll 40 = .ok (.iaload, 1) := by decide +kernel
theorem dX6_markAll_41 : decode cX6_markAll 41 = .ok (.if_icmp .ne 7, 3) := by decide +kernel
theorem dX6_markAll_44 : decode cX6_markAll 44 = .ok (.iconst 0, 1) := by decide +kernel
theorem dX6_markAll_45 : decode cX6_markAll 45 = .ok (.goto 4, 3) := by decide +kernel
theorem dX6_markAll_48 : decode cX6_markAll 48 = .ok (.iconst 1, 1) := by decide +kernel
theorem dX6_markAll_49 : decode cX6_markAll 49 = .ok (.iadd, 1) := by decide +kernel
theorem dX6_markAll_50 : decode cX6_markAll 50 = .ok (.istore_n 1, 1) := by decide +kernel
theorem dX6_markAll_51 : decode cX6_markAll 51 = .ok (.aload_n 0, 1) := by decide +kernel
theorem dX6_markAll_52 : decode cX6_markAll 52 = .ok (.getfield 28, 3) := by decide +kernel
theorem dX6_markAll_55 : decode cX6_markAll 55 = .ok (.iload_n 2, 1) := by decide +kernel
theorem dX6_markAll_56 : decode cX6_markAll 56 = .ok (.aload_n 0, 1) := by decide +kernel
theorem dX6_markAll_57 : decode cX6_markAll 57 = .ok (.getfield 31, 3) := by decide +kernel
theorem dX6_markAll_60 : decode cX6_markAll 60 = .ok (.iload_n 2, 1) := by decide +kernel
theorem dX6_markAll_61 : decode cX6_markAll 61 = .ok (.iaload, 1) := by decide +kernel
theorem dX6_markAll_62 : decode cX6_markAll 62 = .ok (.iastore, 1) := by decide +kernel
theorem dX6_markAll_63 : decode cX6_markAll 63 = .ok (.iinc 2 1, 3) := by decide +kernel
theorem dX6_markAll_66 : decode cX6_markAll 66 = .ok (.goto (-53), 3) := by decide +kernel
theorem dX6_markAll_69 : decode cX6_markAll 69 = .ok (.iload_n 1, 1) := by decide +kernel
theorem dX6_markAll_70 : decode cX6_markAll 70 = .ok (.ireturn, 1) := by decide +kernel
theorem dX6_edgeOf_0 : decode cX6_edgeOf 0 = .ok (.aload_n 0, 1) := by decide +kernel
theorem dX6_edgeOf_1 : decode cX6_edgeOf 1 = .ok (.aload_n 0, 1) := by decide +kernel
theorem dX6_edgeOf_2 : decode cX6_edgeOf 2 = .ok (.iload_n 1, 1) := by decide +kernel
theorem dX6_edgeOf_3 : decode cX6_edgeOf 3 = .ok (.invokevirtual 94, 3) := by decide +kernel
theorem dX6_edgeOf_6 : decode cX6_edgeOf 6 = .ok (.ifCond .eq 16, 3) := by decide +kernel
theorem dX6_edgeOf_9 : decode cX6_edgeOf 9 = .ok (.iload_n 2, 1) := by decide +kernel
theorem dX6_edgeOf_10 : decode cX6_edgeOf 10 = .ok (.ifCond .lt 12, 3) := by decide +kernel
theorem dX6_edgeOf_13 : decode cX6_edgeOf 13 = .ok (.iload_n 2, 1) := by decide +kernel
theorem dX6_edgeOf_14 : decode cX6_edgeOf 14 = .ok (.iconst 4, 1) := by decide +kernel
theorem dX6_edgeOf_15 : decode cX6_edgeOf 15 = .ok (.if_icmp .ge 7, 3) := by decide +kernel
theorem dX6_edgeOf_18 : decode cX6_edgeOf 18 = .ok (.iconst 1, 1) := by decide +kernel
theorem dX6_edgeOf_19 : decode cX6_edgeOf 19 = .ok (.goto 4, 3) := by decide +kernel
theorem dX6_edgeOf_22 : decode cX6_edgeOf 22 = .ok (.iconst 0, 1) := by decide +kernel
theorem dX6_edgeOf_23 : decode cX6_edgeOf 23 = .ok (.invokevirtual 90, 3) := by decide +kernel
theorem dX6_edgeOf_26 : decode cX6_edgeOf 26 = .ok (.ifCond .eq 16, 3) := by decide +kernel
theorem dX6_edgeOf_29 : decode cX6_edgeOf 29 = .ok (.aload_n 0, 1) := by decide +kernel
theorem dX6_edgeOf_30 : decode cX6_edgeOf 30 = .ok (.getfield 22, 3) := by decide +kernel
theorem dX6_edgeOf_33 : decode cX6_edgeOf 33 = .ok (.iconst 4, 1) := by decide +kernel
theorem dX6_edgeOf_34 : decode cX6_edgeOf 34 = .ok (.iload_n 1, 1) := by decide +kernel
theorem dX6_edgeOf_35 : decode cX6_edgeOf 35 = .ok (.imul, 1) := by decide +kernel
theorem dX6_edgeOf_36 : decode cX6_edgeOf 36 = .ok (.iload_n 2, 1) := by decide +kernel
theorem dX6_edgeOf_37 : decode cX6_edgeOf 37 = .ok (.iadd, 1) := by decide +kernel
theorem dX6_edgeOf_38 : decode cX6_edgeOf 38 = .ok (.iaload, 1) := by decide +kernel
theorem dX6_edgeOf_39 : decode cX6_edgeOf 39 = .ok (.goto 4, 3) := by decide +kernel
theorem dX6_edgeOf_42 : decode cX6_edgeOf 42 = .ok (.iconst 0, 1) := by decide +kernel
theorem dX6_edgeOf_43 : decode cX6_edgeOf 43 = .ok (.ireturn, 1) := by decide +kernel
theorem dX6_takeMarks_0 : decode cX6_takeMarks 0 = .ok (.iconst 0, 1) := by decide +kernel
theorem dX6_takeMarks_1 : decode cX6_takeMarks 1 = .ok (.istore_n 1, 1) := by decide +kernel
theorem dX6_takeMarks_2 : decode cX6_takeMarks 2 = .ok (.iload_n 1, 1) := by decide +kernel
theorem dX6_takeMarks_3 : decode cX6_takeMarks 3 = .ok (.aload_n 0, 1) := by decide +kernel
theorem dX6_takeMarks_4 : decode cX6_takeMarks 4 = .ok (.getfield 74, 3) := by decide +kernel
theorem dX6_takeMarks_7 : decode cX6_takeMarks 7 = .ok (.if_icmp .ge 21, 3) := by decide +kernel
theorem dX6_takeMarks_10 : decode cX6_takeMarks 10 = .ok (.aload_n 0, 1) := by decide +kernel
theorem dX6_takeMarks_11 : decode cX6_takeMarks 11 = .ok (.getfield 31, 3) := by decide +kernel
theorem dX6_takeMarks_14 : decode cX6_takeMarks 14 = .ok (.iload_n 1, 1) := by decide +kernel
theorem dX6_takeMarks_15 : decode cX6_takeMarks 15 = .ok (.aload_n 0, 1) := by decide +kernel
theorem dX6_takeMarks_16 : decode cX6_takeMarks 16 = .ok (.getfield 28, 3) := by decide +kernel
theorem dX6_takeMarks_19 : decode cX6_takeMarks 19 = .ok (.iload_n 1, 1) := by decide +kernel
theorem dX6_takeMarks_20 : decode cX6_takeMarks 20 = .ok (.iaload, 1) := by decide +kernel
theorem dX6_takeMarks_21 : decode cX6_takeMarks 21 = .ok (.iastore, 1) := by decide +kernel
theorem dX6_takeMarks_22 : decode cX6_takeMarks 22 = .ok (.iinc 1 1, 3) := by decide +kernel
theorem dX6_takeMarks_25 : decode cX6_takeMarks 25 = .ok (.goto (-23), 3) := by decide +kernel
theorem dX6_takeMarks_28 : decode cX6_takeMarks 28 = .ok (.return_, 1) := by decide +kernel
theorem dX6_around_0 : decode cX6_around 0 = .ok (.iconst 0, 1) := by decide +kernel
theorem dX6_around_1 : decode cX6_around 1 = .ok (.istore_n 3, 1) := by decide +kernel
theorem dX6_around_2 : decode cX6_around 2 = .ok (.iconst 0, 1) := by decide +kernel
theorem dX6_around_3 : decode cX6_around 3 = .ok (.istore 4, 2) := by decide +kernel
theorem dX6_around_5 : decode cX6_around 5 = .ok (.iload 4, 2) := by decide +kernel
theorem dX6_around_7 : decode cX6_around 7 = .ok (.iconst 4, 1) := by decide +kernel
theorem dX6_around_8 : decode cX6_around 8 = .ok (.if_icmp .ge 37, 3) := by decide +kernel
theorem dX6_around_11 : decode cX6_around 11 = .ok (.iload_n 3, 1) := by decide +kernel
theorem dX6_around_12 : decode cX6_around 12 = .ok (.aload_n 0, 1) := by decide +kernel
theorem dX6_around_13 : decode cX6_around 13 = .ok (.getfield 31, 3) := by decide +kernel
theorem dX6_around_16 : decode cX6_around 16 = .ok (.aload_n 0, 1) := by decide +kernel
theorem dX6_around_17 : decode cX6_around 17 = .ok (.getfield 22, 3) := by decide +kernel
theorem dX6_around_20 : decode cX6_around 20 = .ok (.iconst 4, 1) := by decide +kernel
theorem dX6_around_21 : decode cX6_around 21 = .ok (.iload_n 1, 1) := by decide +kernel
theorem dX6_around_22 : decode cX6_around 22 = .ok (.imul, 1) := by decide +kernel
theorem dX6_around_23 : decode cX6_around 23 = .ok (.iload 4, 2) := by decide +kernel
theorem dX6_around_25 : decode cX6_around 25 = .ok (.iadd, 1) := by decide +kernel
theorem dX6_around_26 : decode cX6_around 26 = .ok (.iaload, 1) := by decide +kernel
theorem dX6_around_27 : decode cX6_around 27 = .ok (.iaload, 1) := by decide +kernel
theorem dX6_around_28 : decode cX6_around 28 = .ok (.iload_n 2, 1) := by decide +kernel
theorem dX6_around_29 : decode cX6_around 29 = .ok (.if_icmp .ne 7, 3) := by decide +kernel
theorem dX6_around_32 : decode cX6_around 32 = .ok (.iconst 1, 1) := by decide +kernel
theorem dX6_around_33 : decode cX6_around 33 = .ok (.goto 4, 3) := by decide +kernel
theorem dX6_around_36 : decode cX6_around 36 = .ok (.iconst 0, 1) := by decide +kernel
theorem dX6_around_37 : decode cX6_around 37 = .ok (.iadd, 1) := by decide +kernel
theorem dX6_around_38 : decode cX6_around 38 = .ok (.istore_n 3, 1) := by decide +kernel
theorem dX6_around_39 : decode cX6_around 39 = .ok (.iinc 4 1, 3) := by decide +kernel
theorem dX6_around_42 : decode cX6_around 42 = .ok (.goto (-37), 3) := by decide +kernel
theorem dX6_around_45 : decode cX6_around 45 = .ok (.iload_n 3, 1) := by decide +kernel
theorem dX6_around_46 : decode cX6_around 46 = .ok (.ireturn, 1) := by decide +kernel
theorem dX6_at_0 : decode cX6_at 0 = .ok (.iconst 0, 1) := by decide +kernel
theorem dX6_at_1 : decode cX6_at 1 = .ok (.istore_n 3, 1) := by decide +kernel
theorem dX6_at_2 : decode cX6_at 2 = .ok (.iconst 0, 1) := by decide +kernel
theorem dX6_at_3 : decode cX6_at 3 = .ok (.istore 4, 2) := by decide +kernel
theorem dX6_at_5 : decode cX6_at 5 = .ok (.iload 4, 2) := by decide +kernel
theorem dX6_at_7 : decode cX6_at 7 = .ok (.aload_n 0, 1) := by decide +kernel
theorem dX6_at_8 : decode cX6_at 8 = .ok (.getfield 74, 3) := by decide +kernel
theorem dX6_at_11 : decode cX6_at 11 = .ok (.if_icmp .ge 50, 3) := by decide +kernel
theorem dX6_at_14 : decode cX6_at 14 = .ok (.iload_n 3, 1) := by decide +kernel
theorem dX6_at_15 : decode cX6_at 15 = .ok (.aload_n 0, 1) := by decide +kernel
theorem dX6_at_16 : decode cX6_at 16 = .ok (.getfield 7, 3) := by decide +kernel
theorem dX6_at_19 : decode cX6_at 19 = .ok (.iload 4, 2) := by decide +kernel
theorem dX6_at_21 : decode cX6_at 21 = .ok (.iaload, 1) := by decide +kernel
theorem dX6_at_22 : decode cX6_at 22 = .ok (.iload_n 1, 1) := by decide +kernel
theorem dX6_at_23 : decode cX6_at 23 = .ok (.if_icmp .eq 14, 3) := by decide +kernel
theorem dX6_at_26 : decode cX6_at 26 = .ok (.aload_n 0, 1) := by decide +kernel
theorem dX6_at_27 : decode cX6_at 27 = .ok (.getfield 13, 3) := by decide +kernel
theorem dX6_at_30 : decode cX6_at 30 = .ok (.iload 4, 2) := by decide +kernel
theorem dX6_at_32 : decode cX6_at 32 = .ok (.iaload, 1) := by decide +kernel
theorem dX6_at_33 : decode cX6_at 33 = .ok (.iload_n 1, 1) := by decide +kernel
theorem dX6_at_34 : decode cX6_at 34 = .ok (.if_icmp .ne 18, 3) := by decide +kernel
theorem dX6_at_37 : decode cX6_at 37 = .ok (.aload_n 0, 1) := by decide +kernel
theorem dX6_at_38 : decode cX6_at 38 = .ok (.getfield 31, 3) := by decide +kernel
theorem dX6_at_41 : decode cX6_at 41 = .ok (.iload 4, 2) := by decide +kernel
theorem dX6_at_43 : decode cX6_at 43 = .ok (.iaload, 1) := by decide +kernel
theorem dX6_at_44 : decode cX6_at 44 = .ok (.iload_n 2, 1) := by decide +kernel
theorem dX6_at_45 : decode cX6_at 45 = .ok (.if_icmp .ne 7, 3) := by decide +kernel
theorem dX6_at_48 : decode cX6_at 48 = .ok (.iconst 1, 1) := by decide +kernel
theorem dX6_at_49 : decode cX6_at 49 = .ok (.goto 4, 3) := by decide +kernel
theorem dX6_at_52 : decode cX6_at 52 = .ok (.iconst 0, 1) := by decide +kernel
theorem dX6_at_53 : decode cX6_at 53 = .ok (.iadd, 1) := by decide +kernel
theorem dX6_at_54 : decode cX6_at 54 = .ok (.istore_n 3, 1) := by decide +kernel
theorem dX6_at_55 : decode cX6_at 55 = .ok (.iinc 4 1, 3) := by decide +kernel
theorem dX6_at_58 : decode cX6_at 58 = .ok (.goto (-53), 3) := by decide +kernel
theorem dX6_at_61 : decode cX6_at 61 = .ok (.iload_n 3, 1) := by decide +kernel
theorem dX6_at_62 : decode cX6_at 62 = .ok (.ireturn, 1) := by decide +kernel
theorem dX6_count_0 : decode cX6_count 0 = .ok (.iconst 0, 1) := by decide +kernel
theorem dX6_count_1 : decode cX6_count 1 = .ok (.istore_n 2, 1) := by decide +kernel
theorem dX6_count_2 : decode cX6_count 2 = .ok (.iconst 0, 1) := by decide +kernel
theorem dX6_count_3 : decode cX6_count 3 = .ok (.istore_n 3, 1) := by decide +kernel
theorem dX6_count_4 : decode cX6_count 4 = .ok (.iload_n 3, 1) := by decide +kernel
theorem dX6_count_5 : decode cX6_count 5 = .ok (.aload_n 0, 1) := by decide +kernel
theorem dX6_count_6 : decode cX6_count 6 = .ok (.getfield 74, 3) := by decide +kernel
theorem dX6_count_9 : decode cX6_count 9 = .ok (.if_icmp .ge 27, 3) := by decide +kernel
theorem dX6_count_12 : decode cX6_count 12 = .ok (.iload_n 2, 1) := by decide +kernel
theorem dX6_count_13 : decode cX6_count 13 = .ok (.aload_n 0, 1) := by decide +kernel
theorem dX6_count_14 : decode cX6_count 14 = .ok (.getfield 31, 3) := by decide +kernel
theorem dX6_count_17 : decode cX6_count 17 = .ok (.iload_n 3, 1) := by decide +kernel
theorem dX6_count_18 : decode cX6_count 18 = .ok (.iaload, 1) := by decide +kernel
theorem dX6_count_19 : decode cX6_count 19 = .ok (.iload_n 1, 1) := by decide +kernel
theorem dX6_count_20 : decode cX6_count 20 = .ok (.if_icmp .ne 7, 3) := by decide +kernel
theorem dX6_count_23 : decode cX6_count 23 = .ok (.iconst 1, 1) := by decide +kernel
theorem dX6_count_24 : decode cX6_count 24 = .ok (.goto 4, 3) := by decide +kernel
theorem dX6_count_27 : decode cX6_count 27 = .ok (.iconst 0, 1) := by decide +kernel
theorem dX6_count_28 : decode cX6_count 28 = .ok (.iadd, 1) := by decide +kernel
theorem dX6_count_29 : decode cX6_count 29 = .ok (.istore_n 2, 1) := by decide +kernel
theorem dX6_count_30 : decode cX6_count 30 = .ok (.iinc 3 1, 3) := by decide +kernel
theorem dX6_count_33 : decode cX6_count 33 = .ok (.goto (-29), 3) := by decide +kernel
theorem dX6_count_36 : decode cX6_count 36 = .ok (.iload_n 2, 1) := by decide +kernel
theorem dX6_count_37 : decode cX6_count 37 = .ok (.ireturn, 1) := by decide +kernel
theorem dX6_areRight_0 : decode cX6_areRight 0 = .ok (.iconst 0, 1) := by decide +kernel
theorem dX6_areRight_1 : decode cX6_areRight 1 = .ok (.istore_n 1, 1) := by decide +kernel
theorem dX6_areRight_2 : decode cX6_areRight 2 = .ok (.iload_n 1, 1) := by decide +kernel
theorem dX6_areRight_3 : decode cX6_areRight 3 = .ok (.aload_n 0, 1) := by decide +kernel
theorem dX6_areRight_4 : decode cX6_areRight 4 = .ok (.getfield 71, 3) := by decide +kernel
theorem dX6_areRight_7 : decode cX6_areRight 7 = .ok (.if_icmp .ge 36, 3) := by decide +kernel
theorem dX6_areRight_10 : decode cX6_areRight 10 = .ok (.aload_n 0, 1) := by decide +kernel
theorem dX6_areRight_11 : decode cX6_areRight 11 = .ok (.getfield 25, 3) := by decide +kernel
theorem dX6_areRight_14 : decode cX6_areRight 14 = .ok (.iload_n 1, 1) := by decide +kernel
theorem dX6_areRight_15 : decode cX6_areRight 15 = .ok (.iaload, 1) := by decide +kernel
theorem dX6_areRight_16 : decode cX6_areRight 16 = .ok (.iconst (-1), 1) := by decide +kernel
theorem dX6_areRight_17 : decode cX6_areRight 17 = .ok (.if_icmp .eq 20, 3) := by decide +kernel
theorem dX6_areRight_20 : decode cX6_areRight 20 = .ok (.aload_n 0, 1) := by decide +kernel
theorem dX6_areRight_21 : decode cX6_areRight 21 = .ok (.iload_n 1, 1) := by decide +kernel
theorem dX6_areRight_22 : decode cX6_areRight 22 = .ok (.iconst 1, 1) := by decide +kernel
theorem dX6_areRight_23 : decode cX6_areRight 23 = .ok (.invokevirtual 111, 3) := by decide +kernel
theorem dX6_areRight_26 : decode cX6_areRight 26 = .ok (.aload_n 0, 1) := by decide +kernel
theorem dX6_areRight_27 : decode cX6_areRight 27 = .ok (.getfield 25, 3) := by decide +kernel
theorem dX6_areRight_30 : decode cX6_areRight 30 = .ok (.iload_n 1, 1) := by decide +kernel
theorem dX6_areRight_31 : decode cX6_areRight 31 = .ok (.iaload, 1) := by decide +kernel
theorem dX6_areRight_32 : decode cX6_areRight 32 = .ok (.if_icmp .eq 5, 3) := by decide +kernel
theorem dX6_areRight_35 : decode cX6_areRight 35 = .ok (.iconst 0, 1) := by decide +kernel
theorem dX6_areRight_36 : decode cX6_areRight 36 = .ok (.ireturn, 1) := by decide +kernel
theorem dX6_areRight_37 : decode cX6_areRight 37 = .ok (.iinc 1 1, 3) := by decide +kernel
theorem dX6_areRight_40 : decode cX6_areRight 40 = .ok (.goto (-38), 3) := by decide +kernel
theorem dX6_areRight_43 : decode cX6_areRight 43 = .ok (.iconst 1, 1) := by decide +kernel
theorem dX6_areRight_44 : decode cX6_areRight 44 = .ok (.ireturn, 1) := by decide +kernel
theorem dX6_labels_0 : decode cX6_labels 0 = .ok (.iconst 0, 1) := by decide +kernel
theorem dX6_labels_1 : decode cX6_labels 1 = .ok (.istore_n 1, 1) := by decide +kernel
theorem dX6_labels_2 : decode cX6_labels 2 = .ok (.iload_n 1, 1) := by decide +kernel
theorem dX6_labels_3 : decode cX6_labels 3 = .ok (.aload_n 0, 1) := by decide +kernel
theorem dX6_labels_4 : decode cX6_labels 4 = .ok (.getfield 83, 3) := by decide +kernel
theorem dX6_labels_7 : decode cX6_labels 7 = .ok (.if_icmp .ge 16, 3) := by decide +kernel
theorem dX6_labels_10 : decode cX6_labels 10 = .ok (.aload_n 0, 1) := by decide +kernel
theorem dX6_labels_11 : decode cX6_labels 11 = .ok (.getfield 46, 3) := by decide +kernel
theorem dX6_labels_14 : decode cX6_labels 14 = .ok (.iload_n 1, 1) := by decide +kernel
theorem dX6_labels_15 : decode cX6_labels 15 = .ok (.iload_n 1, 1) := by decide +kernel
theorem dX6_labels_16 : decode cX6_labels 16 = .ok (.iastore, 1) := by decide +kernel
theorem dX6_labels_17 : decode cX6_labels 17 = .ok (.iinc 1 1, 3) := by decide +kernel
theorem dX6_labels_20 : decode cX6_labels 20 = .ok (.goto (-18), 3) := by decide +kernel
theorem dX6_labels_23 : decode cX6_labels 23 = .ok (.iconst 0, 1) := by decide +kernel
theorem dX6_labels_24 : decode cX6_labels 24 = .ok (.istore_n 1, 1) := by decide +kernel
theorem dX6_labels_25 : decode cX6_labels 25 = .ok (.iload_n 1, 1) := by decide +kernel
theorem dX6_labels_26 : decode cX6_labels 26 = .ok (.aload_n 0, 1) := by decide +kernel
theorem dX6_labels_27 : decode cX6_labels 27 = .ok (.getfield 74, 3) := by decide +kernel
theorem dX6_labels_30 : decode cX6_labels 30 = .ok (.if_icmp .ge 193, 3) := by decide +kernel
theorem dX6_labels_33 : decode cX6_labels 33 = .ok (.aload_n 0, 1) := by decide +kernel
theorem dX6_labels_34 : decode cX6_labels 34 = .ok (.getfield 31, 3) := by decide +kernel
theorem dX6_labels_37 : decode cX6_labels 37 = .ok (.iload_n 1, 1) := by decide +kernel
theorem dX6_labels_38 : decode cX6_labels 38 = .ok (.iaload, 1) := by decide +kernel
theorem dX6_labels_39 : decode cX6_labels 39 = .ok (.iconst 1, 1) := by decide +kernel
theorem dX6_labels_40 : decode cX6_labels 40 = .ok (.if_icmp .ne 177, 3) := by decide +kernel
theorem dX6_labels_43 : decode cX6_labels 43 = .ok (.aload_n 0, 1) := by decide +kernel
theorem dX6_labels_44 : decode cX6_labels 44 = .ok (.getfield 46, 3) := by decide +kernel
theorem dX6_labels_47 : decode cX6_labels 47 = .ok (.aload_n 0, 1) := by decide +kernel
theorem dX6_labels_48 : decode cX6_labels 48 = .ok (.getfield 7, 3) := by decide +kernel
theorem dX6_labels_51 : decode cX6_labels 51 = .ok (.iload_n 1, 1) := by decide +kernel
theorem dX6_labels_52 : decode cX6_labels 52 = .ok (.iaload, 1) := by decide +kernel
theorem dX6_labels_53 : decode cX6_labels 53 = .ok (.iaload, 1) := by decide +kernel
theorem dX6_labels_54 : decode cX6_labels 54 = .ok (.aload_n 0, 1) := by decide +kernel
theorem dX6_labels_55 : decode cX6_labels 55 = .ok (.getfield 46, 3) := by decide +kernel
theorem dX6_labels_58 : decode cX6_labels 58 = .ok (.aload_n 0, 1) := by decide +kernel
theorem dX6_labels_59 : decode cX6_labels 59 = .ok (.getfield 13, 3) := by decide +kernel
theorem dX6_labels_62 : decode cX6_labels 62 = .ok (.iload_n 1, 1) := by decide +kernel
theorem dX6_labels_63 : decode cX6_labels 63 = .ok (.iaload, 1) := by decide +kernel
theorem dX6_labels_64 : decode cX6_labels 64 = .ok (.iaload, 1) := by decide +kernel
theorem dX6_labels_65 : decode cX6_labels 65 = .ok (.if_icmp .eq 152, 3) := by decide +kernel
theorem dX6_labels_68 : decode cX6_labels 68 = .ok (.aload_n 0, 1) := by decide +kernel
theorem dX6_labels_69 : decode cX6_labels 69 = .ok (.getfield 46, 3) := by decide +kernel
theorem dX6_labels_72 : decode cX6_labels 72 = .ok (.aload_n 0, 1) := by decide +kernel
theorem dX6_labels_73 : decode cX6_labels 73 = .ok (.getfield 7, 3) := by decide +kernel
theorem dX6_labels_76 : decode cX6_labels 76 = .ok (.iload_n 1, 1) := by decide +kernel
theorem dX6_labels_77 : decode cX6_labels 77 = .ok (.iaload, 1) := by decide +kernel
theorem dX6_labels_78 : decode cX6_labels 78 = .ok (.iaload, 1) := by decide +kernel
theorem dX6_labels_79 : decode cX6_labels 79 = .ok (.aload_n 0, 1) := by decide +kernel
theorem dX6_labels_80 : decode cX6_labels 80 = .ok (.getfield 46, 3) := by decide +kernel
theorem dX6_labels_83 : decode cX6_labels 83 = .ok (.aload_n 0, 1) := by decide +kernel
theorem dX6_labels_84 : decode cX6_labels 84 = .ok (.getfield 13, 3) := by decide +kernel
theorem dX6_labels_87 : decode cX6_labels 87 = .ok (.iload_n 1, 1) := by decide +kernel
theorem dX6_labels_88 : decode cX6_labels 88 = .ok (.iaload, 1) := by decide +kernel
theorem dX6_labels_89 : decode cX6_labels 89 = .ok (.iaload, 1) := by decide +kernel
theorem dX6_labels_90 : decode cX6_labels 90 = .ok (.if_icmp .ge 17, 3) := by decide +kernel
theorem dX6_labels_93 : decode cX6_labels 93 = .ok (.aload_n 0, 1) := by decide +kernel
theorem dX6_labels_94 : decode cX6_labels 94 = .ok (.getfield 46, 3) := by decide +kernel
theorem dX6_labels_97 : decode cX6_labels 97 = .ok (.aload_n 0, 1) := by decide +kernel
theorem dX6_labels_98 : decode cX6_labels 98 = .ok (.getfield 7, 3) := by decide +kernel
theorem dX6_labels_101 : decode cX6_labels 101 = .ok (.iload_n 1, 1) := by decide +kernel
theorem dX6_labels_102 : decode cX6_labels 102 = .ok (.iaload, 1) := by decide +kernel
theorem dX6_labels_103 : decode cX6_labels 103 = .ok (.iaload, 1) := by decide +kernel
theorem dX6_labels_104 : decode cX6_labels 104 = .ok (.goto 14, 3) := by decide +kernel
theorem dX6_labels_107 : decode cX6_labels 107 = .ok (.aload_n 0, 1) := by decide +kernel
theorem dX6_labels_108 : decode cX6_labels 108 = .ok (.getfield 46, 3) := by decide +kernel
theorem dX6_labels_111 : decode cX6_labels 111 = .ok (.aload_n 0, 1) := by decide +kernel
theorem dX6_labels_112 : decode cX6_labels 112 = .ok (.getfield 13, 3) := by decide +kernel
theorem dX6_labels_115 : decode cX6_labels 115 = .ok (.iload_n 1, 1) := by decide +kernel
theorem dX6_labels_116 : decode cX6_labels 116 = .ok (.iaload, 1) := by decide +kernel
theorem dX6_labels_117 : decode cX6_labels 117 = .ok (.iaload, 1) := by decide +kernel
theorem dX6_labels_118 : decode cX6_labels 118 = .ok (.istore_n 2, 1) := by decide +kernel
theorem dX6_labels_119 : decode cX6_labels 119 = .ok (.aload_n 0, 1) := by decide +kernel
theorem dX6_labels_120 : decode cX6_labels 120 = .ok (.getfield 46, 3) := by decide +kernel
theorem dX6_labels_123 : decode cX6_labels 123 = .ok (.aload_n 0, 1) := by decide +kernel
theorem dX6_labels_124 : decode cX6_labels 124 = .ok (.getfield 7, 3) := by decide +kernel
theorem dX6_labels_127 : decode cX6_labels 127 = .ok (.iload_n 1, 1) := by decide +kernel
theorem dX6_labels_128 : decode cX6_labels 128 = .ok (.iaload, 1) := by decide +kernel
theorem dX6_labels_129 : decode cX6_labels 129 = .ok (.iaload, 1) := by decide +kernel
theorem dX6_labels_130 : decode cX6_labels 130 = .ok (.aload_n 0, 1) := by decide +kernel
theorem dX6_labels_131 : decode cX6_labels 131 = .ok (.getfield 46, 3) := by decide +kernel
theorem dX6_labels_134 : decode cX6_labels 134 = .ok (.aload_n 0, 1) := by decide +kernel
theorem dX6_labels_135 : decode cX6_labels 135 = .ok (.getfield 13, 3) := by decide +kernel
theorem dX6_labels_138 : decode cX6_labels 138 = .ok (.iload_n 1, 1) := by decide +kernel
theorem dX6_labels_139 : decode cX6_labels 139 = .ok (.iaload, 1) := by decide +kernel
theorem dX6_labels_140 : decode cX6_labels 140 = .ok (.iaload, 1) := by decide +kernel
theorem dX6_labels_141 : decode cX6_labels 141 = .ok (.if_icmp .ge 17, 3) := by decide +kernel
theorem dX6_labels_144 : decode cX6_labels 144 = .ok (.aload_n 0, 1) := by decide +kernel
theorem dX6_labels_145 : decode cX6_labels 145 = .ok (.getfield 46, 3) := by decide +kernel
theorem dX6_labels_148 : decode cX6_labels 148 = .ok (.aload_n 0, 1) := by decide +kernel
theorem dX6_labels_149 : decode cX6_labels 149 = .ok (.getfield 13, 3) := by decide +kernel
theorem dX6_labels_152 : decode cX6_labels 152 = .ok (.iload_n 1, 1) := by decide +kernel
theorem dX6_labels_153 : decode cX6_labels 153 = .ok (.iaload, 1) := by decide +kernel
theorem dX6_labels_154 : decode cX6_labels 154 = .ok (.iaload, 1) := by decide +kernel
theorem dX6_labels_155 : decode cX6_labels 155 = .ok (.goto 14, 3) := by decide +kernel
theorem dX6_labels_158 : decode cX6_labels 158 = .ok (.aload_n 0, 1) := by decide +kernel
theorem dX6_labels_159 : decode cX6_labels 159 = .ok (.getfield 46, 3) := by decide +kernel
theorem dX6_labels_162 : decode cX6_labels 162 = .ok (.aload_n 0, 1) := by decide +kernel
theorem dX6_labels_163 : decode cX6_labels 163 = .ok (.getfield 7, 3) := by decide +kernel
theorem dX6_labels_166 : decode cX6_labels 166 = .ok (.iload_n 1, 1) := by decide +kernel
theorem dX6_labels_167 : decode cX6_labels 167 = .ok (.iaload, 1) := by decide +kernel
theorem dX6_labels_168 : decode cX6_labels 168 = .ok (.iaload, 1) := by decide +kernel
theorem dX6_labels_169 : decode cX6_labels 169 = .ok (.istore_n 3, 1) := by decide +kernel
theorem dX6_labels_170 : decode cX6_labels 170 = .ok (.iconst 0, 1) := by decide +kernel
theorem dX6_labels_171 : decode cX6_labels 171 = .ok (.istore 4, 2) := by decide +kernel
theorem dX6_labels_173 : decode cX6_labels 173 = .ok (.iload 4, 2) := by decide +kernel
theorem dX6_labels_175 : decode cX6_labels 175 = .ok (.aload_n 0, 1) := by decide +kernel
theorem dX6_labels_176 : decode cX6_labels 176 = .ok (.getfield 83, 3) := by decide +kernel
theorem dX6_labels_179 : decode cX6_labels 179 = .ok (.if_icmp .ge 38, 3) := by decide +kernel
theorem dX6_labels_182 : decode cX6_labels 182 = .ok (.aload_n 0, 1) := by decide +kernel
theorem dX6_labels_183 : decode cX6_labels 183 = .ok (.getfield 46, 3) := by decide +kernel
theorem dX6_labels_186 : decode cX6_labels 186 = .ok (.iload 4, 2) := by decide +kernel
theorem dX6_labels_188 : decode cX6_labels 188 = .ok (.aload_n 0, 1) := by decide +kernel
theorem dX6_labels_189 : decode cX6_labels 189 = .ok (.getfield 46, 3) := by decide +kernel
theorem dX6_labels_192 : decode cX6_labels 192 = .ok (.iload 4, 2) := by decide +kernel
theorem dX6_labels_194 : decode cX6_labels 194 = .ok (.iaload, 1) := by decide +kernel
theorem dX6_labels_195 : decode cX6_labels 195 = .ok (.iload_n 3, 1) := by decide +kernel
theorem dX6_labels_196 : decode cX6_labels 196 = .ok (.if_icmp .ne 7, 3) := by decide +kernel
theorem dX6_labels_199 : decode cX6_labels 199 = .ok (.iload_n 2, 1) := by decide +kernel
theorem dX6_labels_200 : decode cX6_labels 200 = .ok (.goto 10, 3) := by decide +kernel
theorem dX6_labels_203 : decode cX6_labels 203 = .ok (.aload_n 0, 1) := by decide +kernel
theorem dX6_labels_204 : decode cX6_labels 204 = .ok (.getfield 46, 3) := by decide +kernel
theorem dX6_labels_207 : decode cX6_labels 207 = .ok (.iload 4, 2) := by decide +kernel
theorem dX6_labels_209 : decode cX6_labels 209 = .ok (.iaload, 1) := by decide +kernel
theorem dX6_labels_210 : decode cX6_labels 210 = .ok (.iastore, 1) := by decide +kernel
theorem dX6_labels_211 : decode cX6_labels 211 = .ok (.iinc 4 1, 3) := by decide +kernel
theorem dX6_labels_214 : decode cX6_labels 214 = .ok (.goto (-41), 3) := by decide +kernel
theorem dX6_labels_217 : decode cX6_labels 217 = .ok (.iinc 1 1, 3) := by decide +kernel
theorem dX6_labels_220 : decode cX6_labels 220 = .ok (.goto (-195), 3) := by decide +kernel
theorem dX6_labels_223 : decode cX6_labels 223 = .ok (.return_, 1) := by decide +kernel
theorem dX6_waysOf_0 : decode cX6_waysOf 0 = .ok (.iconst 0, 1) := by decide +kernel
theorem dX6_waysOf_1 : decode cX6_waysOf 1 = .ok (.istore_n 1, 1) := by decide +kernel
theorem dX6_waysOf_2 : decode cX6_waysOf 2 = .ok (.iconst 0, 1) := by decide +kernel
theorem dX6_waysOf_3 : decode cX6_waysOf 3 = .ok (.istore_n 2, 1) := by decide +kernel
theorem dX6_waysOf_4 : decode cX6_waysOf 4 = .ok (.iload_n 2, 1) := by decide +kernel
theorem dX6_waysOf_5 : decode cX6_waysOf 5 = .ok (.aload_n 0, 1) := by decide +kernel
theorem dX6_waysOf_6 : decode cX6_waysOf 6 = .ok (.getfield 83, 3) := by decide +kernel
theorem dX6_waysOf_9 : decode cX6_waysOf 9 = .ok (.if_icmp .ge 36, 3) := by decide +kernel
theorem dX6_waysOf_12 : decode cX6_waysOf 12 = .ok (.iload_n 1, 1) := by decide +kernel
theorem dX6_waysOf_13 : decode cX6_waysOf 13 = .ok (.aload_n 0, 1) := by decide +kernel
theorem dX6_waysOf_14 : decode cX6_waysOf 14 = .ok (.getfield 46, 3) := by decide +kernel
theorem dX6_waysOf_17 : decode cX6_waysOf 17 = .ok (.iload_n 2, 1) := by decide +kernel
theorem dX6_waysOf_18 : decode cX6_waysOf 18 = .ok (.iaload, 1) := by decide +kernel
theorem dX6_waysOf_19 : decode cX6_waysOf 19 = .ok (.iload_n 2, 1) := by decide +kernel
theorem dX6_waysOf_20 : decode cX6_waysOf 20 = .ok (.if_icmp .ne 16, 3) := by decide +kernel
theorem dX6_waysOf_23 : decode cX6_waysOf 23 = .ok (.aload_n 0, 1) := by decide +kernel
theorem dX6_waysOf_24 : decode cX6_waysOf 24 = .ok (.iload_n 2, 1) := by decide +kernel
theorem dX6_waysOf_25 : decode cX6_waysOf 25 = .ok (.iconst 1, 1) := by decide +kernel
theorem dX6_waysOf_26 : decode cX6_waysOf 26 = .ok (.invokevirtual 114, 3) := by decide +kernel
theorem dX6_waysOf_29 : decode cX6_waysOf 29 = .ok (.ifCond .le 7, 3) := by decide +kernel
theorem dX6_waysOf_32 : decode cX6_waysOf 32 = .ok (.iconst 1, 1) := by decide +kernel
theorem dX6_waysOf_33 : decode cX6_waysOf 33 = .ok (.goto 4, 3) := by decide +kernel
theorem dX6_waysOf_36 : decode cX6_waysOf 36 = .ok (.iconst 0, 1) := by decide +kernel
theorem dX6_waysOf_37 : decode cX6_waysOf 37 = .ok (.iadd, 1) := by decide +kernel
theorem dX6_waysOf_38 : decode cX6_waysOf 38 = .ok (.istore_n 1, 1) := by decide +kernel
theorem dX6_waysOf_39 : decode cX6_waysOf 39 = .ok (.iinc 2 1, 3) := by decide +kernel
theorem dX6_waysOf_42 : decode cX6_waysOf 42 = .ok (.goto (-38), 3) := by decide +kernel
theorem dX6_waysOf_45 : decode cX6_waysOf 45 = .ok (.iload_n 1, 1) := by decide +kernel
theorem dX6_waysOf_46 : decode cX6_waysOf 46 = .ok (.ireturn, 1) := by decide +kernel
theorem dX6_isLoop_0 : decode cX6_isLoop 0 = .ok (.iconst 0, 1) := by decide +kernel
theorem dX6_isLoop_1 : decode cX6_isLoop 1 = .ok (.istore_n 1, 1) := by decide +kernel
theorem dX6_isLoop_2 : decode cX6_isLoop 2 = .ok (.iload_n 1, 1) := by decide +kernel
theorem dX6_isLoop_3 : decode cX6_isLoop 3 = .ok (.aload_n 0, 1) := by decide +kernel
theorem dX6_isLoop_4 : decode cX6_isLoop 4 = .ok (.getfield 83, 3) := by decide +kernel
theorem dX6_isLoop_7 : decode cX6_isLoop 7 = .ok (.if_icmp .ge 27, 3) := by decide +kernel
theorem dX6_isLoop_10 : decode cX6_isLoop 10 = .ok (.aload_n 0, 1) := by decide +kernel
theorem dX6_isLoop_11 : decode cX6_isLoop 11 = .ok (.iload_n 1, 1) := by decide +kernel
theorem dX6_isLoop_12 : decode cX6_isLoop 12 = .ok (.iconst 1, 1) := by decide +kernel
theorem dX6_isLoop_13 : decode cX6_isLoop 13 = .ok (.invokevirtual 114, 3) := by decide +kernel
theorem dX6_isLoop_16 : decode cX6_isLoop 16 = .ok (.istore_n 2, 1) := by decide +kernel
theorem dX6_isLoop_17 : decode cX6_isLoop 17 = .ok (.iload_n 2, 1) := by decide +kernel
theorem dX6_isLoop_18 : decode cX6_isLoop 18 = .ok (.ifCond .eq 10, 3) := by decide +kernel
theorem dX6_isLoop_21 : decode cX6_isLoop 21 = .ok (.iload_n 2, 1) := by decide +kernel
theorem dX6_isLoop_22 : decode cX6_isLoop 22 = .ok (.iconst 2, 1) := by decide +kernel
theorem dX6_isLoop_23 : decode cX6_isLoop 23 = .ok (.if_icmp .eq 5, 3) := by decide +kernel
theorem dX6_isLoop_26 : decode cX6_isLoop 26 = .ok (.iconst 0, 1) := by decide +kernel
theorem dX6_isLoop_27 : decode cX6_isLoop 27 = .ok (.ireturn, 1) := by decide +kernel
theorem dX6_isLoop_28 : decode cX6_isLoop 28 = .ok (.iinc 1 1, 3) := by decide +kernel
theorem dX6_isLoop_31 : decode cX6_isLoop 31 = .ok (.goto (-29), 3) := by decide +kernel
theorem dX6_isLoop_34 : decode cX6_isLoop 34 = .ok (.aload_n 0, 1) := by decide +kernel
theorem dX6_isLoop_35 : decode cX6_isLoop 35 = .ok (.invokevirtual 117, 3) := by decide +kernel
theorem dX6_isLoop_38 : decode cX6_isLoop 38 = .ok (.iconst 1, 1) := by decide +kernel
theorem dX6_isLoop_39 : decode cX6_isLoop 39 = .ok (.if_icmp .ne 7, 3) := by decide +kernel
theorem dX6_isLoop_42 : decode cX6_isLoop 42 = .ok (.iconst 1, 1) := by decide +kernel
theorem dX6_isLoop_43 : decode cX6_isLoop 43 = .ok (.goto 4, 3) := by decide +kernel
theorem dX6_isLoop_46 : decode cX6_isLoop 46 = .ok (.iconst 0, 1) := by decide +kernel
theorem dX6_isLoop_47 : decode cX6_isLoop 47 = .ok (.ireturn, 1) := by decide +kernel
theorem dX6_hasLoop_0 : decode cX6_hasLoop 0 = .ok (.iconst 0, 1) := by decide +kernel
theorem dX6_hasLoop_1 : decode cX6_hasLoop 1 = .ok (.istore_n 1, 1) := by decide +kernel
theorem dX6_hasLoop_2 : decode cX6_hasLoop 2 = .ok (.iload_n 1, 1) := by decide +kernel
theorem dX6_hasLoop_3 : decode cX6_hasLoop 3 = .ok (.aload_n 0, 1) := by decide +kernel
theorem dX6_hasLoop_4 : decode cX6_hasLoop 4 = .ok (.getfield 83, 3) := by decide +kernel
theorem dX6_hasLoop_7 : decode cX6_hasLoop 7 = .ok (.if_icmp .ge 86, 3) := by decide +kernel
theorem dX6_hasLoop_10 : decode cX6_hasLoop 10 = .ok (.aload_n 0, 1) := by decide +kernel
theorem dX6_hasLoop_11 : decode cX6_hasLoop 11 = .ok (.getfield 46, 3) := by decide +kernel
theorem dX6_hasLoop_14 : decode cX6_hasLoop 14 = .ok (.iload_n 1, 1) := by decide +kernel
theorem dX6_hasLoop_15 : decode cX6_hasLoop 15 = .ok (.iaload, 1) := by decide +kernel
theorem dX6_hasLoop_16 : decode cX6_hasLoop 16 = .ok (.iload_n 1, 1) := by decide +kernel
theorem dX6_hasLoop_17 : decode cX6_hasLoop 17 = .ok (.if_icmp .ne 16, 3) := by decide +kernel
theorem dX6_hasLoop_20 : decode cX6_hasLoop 20 = .ok (.aload_n 0, 1) := by decide +kernel
theorem dX6_hasLoop_21 : decode cX6_hasLoop 21 = .ok (.iload_n 1, 1) := by decide +kernel
theorem dX6_hasLoop_22 : decode cX6_hasLoop 22 = .ok (.iconst 1, 1) := by decide +kernel
theorem dX6_hasLoop_23 : decode cX6_hasLoop 23 = .ok (.invokevirtual 114, 3) := by decide +kernel
theorem dX6_hasLoop_26 : decode cX6_hasLoop 26 = .ok (.ifCond .le 7, 3) := by decide +kernel
theorem dX6_hasLoop_29 : decode cX6_hasLoop 29 = .ok (.iconst 1, 1) := by decide +kernel
theorem dX6_hasLoop_30 : decode cX6_hasLoop 30 = .ok (.goto 4, 3) := by decide +kernel
theorem dX6_hasLoop_33 : decode cX6_hasLoop 33 = .ok (.iconst 0, 1) := by decide +kernel
theorem dX6_hasLoop_34 : decode cX6_hasLoop 34 = .ok (.istore_n 2, 1) := by decide +kernel
theorem dX6_hasLoop_35 : decode cX6_hasLoop 35 = .ok (.iconst 0, 1) := by decide +kernel
theorem dX6_hasLoop_36 : decode cX6_hasLoop 36 = .ok (.istore_n 3, 1) := by decide +kernel
theorem dX6_hasLoop_37 : decode cX6_hasLoop 37 = .ok (.iload_n 3, 1) := by decide +kernel
theorem dX6_hasLoop_38 : decode cX6_hasLoop 38 = .ok (.aload_n 0, 1) := by decide +kernel
theorem dX6_hasLoop_39 : decode cX6_hasLoop 39 = .ok (.getfield 83, 3) := by decide +kernel
theorem dX6_hasLoop_42 : decode cX6_hasLoop 42 = .ok (.if_icmp .ge 39, 3) := by decide +kernel
theorem dX6_hasLoop_45 : decode cX6_hasLoop 45 = .ok (.iload_n 2, 1) := by decide +kernel
theorem dX6_hasLoop_46 : decode cX6_hasLoop 46 = .ok (.ifCond .eq 35, 3) := by decide +kernel
theorem dX6_hasLoop_49 : decode cX6_hasLoop 49 = .ok (.aload_n 0, 1) := by decide +kernel
theorem dX6_hasLoop_50 : decode cX6_hasLoop 50 = .ok (.getfield 46, 3) := by decide +kernel
theorem dX6_hasLoop_53 : decode cX6_hasLoop 53 = .ok (.iload_n 3, 1) := by decide +kernel
theorem dX6_hasLoop_54 : decode cX6_hasLoop 54 = .ok (.iaload, 1) := by decide +kernel
theorem dX6_hasLoop_55 : decode cX6_hasLoop 55 = .ok (.iload_n 1, 1) := by decide +kernel
theorem dX6_hasLoop_56 : decode cX6_hasLoop 56 = .ok (.if_icmp .ne 13, 3) := by decide +kernel
theorem dX6_hasLoop_59 : decode cX6_hasLoop 59 = .ok (.aload_n 0, 1) := by decide +kernel
theorem dX6_hasLoop_60 : decode cX6_hasLoop 60 = .ok (.iload_n 3, 1) := by decide +kernel
theorem dX6_hasLoop_61 : decode cX6_hasLoop 61 = .ok (.iconst 1, 1) := by decide +kernel
theorem dX6_hasLoop_62 : decode cX6_hasLoop 62 = .ok (.invokevirtual 114, 3) := by decide +kernel
theorem dX6_hasLoop_65 : decode cX6_hasLoop 65 = .ok (.iconst 2, 1) := by decide +kernel
theorem dX6_hasLoop_66 : decode cX6_hasLoop 66 = .ok (.if_icmp .ne 7, 3) := by decide +kernel
theorem dX6_hasLoop_69 : decode cX6_hasLoop 69 = .ok (.iconst 1, 1) := by decide +kernel
theorem dX6_hasLoop_70 : decode cX6_hasLoop 70 = .ok (.goto 4, 3) := by decide +kernel
theorem dX6_hasLoop_73 : decode cX6_hasLoop 73 = .ok (.iconst 0, 1) := by decide +kernel
theorem dX6_hasLoop_74 : decode cX6_hasLoop 74 = .ok (.istore_n 2, 1) := by decide +kernel
theorem dX6_hasLoop_75 : decode cX6_hasLoop 75 = .ok (.iinc 3 1, 3) := by decide +kernel
theorem dX6_hasLoop_78 : decode cX6_hasLoop 78 = .ok (.goto (-41), 3) := by decide +kernel
theorem dX6_hasLoop_81 : decode cX6_hasLoop 81 = .ok (.iload_n 2, 1) := by decide +kernel
theorem dX6_hasLoop_82 : decode cX6_hasLoop 82 = .ok (.ifCond .eq 5, 3) := by decide +kernel
theorem dX6_hasLoop_85 : decode cX6_hasLoop 85 = .ok (.iconst 1, 1) := by decide +kernel
theorem dX6_hasLoop_86 : decode cX6_hasLoop 86 = .ok (.ireturn, 1) := by decide +kernel
theorem dX6_hasLoop_87 : decode cX6_hasLoop 87 = .ok (.iinc 1 1, 3) := by decide +kernel
theorem dX6_hasLoop_90 : decode cX6_hasLoop 90 = .ok (.goto (-88), 3) := by decide +kernel
theorem dX6_hasLoop_93 : decode cX6_hasLoop 93 = .ok (.iconst 0, 1) := by decide +kernel
theorem dX6_hasLoop_94 : decode cX6_hasLoop 94 = .ok (.ireturn, 1) := by decide +kernel
theorem dX6_chains_0 : decode cX6_chains 0 = .ok (.iconst 0, 1) := by decide +kernel
theorem dX6_chains_1 : decode cX6_chains 1 = .ok (.istore_n 1, 1) := by decide +kernel
theorem dX6_chains_2 : decode cX6_chains 2 = .ok (.iload_n 1, 1) := by decide +kernel
theorem dX6_chains_3 : decode cX6_chains 3 = .ok (.aload_n 0, 1) := by decide +kernel
theorem dX6_chains_4 : decode cX6_chains 4 = .ok (.getfield 71, 3) := by decide +kernel
theorem dX6_chains_7 : decode cX6_chains 7 = .ok (.if_icmp .gt 23, 3) := by decide +kernel
theorem dX6_chains_10 : decode cX6_chains 10 = .ok (.aload_n 0, 1) := by decide +kernel
theorem dX6_chains_11 : decode cX6_chains 11 = .ok (.getfield 49, 3) := by decide +kernel
theorem dX6_chains_14 : decode cX6_chains 14 = .ok (.iload_n 1, 1) := by decide +kernel
theorem dX6_chains_15 : decode cX6_chains 15 = .ok (.iload_n 1, 1) := by decide +kernel
theorem dX6_chains_16 : decode cX6_chains 16 = .ok (.iastore, 1) := by decide +kernel
theorem dX6_chains_17 : decode cX6_chains 17 = .ok (.aload_n 0, 1) := by decide +kernel
theorem dX6_chains_18 : decode cX6_chains 18 = .ok (.getfield 52, 3) := by decide +kernel
theorem dX6_chains_21 : decode cX6_chains 21 = .ok (.iload_n 1, 1) := by decide +kernel
theorem dX6_chains_22 : decode cX6_chains 22 = .ok (.iconst 0, 1) := by decide +kernel
theorem dX6_chains_23 : decode cX6_chains 23 = .ok (.bastore, 1) := by decide +kernel
theorem dX6_chains_24 : decode cX6_chains 24 = .ok (.iinc 1 1, 3) := by decide +kernel
theorem dX6_chains_27 : decode cX6_chains 27 = .ok (.goto (-25), 3) := by decide +kernel
theorem dX6_chains_30 : decode cX6_chains 30 = .ok (.iconst 1, 1) := by decide +kernel
theorem dX6_chains_31 : decode cX6_chains 31 = .ok (.istore_n 1, 1) := by decide +kernel
theorem dX6_chains_32 : decode cX6_chains 32 = .ok (.iconst 0, 1) := by decide +kernel
theorem dX6_chains_33 : decode cX6_chains 33 = .ok (.istore_n 2, 1) := by decide +kernel
theorem dX6_chains_34 : decode cX6_chains 34 = .ok (.iload_n 2, 1) := by decide +kernel
theorem dX6_chains_35 : decode cX6_chains 35 = .ok (.aload_n 0, 1) := by decide +kernel
theorem dX6_chains_36 : decode cX6_chains 36 = .ok (.getfield 74, 3) := by decide +kernel
theorem dX6_chains_39 : decode cX6_chains 39 = .ok (.if_icmp .ge 214, 3) := by decide +kernel
theorem dX6_chains_42 : decode cX6_chains 42 = .ok (.aload_n 0, 1) := by decide +kernel
theorem dX6_chains_43 : decode cX6_chains 43 = .ok (.getfield 31, 3) := by decide +kernel
theorem dX6_chains_46 : decode cX6_chains 46 = .ok (.iload_n 2, 1) := by decide +kernel
theorem dX6_chains_47 : decode cX6_chains 47 = .ok (.iaload, 1) := by decide +kernel
theorem dX6_chains_48 : decode cX6_chains 48 = .ok (.ifCond .eq 199, 3) := by decide +kernel
theorem dX6_chains_51 : decode cX6_chains 51 = .ok (.aload_n 0, 1) := by decide +kernel
theorem dX6_chains_52 : decode cX6_chains 52 = .ok (.getfield 16, 3) := by decide +kernel
theorem dX6_chains_55 : decode cX6_chains 55 = .ok (.iload_n 2, 1) := by decide +kernel
theorem dX6_chains_56 : decode cX6_chains 56 = .ok (.iaload, 1) := by decide +kernel
theorem dX6_chains_57 : decode cX6_chains 57 = .ok (.istore_n 3, 1) := by decide +kernel
theorem dX6_chains_58 : decode cX6_chains 58 = .ok (.aload_n 0, 1) := by decide +kernel
theorem dX6_chains_59 : decode cX6_chains 59 = .ok (.getfield 19, 3) := by decide +kernel
theorem dX6_chains_62 : decode cX6_chains 62 = .ok (.iload_n 2, 1) := by decide +kernel
theorem dX6_chains_63 : decode cX6_chains 63 = .ok (.iaload, 1) := by decide +kernel
theorem dX6_chains_64 : decode cX6_chains 64 = .ok (.istore 4, 2) := by decide +kernel
theorem dX6_chains_66 : decode cX6_chains 66 = .ok (.aload_n 0, 1) := by decide +kernel
theorem dX6_chains_67 : decode cX6_chains 67 = .ok (.getfield 31, 3) := by decide +kernel
theorem dX6_chains_70 : decode cX6_chains 70 = .ok (.iload_n 2, 1) := by decide +kernel
theorem dX6_chains_71 : decode cX6_chains 71 = .ok (.iaload, 1) := by decide +kernel
theorem dX6_chains_72 : decode cX6_chains 72 = .ok (.iconst 1, 1) := by decide +kernel
theorem dX6_chains_73 : decode cX6_chains 73 = .ok (.if_icmp .ne 7, 3) := by decide +kernel
theorem dX6_chains_76 : decode cX6_chains 76 = .ok (.iconst 1, 1) := by decide +kernel
theorem dX6_chains_77 : decode cX6_chains 77 = .ok (.goto 4, 3) := by decide +kernel
theorem dX6_chains_80 : decode cX6_chains 80 = .ok (.iconst 0, 1) := by decide +kernel
theorem dX6_chains_81 : decode cX6_chains 81 = .ok (.istore 5, 2) := by decide +kernel
theorem dX6_chains_83 : decode cX6_chains 83 = .ok (.aload_n 0, 1) := by decide +kernel
theorem dX6_chains_84 : decode cX6_chains 84 = .ok (.getfield 49, 3) := by decide +kernel
theorem dX6_chains_87 : decode cX6_chains 87 = .ok (.iload_n 3, 1) := by decide +kernel
theorem dX6_chains_88 : decode cX6_chains 88 = .ok (.iaload, 1) := by decide +kernel
theorem dX6_chains_89 : decode cX6_chains 89 = .ok (.aload_n 0, 1) := by decide +kernel
theorem dX6_chains_90 : decode cX6_chains 90 = .ok (.getfield 49, 3) := by decide +kernel
theorem dX6_chains_93 : decode cX6_chains 93 = .ok (.iload 4, 2) := by decide +kernel
theorem dX6_chains_95 : decode cX6_chains 95 = .ok (.iaload, 1) := by decide +kernel
theorem dX6_chains_96 : decode cX6_chains 96 = .ok (.if_icmp .ne 42, 3) := by decide +kernel
theorem dX6_chains_99 : decode cX6_chains 99 = .ok (.iload_n 1, 1) := by decide +kernel
theorem dX6_chains_100 : decode cX6_chains 100 = .ok (.ifCond .eq 33, 3) := by decide +kernel
theorem dX6_chains_103 : decode cX6_chains 103 = .ok (.aload_n 0, 1) := by decide +kernel
theorem dX6_chains_104 : decode cX6_chains 104 = .ok (.getfield 52, 3) := by decide +kernel
theorem dX6_chains_107 : decode cX6_chains 107 = .ok (.iload_n 3, 1) := by decide +kernel
theorem dX6_chains_108 : decode cX6_chains 108 = .ok (.baload, 1) := by decide +kernel
theorem dX6_chains_109 : decode cX6_chains 109 = .ok (.aload_n 0, 1) := by decide +kernel
theorem dX6_chains_110 : decode cX6_chains 110 = .ok (.getfield 52, 3) := by decide +kernel
theorem dX6_chains_113 : decode cX6_chains 113 = .ok (.iload 4, 2) := by decide +kernel
theorem dX6_chains_115 : decode cX6_chains 115 = .ok (.baload, 1) := by decide +kernel
theorem dX6_chains_116 : decode cX6_chains 116 = .ok (.if_icmp .eq 7, 3) := by decide +kernel
theorem dX6_chains_119 : decode cX6_chains 119 = .ok (.iconst 1, 1) := by decide +kernel
theorem dX6_chains_120 : decode cX6_chains 120 = .ok (.goto 4, 3) := by decide +kernel
theorem dX6_chains_123 : decode cX6_chains 123 = .ok (.iconst 0, 1) := by decide +kernel
theorem dX6_chains_124 : decode cX6_chains 124 = .ok (.iload 5, 2) := by decide +kernel
theorem dX6_chains_126 : decode cX6_chains 126 = .ok (.if_icmp .ne 7, 3) := by decide +kernel
theorem dX6_chains_129 : decode cX6_chains 129 = .ok (.iconst 1, 1) := by decide +kernel
theorem dX6_chains_130 : decode cX6_chains 130 = .ok (.goto 4, 3) := by decide +kernel
theorem dX6_chains_133 : decode cX6_chains 133 = .ok (.iconst 0, 1) := by decide +kernel
theorem dX6_chains_134 : decode cX6_chains 134 = .ok (.istore_n 1, 1) := by decide +kernel
theorem dX6_chains_135 : decode cX6_chains 135 = .ok (.goto 112, 3) := by decide +kernel
theorem dX6_chains_138 : decode cX6_chains 138 = .ok (.aload_n 0, 1) := by decide +kernel
theorem dX6_chains_139 : decode cX6_chains 139 = .ok (.getfield 49, 3) := by decide +kernel
theorem dX6_chains_142 : decode cX6_chains 142 = .ok (.iload 4, 2) := by decide +kernel
theorem dX6_chains_144 : decode cX6_chains 144 = .ok (.iaload, 1) := by decide +kernel
theorem dX6_chains_145 : decode cX6_chains 145 = .ok (.istore 6, 2) := by decide +kernel
theorem dX6_chains_147 : decode cX6_chains 147 = .ok (.aload_n 0, 1) := by decide +kernel
theorem dX6_chains_148 : decode cX6_chains 148 = .ok (.getfield 52, 3) := by decide +kernel
theorem dX6_chains_151 : decode cX6_chains 151 = .ok (.iload_n 3, 1) := by decide +kernel
theorem dX6_chains_152 : decode cX6_chains 152 = .ok (.baload, 1) := by decide +kernel
theorem dX6_chains_153 : decode cX6_chains 153 = .ok (.aload_n 0, 1) := by decide +kernel
theorem dX6_chains_154 : decode cX6_chains 154 = .ok (.getfield 52, 3) := by decide +kernel
theorem dX6_chains_157 : decode cX6_chains 157 = .ok (.iload 4, 2) := by decide +kernel
theorem dX6_chains_159 : decode cX6_chains 159 = .ok (.baload, 1) := by decide +kernel
theorem dX6_chains_160 : decode cX6_chains 160 = .ok (.if_icmp .eq 7, 3) := by decide +kernel
theorem dX6_chains_163 : decode cX6_chains 163 = .ok (.iconst 1, 1) := by decide +kernel
theorem dX6_chains_164 : decode cX6_chains 164 = .ok (.goto 4, 3) := by decide +kernel
theorem dX6_chains_167 : decode cX6_chains 167 = .ok (.iconst 0, 1) := by decide +kernel
theorem dX6_chains_168 : decode cX6_chains 168 = .ok (.iload 5, 2) := by decide +kernel
theorem dX6_chains_170 : decode cX6_chains 170 = .ok (.if_icmp .eq 7, 3) := by decide +kernel
theorem dX6_chains_173 : decode cX6_chains 173 = .ok (.iconst 1, 1) := by decide +kernel
theorem dX6_chains_174 : decode cX6_chains 174 = .ok (.goto 4, 3) := by decide +kernel
theorem dX6_chains_177 : decode cX6_chains 177 = .ok (.iconst 0, 1) := by decide +kernel
theorem dX6_chains_178 : decode cX6_chains 178 = .ok (.istore 7, 2) := by decide +kernel
theorem dX6_chains_180 : decode cX6_chains 180 = .ok (.iconst 0, 1) := by decide +kernel
theorem dX6_chains_181 : decode cX6_chains 181 = .ok (.istore 8, 2) := by decide +kernel
theorem dX6_chains_183 : decode cX6_chains 183 = .ok (.iload 8, 2) := by decide +kernel
theorem dX6_chains_185 : decode cX6_chains 185 = .ok (.aload_n 0, 1) := by decide +kernel
theorem dX6_chains_186 : decode cX6_chains 186 = .ok (.getfield 71, 3) := by decide +kernel
theorem dX6_chains_189 : decode cX6_chains 189 = .ok (.if_icmp .gt 58, 3) := by decide +kernel
theorem dX6_chains_192 : decode cX6_chains 192 = .ok (.aload_n 0, 1) := by decide +kernel
theorem dX6_chains_193 : decode cX6_chains 193 = .ok (.getfield 49, 3) := by decide +kernel
theorem dX6_chains_196 : decode cX6_chains 196 = .ok (.iload 8, 2) := by decide +kernel
theorem dX6_chains_198 : decode cX6_chains 198 = .ok (.iaload, 1) := by decide +kernel
theorem dX6_chains_199 : decode cX6_chains 199 = .ok (.iload 6, 2) := by decide +kernel
theorem dX6_chains_201 : decode cX6_chains 201 = .ok (.if_icmp .ne 40, 3) := by decide +kernel
theorem dX6_chains_204 : decode cX6_chains 204 = .ok (.aload_n 0, 1) := by decide +kernel
theorem dX6_chains_205 : decode cX6_chains 205 = .ok (.getfield 49, 3) := by decide +kernel
theorem dX6_chains_208 : decode cX6_chains 208 = .ok (.iload 8, 2) := by decide +kernel
theorem dX6_chains_210 : decode cX6_chains 210 = .ok (.aload_n 0, 1) := by decide +kernel
theorem dX6_chains_211 : decode cX6_chains 211 = .ok (.getfield 49, 3) := by decide +kernel
theorem dX6_chains_214 : decode cX6_chains 214 = .ok (.iload_n 3, 1) := by decide +kernel
theorem dX6_chains_215 : decode cX6_chains 215 = .ok (.iaload, 1) := by decide +kernel
theorem dX6_chains_216 : decode cX6_chains 216 = .ok (.iastore, 1) := by decide +kernel
theorem dX6_chains_217 : decode cX6_chains 217 = .ok (.aload_n 0, 1) := by decide +kernel
theorem dX6_chains_218 : decode cX6_chains 218 = .ok (.getfield 52, 3) := by decide +kernel
theorem dX6_chains_221 : decode cX6_chains 221 = .ok (.iload 8, 2) := by decide +kernel
theorem dX6_chains_223 : decode cX6_chains 223 = .ok (.aload_n 0, 1) := by decide +kernel
theorem dX6_chains_224 : decode cX6_chains 224 = .ok (.getfield 52, 3) := by decide +kernel
theorem dX6_chains_227 : decode cX6_chains 227 = .ok (.iload 8, 2) := by decide +kernel
theorem dX6_chains_229 : decode cX6_chains 229 = .ok (.baload, 1) := by decide +kernel
theorem dX6_chains_230 : decode cX6_chains 230 = .ok (.iload 7, 2) := by decide +kernel
theorem dX6_chains_232 : decode cX6_chains 232 = .ok (.if_icmp .eq 7, 3) := by decide +kernel
theorem dX6_chains_235 : decode cX6_chains 235 = .ok (.iconst 1, 1) := by decide +kernel
theorem dX6_chains_236 : decode cX6_chains 236 = .ok (.goto 4, 3) := by decide +kernel
theorem dX6_chains_239 : decode cX6_chains 239 = .ok (.iconst 0, 1) := by decide +kernel
theorem dX6_chains_240 : decode cX6_chains 240 = .ok (.bastore, 1) := by decide +kernel
theorem dX6_chains_241 : decode cX6_chains 241 = .ok (.iinc 8 1, 3) := by decide +kernel
theorem dX6_chains_244 : decode cX6_chains 244 = .ok (.goto (-61), 3) := by decide +kernel
theorem dX6_chains_247 : decode cX6_chains 247 = .ok (.iinc 2 1, 3) := by decide +kernel
theorem dX6_chains_250 : decode cX6_chains 250 = .ok (.goto (-216), 3) := by decide +kernel
theorem dX6_chains_253 : decode cX6_chains 253 = .ok (.iload_n 1, 1) := by decide +kernel
theorem dX6_chains_254 : decode cX6_chains 254 = .ok (.ireturn, 1) := by decide +kernel
theorem dX6_brokenBy_0 : decode cX6_brokenBy 0 = .ok (.iconst 0, 1) := by decide +kernel
theorem dX6_brokenBy_1 : decode cX6_brokenBy 1 = .ok (.istore_n 1, 1) := by decide +kernel
theorem dX6_brokenBy_2 : decode cX6_brokenBy 2 = .ok (.iload_n 1, 1) := by decide +kernel
theorem dX6_brokenBy_3 : decode cX6_brokenBy 3 = .ok (.aload_n 0, 1) := by decide +kernel
theorem dX6_brokenBy_4 : decode cX6_brokenBy 4 = .ok (.getfield 71, 3) := by decide +kernel
theorem dX6_brokenBy_7 : decode cX6_brokenBy 7 = .ok (.if_icmp .ge 55, 3) := by decide +kernel
theorem dX6_brokenBy_10 : decode cX6_brokenBy 10 = .ok (.aload_n 0, 1) := by decide +kernel
theorem dX6_brokenBy_11 : decode cX6_brokenBy 11 = .ok (.iload_n 1, 1) := by decide +kernel
theorem dX6_brokenBy_12 : decode cX6_brokenBy 12 = .ok (.iconst 1, 1) := by decide +kernel
theorem dX6_brokenBy_13 : decode cX6_brokenBy 13 = .ok (.invokevirtual 111, 3) := by decide +kernel
theorem dX6_brokenBy_16 : decode cX6_brokenBy 16 = .ok (.istore_n 2, 1) := by decide +kernel
theorem dX6_brokenBy_17 : decode cX6_brokenBy 17 = .ok (.aload_n 0, 1) := by decide +kernel
theorem dX6_brokenBy_18 : decode cX6_brokenBy 18 = .ok (.getfield 25, 3) := by decide +kernel
theorem dX6_brokenBy_21 : decode cX6_brokenBy 21 = .ok (.iload_n 1, 1) := by decide +kernel
theorem dX6_brokenBy_22 : decode cX6_brokenBy 22 = .ok (.iaload, 1) := by decide +kernel
theorem dX6_brokenBy_23 : decode cX6_brokenBy 23 = .ok (.iconst (-1), 1) := by decide +kernel
theorem dX6_brokenBy_24 : decode cX6_brokenBy 24 = .ok (.if_icmp .eq 32, 3) := by decide +kernel
theorem dX6_brokenBy_27 : decode cX6_brokenBy 27 = .ok (.iload_n 2, 1) := by decide +kernel
theorem dX6_brokenBy_28 : decode cX6_brokenBy 28 = .ok (.aload_n 0, 1) := by decide +kernel
theorem dX6_brokenBy_29 : decode cX6_brokenBy 29 = .ok (.getfield 25, 3) := by decide +kernel
theorem dX6_brokenBy_32 : decode cX6_brokenBy 32 = .ok (.iload_n 1, 1) := by decide +kernel
theorem dX6_brokenBy_33 : decode cX6_brokenBy 33 = .ok (.iaload, 1) := by decide +kernel
theorem dX6_brokenBy_34 : decode cX6_brokenBy 34 = .ok (.if_icmp .gt 20, 3) := by decide +kernel
theorem dX6_brokenBy_37 : decode cX6_brokenBy 37 = .ok (.iload_n 2, 1) := by decide +kernel
theorem dX6_brokenBy_38 : decode cX6_brokenBy 38 = .ok (.aload_n 0, 1) := by decide +kernel
theorem dX6_brokenBy_39 : decode cX6_brokenBy 39 = .ok (.iload_n 1, 1) := by decide +kernel
theorem dX6_brokenBy_40 : decode cX6_brokenBy 40 = .ok (.iconst 0, 1) := by decide +kernel
theorem dX6_brokenBy_41 : decode cX6_brokenBy 41 = .ok (.invokevirtual 111, 3) := by decide +kernel
theorem dX6_brokenBy_44 : decode cX6_brokenBy 44 = .ok (.iadd, 1) := by decide +kernel
theorem dX6_brokenBy_45 : decode cX6_brokenBy 45 = .ok (.aload_n 0, 1) := by decide +kernel
theorem dX6_brokenBy_46 : decode cX6_brokenBy 46 = .ok (.getfield 25, 3) := by decide +kernel
theorem dX6_brokenBy_49 : decode cX6_brokenBy 49 = .ok (.iload_n 1, 1) := by decide +kernel
theorem dX6_brokenBy_50 : decode cX6_brokenBy 50 = .ok (.iaload, 1) := by decide +kernel
theorem dX6_brokenBy_51 : decode cX6_brokenBy 51 = .ok (.if_icmp .ge 5, 3) := by decide +kernel
theorem dX6_brokenBy_54 : decode cX6_brokenBy 54 = .ok (.iconst 1, 1) := by decide +kernel
theorem dX6_brokenBy_55 : decode cX6_brokenBy 55 = .ok (.ireturn, 1) := by decide +kernel
theorem dX6_brokenBy_56 : decode cX6_brokenBy 56 = .ok (.iinc 1 1, 3) := by decide +kernel
theorem dX6_brokenBy_59 : decode cX6_brokenBy 59 = .ok (.goto (-57), 3) := by decide +kernel
theorem dX6_brokenBy_62 : decode cX6_brokenBy 62 = .ok (.iconst 0, 1) := by decide +kernel
theorem dX6_brokenBy_63 : decode cX6_brokenBy 63 = .ok (.istore_n 1, 1) := by decide +kernel
theorem dX6_brokenBy_64 : decode cX6_brokenBy 64 = .ok (.iload_n 1, 1) := by decide +kernel
theorem dX6_brokenBy_65 : decode cX6_brokenBy 65 = .ok (.aload_n 0, 1) := by decide +kernel
theorem dX6_brokenBy_66 : decode cX6_brokenBy 66 = .ok (.getfield 83, 3) := by decide +kernel
theorem dX6_brokenBy_69 : decode cX6_brokenBy 69 = .ok (.if_icmp .ge 37, 3) := by decide +kernel
theorem dX6_brokenBy_72 : decode cX6_brokenBy 72 = .ok (.aload_n 0, 1) := by decide +kernel
theorem dX6_brokenBy_73 : decode cX6_brokenBy 73 = .ok (.iload_n 1, 1) := by decide +kernel
theorem dX6_brokenBy_74 : decode cX6_brokenBy 74 = .ok (.iconst 1, 1) := by decide +kernel
theorem dX6_brokenBy_75 : decode cX6_brokenBy 75 = .ok (.invokevirtual 114, 3) := by decide +kernel
theorem dX6_brokenBy_78 : decode cX6_brokenBy 78 = .ok (.istore_n 2, 1) := by decide +kernel
theorem dX6_brokenBy_79 : decode cX6_brokenBy 79 = .ok (.iload_n 2, 1) := by decide +kernel
theorem dX6_brokenBy_80 : decode cX6_brokenBy 80 = .ok (.iconst 2, 1) := by decide +kernel
theorem dX6_brokenBy_81 : decode cX6_brokenBy 81 = .ok (.if_icmp .gt 17, 3) := by decide +kernel
theorem dX6_brokenBy_84 : decode cX6_brokenBy 84 = .ok (.iload_n 2, 1) := by decide +kernel
theorem dX6_brokenBy_85 : decode cX6_brokenBy 85 = .ok (.iconst 1, 1) := by decide +kernel
theorem dX6_brokenBy_86 : decode cX6_brokenBy 86 = .ok (.if_icmp .ne 14, 3) := by decide +kernel
theorem dX6_brokenBy_89 : decode cX6_brokenBy 89 = .ok (.aload_n 0, 1) := by decide +kernel
theorem dX6_brokenBy_90 : decode cX6_brokenBy 90 = .ok (.iload_n 1, 1) := by decide +kernel
theorem dX6_brokenBy_91 : decode cX6_brokenBy 91 = .ok (.iconst 0, 1) := by decide +kernel
theorem dX6_brokenBy_92 : decode cX6_brokenBy 92 = .ok (.invokevirtual 114, 3) := by decide +kernel
theorem dX6_brokenBy_95 : decode cX6_brokenBy 95 = .ok (.ifCond .ne 5, 3) := by decide +kernel
theorem dX6_brokenBy_98 : decode cX6_brokenBy 98 = .ok (.iconst 2, 1) := by decide +kernel
theorem dX6_brokenBy_99 : decode cX6_brokenBy 99 = .ok (.ireturn, 1) := by decide +kernel
theorem dX6_brokenBy_100 : decode cX6_brokenBy 100 = .ok (.iinc 1 1, 3) := by decide +kernel
theorem dX6_brokenBy_103 : decode cX6_brokenBy 103 = .ok (.goto (-39), 3) := by decide +kernel
theorem dX6_brokenBy_106 : decode cX6_brokenBy 106 = .ok (.aload_n 0, 1) := by decide +kernel
theorem dX6_brokenBy_107 : decode cX6_brokenBy 107 = .ok (.invokevirtual 121, 3) := by decide +kernel
theorem dX6_brokenBy_110 : decode cX6_brokenBy 110 = .ok (.aload_n 0, 1) := by decide +kernel
theorem dX6_brokenBy_111 : decode cX6_brokenBy 111 = .ok (.invokevirtual 124, 3) := by decide +kernel
theorem dX6_brokenBy_114 : decode cX6_brokenBy 114 = .ok (.ifCond .eq 20, 3) := by decide +kernel
theorem dX6_brokenBy_117 : decode cX6_brokenBy 117 = .ok (.aload_n 0, 1) := by decide +kernel
theorem dX6_brokenBy_118 : decode cX6_brokenBy 118 = .ok (.invokevirtual 117, 3) := by decide +kernel
theorem dX6_brokenBy_121 : decode cX6_brokenBy 121 = .ok (.iconst 1, 1) := by decide +kernel
theorem dX6_brokenBy_122 : decode cX6_brokenBy 122 = .ok (.if_icmp .gt 10, 3) := by decide +kernel
theorem dX6_brokenBy_125 : decode cX6_brokenBy 125 = .ok (.aload_n 0, 1) := by decide +kernel
theorem dX6_brokenBy_126 : decode cX6_brokenBy 126 = .ok (.invokevirtual 128, 3) := by decide +kernel
theorem dX6_brokenBy_129 : decode cX6_brokenBy 129 = .ok (.ifCond .ne 5, 3) := by decide +kernel
theorem dX6_brokenBy_132 : decode cX6_brokenBy 132 = .ok (.iconst 3, 1) := by decide +kernel
theorem dX6_brokenBy_133 : decode cX6_brokenBy 133 = .ok (.ireturn, 1) := by decide +kernel
theorem dX6_brokenBy_134 : decode cX6_brokenBy 134 = .ok (.aload_n 0, 1) := by decide +kernel
theorem dX6_brokenBy_135 : decode cX6_brokenBy 135 = .ok (.invokevirtual 131, 3) := by decide +kernel
theorem dX6_brokenBy_138 : decode cX6_brokenBy 138 = .ok (.ifCond .eq 7, 3) := by decide +kernel
theorem dX6_brokenBy_141 : decode cX6_brokenBy 141 = .ok (.iconst 0, 1) := by decide +kernel
theorem dX6_brokenBy_142 : decode cX6_brokenBy 142 = .ok (.goto 4, 3) := by decide +kernel
theorem dX6_brokenBy_145 : decode cX6_brokenBy 145 = .ok (.iconst 4, 1) := by decide +kernel
theorem dX6_brokenBy_146 : decode cX6_brokenBy 146 = .ok (.ireturn, 1) := by decide +kernel
theorem dX6_want_0 : decode cX6_want 0 = .ok (.aload_n 0, 1) := by decide +kernel
theorem dX6_want_1 : decode cX6_want 1 = .ok (.getfield 31, 3) := by decide +kernel
theorem dX6_want_4 : decode cX6_want 4 = .ok (.iload_n 1, 1) := by decide +kernel
theorem dX6_want_5 : decode cX6_want 5 = .ok (.iaload, 1) := by decide +kernel
theorem dX6_want_6 : decode cX6_want 6 = .ok (.ifCond .ne 48, 3) := by decide +kernel
theorem dX6_want_9 : decode cX6_want 9 = .ok (.aload_n 0, 1) := by decide +kernel
theorem dX6_want_10 : decode cX6_want 10 = .ok (.getfield 34, 3) := by decide +kernel
theorem dX6_want_13 : decode cX6_want 13 = .ok (.iload_n 1, 1) := by decide +kernel
theorem dX6_want_14 : decode cX6_want 14 = .ok (.dup2, 1) := by decide +kernel
theorem dX6_want_15 : decode cX6_want 15 = .ok (.iaload, 1) := by decide +kernel
theorem dX6_want_16 : decode cX6_want 16 = .ok (.iload_n 2, 1) := by decide +kernel
theorem dX6_want_17 : decode cX6_want 17 = .ok (.ior, 1) := by decide +kernel
theorem dX6_want_18 : decode cX6_want 18 = .ok (.iastore, 1) := by decide +kernel
theorem dX6_want_19 : decode cX6_want 19 = .ok (.aload_n 0, 1) := by decide +kernel
theorem dX6_want_20 : decode cX6_want 20 = .ok (.getfield 37, 3) := by decide +kernel
theorem dX6_want_23 : decode cX6_want 23 = .ok (.iload_n 1, 1) := by decide +kernel
theorem dX6_want_24 : decode cX6_want 24 = .ok (.aload_n 0, 1) := by decide +kernel
theorem dX6_want_25 : decode cX6_want 25 = .ok (.getfield 37, 3) := by decide +kernel
theorem dX6_want_28 : decode cX6_want 28 = .ok (.iload_n 1, 1) := by decide +kernel
theorem dX6_want_29 : decode cX6_want 29 = .ok (.iaload, 1) := by decide +kernel
theorem dX6_want_30 : decode cX6_want 30 = .ok (.ifCond .eq 13, 3) := by decide +kernel
theorem dX6_want_33 : decode cX6_want 33 = .ok (.iload_n 3, 1) := by decide +kernel
theorem dX6_want_34 : decode cX6_want 34 = .ok (.aload_n 0, 1) := by decide +kernel
theorem dX6_want_35 : decode cX6_want 35 = .ok (.getfield 37, 3) := by decide +kernel
theorem dX6_want_38 : decode cX6_want 38 = .ok (.iload_n 1, 1) := by decide +kernel
theorem dX6_want_39 : decode cX6_want 39 = .ok (.iaload, 1) := by decide +kernel
theorem dX6_want_40 : decode cX6_want 40 = .ok (.if_icmp .ge 7, 3) := by decide +kernel
theorem dX6_want_43 : decode cX6_want 43 = .ok (.iload_n 3, 1) := by decide +kernel
theorem dX6_want_44 : decode cX6_want 44 = .ok (.goto 9, 3) := by decide +kernel
theorem dX6_want_47 : decode cX6_want 47 = .ok (.aload_n 0, 1) := by decide +kernel
theorem dX6_want_48 : decode cX6_want 48 = .ok (.getfield 37, 3) := by decide +kernel
theorem dX6_want_51 : decode cX6_want 51 = .ok (.iload_n 1, 1) := by decide +kernel
theorem dX6_want_52 : decode cX6_want 52 = .ok (.iaload, 1) := by decide +kernel
theorem dX6_want_53 : decode cX6_want 53 = .ok (.iastore, 1) := by decide +kernel
theorem dX6_want_54 : decode cX6_want 54 = .ok (.return_, 1) := by decide +kernel
theorem dX6_wantAround_0 : decode cX6_wantAround 0 = .ok (.iconst 0, 1) := by decide +kernel
theorem dX6_wantAround_1 : decode cX6_wantAround 1 = .ok (.istore 4, 2) := by decide +kernel
theorem dX6_wantAround_3 : decode cX6_wantAround 3 = .ok (.iload 4, 2) := by decide +kernel
theorem dX6_wantAround_5 : decode cX6_wantAround 5 = .ok (.iconst 4, 1) := by decide +kernel
theorem dX6_wantAround_6 : decode cX6_wantAround 6 = .ok (.if_icmp .ge 26, 3) := by decide +kernel
theorem dX6_wantAround_9 : decode cX6_wantAround 9 = .ok (.aload_n 0, 1) := by decide +kernel
theorem dX6_wantAround_10 : decode cX6_wantAround 10 = .ok (.aload_n 0, 1) := by decide +kernel
theorem dX6_wantAround_11 : decode cX6_wantAround 11 = .ok (.getfield 22, 3) := by decide +kernel
theorem dX6_wantAround_14 : decode cX6_wantAround 14 = .ok (.iconst 4, 1) := by decide +kernel
theorem dX6_wantAround_15 : decode cX6_wantAround 15 = .ok (.iload_n 1, 1) := by decide +kernel
theorem dX6_wantAround_16 : decode cX6_wantAround 16 = .ok (.imul, 1) := by decide +kernel
theorem dX6_wantAround_17 : decode cX6_wantAround 17 = .ok (.iload 4, 2) := by decide +kernel
theorem dX6_wantAround_19 : decode cX6_wantAround 19 = .ok (.iadd, 1) := by decide +kernel
theorem dX6_wantAround_20 : decode cX6_wantAround 20 = .ok (.iaload, 1) := by decide +kernel
theorem dX6_wantAround_21 : decode cX6_wantAround 21 = .ok (.iload_n 2, 1) := by decide +kernel
theorem dX6_wantAround_22 : decode cX6_wantAround 22 = .ok (.iload_n 3, 1) := by decide +kernel
theorem dX6_wantAround_23 : decode cX6_wantAround 23 = .ok (.invokevirtual 134, 3) := by decide +kernel
theorem dX6_wantAround_26 : decode cX6_wantAround 26 = .ok (.iinc 4 1, 3) := by decide +kernel
theorem dX6_wantAround_29 : decode cX6_wantAround 29 = .ok (.goto (-26), 3) := by decide +kernel
theorem dX6_wantAround_32 : decode cX6_wantAround 32 = .ok (.return_, 1) := by decide +kernel
theorem dX6_wantAt_0 : decode cX6_wantAt 0 = .ok (.iconst 0, 1) := by decide +kernel
theorem dX6_wantAt_1 : decode cX6_wantAt 1 = .ok (.istore 4, 2) := by decide +kernel
theorem dX6_wantAt_3 : decode cX6_wantAt 3 = .ok (.iload 4, 2) := by decide +kernel
theorem dX6_wantAt_5 : decode cX6_wantAt 5 = .ok (.aload_n 0, 1) := by decide +kernel
theorem dX6_wantAt_6 : decode cX6_wantAt 6 = .ok (.getfield 74, 3) := by decide +kernel
theorem dX6_wantAt_9 : decode cX6_wantAt 9 = .ok (.if_icmp .ge 39, 3) := by decide +kernel
theorem dX6_wantAt_12 : decode cX6_wantAt 12 = .ok (.aload_n 0, 1) := by decide +kernel
theorem dX6_wantAt_13 : decode cX6_wantAt 13 = .ok (.getfield 7, 3) := by decide +kernel
theorem dX6_wantAt_16 : decode cX6_wantAt 16 = .ok (.iload 4, 2) := by decide +kernel
theorem dX6_wantAt_18 : decode cX6_wantAt 18 = .ok (.iaload, 1) := by decide +kernel
theorem dX6_wantAt_19 : decode cX6_wantAt 19 = .ok (.iload_n 1, 1) := by decide +kernel
theorem dX6_wantAt_20 : decode cX6_wantAt 20 = .ok (.if_icmp .eq 14, 3) := by decide +kernel
theorem dX6_wantAt_23 : decode cX6_wantAt 23 = .ok (.aload_n 0, 1) := by decide +kernel
theorem dX6_wantAt_24 : decode cX6_wantAt 24 = .ok (.getfield 13, 3) := by decide +kernel
theorem dX6_wantAt_27 : decode cX6_wantAt 27 = .ok (.iload 4, 2) := by decide +kernel
theorem dX6_wantAt_29 : decode cX6_wantAt 29 = .ok (.iaload, 1) := by decide +kernel
theorem dX6_wantAt_30 : decode cX6_wantAt 30 = .ok (.iload_n 1, 1) := by decide +kernel
theorem dX6_wantAt_31 : decode cX6_wantAt 31 = .ok (.if_icmp .ne 11, 3) := by decide +kernel
theorem dX6_wantAt_34 : decode cX6_wantAt 34 = .ok (.aload_n 0, 1) := by decide +kernel
theorem dX6_wantAt_35 : decode cX6_wantAt 35 = .ok (.iload 4, 2) := by decide +kernel
theorem dX6_wantAt_37 : decode cX6_wantAt 37 = .ok (.iload_n 2, 1) := by decide +kernel
theorem dX6_wantAt_38 : decode cX6_wantAt 38 = .ok (.iload_n 3, 1) := by decide +kernel
theorem dX6_wantAt_39 : decode cX6_wantAt 39 = .ok (.invokevirtual 134, 3) := by decide +kernel
theorem dX6_wantAt_42 : decode cX6_wantAt 42 = .ok (.iinc 4 1, 3) := by decide +kernel
theorem dX6_wantAt_45 : decode cX6_wantAt 45 = .ok (.goto (-42), 3) := by decide +kernel
theorem dX6_wantAt_48 : decode cX6_wantAt 48 = .ok (.return_, 1) := by decide +kernel
theorem dX6_closes_0 : decode cX6_closes 0 = .ok (.aload_n 0, 1) := by decide +kernel
theorem dX6_closes_1 : decode cX6_closes 1 = .ok (.getfield 31, 3) := by decide +kernel
theorem dX6_closes_4 : decode cX6_closes 4 = .ok (.iload_n 1, 1) := by decide +kernel
theorem dX6_closes_5 : decode cX6_closes 5 = .ok (.iconst 1, 1) := by decide +kernel
theorem dX6_closes_6 : decode cX6_closes 6 = .ok (.iastore, 1) := by decide +kernel
theorem dX6_closes_7 : decode cX6_closes 7 = .ok (.aload_n 0, 1) := by decide +kernel
theorem dX6_closes_8 : decode cX6_closes 8 = .ok (.invokevirtual 121, 3) := by decide +kernel
theorem dX6_closes_11 : decode cX6_closes 11 = .ok (.aload_n 0, 1) := by decide +kernel
theorem dX6_closes_12 : decode cX6_closes 12 = .ok (.invokevirtual 138, 3) := by decide +kernel
theorem dX6_closes_15 : decode cX6_closes 15 = .ok (.ifCond .eq 14, 3) := by decide +kernel
theorem dX6_closes_18 : decode cX6_closes 18 = .ok (.aload_n 0, 1) := by decide +kernel
theorem dX6_closes_19 : decode cX6_closes 19 = .ok (.invokevirtual 128, 3) := by decide +kernel
theorem dX6_closes_22 : decode cX6_closes 22 = .ok (.ifCond .eq 7, 3) := by decide +kernel
theorem dX6_closes_25 : decode cX6_closes 25 = .ok (.iconst 1, 1) := by decide +kernel
theorem dX6_closes_26 : decode cX6_closes 26 = .ok (.goto 4, 3) := by decide +kernel
theorem dX6_closes_29 : decode cX6_closes 29 = .ok (.iconst 0, 1) := by decide +kernel
theorem dX6_closes_30 : decode cX6_closes 30 = .ok (.istore_n 2, 1) := by decide +kernel
theorem dX6_closes_31 : decode cX6_closes 31 = .ok (.aload_n 0, 1) := by decide +kernel
theorem dX6_closes_32 : decode cX6_closes 32 = .ok (.getfield 31, 3) := by decide +kernel
theorem dX6_closes_35 : decode cX6_closes 35 = .ok (.iload_n 1, 1) := by decide +kernel
theorem dX6_closes_36 : decode cX6_closes 36 = .ok (.iconst 0, 1) := by decide +kernel
theorem dX6_closes_37 : decode cX6_closes 37 = .ok (.iastore, 1) := by decide +kernel
theorem dX6_closes_38 : decode cX6_closes 38 = .ok (.aload_n 0, 1) := by decide +kernel
theorem dX6_closes_39 : decode cX6_closes 39 = .ok (.invokevirtual 121, 3) := by decide +kernel
theorem dX6_closes_42 : decode cX6_closes 42 = .ok (.iload_n 2, 1) := by decide +kernel
theorem dX6_closes_43 : decode cX6_closes 43 = .ok (.ireturn, 1) := by decide +kernel
theorem dX6_asks_0 : decode cX6_asks 0 = .ok (.iconst 0, 1) := by decide +kernel
theorem dX6_asks_1 : decode cX6_asks 1 = .ok (.istore_n 1, 1) := by decide +kernel
theorem dX6_asks_2 : decode cX6_asks 2 = .ok (.iload_n 1, 1) := by decide +kernel
theorem dX6_asks_3 : decode cX6_asks 3 = .ok (.aload_n 0, 1) := by decide +kernel
theorem dX6_asks_4 : decode cX6_asks 4 = .ok (.getfield 74, 3) := by decide +kernel
theorem dX6_asks_7 : decode cX6_asks 7 = .ok (.if_icmp .ge 23, 3) := by decide +kernel
theorem dX6_asks_10 : decode cX6_asks 10 = .ok (.aload_n 0, 1) := by decide +kernel
theorem dX6_asks_11 : decode cX6_asks 11 = .ok (.getfield 34, 3) := by decide +kernel
theorem dX6_asks_14 : decode cX6_asks 14 = .ok (.iload_n 1, 1) := by decide +kernel
theorem dX6_asks_15 : decode cX6_asks 15 = .ok (.iconst 0, 1) := by decide +kernel
theorem dX6_asks_16 : decode cX6_asks 16 = .ok (.iastore, 1) := by decide +kernel
theorem dX6_asks_17 : decode cX6_asks 17 = .ok (.aload_n 0, 1) := by decide +kernel
theorem dX6_asks_18 : decode cX6_asks 18 = .ok (.getfield 37, 3) := by decide +kernel
theorem dX6_asks_21 : decode cX6_asks 21 = .ok (.iload_n 1, 1) := by decide +kernel
theorem dX6_asks_22 : decode cX6_asks 22 = .ok (.iconst 0, 1) := by decide +kernel
theorem dX6_asks_23 : decode cX6_asks 23 = .ok (.iastore, 1) := by decide +kernel
theorem dX6_asks_24 : decode cX6_asks 24 = .ok (.iinc 1 1, 3) := by decide +kernel
theorem dX6_asks_27 : decode cX6_asks 27 = .ok (.goto (-25), 3) := by decide +kernel
theorem dX6_asks_30 : decode cX6_asks 30 = .ok (.iconst 0, 1) := by decide +kernel
theorem dX6_asks_31 : decode cX6_asks 31 = .ok (.istore_n 1, 1) := by decide +kernel
theorem dX6_asks_32 : decode cX6_asks 32 = .ok (.iload_n 1, 1) := by decide +kernel
theorem dX6_asks_33 : decode cX6_asks 33 = .ok (.aload_n 0, 1) := by decide +kernel
theorem dX6_asks_34 : decode cX6_asks 34 = .ok (.getfield 71, 3) := by decide +kernel
theorem dX6_asks_37 : decode cX6_asks 37 = .ok (.if_icmp .ge 57, 3) := by decide +kernel
theorem dX6_asks_40 : decode cX6_asks 40 = .ok (.aload_n 0, 1) := by decide +kernel
theorem dX6_asks_41 : decode cX6_asks 41 = .ok (.iload_n 1, 1) := by decide +kernel
theorem dX6_asks_42 : decode cX6_asks 42 = .ok (.iconst 1, 1) := by decide +kernel
theorem dX6_asks_43 : decode cX6_asks 43 = .ok (.invokevirtual 111, 3) := by decide +kernel
theorem dX6_asks_46 : decode cX6_asks 46 = .ok (.istore_n 2, 1) := by decide +kernel
theorem dX6_asks_47 : decode cX6_asks 47 = .ok (.aload_n 0, 1) := by decide +kernel
theorem dX6_asks_48 : decode cX6_asks 48 = .ok (.getfield 25, 3) := by decide +kernel
theorem dX6_asks_51 : decode cX6_asks 51 = .ok (.iload_n 1, 1) := by decide +kernel
theorem dX6_asks_52 : decode cX6_asks 52 = .ok (.iaload, 1) := by decide +kernel
theorem dX6_asks_53 : decode cX6_asks 53 = .ok (.iload_n 2, 1) := by decide +kernel
theorem dX6_asks_54 : decode cX6_asks 54 = .ok (.if_icmp .ne 10, 3) := by decide +kernel
theorem dX6_asks_57 : decode cX6_asks 57 = .ok (.aload_n 0, 1) := by decide +kernel
theorem dX6_asks_58 : decode cX6_asks 58 = .ok (.iload_n 1, 1) := by decide +kernel
theorem dX6_asks_59 : decode cX6_asks 59 = .ok (.iconst 2, 1) := by decide +kernel
theorem dX6_asks_60 : decode cX6_asks 60 = .ok (.iconst 1, 1) := by decide +kernel
theorem dX6_asks_61 : decode cX6_asks 61 = .ok (.invokevirtual 141, 3) := by decide +kernel
