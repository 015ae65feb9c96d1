theorem dX0_init_0 : decode cX0_init 0 = .ok (.aload_n 0, 1) := by decide +kernel
theorem dX0_init_1 : decode cX0_init 1 = .ok (.invokespecial 3, 3) := by decide +kernel
theorem dX0_init_4 : decode cX0_init 4 = .ok (.aload_n 0, 1) := by decide +kernel
theorem dX0_init_5 : decode cX0_init 5 = .ok (.bipush 16, 2) := by decide +kernel
theorem dX0_init_7 : decode cX0_init 7 = .ok (.newarray .int, 2) := by decide +kernel
theorem dX0_init_9 : decode cX0_init 9 = .ok (.putfield 9, 3) := by decide +kernel
theorem dX0_init_12 : decode cX0_init 12 = .ok (.aload_n 0, 1) := by decide +kernel
theorem dX0_init_13 : decode cX0_init 13 = .ok (.bipush 17, 2) := by decide +kernel
theorem dX0_init_15 : decode cX0_init 15 = .ok (.newarray .long, 2) := by decide +kernel
theorem dX0_init_17 : decode cX0_init 17 = .ok (.putfield 15, 3) := by decide +kernel
theorem dX0_init_20 : decode cX0_init 20 = .ok (.aload_n 0, 1) := by decide +kernel
theorem dX0_init_21 : decode cX0_init 21 = .ok (.bipush 25, 2) := by decide +kernel
theorem dX0_init_23 : decode cX0_init 23 = .ok (.newarray .long, 2) := by decide +kernel
theorem dX0_init_25 : decode cX0_init 25 = .ok (.putfield 19, 3) := by decide +kernel
theorem dX0_init_28 : decode cX0_init 28 = .ok (.aload_n 0, 1) := by decide +kernel
theorem dX0_init_29 : decode cX0_init 29 = .ok (.bipush 40, 2) := by decide +kernel
theorem dX0_init_31 : decode cX0_init 31 = .ok (.newarray .int, 2) := by decide +kernel
theorem dX0_init_33 : decode cX0_init 33 = .ok (.putfield 22, 3) := by decide +kernel
theorem dX0_init_36 : decode cX0_init 36 = .ok (.aload_n 0, 1) := by decide +kernel
theorem dX0_init_37 : decode cX0_init 37 = .ok (.bipush 40, 2) := by decide +kernel
theorem dX0_init_39 : decode cX0_init 39 = .ok (.newarray .int, 2) := by decide +kernel
theorem dX0_init_41 : decode cX0_init 41 = .ok (.putfield 25, 3) := by decide +kernel
theorem dX0_init_44 : decode cX0_init 44 = .ok (.aload_n 0, 1) := by decide +kernel
theorem dX0_init_45 : decode cX0_init 45 = .ok (.bipush 40, 2) := by decide +kernel
theorem dX0_init_47 : decode cX0_init 47 = .ok (.newarray .int, 2) := by decide +kernel
theorem dX0_init_49 : decode cX0_init 49 = .ok (.putfield 28, 3) := by decide +kernel
theorem dX0_init_52 : decode cX0_init 52 = .ok (.aload_n 0, 1) := by decide +kernel
theorem dX0_init_53 : decode cX0_init 53 = .ok (.bipush 40, 2) := by decide +kernel
theorem dX0_init_55 : decode cX0_init 55 = .ok (.newarray .int, 2) := by decide +kernel
theorem dX0_init_57 : decode cX0_init 57 = .ok (.putfield 31, 3) := by decide +kernel
theorem dX0_init_60 : decode cX0_init 60 = .ok (.aload_n 0, 1) := by decide +kernel
theorem dX0_init_61 : decode cX0_init 61 = .ok (.bipush 16, 2) := by decide +kernel
theorem dX0_init_63 : decode cX0_init 63 = .ok (.newarray .int, 2) := by decide +kernel
theorem dX0_init_65 : decode cX0_init 65 = .ok (.putfield 34, 3) := by decide +kernel
theorem dX0_init_68 : decode cX0_init 68 = .ok (.aload_n 0, 1) := by decide +kernel
theorem dX0_init_69 : decode cX0_init 69 = .ok (.bipush 16, 2) := by decide +kernel
theorem dX0_init_71 : decode cX0_init 71 = .ok (.newarray .long, 2) := by decide +kernel
theorem dX0_init_73 : decode cX0_init 73 = .ok (.putfield 37, 3) := by decide +kernel
theorem dX0_init_76 : decode cX0_init 76 = .ok (.return_, 1) := by decide +kernel
theorem dX0_build_0 : decode cX0_build 0 = .ok (.aload_n 0, 1) := by decide +kernel
theorem dX0_build_1 : decode cX0_build 1 = .ok (.iload_n 1, 1) := by decide +kernel
theorem dX0_build_2 : decode cX0_build 2 = .ok (.putfield 40, 3) := by decide +kernel
theorem dX0_build_5 : decode cX0_build 5 = .ok (.aload_n 0, 1) := by decide +kernel
theorem dX0_build_6 : decode cX0_build 6 = .ok (.iload_n 2, 1) := by decide +kernel
theorem dX0_build_7 : decode cX0_build 7 = .ok (.putfield 44, 3) := by decide +kernel
theorem dX0_build_10 : decode cX0_build 10 = .ok (.aload_n 0, 1) := by decide +kernel
theorem dX0_build_11 : decode cX0_build 11 = .ok (.aload_n 0, 1) := by decide +kernel
theorem dX0_build_12 : decode cX0_build 12 = .ok (.getfield 40, 3) := by decide +kernel
theorem dX0_build_15 : decode cX0_build 15 = .ok (.aload_n 0, 1) := by decide +kernel
theorem dX0_build_16 : decode cX0_build 16 = .ok (.getfield 44, 3) := by decide +kernel
theorem dX0_build_19 : decode cX0_build 19 = .ok (.imul, 1) := by decide +kernel
theorem dX0_build_20 : decode cX0_build 20 = .ok (.putfield 47, 3) := by decide +kernel
theorem dX0_build_23 : decode cX0_build 23 = .ok (.aload_n 0, 1) := by decide +kernel
theorem dX0_build_24 : decode cX0_build 24 = .ok (.aload_n 0, 1) := by decide +kernel
theorem dX0_build_25 : decode cX0_build 25 = .ok (.getfield 40, 3) := by decide +kernel
theorem dX0_build_28 : decode cX0_build 28 = .ok (.iconst 1, 1) := by decide +kernel
theorem dX0_build_29 : decode cX0_build 29 = .ok (.iadd, 1) := by decide +kernel
theorem dX0_build_30 : decode cX0_build 30 = .ok (.aload_n 0, 1) := by decide +kernel
theorem dX0_build_31 : decode cX0_build 31 = .ok (.getfield 44, 3) := by decide +kernel
theorem dX0_build_34 : decode cX0_build 34 = .ok (.iconst 1, 1) := by decide +kernel
theorem dX0_build_35 : decode cX0_build 35 = .ok (.iadd, 1) := by decide +kernel
theorem dX0_build_36 : decode cX0_build 36 = .ok (.imul, 1) := by decide +kernel
theorem dX0_build_37 : decode cX0_build 37 = .ok (.putfield 50, 3) := by decide +kernel
theorem dX0_build_40 : decode cX0_build 40 = .ok (.aload_n 0, 1) := by decide +kernel
theorem dX0_build_41 : decode cX0_build 41 = .ok (.aload_n 0, 1) := by decide +kernel
theorem dX0_build_42 : decode cX0_build 42 = .ok (.getfield 40, 3) := by decide +kernel
theorem dX0_build_45 : decode cX0_build 45 = .ok (.aload_n 0, 1) := by decide +kernel
theorem dX0_build_46 : decode cX0_build 46 = .ok (.getfield 44, 3) := by decide +kernel
theorem dX0_build_49 : decode cX0_build 49 = .ok (.iconst 1, 1) := by decide +kernel
theorem dX0_build_50 : decode cX0_build 50 = .ok (.iadd, 1) := by decide +kernel
theorem dX0_build_51 : decode cX0_build 51 = .ok (.imul, 1) := by decide +kernel
theorem dX0_build_52 : decode cX0_build 52 = .ok (.putfield 53, 3) := by decide +kernel
theorem dX0_build_55 : decode cX0_build 55 = .ok (.aload_n 0, 1) := by decide +kernel
theorem dX0_build_56 : decode cX0_build 56 = .ok (.aload_n 0, 1) := by decide +kernel
theorem dX0_build_57 : decode cX0_build 57 = .ok (.getfield 53, 3) := by decide +kernel
theorem dX0_build_60 : decode cX0_build 60 = .ok (.aload_n 0, 1) := by decide +kernel
theorem dX0_build_61 : decode cX0_build 61 = .ok (.getfield 40, 3) := by decide +kernel
theorem dX0_build_64 : decode cX0_build 64 = .ok (.iconst 1, 1) := by decide +kernel
theorem dX0_build_65 : decode cX0_build 65 = .ok (.iadd, 1) := by decide +kernel
theorem dX0_build_66 : decode cX0_build 66 = .ok (.aload_n 0, 1) := by decide +kernel
theorem dX0_build_67 : decode cX0_build 67 = .ok (.getfield 44, 3) := by decide +kernel
theorem dX0_build_70 : decode cX0_build 70 = .ok (.imul, 1) := by decide +kernel
theorem dX0_build_71 : decode cX0_build 71 = .ok (.iadd, 1) := by decide +kernel
theorem dX0_build_72 : decode cX0_build 72 = .ok (.putfield 56, 3) := by decide +kernel
theorem dX0_build_75 : decode cX0_build 75 = .ok (.aload_n 0, 1) := by decide +kernel
theorem dX0_build_76 : decode cX0_build 76 = .ok (.lconst 1, 1) := by decide +kernel
theorem dX0_build_77 : decode cX0_build 77 = .ok (.aload_n 0, 1) := by decide +kernel
theorem dX0_build_78 : decode cX0_build 78 = .ok (.getfield 56, 3) := by decide +kernel
theorem dX0_build_81 : decode cX0_build 81 = .ok (.lshl, 1) := by decide +kernel
theorem dX0_build_82 : decode cX0_build 82 = .ok (.lconst 1, 1) := by decide +kernel
theorem dX0_build_83 : decode cX0_build 83 = .ok (.lsub, 1) := by decide +kernel
theorem dX0_build_84 : decode cX0_build 84 = .ok (.putfield 59, 3) := by decide +kernel
theorem dX0_build_87 : decode cX0_build 87 = .ok (.aload_n 0, 1) := by decide +kernel
theorem dX0_build_88 : decode cX0_build 88 = .ok (.getfield 9, 3) := by decide +kernel
theorem dX0_build_91 : decode cX0_build 91 = .ok (.iconst (-1), 1) := by decide +kernel
theorem dX0_build_92 : decode cX0_build 92 = .ok (.invokestatic 63, 3) := by decide +kernel
theorem dX0_build_95 : decode cX0_build 95 = .ok (.aload_n 0, 1) := by decide +kernel
theorem dX0_build_96 : decode cX0_build 96 = .ok (.getfield 15, 3) := by decide +kernel
theorem dX0_build_99 : decode cX0_build 99 = .ok (.lconst 0, 1) := by decide +kernel
theorem dX0_build_100 : decode cX0_build 100 = .ok (.invokestatic 69, 3) := by decide +kernel
theorem dX0_build_103 : decode cX0_build 103 = .ok (.aload_n 0, 1) := by decide +kernel
theorem dX0_build_104 : decode cX0_build 104 = .ok (.getfield 19, 3) := by decide +kernel
theorem dX0_build_107 : decode cX0_build 107 = .ok (.lconst 0, 1) := by decide +kernel
theorem dX0_build_108 : decode cX0_build 108 = .ok (.invokestatic 69, 3) := by decide +kernel
theorem dX0_build_111 : decode cX0_build 111 = .ok (.aload_n 0, 1) := by decide +kernel
theorem dX0_build_112 : decode cX0_build 112 = .ok (.invokevirtual 72, 3) := by decide +kernel
theorem dX0_build_115 : decode cX0_build 115 = .ok (.aload_n 0, 1) := by decide +kernel
theorem dX0_build_116 : decode cX0_build 116 = .ok (.invokevirtual 75, 3) := by decide +kernel
theorem dX0_build_119 : decode cX0_build 119 = .ok (.return_, 1) := by decide +kernel
theorem dX0_tieEdges_0 : decode cX0_tieEdges 0 = .ok (.iconst 0, 1) := by decide +kernel
theorem dX0_tieEdges_1 : decode cX0_tieEdges 1 = .ok (.istore_n 1, 1) := by decide +kernel
theorem dX0_tieEdges_2 : decode cX0_tieEdges 2 = .ok (.iload_n 1, 1) := by decide +kernel
theorem dX0_tieEdges_3 : decode cX0_tieEdges 3 = .ok (.aload_n 0, 1) := by decide +kernel
theorem dX0_tieEdges_4 : decode cX0_tieEdges 4 = .ok (.getfield 44, 3) := by decide +kernel
theorem dX0_tieEdges_7 : decode cX0_tieEdges 7 = .ok (.if_icmp .gt 76, 3) := by decide +kernel
theorem dX0_tieEdges_10 : decode cX0_tieEdges 10 = .ok (.iconst 0, 1) := by decide +kernel
theorem dX0_tieEdges_11 : decode cX0_tieEdges 11 = .ok (.istore_n 2, 1) := by decide +kernel
theorem dX0_tieEdges_12 : decode cX0_tieEdges 12 = .ok (.iload_n 2, 1) := by decide +kernel
theorem dX0_tieEdges_13 : decode cX0_tieEdges 13 = .ok (.aload_n 0, 1) := by decide +kernel
theorem dX0_tieEdges_14 : decode cX0_tieEdges 14 = .ok (.getfield 40, 3) := by decide +kernel
theorem dX0_tieEdges_17 : decode cX0_tieEdges 17 = .ok (.if_icmp .ge 60, 3) := by decide +kernel
theorem dX0_tieEdges_20 : decode cX0_tieEdges 20 = .ok (.iload_n 1, 1) := by decide +kernel
theorem dX0_tieEdges_21 : decode cX0_tieEdges 21 = .ok (.aload_n 0, 1) := by decide +kernel
theorem dX0_tieEdges_22 : decode cX0_tieEdges 22 = .ok (.getfield 40, 3) := by decide +kernel
theorem dX0_tieEdges_25 : decode cX0_tieEdges 25 = .ok (.iconst 1, 1) := by decide +kernel
theorem dX0_tieEdges_26 : decode cX0_tieEdges 26 = .ok (.iadd, 1) := by decide +kernel
theorem dX0_tieEdges_27 : decode cX0_tieEdges 27 = .ok (.imul, 1) := by decide +kernel
theorem dX0_tieEdges_28 : decode cX0_tieEdges 28 = .ok (.iload_n 2, 1) := by decide +kernel
theorem dX0_tieEdges_29 : decode cX0_tieEdges 29 = .ok (.iadd, 1) := by decide +kernel
theorem dX0_tieEdges_30 : decode cX0_tieEdges 30 = .ok (.istore_n 3, 1) := by decide +kernel
theorem dX0_tieEdges_31 : decode cX0_tieEdges 31 = .ok (.iload_n 1, 1) := by decide +kernel
theorem dX0_tieEdges_32 : decode cX0_tieEdges 32 = .ok (.aload_n 0, 1) := by decide +kernel
theorem dX0_tieEdges_33 : decode cX0_tieEdges 33 = .ok (.getfield 40, 3) := by decide +kernel
theorem dX0_tieEdges_36 : decode cX0_tieEdges 36 = .ok (.imul, 1) := by decide +kernel
theorem dX0_tieEdges_37 : decode cX0_tieEdges 37 = .ok (.iload_n 2, 1) := by decide +kernel
theorem dX0_tieEdges_38 : decode cX0_tieEdges 38 = .ok (.iadd, 1) := by decide +kernel
theorem dX0_tieEdges_39 : decode cX0_tieEdges 39 = .ok (.istore 4, 2) := by decide +kernel
theorem dX0_tieEdges_41 : decode cX0_tieEdges 41 = .ok (.aload_n 0, 1) := by decide +kernel
theorem dX0_tieEdges_42 : decode cX0_tieEdges 42 = .ok (.iload 4, 2) := by decide +kernel
theorem dX0_tieEdges_44 : decode cX0_tieEdges 44 = .ok (.iload_n 3, 1) := by decide +kernel
theorem dX0_tieEdges_45 : decode cX0_tieEdges 45 = .ok (.iload_n 3, 1) := by decide +kernel
theorem dX0_tieEdges_46 : decode cX0_tieEdges 46 = .ok (.iconst 1, 1) := by decide +kernel
theorem dX0_tieEdges_47 : decode cX0_tieEdges 47 = .ok (.iadd, 1) := by decide +kernel
theorem dX0_tieEdges_48 : decode cX0_tieEdges 48 = .ok (.invokevirtual 78, 3) := by decide +kernel
theorem dX0_tieEdges_51 : decode cX0_tieEdges 51 = .ok (.aload_n 0, 1) := by decide +kernel
theorem dX0_tieEdges_52 : decode cX0_tieEdges 52 = .ok (.iload 4, 2) := by decide +kernel
theorem dX0_tieEdges_54 : decode cX0_tieEdges 54 = .ok (.aload_n 0, 1) := by decide +kernel
theorem dX0_tieEdges_55 : decode cX0_tieEdges 55 = .ok (.iload_n 1, 1) := by decide +kernel
theorem dX0_tieEdges_56 : decode cX0_tieEdges 56 = .ok (.iconst 1, 1) := by decide +kernel
theorem dX0_tieEdges_57 : decode cX0_tieEdges 57 = .ok (.isub, 1) := by decide +kernel
theorem dX0_tieEdges_58 : decode cX0_tieEdges 58 = .ok (.iload_n 2, 1) := by decide +kernel
theorem dX0_tieEdges_59 : decode cX0_tieEdges 59 = .ok (.invokevirtual 82, 3) := by decide +kernel
theorem dX0_tieEdges_62 : decode cX0_tieEdges 62 = .ok (.aload_n 0, 1) := by decide +kernel
theorem dX0_tieEdges_63 : decode cX0_tieEdges 63 = .ok (.iload_n 1, 1) := by decide +kernel
theorem dX0_tieEdges_64 : decode cX0_tieEdges 64 = .ok (.iload_n 2, 1) := by decide +kernel
theorem dX0_tieEdges_65 : decode cX0_tieEdges 65 = .ok (.invokevirtual 82, 3) := by decide +kernel
theorem dX0_tieEdges_68 : decode cX0_tieEdges 68 = .ok (.invokevirtual 86, 3) := by decide +kernel
theorem dX0_tieEdges_71 : decode cX0_tieEdges 71 = .ok (.iinc 2 1, 3) := by decide +kernel
theorem dX0_tieEdges_74 : decode cX0_tieEdges 74 = .ok (.goto (-62), 3) := by decide +kernel
theorem dX0_tieEdges_77 : decode cX0_tieEdges 77 = .ok (.iinc 1 1, 3) := by decide +kernel
theorem dX0_tieEdges_80 : decode cX0_tieEdges 80 = .ok (.goto (-78), 3) := by decide +kernel
theorem dX0_tieEdges_83 : decode cX0_tieEdges 83 = .ok (.iconst 0, 1) := by decide +kernel
theorem dX0_tieEdges_84 : decode cX0_tieEdges 84 = .ok (.istore_n 1, 1) := by decide +kernel
theorem dX0_tieEdges_85 : decode cX0_tieEdges 85 = .ok (.iload_n 1, 1) := by decide +kernel
theorem dX0_tieEdges_86 : decode cX0_tieEdges 86 = .ok (.aload_n 0, 1) := by decide +kernel
theorem dX0_tieEdges_87 : decode cX0_tieEdges 87 = .ok (.getfield 44, 3) := by decide +kernel
theorem dX0_tieEdges_90 : decode cX0_tieEdges 90 = .ok (.if_icmp .ge 79, 3) := by decide +kernel
theorem dX0_tieEdges_93 : decode cX0_tieEdges 93 = .ok (.iconst 0, 1) := by decide +kernel
theorem dX0_tieEdges_94 : decode cX0_tieEdges 94 = .ok (.istore_n 2, 1) := by decide +kernel
theorem dX0_tieEdges_95 : decode cX0_tieEdges 95 = .ok (.iload_n 2, 1) := by decide +kernel
theorem dX0_tieEdges_96 : decode cX0_tieEdges 96 = .ok (.aload_n 0, 1) := by decide +kernel
theorem dX0_tieEdges_97 : decode cX0_tieEdges 97 = .ok (.getfield 40, 3) := by decide +kernel
theorem dX0_tieEdges_100 : decode cX0_tieEdges 100 = .ok (.if_icmp .gt 63, 3) := by decide +kernel
theorem dX0_tieEdges_103 : decode cX0_tieEdges 103 = .ok (.iload_n 1, 1) := by decide +kernel
theorem dX0_tieEdges_104 : decode cX0_tieEdges 104 = .ok (.aload_n 0, 1) := by decide +kernel
theorem dX0_tieEdges_105 : decode cX0_tieEdges 105 = .ok (.getfield 40, 3) := by decide +kernel
theorem dX0_tieEdges_108 : decode cX0_tieEdges 108 = .ok (.iconst 1, 1) := by decide +kernel
theorem dX0_tieEdges_109 : decode cX0_tieEdges 109 = .ok (.iadd, 1) := by decide +kernel
theorem dX0_tieEdges_110 : decode cX0_tieEdges 110 = .ok (.imul, 1) := by decide +kernel
theorem dX0_tieEdges_111 : decode cX0_tieEdges 111 = .ok (.iload_n 2, 1) := by decide +kernel
theorem dX0_tieEdges_112 : decode cX0_tieEdges 112 = .ok (.iadd, 1) := by decide +kernel
theorem dX0_tieEdges_113 : decode cX0_tieEdges 113 = .ok (.istore_n 3, 1) := by decide +kernel
theorem dX0_tieEdges_114 : decode cX0_tieEdges 114 = .ok (.aload_n 0, 1) := by decide +kernel
theorem dX0_tieEdges_115 : decode cX0_tieEdges 115 = .ok (.getfield 53, 3) := by decide +kernel
theorem dX0_tieEdges_118 : decode cX0_tieEdges 118 = .ok (.iload_n 3, 1) := by decide +kernel
theorem dX0_tieEdges_119 : decode cX0_tieEdges 119 = .ok (.iadd, 1) := by decide +kernel
theorem dX0_tieEdges_120 : decode cX0_tieEdges 120 = .ok (.istore 4, 2) := by decide +kernel
theorem dX0_tieEdges_122 : decode cX0_tieEdges 122 = .ok (.aload_n 0, 1) := by decide +kernel
theorem dX0_tieEdges_123 : decode cX0_tieEdges 123 = .ok (.iload 4, 2) := by decide +kernel
theorem dX0_tieEdges_125 : decode cX0_tieEdges 125 = .ok (.iload_n 3, 1) := by decide +kernel
theorem dX0_tieEdges_126 : decode cX0_tieEdges 126 = .ok (.iload_n 3, 1) := by decide +kernel
theorem dX0_tieEdges_127 : decode cX0_tieEdges 127 = .ok (.aload_n 0, 1) := by decide +kernel
theorem dX0_tieEdges_128 : decode cX0_tieEdges 128 = .ok (.getfield 40, 3) := by decide +kernel
theorem dX0_tieEdges_131 : decode cX0_tieEdges 131 = .ok (.iadd, 1) := by decide +kernel
theorem dX0_tieEdges_132 : decode cX0_tieEdges 132 = .ok (.iconst 1, 1) := by decide +kernel
theorem dX0_tieEdges_133 : decode cX0_tieEdges 133 = .ok (.iadd, 1) := by decide +kernel
theorem dX0_tieEdges_134 : decode cX0_tieEdges 134 = .ok (.invokevirtual 78, 3) := by decide +kernel
theorem dX0_tieEdges_137 : decode cX0_tieEdges 137 = .ok (.aload_n 0, 1) := by decide +kernel
theorem dX0_tieEdges_138 : decode cX0_tieEdges 138 = .ok (.iload 4, 2) := by decide +kernel
theorem dX0_tieEdges_140 : decode cX0_tieEdges 140 = .ok (.aload_n 0, 1) := by decide +kernel
theorem dX0_tieEdges_141 : decode cX0_tieEdges 141 = .ok (.iload_n 1, 1) := by decide +kernel
theorem dX0_tieEdges_142 : decode cX0_tieEdges 142 = .ok (.iload_n 2, 1) := by decide +kernel
theorem dX0_tieEdges_143 : decode cX0_tieEdges 143 = .ok (.iconst 1, 1) := by decide +kernel
theorem dX0_tieEdges_144 : decode cX0_tieEdges 144 = .ok (.isub, 1) := by decide +kernel
theorem dX0_tieEdges_145 : decode cX0_tieEdges 145 = .ok (.invokevirtual 82, 3) := by decide +kernel
theorem dX0_tieEdges_148 : decode cX0_tieEdges 148 = .ok (.aload_n 0, 1) := by decide +kernel
theorem dX0_tieEdges_149 : decode cX0_tieEdges 149 = .ok (.iload_n 1, 1) := by decide +kernel
theorem dX0_tieEdges_150 : decode cX0_tieEdges 150 = .ok (.iload_n 2, 1) := by decide +kernel
theorem dX0_tieEdges_151 : decode cX0_tieEdges 151 = .ok (.invokevirtual 82, 3) := by decide +kernel
theorem dX0_tieEdges_154 : decode cX0_tieEdges 154 = .ok (.invokevirtual 86, 3) := by decide +kernel
theorem dX0_tieEdges_157 : decode cX0_tieEdges 157 = .ok (.iinc 2 1, 3) := by decide +kernel
theorem dX0_tieEdges_160 : decode cX0_tieEdges 160 = .ok (.goto (-65), 3) := by decide +kernel
theorem dX0_tieEdges_163 : decode cX0_tieEdges 163 = .ok (.iinc 1 1, 3) := by decide +kernel
theorem dX0_tieEdges_166 : decode cX0_tieEdges 166 = .ok (.goto (-81), 3) := by decide +kernel
theorem dX0_tieEdges_169 : decode cX0_tieEdges 169 = .ok (.return_, 1) := by decide +kernel
theorem dX0_tiePoints_0 : decode cX0_tiePoints 0 = .ok (.aload_n 0, 1) := by decide +kernel
theorem dX0_tiePoints_1 : decode cX0_tiePoints 1 = .ok (.getfield 22, 3) := by decide +kernel
theorem dX0_tiePoints_4 : decode cX0_tiePoints 4 = .ok (.iload_n 1, 1) := by decide +kernel
theorem dX0_tiePoints_5 : decode cX0_tiePoints 5 = .ok (.iload_n 2, 1) := by decide +kernel
theorem dX0_tiePoints_6 : decode cX0_tiePoints 6 = .ok (.iastore, 1) := by decide +kernel
theorem dX0_tiePoints_7 : decode cX0_tiePoints 7 = .ok (.aload_n 0, 1) := by decide +kernel
theorem dX0_tiePoints_8 : decode cX0_tiePoints 8 = .ok (.getfield 25, 3) := by decide +kernel
theorem dX0_tiePoints_11 : decode cX0_tiePoints 11 = .ok (.iload_n 1, 1) := by decide +kernel
theorem dX0_tiePoints_12 : decode cX0_tiePoints 12 = .ok (.iload_n 3, 1) := by decide +kernel
theorem dX0_tiePoints_13 : decode cX0_tiePoints 13 = .ok (.iastore, 1) := by decide +kernel
theorem dX0_tiePoints_14 : decode cX0_tiePoints 14 = .ok (.aload_n 0, 1) := by decide +kernel
theorem dX0_tiePoints_15 : decode cX0_tiePoints 15 = .ok (.getfield 19, 3) := by decide +kernel
theorem dX0_tiePoints_18 : decode cX0_tiePoints 18 = .ok (.iload_n 2, 1) := by decide +kernel
theorem dX0_tiePoints_19 : decode cX0_tiePoints 19 = .ok (.dup2, 1) := by decide +kernel
theorem dX0_tiePoints_20 : decode cX0_tiePoints 20 = .ok (.laload, 1) := by decide +kernel
theorem dX0_tiePoints_21 : decode cX0_tiePoints 21 = .ok (.lconst 1, 1) := by decide +kernel
theorem dX0_tiePoints_22 : decode cX0_tiePoints 22 = .ok (.iload_n 1, 1) := by decide +kernel
theorem dX0_tiePoints_23 : decode cX0_tiePoints 23 = .ok (.lshl, 1) := by decide +kernel
theorem dX0_tiePoints_24 : decode cX0_tiePoints 24 = .ok (.lor, 1) := by decide +kernel
theorem dX0_tiePoints_25 : decode cX0_tiePoints 25 = .ok (.lastore, 1) := by decide +kernel
theorem dX0_tiePoints_26 : decode cX0_tiePoints 26 = .ok (.aload_n 0, 1) := by decide +kernel
theorem dX0_tiePoints_27 : decode cX0_tiePoints 27 = .ok (.getfield 19, 3) := by decide +kernel
theorem dX0_tiePoints_30 : decode cX0_tiePoints 30 = .ok (.iload_n 3, 1) := by decide +kernel
theorem dX0_tiePoints_31 : decode cX0_tiePoints 31 = .ok (.dup2, 1) := by decide +kernel
theorem dX0_tiePoints_32 : decode cX0_tiePoints 32 = .ok (.laload, 1) := by decide +kernel
theorem dX0_tiePoints_33 : decode cX0_tiePoints 33 = .ok (.lconst 1, 1) := by decide +kernel
theorem dX0_tiePoints_34 : decode cX0_tiePoints 34 = .ok (.iload_n 1, 1) := by decide +kernel
theorem dX0_tiePoints_35 : decode cX0_tiePoints 35 = .ok (.lshl, 1) := by decide +kernel
theorem dX0_tiePoints_36 : decode cX0_tiePoints 36 = .ok (.lor, 1) := by decide +kernel
theorem dX0_tiePoints_37 : decode cX0_tiePoints 37 = .ok (.lastore, 1) := by decide +kernel
theorem dX0_tiePoints_38 : decode cX0_tiePoints 38 = .ok (.return_, 1) := by decide +kernel
theorem dX0_tieAreas_0 : decode cX0_tieAreas 0 = .ok (.aload_n 0, 1) := by decide +kernel
theorem dX0_tieAreas_1 : decode cX0_tieAreas 1 = .ok (.getfield 28, 3) := by decide +kernel
theorem dX0_tieAreas_4 : decode cX0_tieAreas 4 = .ok (.iload_n 1, 1) := by decide +kernel
theorem dX0_tieAreas_5 : decode cX0_tieAreas 5 = .ok (.iload_n 2, 1) := by decide +kernel
theorem dX0_tieAreas_6 : decode cX0_tieAreas 6 = .ok (.iastore, 1) := by decide +kernel
theorem dX0_tieAreas_7 : decode cX0_tieAreas 7 = .ok (.aload_n 0, 1) := by decide +kernel
theorem dX0_tieAreas_8 : decode cX0_tieAreas 8 = .ok (.getfield 31, 3) := by decide +kernel
theorem dX0_tieAreas_11 : decode cX0_tieAreas 11 = .ok (.iload_n 1, 1) := by decide +kernel
theorem dX0_tieAreas_12 : decode cX0_tieAreas 12 = .ok (.iload_n 3, 1) := by decide +kernel
theorem dX0_tieAreas_13 : decode cX0_tieAreas 13 = .ok (.iastore, 1) := by decide +kernel
theorem dX0_tieAreas_14 : decode cX0_tieAreas 14 = .ok (.aload_n 0, 1) := by decide +kernel
theorem dX0_tieAreas_15 : decode cX0_tieAreas 15 = .ok (.getfield 15, 3) := by decide +kernel
theorem dX0_tieAreas_18 : decode cX0_tieAreas 18 = .ok (.iload_n 2, 1) := by decide +kernel
theorem dX0_tieAreas_19 : decode cX0_tieAreas 19 = .ok (.dup2, 1) := by decide +kernel
theorem dX0_tieAreas_20 : decode cX0_tieAreas 20 = .ok (.laload, 1) := by decide +kernel
theorem dX0_tieAreas_21 : decode cX0_tieAreas 21 = .ok (.lconst 1, 1) := by decide +kernel
theorem dX0_tieAreas_22 : decode cX0_tieAreas 22 = .ok (.iload_n 1, 1) := by decide +kernel
theorem dX0_tieAreas_23 : decode cX0_tieAreas 23 = .ok (.lshl, 1) := by decide +kernel
theorem dX0_tieAreas_24 : decode cX0_tieAreas 24 = .ok (.lor, 1) := by decide +kernel
theorem dX0_tieAreas_25 : decode cX0_tieAreas 25 = .ok (.lastore, 1) := by decide +kernel
theorem dX0_tieAreas_26 : decode cX0_tieAreas 26 = .ok (.aload_n 0, 1) := by decide +kernel
theorem dX0_tieAreas_27 : decode cX0_tieAreas 27 = .ok (.getfield 15, 3) := by decide +kernel
theorem dX0_tieAreas_30 : decode cX0_tieAreas 30 = .ok (.iload_n 3, 1) := by decide +kernel
theorem dX0_tieAreas_31 : decode cX0_tieAreas 31 = .ok (.dup2, 1) := by decide +kernel
theorem dX0_tieAreas_32 : decode cX0_tieAreas 32 = .ok (.laload, 1) := by decide +kernel
theorem dX0_tieAreas_33 : decode cX0_tieAreas 33 = .ok (.lconst 1, 1) := by decide +kernel
theorem dX0_tieAreas_34 : decode cX0_tieAreas 34 = .ok (.iload_n 1, 1) := by decide +kernel
theorem dX0_tieAreas_35 : decode cX0_tieAreas 35 = .ok (.lshl, 1) := by decide +kernel
theorem dX0_tieAreas_36 : decode cX0_tieAreas 36 = .ok (.lor, 1) := by decide +kernel
theorem dX0_tieAreas_37 : decode cX0_tieAreas 37 = .ok (.lastore, 1) := by decide +kernel
theorem dX0_tieAreas_38 : decode cX0_tieAreas 38 = .ok (.return_, 1) := by decide +kernel
theorem dX0_areaAt_0 : decode cX0_areaAt 0 = .ok (.iload_n 1, 1) := by decide +kernel
theorem dX0_areaAt_1 : decode cX0_areaAt 1 = .ok (.ifCond .lt 27, 3) := by decide +kernel
theorem dX0_areaAt_4 : decode cX0_areaAt 4 = .ok (.iload_n 1, 1) := by decide +kernel
theorem dX0_areaAt_5 : decode cX0_areaAt 5 = .ok (.aload_n 0, 1) := by decide +kernel
theorem dX0_areaAt_6 : decode cX0_areaAt 6 = .ok (.getfield 44, 3) := by decide +kernel
theorem dX0_areaAt_9 : decode cX0_areaAt 9 = .ok (.if_icmp .ge 19, 3) := by decide +kernel
theorem dX0_areaAt_12 : decode cX0_areaAt 12 = .ok (.iload_n 2, 1) := by decide +kernel
theorem dX0_areaAt_13 : decode cX0_areaAt 13 = .ok (.ifCond .lt 15, 3) := by decide +kernel
theorem dX0_areaAt_16 : decode cX0_areaAt 16 = .ok (.iload_n 2, 1) := by decide +kernel
theorem dX0_areaAt_17 : decode cX0_areaAt 17 = .ok (.aload_n 0, 1) := by decide +kernel
theorem dX0_areaAt_18 : decode cX0_areaAt 18 = .ok (.getfield 40, 3) := by decide +kernel
theorem dX0_areaAt_21 : decode cX0_areaAt 21 = .ok (.if_icmp .ge 7, 3) := by decide +kernel
theorem dX0_areaAt_24 : decode cX0_areaAt 24 = .ok (.iconst 1, 1) := by decide +kernel
theorem dX0_areaAt_25 : decode cX0_areaAt 25 = .ok (.goto 4, 3) := by decide +kernel
theorem dX0_areaAt_28 : decode cX0_areaAt 28 = .ok (.iconst 0, 1) := by decide +kernel
theorem dX0_areaAt_29 : decode cX0_areaAt 29 = .ok (.istore_n 3, 1) := by decide +kernel
theorem dX0_areaAt_30 : decode cX0_areaAt 30 = .ok (.iload_n 3, 1) := by decide +kernel
theorem dX0_areaAt_31 : decode cX0_areaAt 31 = .ok (.ifCond .eq 14, 3) := by decide +kernel
theorem dX0_areaAt_34 : decode cX0_areaAt 34 = .ok (.iload_n 1, 1) := by decide +kernel
theorem dX0_areaAt_35 : decode cX0_areaAt 35 = .ok (.aload_n 0, 1) := by decide +kernel
theorem dX0_areaAt_36 : decode cX0_areaAt 36 = .ok (.getfield 40, 3) := by decide +kernel
theorem dX0_areaAt_39 : decode cX0_areaAt 39 = .ok (.imul, 1) := by decide +kernel
theorem dX0_areaAt_40 : decode cX0_areaAt 40 = .ok (.iload_n 2, 1) := by decide +kernel
theorem dX0_areaAt_41 : decode cX0_areaAt 41 = .ok (.iadd, 1) := by decide +kernel
theorem dX0_areaAt_42 : decode cX0_areaAt 42 = .ok (.goto 7, 3) := by decide +kernel
theorem dX0_areaAt_45 : decode cX0_areaAt 45 = .ok (.aload_n 0, 1) := by decide +kernel
theorem dX0_areaAt_46 : decode cX0_areaAt 46 = .ok (.getfield 47, 3) := by decide +kernel
theorem dX0_areaAt_49 : decode cX0_areaAt 49 = .ok (.ireturn, 1) := by decide +kernel
theorem dX0_placeCells_0 : decode cX0_placeCells 0 = .ok (.iconst 0, 1) := by decide +kernel
theorem dX0_placeCells_1 : decode cX0_placeCells 1 = .ok (.istore_n 1, 1) := by decide +kernel
theorem dX0_placeCells_2 : decode cX0_placeCells 2 = .ok (.iload_n 1, 1) := by decide +kernel
theorem dX0_placeCells_3 : decode cX0_placeCells 3 = .ok (.aload_n 0, 1) := by decide +kernel
theorem dX0_placeCells_4 : decode cX0_placeCells 4 = .ok (.getfield 44, 3) := by decide +kernel
theorem dX0_placeCells_7 : decode cX0_placeCells 7 = .ok (.if_icmp .ge 79, 3) := by decide +kernel
theorem dX0_placeCells_10 : decode cX0_placeCells 10 = .ok (.iconst 0, 1) := by decide +kernel
theorem dX0_placeCells_11 : decode cX0_placeCells 11 = .ok (.istore_n 2, 1) := by decide +kernel
theorem dX0_placeCells_12 : decode cX0_placeCells 12 = .ok (.iload_n 2, 1) := by decide +kernel
theorem dX0_placeCells_13 : decode cX0_placeCells 13 = .ok (.aload_n 0, 1) := by decide +kernel
theorem dX0_placeCells_14 : decode cX0_placeCells 14 = .ok (.getfield 40, 3) := by decide +kernel
theorem dX0_placeCells_17 : decode cX0_placeCells 17 = .ok (.if_icmp .ge 63, 3) := by decide +kernel
theorem dX0_placeCells_20 : decode cX0_placeCells 20 = .ok (.iload_n 1, 1) := by decide +kernel
theorem dX0_placeCells_21 : decode cX0_placeCells 21 = .ok (.aload_n 0, 1) := by decide +kernel
theorem dX0_placeCells_22 : decode cX0_placeCells 22 = .ok (.getfield 40, 3) := by decide +kernel
theorem dX0_placeCells_25 : decode cX0_placeCells 25 = .ok (.imul, 1) := by decide +kernel
theorem dX0_placeCells_26 : decode cX0_placeCells 26 = .ok (.iload_n 2, 1) := by decide +kernel
theorem dX0_placeCells_27 : decode cX0_placeCells 27 = .ok (.iadd, 1) := by decide +kernel
theorem dX0_placeCells_28 : decode cX0_placeCells 28 = .ok (.istore_n 3, 1) := by decide +kernel
theorem dX0_placeCells_29 : decode cX0_placeCells 29 = .ok (.aload_n 0, 1) := by decide +kernel
theorem dX0_placeCells_30 : decode cX0_placeCells 30 = .ok (.getfield 34, 3) := by decide +kernel
theorem dX0_placeCells_33 : decode cX0_placeCells 33 = .ok (.iload_n 3, 1) := by decide +kernel
theorem dX0_placeCells_34 : decode cX0_placeCells 34 = .ok (.iload_n 1, 1) := by decide +kernel
theorem dX0_placeCells_35 : decode cX0_placeCells 35 = .ok (.aload_n 0, 1) := by decide +kernel
theorem dX0_placeCells_36 : decode cX0_placeCells 36 = .ok (.getfield 40, 3) := by decide +kernel
theorem dX0_placeCells_39 : decode cX0_placeCells 39 = .ok (.iconst 1, 1) := by decide +kernel
theorem dX0_placeCells_40 : decode cX0_placeCells 40 = .ok (.iadd, 1) := by decide +kernel
theorem dX0_placeCells_41 : decode cX0_placeCells 41 = .ok (.imul, 1) := by decide +kernel
theorem dX0_placeCells_42 : decode cX0_placeCells 42 = .ok (.iload_n 2, 1) := by decide +kernel
theorem dX0_placeCells_43 : decode cX0_placeCells 43 = .ok (.iadd, 1) := by decide +kernel
theorem dX0_placeCells_44 : decode cX0_placeCells 44 = .ok (.iastore, 1) := by decide +kernel
theorem dX0_placeCells_45 : decode cX0_placeCells 45 = .ok (.aload_n 0, 1) := by decide +kernel
theorem dX0_placeCells_46 : decode cX0_placeCells 46 = .ok (.getfield 37, 3) := by decide +kernel
theorem dX0_placeCells_49 : decode cX0_placeCells 49 = .ok (.iload_n 3, 1) := by decide +kernel
theorem dX0_placeCells_50 : decode cX0_placeCells 50 = .ok (.lconst 1, 1) := by decide +kernel
theorem dX0_placeCells_51 : decode cX0_placeCells 51 = .ok (.iload_n 3, 1) := by decide +kernel
theorem dX0_placeCells_52 : decode cX0_placeCells 52 = .ok (.lshl, 1) := by decide +kernel
theorem dX0_placeCells_53 : decode cX0_placeCells 53 = .ok (.iload_n 1, 1) := by decide +kernel
theorem dX0_placeCells_54 : decode cX0_placeCells 54 = .ok (.ifCond .le 17, 3) := by decide +kernel
theorem dX0_placeCells_57 : decode cX0_placeCells 57 = .ok (.aload_n 0, 1) := by decide +kernel
theorem dX0_placeCells_58 : decode cX0_placeCells 58 = .ok (.getfield 37, 3) := by decide +kernel
theorem dX0_placeCells_61 : decode cX0_placeCells 61 = .ok (.iload_n 3, 1) := by decide +kernel
theorem dX0_placeCells_62 : decode cX0_placeCells 62 = .ok (.aload_n 0, 1) := by decide +kernel
theorem dX0_placeCells_63 : decode cX0_placeCells 63 = .ok (.getfield 40, 3) := by decide +kernel
theorem dX0_placeCells_66 : decode cX0_placeCells 66 = .ok (.isub, 1) := by decide +kernel
theorem dX0_placeCells_67 : decode cX0_placeCells 67 = .ok (.laload, 1) := by decide +kernel
theorem dX0_placeCells_68 : decode cX0_placeCells 68 = .ok (.goto 4, 3) := by decide +kernel
theorem dX0_placeCells_71 : decode cX0_placeCells 71 = .ok (.lconst 0, 1) := by decide +kernel
theorem dX0_placeCells_72 : decode cX0_placeCells 72 = .ok (.lor, 1) := by decide +kernel
theorem dX0_placeCells_73 : decode cX0_placeCells 73 = .ok (.lastore, 1) := by decide +kernel
theorem dX0_placeCells_74 : decode cX0_placeCells 74 = .ok (.iinc 2 1, 3) := by decide +kernel
theorem dX0_placeCells_77 : decode cX0_placeCells 77 = .ok (.goto (-65), 3) := by decide +kernel
theorem dX0_placeCells_80 : decode cX0_placeCells 80 = .ok (.iinc 1 1, 3) := by decide +kernel
theorem dX0_placeCells_83 : decode cX0_placeCells 83 = .ok (.goto (-81), 3) := by decide +kernel
theorem dX0_placeCells_86 : decode cX0_placeCells 86 = .ok (.return_, 1) := by decide +kernel
theorem dX0_edgeAt_0 : decode cX0_edgeAt 0 = .ok (.iload_n 2, 1) := by decide +kernel
theorem dX0_edgeAt_1 : decode cX0_edgeAt 1 = .ok (.tableswitch 48 0 2 #[27, 29, 36], 27) := by decide +kernel
theorem dX0_edgeAt_28 : decode cX0_edgeAt 28 = .ok (.iload_n 1, 1) := by decide +kernel
theorem dX0_edgeAt_29 : decode cX0_edgeAt 29 = .ok (.ireturn, 1) := by decide +kernel
theorem dX0_edgeAt_30 : decode cX0_edgeAt 30 = .ok (.iload_n 1, 1) := by decide +kernel
theorem dX0_edgeAt_31 : decode cX0_edgeAt 31 = .ok (.aload_n 0, 1) := by decide +kernel
theorem dX0_edgeAt_32 : decode cX0_edgeAt 32 = .ok (.getfield 40, 3) := by decide +kernel
theorem dX0_edgeAt_35 : decode cX0_edgeAt 35 = .ok (.iadd, 1) := by decide +kernel
theorem dX0_edgeAt_36 : decode cX0_edgeAt 36 = .ok (.ireturn, 1) := by decide +kernel
theorem dX0_edgeAt_37 : decode cX0_edgeAt 37 = .ok (.aload_n 0, 1) := by decide +kernel
theorem dX0_edgeAt_38 : decode cX0_edgeAt 38 = .ok (.getfield 53, 3) := by decide +kernel
theorem dX0_edgeAt_41 : decode cX0_edgeAt 41 = .ok (.aload_n 0, 1) := by decide +kernel
theorem dX0_edgeAt_42 : decode cX0_edgeAt 42 = .ok (.getfield 34, 3) := by decide +kernel
theorem dX0_edgeAt_45 : decode cX0_edgeAt 45 = .ok (.iload_n 1, 1) := by decide +kernel
theorem dX0_edgeAt_46 : decode cX0_edgeAt 46 = .ok (.iaload, 1) := by decide +kernel
theorem dX0_edgeAt_47 : decode cX0_edgeAt 47 = .ok (.iadd, 1) := by decide +kernel
theorem dX0_edgeAt_48 : decode cX0_edgeAt 48 = .ok (.ireturn, 1) := by decide +kernel
theorem dX0_edgeAt_49 : decode cX0_edgeAt 49 = .ok (.aload_n 0, 1) := by decide +kernel
theorem dX0_edgeAt_50 : decode cX0_edgeAt 50 = .ok (.getfield 53, 3) := by decide +kernel
theorem dX0_edgeAt_53 : decode cX0_edgeAt 53 = .ok (.aload_n 0, 1) := by decide +kernel
theorem dX0_edgeAt_54 : decode cX0_edgeAt 54 = .ok (.getfield 34, 3) := by decide +kernel
theorem dX0_edgeAt_57 : decode cX0_edgeAt 57 = .ok (.iload_n 1, 1) := by decide +kernel
theorem dX0_edgeAt_58 : decode cX0_edgeAt 58 = .ok (.iaload, 1) := by decide +kernel
theorem dX0_edgeAt_59 : decode cX0_edgeAt 59 = .ok (.iadd, 1) := by decide +kernel
theorem dX0_edgeAt_60 : decode cX0_edgeAt 60 = .ok (.iconst 1, 1) := by decide +kernel
theorem dX0_edgeAt_61 : decode cX0_edgeAt 61 = .ok (.iadd, 1) := by decide +kernel
theorem dX0_edgeAt_62 : decode cX0_edgeAt 62 = .ok (.ireturn, 1) := by decide +kernel
theorem dX0_touches_0 : decode cX0_touches 0 = .ok (.lload_n 1, 1) := by decide +kernel
theorem dX0_touches_1 : decode cX0_touches 1 = .ok (.aload_n 0, 1) := by decide +kernel
theorem dX0_touches_2 : decode cX0_touches 2 = .ok (.getfield 19, 3) := by decide +kernel
theorem dX0_touches_5 : decode cX0_touches 5 = .ok (.iload_n 3, 1) := by decide +kernel
theorem dX0_touches_6 : decode cX0_touches 6 = .ok (.laload, 1) := by decide +kernel
theorem dX0_touches_7 : decode cX0_touches 7 = .ok (.land, 1) := by decide +kernel
theorem dX0_touches_8 : decode cX0_touches 8 = .ok (.lconst 0, 1) := by decide +kernel
theorem dX0_touches_9 : decode cX0_touches 9 = .ok (.lcmp, 1) := by decide +kernel
theorem dX0_touches_10 : decode cX0_touches 10 = .ok (.ifCond .eq 7, 3) := by decide +kernel
theorem dX0_touches_13 : decode cX0_touches 13 = .ok (.iconst 1, 1) := by decide +kernel
theorem dX0_touches_14 : decode cX0_touches 14 = .ok (.goto 4, 3) := by decide +kernel
theorem dX0_touches_17 : decode cX0_touches 17 = .ok (.iconst 0, 1) := by decide +kernel
theorem dX0_touches_18 : decode cX0_touches 18 = .ok (.ireturn, 1) := by decide +kernel
theorem dX0_hasFork_0 : decode cX0_hasFork 0 = .ok (.lload_n 1, 1) := by decide +kernel
theorem dX0_hasFork_1 : decode cX0_hasFork 1 = .ok (.aload_n 0, 1) := by decide +kernel
theorem dX0_hasFork_2 : decode cX0_hasFork 2 = .ok (.getfield 19, 3) := by decide +kernel
theorem dX0_hasFork_5 : decode cX0_hasFork 5 = .ok (.iload_n 3, 1) := by decide +kernel
theorem dX0_hasFork_6 : decode cX0_hasFork 6 = .ok (.laload, 1) := by decide +kernel
theorem dX0_hasFork_7 : decode cX0_hasFork 7 = .ok (.land, 1) := by decide +kernel
theorem dX0_hasFork_8 : decode cX0_hasFork 8 = .ok (.invokestatic 89, 3) := by decide +kernel
theorem dX0_hasFork_11 : decode cX0_hasFork 11 = .ok (.iconst 2, 1) := by decide +kernel
theorem dX0_hasFork_12 : decode cX0_hasFork 12 = .ok (.if_icmp .le 7, 3) := by decide +kernel
theorem dX0_hasFork_15 : decode cX0_hasFork 15 = .ok (.iconst 1, 1) := by decide +kernel
theorem dX0_hasFork_16 : decode cX0_hasFork 16 = .ok (.goto 4, 3) := by decide +kernel
theorem dX0_hasFork_19 : decode cX0_hasFork 19 = .ok (.iconst 0, 1) := by decide +kernel
theorem dX0_hasFork_20 : decode cX0_hasFork 20 = .ok (.ireturn, 1) := by decide +kernel
theorem dX0_joinsPointsOf_0 : decode cX0_joinsPointsOf 0 = .ok (.aload_n 0, 1) := by decide +kernel
theorem dX0_joinsPointsOf_1 : decode cX0_joinsPointsOf 1 = .ok (.lload_n 1, 1) := by decide +kernel
theorem dX0_joinsPointsOf_2 : decode cX0_joinsPointsOf 2 = .ok (.aload_n 0, 1) := by decide +kernel
theorem dX0_joinsPointsOf_3 : decode cX0_joinsPointsOf 3 = .ok (.getfield 22, 3) := by decide +kernel
theorem dX0_joinsPointsOf_6 : decode cX0_joinsPointsOf 6 = .ok (.iload_n 3, 1) := by decide +kernel
theorem dX0_joinsPointsOf_7 : decode cX0_joinsPointsOf 7 = .ok (.iaload, 1) := by decide +kernel
theorem dX0_joinsPointsOf_8 : decode cX0_joinsPointsOf 8 = .ok (.invokevirtual 95, 3) := by decide +kernel
theorem dX0_joinsPointsOf_11 : decode cX0_joinsPointsOf 11 = .ok (.ifCond .eq 21, 3) := by decide +kernel
theorem dX0_joinsPointsOf_14 : decode cX0_joinsPointsOf 14 = .ok (.aload_n 0, 1) := by decide +kernel
theorem dX0_joinsPointsOf_15 : decode cX0_joinsPointsOf 15 = .ok (.lload_n 1, 1) := by decide +kernel
theorem dX0_joinsPointsOf_16 : decode cX0_joinsPointsOf 16 = .ok (.aload_n 0, 1) := by decide +kernel
theorem dX0_joinsPointsOf_17 : decode cX0_joinsPointsOf 17 = .ok (.getfield 25, 3) := by decide +kernel
theorem dX0_joinsPointsOf_20 : decode cX0_joinsPointsOf 20 = .ok (.iload_n 3, 1) := by decide +kernel
theorem dX0_joinsPointsOf_21 : decode cX0_joinsPointsOf 21 = .ok (.iaload, 1) := by decide +kernel
theorem dX0_joinsPointsOf_22 : decode cX0_joinsPointsOf 22 = .ok (.invokevirtual 95, 3) := by decide +kernel
theorem dX0_joinsPointsOf_25 : decode cX0_joinsPointsOf 25 = .ok (.ifCond .eq 7, 3) := by decide +kernel
theorem dX0_joinsPointsOf_28 : decode cX0_joinsPointsOf 28 = .ok (.iconst 1, 1) := by decide +kernel
theorem dX0_joinsPointsOf_29 : decode cX0_joinsPointsOf 29 = .ok (.goto 4, 3) := by decide +kernel
theorem dX0_joinsPointsOf_32 : decode cX0_joinsPointsOf 32 = .ok (.iconst 0, 1) := by decide +kernel
theorem dX0_joinsPointsOf_33 : decode cX0_joinsPointsOf 33 = .ok (.ireturn, 1) := by decide +kernel
theorem dX0_firstWay_0 : decode cX0_firstWay 0 = .ok (.lload_n 1, 1) := by decide +kernel
theorem dX0_firstWay_1 : decode cX0_firstWay 1 = .ok (.lload_n 1, 1) := by decide +kernel
theorem dX0_firstWay_2 : decode cX0_firstWay 2 = .ok (.lneg, 1) := by decide +kernel
theorem dX0_firstWay_3 : decode cX0_firstWay 3 = .ok (.land, 1) := by decide +kernel
theorem dX0_firstWay_4 : decode cX0_firstWay 4 = .ok (.lstore_n 3, 1) := by decide +kernel
theorem dX0_firstWay_5 : decode cX0_firstWay 5 = .ok (.lconst 0, 1) := by decide +kernel
theorem dX0_firstWay_6 : decode cX0_firstWay 6 = .ok (.lstore 5, 2) := by decide +kernel
theorem dX0_firstWay_8 : decode cX0_firstWay 8 = .ok (.iconst 0, 1) := by decide +kernel
theorem dX0_firstWay_9 : decode cX0_firstWay 9 = .ok (.istore 7, 2) := by decide +kernel
theorem dX0_firstWay_11 : decode cX0_firstWay 11 = .ok (.iload 7, 2) := by decide +kernel
theorem dX0_firstWay_13 : decode cX0_firstWay 13 = .ok (.bipush 40, 2) := by decide +kernel
theorem dX0_firstWay_15 : decode cX0_firstWay 15 = .ok (.if_icmp .ge 63, 3) := by decide +kernel
theorem dX0_firstWay_18 : decode cX0_firstWay 18 = .ok (.lload_n 3, 1) := by decide +kernel
theorem dX0_firstWay_19 : decode cX0_firstWay 19 = .ok (.lload 5, 2) := by decide +kernel
theorem dX0_firstWay_21 : decode cX0_firstWay 21 = .ok (.lcmp, 1) := by decide +kernel
theorem dX0_firstWay_22 : decode cX0_firstWay 22 = .ok (.ifCond .eq 56, 3) := by decide +kernel
theorem dX0_firstWay_25 : decode cX0_firstWay 25 = .ok (.lload_n 3, 1) := by decide +kernel
theorem dX0_firstWay_26 : decode cX0_firstWay 26 = .ok (.lstore 5, 2) := by decide +kernel
theorem dX0_firstWay_28 : decode cX0_firstWay 28 = .ok (.iconst 0, 1) := by decide +kernel
theorem dX0_firstWay_29 : decode cX0_firstWay 29 = .ok (.istore 8, 2) := by decide +kernel
theorem dX0_firstWay_31 : decode cX0_firstWay 31 = .ok (.iload 8, 2) := by decide +kernel
theorem dX0_firstWay_33 : decode cX0_firstWay 33 = .ok (.aload_n 0, 1) := by decide +kernel
theorem dX0_firstWay_34 : decode cX0_firstWay 34 = .ok (.getfield 50, 3) := by decide +kernel
theorem dX0_firstWay_37 : decode cX0_firstWay 37 = .ok (.if_icmp .ge 35, 3) := by decide +kernel
theorem dX0_firstWay_40 : decode cX0_firstWay 40 = .ok (.lload_n 3, 1) := by decide +kernel
theorem dX0_firstWay_41 : decode cX0_firstWay 41 = .ok (.aload_n 0, 1) := by decide +kernel
theorem dX0_firstWay_42 : decode cX0_firstWay 42 = .ok (.getfield 19, 3) := by decide +kernel
theorem dX0_firstWay_45 : decode cX0_firstWay 45 = .ok (.iload 8, 2) := by decide +kernel
theorem dX0_firstWay_47 : decode cX0_firstWay 47 = .ok (.laload, 1) := by decide +kernel
theorem dX0_firstWay_48 : decode cX0_firstWay 48 = .ok (.land, 1) := by decide +kernel
theorem dX0_firstWay_49 : decode cX0_firstWay 49 = .ok (.lconst 0, 1) := by decide +kernel
theorem dX0_firstWay_50 : decode cX0_firstWay 50 = .ok (.lcmp, 1) := by decide +kernel
theorem dX0_firstWay_51 : decode cX0_firstWay 51 = .ok (.ifCond .eq 15, 3) := by decide +kernel
theorem dX0_firstWay_54 : decode cX0_firstWay 54 = .ok (.lload_n 3, 1) := by decide +kernel
theorem dX0_firstWay_55 : decode cX0_firstWay 55 = .ok (.lload_n 1, 1) := by decide +kernel
theorem dX0_firstWay_56 : decode cX0_firstWay 56 = .ok (.aload_n 0, 1) := by decide +kernel
theorem dX0_firstWay_57 : decode cX0_firstWay 57 = .ok (.getfield 19, 3) := by decide +kernel
theorem dX0_firstWay_60 : decode cX0_firstWay 60 = .ok (.iload 8, 2) := by decide +kernel
theorem dX0_firstWay_62 : decode cX0_firstWay 62 = .ok (.laload, 1) := by decide +kernel
theorem dX0_firstWay_63 : decode cX0_firstWay 63 = .ok (.land, 1) := by decide +kernel
theorem dX0_firstWay_64 : decode cX0_firstWay 64 = .ok (.lor, 1) := by decide +kernel
theorem dX0_firstWay_65 : decode cX0_firstWay 65 = .ok (.lstore_n 3, 1) := by decide +kernel
theorem dX0_firstWay_66 : decode cX0_firstWay 66 = .ok (.iinc 8 1, 3) := by decide +kernel
theorem dX0_firstWay_69 : decode cX0_firstWay 69 = .ok (.goto (-38), 3) := by decide +kernel
theorem dX0_firstWay_72 : decode cX0_firstWay 72 = .ok (.iinc 7 1, 3) := by decide +kernel
theorem dX0_firstWay_75 : decode cX0_firstWay 75 = .ok (.goto (-64), 3) := by decide +kernel
theorem dX0_firstWay_78 : decode cX0_firstWay 78 = .ok (.lload_n 3, 1) := by decide +kernel
theorem dX0_firstWay_79 : decode cX0_firstWay 79 = .ok (.lreturn, 1) := by decide +kernel
theorem dX0_isLoop_0 : decode cX0_isLoop 0 = .ok (.iconst 0, 1) := by decide +kernel
theorem dX0_isLoop_1 : decode cX0_isLoop 1 = .ok (.istore_n 3, 1) := by decide +kernel
theorem dX0_isLoop_2 : decode cX0_isLoop 2 = .ok (.iload_n 3, 1) := by decide +kernel
theorem dX0_isLoop_3 : decode cX0_isLoop 3 = .ok (.aload_n 0, 1) := by decide +kernel
theorem dX0_isLoop_4 : decode cX0_isLoop 4 = .ok (.getfield 50, 3) := by decide +kernel
theorem dX0_isLoop_7 : decode cX0_isLoop 7 = .ok (.if_icmp .ge 35, 3) := by decide +kernel
theorem dX0_isLoop_10 : decode cX0_isLoop 10 = .ok (.lload_n 1, 1) := by decide +kernel
theorem dX0_isLoop_11 : decode cX0_isLoop 11 = .ok (.aload_n 0, 1) := by decide +kernel
theorem dX0_isLoop_12 : decode cX0_isLoop 12 = .ok (.getfield 19, 3) := by decide +kernel
theorem dX0_isLoop_15 : decode cX0_isLoop 15 = .ok (.iload_n 3, 1) := by decide +kernel
theorem dX0_isLoop_16 : decode cX0_isLoop 16 = .ok (.laload, 1) := by decide +kernel
theorem dX0_isLoop_17 : decode cX0_isLoop 17 = .ok (.land, 1) := by decide +kernel
theorem dX0_isLoop_18 : decode cX0_isLoop 18 = .ok (.invokestatic 89, 3) := by decide +kernel
theorem dX0_isLoop_21 : decode cX0_isLoop 21 = .ok (.istore 4, 2) := by decide +kernel
theorem dX0_isLoop_23 : decode cX0_isLoop 23 = .ok (.iload 4, 2) := by decide +kernel
theorem dX0_isLoop_25 : decode cX0_isLoop 25 = .ok (.ifCond .eq 11, 3) := by decide +kernel
theorem dX0_isLoop_28 : decode cX0_isLoop 28 = .ok (.iload 4, 2) := by decide +kernel
theorem dX0_isLoop_30 : decode cX0_isLoop 30 = .ok (.iconst 2, 1) := by decide +kernel
theorem dX0_isLoop_31 : decode cX0_isLoop 31 = .ok (.if_icmp .eq 5, 3) := by decide +kernel
theorem dX0_isLoop_34 : decode cX0_isLoop 34 = .ok (.iconst 0, 1) := by decide +kernel
theorem dX0_isLoop_35 : decode cX0_isLoop 35 = .ok (.ireturn, 1) := by decide +kernel
theorem dX0_isLoop_36 : decode cX0_isLoop 36 = .ok (.iinc 3 1, 3) := by decide +kernel
theorem dX0_isLoop_39 : decode cX0_isLoop 39 = .ok (.goto (-37), 3) := by decide +kernel
theorem dX0_isLoop_42 : decode cX0_isLoop 42 = .ok (.lload_n 1, 1) := by decide +kernel
theorem dX0_isLoop_43 : decode cX0_isLoop 43 = .ok (.lconst 0, 1) := by decide +kernel
theorem dX0_isLoop_44 : decode cX0_isLoop 44 = .ok (.lcmp, 1) := by decide +kernel
theorem dX0_isLoop_45 : decode cX0_isLoop 45 = .ok (.ifCond .eq 17, 3) := by decide +kernel
theorem dX0_isLoop_48 : decode cX0_isLoop 48 = .ok (.aload_n 0, 1) := by decide +kernel
theorem dX0_isLoop_49 : decode cX0_isLoop 49 = .ok (.lload_n 1, 1) := by decide +kernel
theorem dX0_isLoop_50 : decode cX0_isLoop 50 = .ok (.invokevirtual 99, 3) := by decide +kernel
theorem dX0_isLoop_53 : decode cX0_isLoop 53 = .ok (.lload_n 1, 1) := by decide +kernel
theorem dX0_isLoop_54 : decode cX0_isLoop 54 = .ok (.lcmp, 1) := by decide +kernel
theorem dX0_isLoop_55 : decode cX0_isLoop 55 = .ok (.ifCond .ne 7, 3) := by decide +kernel
theorem dX0_isLoop_58 : decode cX0_isLoop 58 = .ok (.iconst 1, 1) := by decide +kernel
theorem dX0_isLoop_59 : decode cX0_isLoop 59 = .ok (.goto 4, 3) := by decide +kernel
theorem dX0_isLoop_62 : decode cX0_isLoop 62 = .ok (.iconst 0, 1) := by decide +kernel
theorem dX0_isLoop_63 : decode cX0_isLoop 63 = .ok (.ireturn, 1) := by decide +kernel
theorem dX0_numbersAreRight_0 : decode cX0_numbersAreRight 0 = .ok (.iconst 0, 1) := by decide +kernel
theorem dX0_numbersAreRight_1 : decode cX0_numbersAreRight 1 = .ok (.istore 4, 2) := by decide +kernel
theorem dX0_numbersAreRight_3 : decode cX0_numbersAreRight 3 = .ok (.iload 4, 2) := by decide +kernel
theorem dX0_numbersAreRight_5 : decode cX0_numbersAreRight 5 = .ok (.aload_n 0, 1) := by decide +kernel
theorem dX0_numbersAreRight_6 : decode cX0_numbersAreRight 6 = .ok (.getfield 47, 3) := by decide +kernel
theorem dX0_numbersAreRight_9 : decode cX0_numbersAreRight 9 = .ok (.if_icmp .ge 50, 3) := by decide +kernel
theorem dX0_numbersAreRight_12 : decode cX0_numbersAreRight 12 = .ok (.iload 4, 2) := by decide +kernel
theorem dX0_numbersAreRight_14 : decode cX0_numbersAreRight 14 = .ok (.iload_n 3, 1) := by decide +kernel
theorem dX0_numbersAreRight_15 : decode cX0_numbersAreRight 15 = .ok (.if_icmp .eq 38, 3) := by decide +kernel
theorem dX0_numbersAreRight_18 : decode cX0_numbersAreRight 18 = .ok (.aload_n 0, 1) := by decide +kernel
theorem dX0_numbersAreRight_19 : decode cX0_numbersAreRight 19 = .ok (.getfield 9, 3) := by decide +kernel
theorem dX0_numbersAreRight_22 : decode cX0_numbersAreRight 22 = .ok (.iload 4, 2) := by decide +kernel
theorem dX0_numbersAreRight_24 : decode cX0_numbersAreRight 24 = .ok (.iaload, 1) := by decide +kernel
theorem dX0_numbersAreRight_25 : decode cX0_numbersAreRight 25 = .ok (.iconst (-1), 1) := by decide +kernel
theorem dX0_numbersAreRight_26 : decode cX0_numbersAreRight 26 = .ok (.if_icmp .eq 27, 3) := by decide +kernel
theorem dX0_numbersAreRight_29 : decode cX0_numbersAreRight 29 = .ok (.lload_n 1, 1) := by decide +kernel
theorem dX0_numbersAreRight_30 : decode cX0_numbersAreRight 30 = .ok (.aload_n 0, 1) := by decide +kernel
theorem dX0_numbersAreRight_31 : decode cX0_numbersAreRight 31 = .ok (.getfield 15, 3) := by decide +kernel
theorem dX0_numbersAreRight_34 : decode cX0_numbersAreRight 34 = .ok (.iload 4, 2) := by decide +kernel
theorem dX0_numbersAreRight_36 : decode cX0_numbersAreRight 36 = .ok (.laload, 1) := by decide +kernel
theorem dX0_numbersAreRight_37 : decode cX0_numbersAreRight 37 = .ok (.land, 1) := by decide +kernel
theorem dX0_numbersAreRight_38 : decode cX0_numbersAreRight 38 = .ok (.invokestatic 89, 3) := by decide +kernel
theorem dX0_numbersAreRight_41 : decode cX0_numbersAreRight 41 = .ok (.aload_n 0, 1) := by decide +kernel
theorem dX0_numbersAreRight_42 : decode cX0_numbersAreRight 42 = .ok (.getfield 9, 3) := by decide +kernel
theorem dX0_numbersAreRight_45 : decode cX0_numbersAreRight 45 = .ok (.iload 4, 2) := by decide +kernel
theorem dX0_numbersAreRight_47 : decode cX0_numbersAreRight 47 = .ok (.iaload, 1) := by decide +kernel
theorem dX0_numbersAreRight_48 : decode cX0_numbersAreRight 48 = .ok (.if_icmp .eq 5, 3) := by decide +kernel
theorem dX0_numbersAreRight_51 : decode cX0_numbersAreRight 51 = .ok (.iconst 0, 1) := by decide +kernel
theorem dX0_numbersAreRight_52 : decode cX0_numbersAreRight 52 = .ok (.ireturn, 1) := by decide +kernel
theorem dX0_numbersAreRight_53 : decode cX0_numbersAreRight 53 = .ok (.iinc 4 1, 3) := by decide +kernel
theorem dX0_numbersAreRight_56 : decode cX0_numbersAreRight 56 = .ok (.goto (-53), 3) := by decide +kernel
theorem dX0_numbersAreRight_59 : decode cX0_numbersAreRight 59 = .ok (.iconst 1, 1) := by decide +kernel
theorem dX0_numbersAreRight_60 : decode cX0_numbersAreRight 60 = .ok (.ireturn, 1) := by decide +kernel
theorem dX1_init_0 : decode cX1_init 0 = .ok (.aload_n 0, 1) := by decide +kernel
theorem dX1_init_1 : decode cX1_init 1 = .ok (.invokespecial 3, 3) := by decide +kernel
theorem dX1_init_4 : decode cX1_init 4 = .ok (.aload_n 0, 1) := by decide +kernel
theorem dX1_init_5 : decode cX1_init 5 = .ok (.bipush 17, 2) := by decide +kernel
theorem dX1_init_7 : decode cX1_init 7 = .ok (.newarray .int, 2) := by decide +kernel
theorem dX1_init_9 : decode cX1_init 9 = .ok (.putfield 9, 3) := by decide +kernel
theorem dX1_init_12 : decode cX1_init 12 = .ok (.aload_n 0, 1) := by decide +kernel
theorem dX1_init_13 : decode cX1_init 13 = .ok (.bipush 17, 2) := by decide +kernel
theorem dX1_init_15 : decode cX1_init 15 = .ok (.newarray .int, 2) := by decide +kernel
theorem dX1_init_17 : decode cX1_init 17 = .ok (.putfield 15, 3) := by decide +kernel
theorem dX1_init_20 : decode cX1_init 20 = .ok (.return_, 1) := by decide +kernel
theorem dX1_clear_0 : decode cX1_clear 0 = .ok (.aload_n 0, 1) := by decide +kernel
theorem dX1_clear_1 : decode cX1_clear 1 = .ok (.iload_n 1, 1) := by decide +kernel
theorem dX1_clear_2 : decode cX1_clear 2 = .ok (.putfield 18, 3) := by decide +kernel
theorem dX1_clear_5 : decode cX1_clear 5 = .ok (.aload_n 0, 1) := by decide +kernel
theorem dX1_clear_6 : decode cX1_clear 6 = .ok (.iconst 0, 1) := by decide +kernel
theorem dX1_clear_7 : decode cX1_clear 7 = .ok (.putfield 22, 3) := by decide +kernel
theorem dX1_clear_10 : decode cX1_clear 10 = .ok (.iconst 0, 1) := by decide +kernel
theorem dX1_clear_11 : decode cX1_clear 11 = .ok (.istore_n 2, 1) := by decide +kernel
theorem dX1_clear_12 : decode cX1_clear 12 = .ok (.iload_n 2, 1) := by decide +kernel
theorem dX1_clear_13 : decode cX1_clear 13 = .ok (.aload_n 0, 1) := by decide +kernel
theorem dX1_clear_14 : decode cX1_clear 14 = .ok (.getfield 18, 3) := by decide +kernel
theorem dX1_clear_17 : decode cX1_clear 17 = .ok (.if_icmp .ge 23, 3) := by decide +kernel
theorem dX1_clear_20 : decode cX1_clear 20 = .ok (.aload_n 0, 1) := by decide +kernel
theorem dX1_clear_21 : decode cX1_clear 21 = .ok (.getfield 9, 3) := by decide +kernel
theorem dX1_clear_24 : decode cX1_clear 24 = .ok (.iload_n 2, 1) := by decide +kernel
theorem dX1_clear_25 : decode cX1_clear 25 = .ok (.iload_n 2, 1) := by decide +kernel
theorem dX1_clear_26 : decode cX1_clear 26 = .ok (.iastore, 1) := by decide +kernel
theorem dX1_clear_27 : decode cX1_clear 27 = .ok (.aload_n 0, 1) := by decide +kernel
theorem dX1_clear_28 : decode cX1_clear 28 = .ok (.getfield 15, 3) := by decide +kernel
theorem dX1_clear_31 : decode cX1_clear 31 = .ok (.iload_n 2, 1) := by decide +kernel
theorem dX1_clear_32 : decode cX1_clear 32 = .ok (.iconst 0, 1) := by decide +kernel
theorem dX1_clear_33 : decode cX1_clear 33 = .ok (.iastore, 1) := by decide +kernel
theorem dX1_clear_34 : decode cX1_clear 34 = .ok (.iinc 2 1, 3) := by decide +kernel
theorem dX1_clear_37 : decode cX1_clear 37 = .ok (.goto (-25), 3) := by decide +kernel
theorem dX1_clear_40 : decode cX1_clear 40 = .ok (.return_, 1) := by decide +kernel
theorem dX1_areJoined_0 : decode cX1_areJoined 0 = .ok (.aload_n 0, 1) := by decide +kernel
theorem dX1_areJoined_1 : decode cX1_areJoined 1 = .ok (.getfield 9, 3) := by decide +kernel
theorem dX1_areJoined_4 : decode cX1_areJoined 4 = .ok (.iload_n 1, 1) := by decide +kernel
theorem dX1_areJoined_5 : decode cX1_areJoined 5 = .ok (.iaload, 1) := by decide +kernel
theorem dX1_areJoined_6 : decode cX1_areJoined 6 = .ok (.aload_n 0, 1) := by decide +kernel
theorem dX1_areJoined_7 : decode cX1_areJoined 7 = .ok (.getfield 9, 3) := by decide +kernel
theorem dX1_areJoined_10 : decode cX1_areJoined 10 = .ok (.iload_n 2, 1) := by decide +kernel
theorem dX1_areJoined_11 : decode cX1_areJoined 11 = .ok (.iaload, 1) := by decide +kernel
theorem dX1_areJoined_12 : decode cX1_areJoined 12 = .ok (.if_icmp .ne 7, 3) := by decide +kernel
theorem dX1_areJoined_15 : decode cX1_areJoined 15 = .ok (.iconst 1, 1) := by decide +kernel
theorem dX1_areJoined_16 : decode cX1_areJoined 16 = .ok (.goto 4, 3) := by decide +kernel
theorem dX1_areJoined_19 : decode cX1_areJoined 19 = .ok (.iconst 0, 1) := by decide +kernel
theorem dX1_areJoined_20 : decode cX1_areJoined 20 = .ok (.ireturn, 1) := by decide +kernel
theorem dX1_differ_0 : decode cX1_differ 0 = .ok (.aload_n 0, 1) := by decide +kernel
theorem dX1_differ_1 : decode cX1_differ 1 = .ok (.getfield 15, 3) := by decide +kernel
theorem dX1_differ_4 : decode cX1_differ 4 = .ok (.iload_n 1, 1) := by decide +kernel
theorem dX1_differ_5 : decode cX1_differ 5 = .ok (.iaload, 1) := by decide +kernel
theorem dX1_differ_6 : decode cX1_differ 6 = .ok (.aload_n 0, 1) := by decide +kernel
theorem dX1_differ_7 : decode cX1_differ 7 = .ok (.getfield 15, 3) := by decide +kernel
theorem dX1_differ_10 : decode cX1_differ 10 = .ok (.iload_n 2, 1) := by decide +kernel
theorem dX1_differ_11 : decode cX1_differ 11 = .ok (.iaload, 1) := by decide +kernel
theorem dX1_differ_12 : decode cX1_differ 12 = .ok (.if_icmp .eq 7, 3) := by decide +kernel
theorem dX1_differ_15 : decode cX1_differ 15 = .ok (.iconst 1, 1) := by decide +kernel
theorem dX1_differ_16 : decode cX1_differ 16 = .ok (.goto 4, 3) := by decide +kernel
theorem dX1_differ_19 : decode cX1_differ 19 = .ok (.iconst 0, 1) := by decide +kernel
theorem dX1_differ_20 : decode cX1_differ 20 = .ok (.ireturn, 1) := by decide +kernel
theorem dX1_join_0 : decode cX1_join 0 = .ok (.aload_n 0, 1) := by decide +kernel
theorem dX1_join_1 : decode cX1_join 1 = .ok (.iload_n 1, 1) := by decide +kernel
theorem dX1_join_2 : decode cX1_join 2 = .ok (.iload_n 2, 1) := by decide +kernel
theorem dX1_join_3 : decode cX1_join 3 = .ok (.invokevirtual 26, 3) := by decide +kernel
theorem dX1_join_6 : decode cX1_join 6 = .ok (.ifCond .eq 30, 3) := by decide +kernel
theorem dX1_join_9 : decode cX1_join 9 = .ok (.aload_n 0, 1) := by decide +kernel
theorem dX1_join_10 : decode cX1_join 10 = .ok (.aload_n 0, 1) := by decide +kernel
theorem dX1_join_11 : decode cX1_join 11 = .ok (.getfield 22, 3) := by decide +kernel
theorem dX1_join_14 : decode cX1_join 14 = .ok (.ifCond .ne 13, 3) := by decide +kernel
theorem dX1_join_17 : decode cX1_join 17 = .ok (.aload_n 0, 1) := by decide +kernel
theorem dX1_join_18 : decode cX1_join 18 = .ok (.iload_n 1, 1) := by decide +kernel
theorem dX1_join_19 : decode cX1_join 19 = .ok (.iload_n 2, 1) := by decide +kernel
theorem dX1_join_20 : decode cX1_join 20 = .ok (.invokevirtual 30, 3) := by decide +kernel
theorem dX1_join_23 : decode cX1_join 23 = .ok (.iload_n 3, 1) := by decide +kernel
theorem dX1_join_24 : decode cX1_join 24 = .ok (.if_icmp .eq 7, 3) := by decide +kernel
theorem dX1_join_27 : decode cX1_join 27 = .ok (.iconst 1, 1) := by decide +kernel
theorem dX1_join_28 : decode cX1_join 28 = .ok (.goto 4, 3) := by decide +kernel
theorem dX1_join_31 : decode cX1_join 31 = .ok (.iconst 0, 1) := by decide +kernel
theorem dX1_join_32 : decode cX1_join 32 = .ok (.putfield 22, 3) := by decide +kernel
theorem dX1_join_35 : decode cX1_join 35 = .ok (.return_, 1) := by decide +kernel
theorem dX1_join_36 : decode cX1_join 36 = .ok (.aload_n 0, 1) := by decide +kernel
theorem dX1_join_37 : decode cX1_join 37 = .ok (.iload_n 1, 1) := by decide +kernel
theorem dX1_join_38 : decode cX1_join 38 = .ok (.iload_n 2, 1) := by decide +kernel
theorem dX1_join_39 : decode cX1_join 39 = .ok (.invokevirtual 30, 3) := by decide +kernel
theorem dX1_join_42 : decode cX1_join 42 = .ok (.iload_n 3, 1) := by decide +kernel
theorem dX1_join_43 : decode cX1_join 43 = .ok (.if_icmp .ne 7, 3) := by decide +kernel
theorem dX1_join_46 : decode cX1_join 46 = .ok (.iconst 0, 1) := by decide +kernel
theorem dX1_join_47 : decode cX1_join 47 = .ok (.goto 4, 3) := by decide +kernel
theorem dX1_join_50 : decode cX1_join 50 = .ok (.iconst 1, 1) := by decide +kernel
theorem dX1_join_51 : decode cX1_join 51 = .ok (.istore 4, 2) := by decide +kernel
theorem dX1_join_53 : decode cX1_join 53 = .ok (.aload_n 0, 1) := by decide +kernel
theorem dX1_join_54 : decode cX1_join 54 = .ok (.getfield 9, 3) := by decide +kernel
theorem dX1_join_57 : decode cX1_join 57 = .ok (.iload_n 2, 1) := by decide +kernel
theorem dX1_join_58 : decode cX1_join 58 = .ok (.iaload, 1) := by decide +kernel
theorem dX1_join_59 : decode cX1_join 59 = .ok (.istore 5, 2) := by decide +kernel
theorem dX1_join_61 : decode cX1_join 61 = .ok (.iconst 0, 1) := by decide +kernel
theorem dX1_join_62 : decode cX1_join 62 = .ok (.istore 6, 2) := by decide +kernel
theorem dX1_join_64 : decode cX1_join 64 = .ok (.iload 6, 2) := by decide +kernel
theorem dX1_join_66 : decode cX1_join 66 = .ok (.aload_n 0, 1) := by decide +kernel
theorem dX1_join_67 : decode cX1_join 67 = .ok (.getfield 18, 3) := by decide +kernel
theorem dX1_join_70 : decode cX1_join 70 = .ok (.if_icmp .ge 46, 3) := by decide +kernel
theorem dX1_join_73 : decode cX1_join 73 = .ok (.aload_n 0, 1) := by decide +kernel
theorem dX1_join_74 : decode cX1_join 74 = .ok (.getfield 9, 3) := by decide +kernel
theorem dX1_join_77 : decode cX1_join 77 = .ok (.iload 6, 2) := by decide +kernel
theorem dX1_join_79 : decode cX1_join 79 = .ok (.iaload, 1) := by decide +kernel
theorem dX1_join_80 : decode cX1_join 80 = .ok (.iload 5, 2) := by decide +kernel
theorem dX1_join_82 : decode cX1_join 82 = .ok (.if_icmp .ne 28, 3) := by decide +kernel
theorem dX1_join_85 : decode cX1_join 85 = .ok (.aload_n 0, 1) := by decide +kernel
theorem dX1_join_86 : decode cX1_join 86 = .ok (.getfield 9, 3) := by decide +kernel
theorem dX1_join_89 : decode cX1_join 89 = .ok (.iload 6, 2) := by decide +kernel
theorem dX1_join_91 : decode cX1_join 91 = .ok (.aload_n 0, 1) := by decide +kernel
theorem dX1_join_92 : decode cX1_join 92 = .ok (.getfield 9, 3) := by decide +kernel
theorem dX1_join_95 : decode cX1_join 95 = .ok (.iload_n 1, 1) := by decide +kernel
theorem dX1_join_96 : decode cX1_join 96 = .ok (.iaload, 1) := by decide +kernel
theorem dX1_join_97 : decode cX1_join 97 = .ok (.iastore, 1) := by decide +kernel
theorem dX1_join_98 : decode cX1_join 98 = .ok (.aload_n 0, 1) := by decide +kernel
theorem dX1_join_99 : decode cX1_join 99 = .ok (.getfield 15, 3) := by decide +kernel
theorem dX1_join_102 : decode cX1_join 102 = .ok (.iload 6, 2) := by decide +kernel
theorem dX1_join_104 : decode cX1_join 104 = .ok (.dup2, 1) := by decide +kernel
theorem dX1_join_105 : decode cX1_join 105 = .ok (.iaload, 1) := by decide +kernel
theorem dX1_join_106 : decode cX1_join 106 = .ok (.iload 4, 2) := by decide +kernel
theorem dX1_join_108 : decode cX1_join 108 = .ok (.ixor, 1) := by decide +kernel
theorem dX1_join_109 : decode cX1_join 109 = .ok (.iastore, 1) := by decide +kernel
theorem dX1_join_110 : decode cX1_join 110 = .ok (.iinc 6 1, 3) := by decide +kernel
theorem dX1_join_113 : decode cX1_join 113 = .ok (.goto (-49), 3) := by decide +kernel
theorem dX1_join_116 : decode cX1_join 116 = .ok (.return_, 1) := by decide +kernel
theorem dX2_init_0 : decode cX2_init 0 = .ok (.aload_n 0, 1) := by decide +kernel
theorem dX2_init_1 : decode cX2_init 1 = .ok (.invokespecial 3, 3) := by decide +kernel
theorem dX2_init_4 : decode cX2_init 4 = .ok (.aload_n 0, 1) := by decide +kernel
theorem dX2_init_5 : decode cX2_init 5 = .ok (.bipush 40, 2) := by decide +kernel
theorem dX2_init_7 : decode cX2_init 7 = .ok (.newarray .int, 2) := by decide +kernel
theorem dX2_init_9 : decode cX2_init 9 = .ok (.putfield 9, 3) := by decide +kernel
theorem dX2_init_12 : decode cX2_init 12 = .ok (.aload_n 0, 1) := by decide +kernel
theorem dX2_init_13 : decode cX2_init 13 = .ok (.bipush 40, 2) := by decide +kernel
theorem dX2_init_15 : decode cX2_init 15 = .ok (.newarray .int, 2) := by decide +kernel
theorem dX2_init_17 : decode cX2_init 17 = .ok (.putfield 15, 3) := by decide +kernel
theorem dX2_init_20 : decode cX2_init 20 = .ok (.aload_n 0, 1) := by decide +kernel
theorem dX2_init_21 : decode cX2_init 21 = .ok (.aload_n 1, 1) := by decide +kernel
theorem dX2_init_22 : decode cX2_init 22 = .ok (.putfield 18, 3) := by decide +kernel
theorem dX2_init_25 : decode cX2_init 25 = .ok (.aload_n 0, 1) := by decide +kernel
theorem dX2_init_26 : decode cX2_init 26 = .ok (.aload_n 2, 1) := by decide +kernel
theorem dX2_init_27 : decode cX2_init 27 = .ok (.putfield 22, 3) := by decide +kernel
theorem dX2_init_30 : decode cX2_init 30 = .ok (.return_, 1) := by decide +kernel
theorem dX2_run_0 : decode cX2_run 0 = .ok (.aload_n 0, 1) := by decide +kernel
theorem dX2_run_1 : decode cX2_run 1 = .ok (.lload_n 1, 1) := by decide +kernel
theorem dX2_run_2 : decode cX2_run 2 = .ok (.lload_n 3, 1) := by decide +kernel
theorem dX2_run_3 : decode cX2_run 3 = .ok (.invokevirtual 26, 3) := by decide +kernel
theorem dX2_run_6 : decode cX2_run 6 = .ok (.iconst 1, 1) := by decide +kernel
theorem dX2_run_7 : decode cX2_run 7 = .ok (.istore 5, 2) := by decide +kernel
theorem dX2_run_9 : decode cX2_run 9 = .ok (.iconst 0, 1) := by decide +kernel
theorem dX2_run_10 : decode cX2_run 10 = .ok (.istore 6, 2) := by decide +kernel
theorem dX2_run_12 : decode cX2_run 12 = .ok (.iload 6, 2) := by decide +kernel
theorem dX2_run_14 : decode cX2_run 14 = .ok (.bipush 40, 2) := by decide +kernel
theorem dX2_run_16 : decode cX2_run 16 = .ok (.if_icmp .gt 20, 3) := by decide +kernel
theorem dX2_run_19 : decode cX2_run 19 = .ok (.iload 5, 2) := by decide +kernel
theorem dX2_run_21 : decode cX2_run 21 = .ok (.ifCond .eq 15, 3) := by decide +kernel
theorem dX2_run_24 : decode cX2_run 24 = .ok (.aload_n 0, 1) := by decide +kernel
theorem dX2_run_25 : decode cX2_run 25 = .ok (.invokevirtual 30, 3) := by decide +kernel
theorem dX2_run_28 : decode cX2_run 28 = .ok (.istore 5, 2) := by decide +kernel
theorem dX2_run_30 : decode cX2_run 30 = .ok (.iinc 6 1, 3) := by decide +kernel
theorem dX2_run_33 : decode cX2_run 33 = .ok (.goto (-21), 3) := by decide +kernel
theorem dX2_run_36 : decode cX2_run 36 = .ok (.return_, 1) := by decide +kernel
theorem dX2_begin_0 : decode cX2_begin 0 = .ok (.aload_n 0, 1) := by decide +kernel
theorem dX2_begin_1 : decode cX2_begin 1 = .ok (.lload_n 1, 1) := by decide +kernel
theorem dX2_begin_2 : decode cX2_begin 2 = .ok (.putfield 34, 3) := by decide +kernel
theorem dX2_begin_5 : decode cX2_begin 5 = .ok (.aload_n 0, 1) := by decide +kernel
theorem dX2_begin_6 : decode cX2_begin 6 = .ok (.lload_n 3, 1) := by decide +kernel
theorem dX2_begin_7 : decode cX2_begin 7 = .ok (.putfield 38, 3) := by decide +kernel
theorem dX2_begin_10 : decode cX2_begin 10 = .ok (.aload_n 0, 1) := by decide +kernel
theorem dX2_begin_11 : decode cX2_begin 11 = .ok (.iconst 0, 1) := by decide +kernel
theorem dX2_begin_12 : decode cX2_begin 12 = .ok (.putfield 41, 3) := by decide +kernel
theorem dX2_begin_15 : decode cX2_begin 15 = .ok (.aload_n 0, 1) := by decide +kernel
theorem dX2_begin_16 : decode cX2_begin 16 = .ok (.iconst 0, 1) := by decide +kernel
theorem dX2_begin_17 : decode cX2_begin 17 = .ok (.putfield 45, 3) := by decide +kernel
theorem dX2_begin_20 : decode cX2_begin 20 = .ok (.iconst 0, 1) := by decide +kernel
theorem dX2_begin_21 : decode cX2_begin 21 = .ok (.istore 5, 2) := by decide +kernel
theorem dX2_begin_23 : decode cX2_begin 23 = .ok (.iload 5, 2) := by decide +kernel
theorem dX2_begin_25 : decode cX2_begin 25 = .ok (.aload_n 0, 1) := by decide +kernel
theorem dX2_begin_26 : decode cX2_begin 26 = .ok (.getfield 18, 3) := by decide +kernel
theorem dX2_begin_29 : decode cX2_begin 29 = .ok (.getfield 48, 3) := by decide +kernel
theorem dX2_begin_32 : decode cX2_begin 32 = .ok (.if_icmp .ge 46, 3) := by decide +kernel
theorem dX2_begin_35 : decode cX2_begin 35 = .ok (.aload_n 0, 1) := by decide +kernel
theorem dX2_begin_36 : decode cX2_begin 36 = .ok (.getfield 9, 3) := by decide +kernel
theorem dX2_begin_39 : decode cX2_begin 39 = .ok (.iload 5, 2) := by decide +kernel
theorem dX2_begin_41 : decode cX2_begin 41 = .ok (.aload_n 0, 1) := by decide +kernel
theorem dX2_begin_42 : decode cX2_begin 42 = .ok (.getfield 34, 3) := by decide +kernel
theorem dX2_begin_45 : decode cX2_begin 45 = .ok (.aload_n 0, 1) := by decide +kernel
theorem dX2_begin_46 : decode cX2_begin 46 = .ok (.getfield 38, 3) := by decide +kernel
theorem dX2_begin_49 : decode cX2_begin 49 = .ok (.lor, 1) := by decide +kernel
theorem dX2_begin_50 : decode cX2_begin 50 = .ok (.iload 5, 2) := by decide +kernel
theorem dX2_begin_52 : decode cX2_begin 52 = .ok (.invokestatic 53, 3) := by decide +kernel
theorem dX2_begin_55 : decode cX2_begin 55 = .ok (.ifCond .eq 7, 3) := by decide +kernel
theorem dX2_begin_58 : decode cX2_begin 58 = .ok (.iconst 0, 1) := by decide +kernel
theorem dX2_begin_59 : decode cX2_begin 59 = .ok (.goto 4, 3) := by decide +kernel
theorem dX2_begin_62 : decode cX2_begin 62 = .ok (.iconst (-1), 1) := by decide +kernel
theorem dX2_begin_63 : decode cX2_begin 63 = .ok (.iastore, 1) := by decide +kernel
theorem dX2_begin_64 : decode cX2_begin 64 = .ok (.aload_n 0, 1) := by decide +kernel
theorem dX2_begin_65 : decode cX2_begin 65 = .ok (.getfield 15, 3) := by decide +kernel
theorem dX2_begin_68 : decode cX2_begin 68 = .ok (.iload 5, 2) := by decide +kernel
theorem dX2_begin_70 : decode cX2_begin 70 = .ok (.iconst (-1), 1) := by decide +kernel
theorem dX2_begin_71 : decode cX2_begin 71 = .ok (.iastore, 1) := by decide +kernel
theorem dX2_begin_72 : decode cX2_begin 72 = .ok (.iinc 5 1, 3) := by decide +kernel
theorem dX2_begin_75 : decode cX2_begin 75 = .ok (.goto (-52), 3) := by decide +kernel
theorem dX2_begin_78 : decode cX2_begin 78 = .ok (.return_, 1) := by decide +kernel
theorem dX2_playRound_0 : decode cX2_playRound 0 = .ok (.aload_n 0, 1) := by decide +kernel
theorem dX2_playRound_1 : decode cX2_playRound 1 = .ok (.getfield 22, 3) := by decide +kernel
theorem dX2_playRound_4 : decode cX2_playRound 4 = .ok (.aload_n 0, 1) := by decide +kernel
theorem dX2_playRound_5 : decode cX2_playRound 5 = .ok (.getfield 34, 3) := by decide +kernel
theorem dX2_playRound_8 : decode cX2_playRound 8 = .ok (.aload_n 0, 1) := by decide +kernel
theorem dX2_playRound_9 : decode cX2_playRound 9 = .ok (.getfield 38, 3) := by decide +kernel
theorem dX2_playRound_12 : decode cX2_playRound 12 = .ok (.invokevirtual 57, 3) := by decide +kernel
theorem dX2_playRound_15 : decode cX2_playRound 15 = .ok (.aload_n 0, 1) := by decide +kernel
theorem dX2_playRound_16 : decode cX2_playRound 16 = .ok (.aload_n 0, 1) := by decide +kernel
theorem dX2_playRound_17 : decode cX2_playRound 17 = .ok (.getfield 22, 3) := by decide +kernel
theorem dX2_playRound_20 : decode cX2_playRound 20 = .ok (.invokevirtual 62, 3) := by decide +kernel
theorem dX2_playRound_23 : decode cX2_playRound 23 = .ok (.putfield 45, 3) := by decide +kernel
theorem dX2_playRound_26 : decode cX2_playRound 26 = .ok (.aload_n 0, 1) := by decide +kernel
theorem dX2_playRound_27 : decode cX2_playRound 27 = .ok (.getfield 45, 3) := by decide +kernel
theorem dX2_playRound_30 : decode cX2_playRound 30 = .ok (.ifCond .eq 5, 3) := by decide +kernel
theorem dX2_playRound_33 : decode cX2_playRound 33 = .ok (.iconst 0, 1) := by decide +kernel
theorem dX2_playRound_34 : decode cX2_playRound 34 = .ok (.ireturn, 1) := by decide +kernel
theorem dX2_playRound_35 : decode cX2_playRound 35 = .ok (.aload_n 0, 1) := by decide +kernel
theorem dX2_playRound_36 : decode cX2_playRound 36 = .ok (.getfield 22, 3) := by decide +kernel
theorem dX2_playRound_39 : decode cX2_playRound 39 = .ok (.invokevirtual 66, 3) := by decide +kernel
theorem dX2_playRound_42 : decode cX2_playRound 42 = .ok (.aload_n 0, 1) := by decide +kernel
theorem dX2_playRound_43 : decode cX2_playRound 43 = .ok (.getfield 22, 3) := by decide +kernel
theorem dX2_playRound_46 : decode cX2_playRound 46 = .ok (.invokevirtual 69, 3) := by decide +kernel
theorem dX2_playRound_49 : decode cX2_playRound 49 = .ok (.ifCond .eq 10, 3) := by decide +kernel
theorem dX2_playRound_52 : decode cX2_playRound 52 = .ok (.aload_n 0, 1) := by decide +kernel
theorem dX2_playRound_53 : decode cX2_playRound 53 = .ok (.iconst 5, 1) := by decide +kernel
theorem dX2_playRound_54 : decode cX2_playRound 54 = .ok (.putfield 45, 3) := by decide +kernel
theorem dX2_playRound_57 : decode cX2_playRound 57 = .ok (.iconst 0, 1) := by decide +kernel
theorem dX2_playRound_58 : decode cX2_playRound 58 = .ok (.ireturn, 1) := by decide +kernel
theorem dX2_playRound_59 : decode cX2_playRound 59 = .ok (.aload_n 0, 1) := by decide +kernel
theorem dX2_playRound_60 : decode cX2_playRound 60 = .ok (.getfield 22, 3) := by decide +kernel
theorem dX2_playRound_63 : decode cX2_playRound 63 = .ok (.getfield 72, 3) := by decide +kernel
theorem dX2_playRound_66 : decode cX2_playRound 66 = .ok (.aload_n 0, 1) := by decide +kernel
theorem dX2_playRound_67 : decode cX2_playRound 67 = .ok (.getfield 22, 3) := by decide +kernel
theorem dX2_playRound_70 : decode cX2_playRound 70 = .ok (.getfield 75, 3) := by decide +kernel
theorem dX2_playRound_73 : decode cX2_playRound 73 = .ok (.lor, 1) := by decide +kernel
theorem dX2_playRound_74 : decode cX2_playRound 74 = .ok (.lconst 0, 1) := by decide +kernel
theorem dX2_playRound_75 : decode cX2_playRound 75 = .ok (.lcmp, 1) := by decide +kernel
theorem dX2_playRound_76 : decode cX2_playRound 76 = .ok (.ifCond .ne 5, 3) := by decide +kernel
theorem dX2_playRound_79 : decode cX2_playRound 79 = .ok (.iconst 0, 1) := by decide +kernel
theorem dX2_playRound_80 : decode cX2_playRound 80 = .ok (.ireturn, 1) := by decide +kernel
theorem dX2_playRound_81 : decode cX2_playRound 81 = .ok (.aload_n 0, 1) := by decide +kernel
theorem dX2_playRound_82 : decode cX2_playRound 82 = .ok (.invokevirtual 78, 3) := by decide +kernel
theorem dX2_playRound_85 : decode cX2_playRound 85 = .ok (.iconst 1, 1) := by decide +kernel
theorem dX2_playRound_86 : decode cX2_playRound 86 = .ok (.ireturn, 1) := by decide +kernel
theorem dX2_decide_0 : decode cX2_decide 0 = .ok (.aload_n 0, 1) := by decide +kernel
theorem dX2_decide_1 : decode cX2_decide 1 = .ok (.dup, 1) := by decide +kernel
theorem dX2_decide_2 : decode cX2_decide 2 = .ok (.getfield 41, 3) := by decide +kernel
theorem dX2_decide_5 : decode cX2_decide 5 = .ok (.iconst 1, 1) := by decide +kernel
theorem dX2_decide_6 : decode cX2_decide 6 = .ok (.iadd, 1) := by decide +kernel
theorem dX2_decide_7 : decode cX2_decide 7 = .ok (.putfield 41, 3) := by decide +kernel
theorem dX2_decide_10 : decode cX2_decide 10 = .ok (.aload_n 0, 1) := by decide +kernel
theorem dX2_decide_11 : decode cX2_decide 11 = .ok (.dup, 1) := by decide +kernel
theorem dX2_decide_12 : decode cX2_decide 12 = .ok (.getfield 34, 3) := by decide +kernel
theorem dX2_decide_15 : decode cX2_decide 15 = .ok (.aload_n 0, 1) := by decide +kernel
theorem dX2_decide_16 : decode cX2_decide 16 = .ok (.getfield 22, 3) := by decide +kernel
theorem dX2_decide_19 : decode cX2_decide 19 = .ok (.getfield 72, 3) := by decide +kernel
theorem dX2_decide_22 : decode cX2_decide 22 = .ok (.lor, 1) := by decide +kernel
theorem dX2_decide_23 : decode cX2_decide 23 = .ok (.putfield 34, 3) := by decide +kernel
theorem dX2_decide_26 : decode cX2_decide 26 = .ok (.aload_n 0, 1) := by decide +kernel
theorem dX2_decide_27 : decode cX2_decide 27 = .ok (.dup, 1) := by decide +kernel
theorem dX2_decide_28 : decode cX2_decide 28 = .ok (.getfield 38, 3) := by decide +kernel
theorem dX2_decide_31 : decode cX2_decide 31 = .ok (.aload_n 0, 1) := by decide +kernel
theorem dX2_decide_32 : decode cX2_decide 32 = .ok (.getfield 22, 3) := by decide +kernel
theorem dX2_decide_35 : decode cX2_decide 35 = .ok (.getfield 75, 3) := by decide +kernel
theorem dX2_decide_38 : decode cX2_decide 38 = .ok (.lor, 1) := by decide +kernel
theorem dX2_decide_39 : decode cX2_decide 39 = .ok (.putfield 38, 3) := by decide +kernel
theorem dX2_decide_42 : decode cX2_decide 42 = .ok (.iconst 0, 1) := by decide +kernel
theorem dX2_decide_43 : decode cX2_decide 43 = .ok (.istore_n 1, 1) := by decide +kernel
theorem dX2_decide_44 : decode cX2_decide 44 = .ok (.iload_n 1, 1) := by decide +kernel
theorem dX2_decide_45 : decode cX2_decide 45 = .ok (.aload_n 0, 1) := by decide +kernel
theorem dX2_decide_46 : decode cX2_decide 46 = .ok (.getfield 18, 3) := by decide +kernel
theorem dX2_decide_49 : decode cX2_decide 49 = .ok (.getfield 48, 3) := by decide +kernel
theorem dX2_decide_52 : decode cX2_decide 52 = .ok (.if_icmp .ge 55, 3) := by decide +kernel
theorem dX2_decide_55 : decode cX2_decide 55 = .ok (.aload_n 0, 1) := by decide +kernel
theorem dX2_decide_56 : decode cX2_decide 56 = .ok (.getfield 22, 3) := by decide +kernel
theorem dX2_decide_59 : decode cX2_decide 59 = .ok (.getfield 72, 3) := by decide +kernel
theorem dX2_decide_62 : decode cX2_decide 62 = .ok (.aload_n 0, 1) := by decide +kernel
theorem dX2_decide_63 : decode cX2_decide 63 = .ok (.getfield 22, 3) := by decide +kernel
theorem dX2_decide_66 : decode cX2_decide 66 = .ok (.getfield 75, 3) := by decide +kernel
theorem dX2_decide_69 : decode cX2_decide 69 = .ok (.lor, 1) := by decide +kernel
theorem dX2_decide_70 : decode cX2_decide 70 = .ok (.iload_n 1, 1) := by decide +kernel
theorem dX2_decide_71 : decode cX2_decide 71 = .ok (.invokestatic 53, 3) := by decide +kernel
theorem dX2_decide_74 : decode cX2_decide 74 = .ok (.ifCond .eq 27, 3) := by decide +kernel
theorem dX2_decide_77 : decode cX2_decide 77 = .ok (.aload_n 0, 1) := by decide +kernel
theorem dX2_decide_78 : decode cX2_decide 78 = .ok (.getfield 9, 3) := by decide +kernel
theorem dX2_decide_81 : decode cX2_decide 81 = .ok (.iload_n 1, 1) := by decide +kernel
theorem dX2_decide_82 : decode cX2_decide 82 = .ok (.aload_n 0, 1) := by decide +kernel
theorem dX2_decide_83 : decode cX2_decide 83 = .ok (.getfield 41, 3) := by decide +kernel
theorem dX2_decide_86 : decode cX2_decide 86 = .ok (.iastore, 1) := by decide +kernel
theorem dX2_decide_87 : decode cX2_decide 87 = .ok (.aload_n 0, 1) := by decide +kernel
theorem dX2_decide_88 : decode cX2_decide 88 = .ok (.getfield 15, 3) := by decide +kernel
theorem dX2_decide_91 : decode cX2_decide 91 = .ok (.iload_n 1, 1) := by decide +kernel
theorem dX2_decide_92 : decode cX2_decide 92 = .ok (.aload_n 0, 1) := by decide +kernel
theorem dX2_decide_93 : decode cX2_decide 93 = .ok (.getfield 22, 3) := by decide +kernel
theorem dX2_decide_96 : decode cX2_decide 96 = .ok (.iload_n 1, 1) := by decide +kernel
theorem dX2_decide_97 : decode cX2_decide 97 = .ok (.invokevirtual 81, 3) := by decide +kernel
theorem dX2_decide_100 : decode cX2_decide 100 = .ok (.iastore, 1) := by decide +kernel
theorem dX2_decide_101 : decode cX2_decide 101 = .ok (.iinc 1 1, 3) := by decide +kernel
theorem dX2_decide_104 : decode cX2_decide 104 = .ok (.goto (-60), 3) := by decide +kernel
theorem dX2_decide_107 : decode cX2_decide 107 = .ok (.return_, 1) := by decide +kernel
theorem dX3_init_0 : decode cX3_init 0 = .ok (.aload_n 0, 1) := by decide +kernel
theorem dX3_init_1 : decode cX3_init 1 = .ok (.invokespecial 3, 3) := by decide +kernel
theorem dX3_init_4 : decode cX3_init 4 = .ok (.aload_n 0, 1) := by decide +kernel
theorem dX3_init_5 : decode cX3_init 5 = .ok (.sipush 9349, 3) := by decide +kernel
theorem dX3_init_8 : decode cX3_init 8 = .ok (.newarray .long, 2) := by decide +kernel
theorem dX3_init_10 : decode cX3_init 10 = .ok (.putfield 9, 3) := by decide +kernel
theorem dX3_init_13 : decode cX3_init 13 = .ok (.aload_n 0, 1) := by decide +kernel
theorem dX3_init_14 : decode cX3_init 14 = .ok (.aload_n 1, 1) := by decide +kernel
theorem dX3_init_15 : decode cX3_init 15 = .ok (.putfield 15, 3) := by decide +kernel
theorem dX3_init_18 : decode cX3_init 18 = .ok (.return_, 1) := by decide +kernel
theorem dX3_forget_0 : decode cX3_forget 0 = .ok (.aload_n 0, 1) := by decide +kernel
theorem dX3_forget_1 : decode cX3_forget 1 = .ok (.iconst 0, 1) := by decide +kernel
theorem dX3_forget_2 : decode cX3_forget 2 = .ok (.putfield 19, 3) := by decide +kernel
theorem dX3_forget_5 : decode cX3_forget 5 = .ok (.return_, 1) := by decide +kernel
theorem dX3_find_0 : decode cX3_find 0 = .ok (.aload_n 0, 1) := by decide +kernel
theorem dX3_find_1 : decode cX3_find 1 = .ok (.getfield 19, 3) := by decide +kernel
theorem dX3_find_4 : decode cX3_find 4 = .ok (.ifCond .ne 19, 3) := by decide +kernel
theorem dX3_find_7 : decode cX3_find 7 = .ok (.aload_n 0, 1) := by decide +kernel
theorem dX3_find_8 : decode cX3_find 8 = .ok (.iconst 0, 1) := by decide +kernel
theorem dX3_find_9 : decode cX3_find 9 = .ok (.putfield 23, 3) := by decide +kernel
theorem dX3_find_12 : decode cX3_find 12 = .ok (.aload_n 0, 1) := by decide +kernel
theorem dX3_find_13 : decode cX3_find 13 = .ok (.iconst 0, 1) := by decide +kernel
theorem dX3_find_14 : decode cX3_find 14 = .ok (.lconst 0, 1) := by decide +kernel
theorem dX3_find_15 : decode cX3_find 15 = .ok (.invokestatic 27, 3) := by decide +kernel
theorem dX3_find_18 : decode cX3_find 18 = .ok (.aload_n 0, 1) := by decide +kernel
theorem dX3_find_19 : decode cX3_find 19 = .ok (.iconst 1, 1) := by decide +kernel
theorem dX3_find_20 : decode cX3_find 20 = .ok (.putfield 19, 3) := by decide +kernel
theorem dX3_find_23 : decode cX3_find 23 = .ok (.return_, 1) := by decide +kernel
theorem dX3_grow_0 : decode cX3_grow 0 = .ok (.aload_n 0, 1) := by decide +kernel
theorem dX3_grow_1 : decode cX3_grow 1 = .ok (.getfield 15, 3) := by decide +kernel
theorem dX3_grow_4 : decode cX3_grow 4 = .ok (.astore 4, 2) := by decide +kernel
theorem dX3_grow_6 : decode cX3_grow 6 = .ok (.iload_n 1, 1) := by decide +kernel
theorem dX3_grow_7 : decode cX3_grow 7 = .ok (.ifCond .le 22, 3) := by decide +kernel
theorem dX3_grow_10 : decode cX3_grow 10 = .ok (.aload 4, 2) := by decide +kernel
theorem dX3_grow_12 : decode cX3_grow 12 = .ok (.lload_n 2, 1) := by decide +kernel
theorem dX3_grow_13 : decode cX3_grow 13 = .ok (.aload 4, 2) := by decide +kernel
theorem dX3_grow_15 : decode cX3_grow 15 = .ok (.getfield 31, 3) := by decide +kernel
theorem dX3_grow_18 : decode cX3_grow 18 = .ok (.iload_n 1, 1) := by decide +kernel
theorem dX3_grow_19 : decode cX3_grow 19 = .ok (.iconst 1, 1) := by decide +kernel
theorem dX3_grow_20 : decode cX3_grow 20 = .ok (.isub, 1) := by decide +kernel
theorem dX3_grow_21 : decode cX3_grow 21 = .ok (.iaload, 1) := by decide +kernel
theorem dX3_grow_22 : decode cX3_grow 22 = .ok (.invokevirtual 37, 3) := by decide +kernel
theorem dX3_grow_25 : decode cX3_grow 25 = .ok (.ifCond .eq 4, 3) := by decide +kernel
theorem dX3_grow_28 : decode cX3_grow 28 = .ok (.return_, 1) := by decide +kernel
theorem dX3_grow_29 : decode cX3_grow 29 = .ok (.iload_n 1, 1) := by decide +kernel
theorem dX3_grow_30 : decode cX3_grow 30 = .ok (.aload 4, 2) := by decide +kernel
theorem dX3_grow_32 : decode cX3_grow 32 = .ok (.getfield 41, 3) := by decide +kernel
theorem dX3_grow_35 : decode cX3_grow 35 = .ok (.if_icmp .lt 45, 3) := by decide +kernel
theorem dX3_grow_38 : decode cX3_grow 38 = .ok (.aload_n 0, 1) := by decide +kernel
theorem dX3_grow_39 : decode cX3_grow 39 = .ok (.getfield 23, 3) := by decide +kernel
theorem dX3_grow_42 : decode cX3_grow 42 = .ok (.aload_n 0, 1) := by decide +kernel
theorem dX3_grow_43 : decode cX3_grow 43 = .ok (.getfield 9, 3) := by decide +kernel
theorem dX3_grow_46 : decode cX3_grow 46 = .ok (.arraylength, 1) := by decide +kernel
theorem dX3_grow_47 : decode cX3_grow 47 = .ok (.if_icmp .ge 32, 3) := by decide +kernel
theorem dX3_grow_50 : decode cX3_grow 50 = .ok (.aload 4, 2) := by decide +kernel
theorem dX3_grow_52 : decode cX3_grow 52 = .ok (.lload_n 2, 1) := by decide +kernel
theorem dX3_grow_53 : decode cX3_grow 53 = .ok (.invokevirtual 44, 3) := by decide +kernel
theorem dX3_grow_56 : decode cX3_grow 56 = .ok (.ifCond .eq 23, 3) := by decide +kernel
theorem dX3_grow_59 : decode cX3_grow 59 = .ok (.aload_n 0, 1) := by decide +kernel
theorem dX3_grow_60 : decode cX3_grow 60 = .ok (.getfield 9, 3) := by decide +kernel
theorem dX3_grow_63 : decode cX3_grow 63 = .ok (.aload_n 0, 1) := by decide +kernel
theorem dX3_grow_64 : decode cX3_grow 64 = .ok (.getfield 23, 3) := by decide +kernel
theorem dX3_grow_67 : decode cX3_grow 67 = .ok (.lload_n 2, 1) := by decide +kernel
theorem dX3_grow_68 : decode cX3_grow 68 = .ok (.lastore, 1) := by decide +kernel
theorem dX3_grow_69 : decode cX3_grow 69 = .ok (.aload_n 0, 1) := by decide +kernel
theorem dX3_grow_70 : decode cX3_grow 70 = .ok (.dup, 1) := by decide +kernel
theorem dX3_grow_71 : decode cX3_grow 71 = .ok (.getfield 23, 3) := by decide +kernel
theorem dX3_grow_74 : decode cX3_grow 74 = .ok (.iconst 1, 1) := by decide +kernel
theorem dX3_grow_75 : decode cX3_grow 75 = .ok (.iadd, 1) := by decide +kernel
theorem dX3_grow_76 : decode cX3_grow 76 = .ok (.putfield 23, 3) := by decide +kernel
theorem dX3_grow_79 : decode cX3_grow 79 = .ok (.return_, 1) := by decide +kernel
theorem dX3_grow_80 : decode cX3_grow 80 = .ok (.lload_n 2, 1) := by decide +kernel
theorem dX3_grow_81 : decode cX3_grow 81 = .ok (.aload 4, 2) := by decide +kernel
theorem dX3_grow_83 : decode cX3_grow 83 = .ok (.getfield 48, 3) := by decide +kernel
theorem dX3_grow_86 : decode cX3_grow 86 = .ok (.iload_n 1, 1) := by decide +kernel
theorem dX3_grow_87 : decode cX3_grow 87 = .ok (.laload, 1) := by decide +kernel
theorem dX3_grow_88 : decode cX3_grow 88 = .ok (.lxor, 1) := by decide +kernel
theorem dX3_grow_89 : decode cX3_grow 89 = .ok (.lstore 5, 2) := by decide +kernel
theorem dX3_grow_91 : decode cX3_grow 91 = .ok (.lload_n 2, 1) := by decide +kernel
theorem dX3_grow_92 : decode cX3_grow 92 = .ok (.iload_n 1, 1) := by decide +kernel
theorem dX3_grow_93 : decode cX3_grow 93 = .ok (.invokestatic 51, 3) := by decide +kernel
theorem dX3_grow_96 : decode cX3_grow 96 = .ok (.istore 7, 2) := by decide +kernel
theorem dX3_grow_98 : decode cX3_grow 98 = .ok (.aload_n 0, 1) := by decide +kernel
theorem dX3_grow_99 : decode cX3_grow 99 = .ok (.iload_n 1, 1) := by decide +kernel
theorem dX3_grow_100 : decode cX3_grow 100 = .ok (.iconst 1, 1) := by decide +kernel
theorem dX3_grow_101 : decode cX3_grow 101 = .ok (.iadd, 1) := by decide +kernel
theorem dX3_grow_102 : decode cX3_grow 102 = .ok (.iload 7, 2) := by decide +kernel
theorem dX3_grow_104 : decode cX3_grow 104 = .ok (.ifCond .eq 7, 3) := by decide +kernel
theorem dX3_grow_107 : decode cX3_grow 107 = .ok (.lload_n 2, 1) := by decide +kernel
theorem dX3_grow_108 : decode cX3_grow 108 = .ok (.goto 5, 3) := by decide +kernel
theorem dX3_grow_111 : decode cX3_grow 111 = .ok (.lload 5, 2) := by decide +kernel
theorem dX3_grow_113 : decode cX3_grow 113 = .ok (.invokestatic 27, 3) := by decide +kernel
theorem dX3_grow_116 : decode cX3_grow 116 = .ok (.aload_n 0, 1) := by decide +kernel
theorem dX3_grow_117 : decode cX3_grow 117 = .ok (.iload_n 1, 1) := by decide +kernel
theorem dX3_grow_118 : decode cX3_grow 118 = .ok (.iconst 1, 1) := by decide +kernel
theorem dX3_grow_119 : decode cX3_grow 119 = .ok (.iadd, 1) := by decide +kernel
theorem dX3_grow_120 : decode cX3_grow 120 = .ok (.iload 7, 2) := by decide +kernel
theorem dX3_grow_122 : decode cX3_grow 122 = .ok (.ifCond .eq 8, 3) := by decide +kernel
theorem dX3_grow_125 : decode cX3_grow 125 = .ok (.lload 5, 2) := by decide +kernel
theorem dX3_grow_127 : decode cX3_grow 127 = .ok (.goto 4, 3) := by decide +kernel
theorem dX3_grow_130 : decode cX3_grow 130 = .ok (.lload_n 2, 1) := by decide +kernel
theorem dX3_grow_131 : decode cX3_grow 131 = .ok (.invokestatic 27, 3) := by decide +kernel
theorem dX3_grow_134 : decode cX3_grow 134 = .ok (.return_, 1) := by decide +kernel
theorem dX3_isAnswerFor_0 : decode cX3_isAnswerFor 0 = .ok (.lload 6, 2) := by decide +kernel
theorem dX3_isAnswerFor_2 : decode cX3_isAnswerFor 2 = .ok (.lload_n 1, 1) := by decide +kernel
theorem dX3_isAnswerFor_3 : decode cX3_isAnswerFor 3 = .ok (.land, 1) := by decide +kernel
theorem dX3_isAnswerFor_4 : decode cX3_isAnswerFor 4 = .ok (.lload_n 1, 1) := by decide +kernel
theorem dX3_isAnswerFor_5 : decode cX3_isAnswerFor 5 = .ok (.lcmp, 1) := by decide +kernel
theorem dX3_isAnswerFor_6 : decode cX3_isAnswerFor 6 = .ok (.ifCond .ne 30, 3) := by decide +kernel
theorem dX3_isAnswerFor_9 : decode cX3_isAnswerFor 9 = .ok (.lload 6, 2) := by decide +kernel
theorem dX3_isAnswerFor_11 : decode cX3_isAnswerFor 11 = .ok (.lload_n 3, 1) := by decide +kernel
theorem dX3_isAnswerFor_12 : decode cX3_isAnswerFor 12 = .ok (.land, 1) := by decide +kernel
theorem dX3_isAnswerFor_13 : decode cX3_isAnswerFor 13 = .ok (.lconst 0, 1) := by decide +kernel
theorem dX3_isAnswerFor_14 : decode cX3_isAnswerFor 14 = .ok (.lcmp, 1) := by decide +kernel
theorem dX3_isAnswerFor_15 : decode cX3_isAnswerFor 15 = .ok (.ifCond .ne 21, 3) := by decide +kernel
theorem dX3_isAnswerFor_18 : decode cX3_isAnswerFor 18 = .ok (.aload_n 0, 1) := by decide +kernel
theorem dX3_isAnswerFor_19 : decode cX3_isAnswerFor 19 = .ok (.getfield 15, 3) := by decide +kernel
theorem dX3_isAnswerFor_22 : decode cX3_isAnswerFor 22 = .ok (.lload 6, 2) := by decide +kernel
theorem dX3_isAnswerFor_24 : decode cX3_isAnswerFor 24 = .ok (.iload 5, 2) := by decide +kernel
theorem dX3_isAnswerFor_26 : decode cX3_isAnswerFor 26 = .ok (.invokevirtual 54, 3) := by decide +kernel
theorem dX3_isAnswerFor_29 : decode cX3_isAnswerFor 29 = .ok (.ifCond .eq 7, 3) := by decide +kernel
theorem dX3_isAnswerFor_32 : decode cX3_isAnswerFor 32 = .ok (.iconst 1, 1) := by decide +kernel
theorem dX3_isAnswerFor_33 : decode cX3_isAnswerFor 33 = .ok (.goto 4, 3) := by decide +kernel
theorem dX3_isAnswerFor_36 : decode cX3_isAnswerFor 36 = .ok (.iconst 0, 1) := by decide +kernel
theorem dX3_isAnswerFor_37 : decode cX3_isAnswerFor 37 = .ok (.ireturn, 1) := by decide +kernel
theorem dX3_countAnswers_0 : decode cX3_countAnswers 0 = .ok (.aload_n 0, 1) := by decide +kernel
theorem dX3_countAnswers_1 : decode cX3_countAnswers 1 = .ok (.invokevirtual 57, 3) := by decide +kernel
theorem dX3_countAnswers_4 : decode cX3_countAnswers 4 = .ok (.iconst 0, 1) := by decide +kernel
theorem dX3_countAnswers_5 : decode cX3_countAnswers 5 = .ok (.istore 6, 2) := by decide +kernel
theorem dX3_countAnswers_7 : decode cX3_countAnswers 7 = .ok (.iconst 0, 1) := by decide +kernel
theorem dX3_countAnswers_8 : decode cX3_countAnswers 8 = .ok (.istore 7, 2) := by decide +kernel
theorem dX3_countAnswers_10 : decode cX3_countAnswers 10 = .ok (.iload 7, 2) := by decide +kernel
theorem dX3_countAnswers_12 : decode cX3_countAnswers 12 = .ok (.aload_n 0, 1) := by decide +kernel
theorem dX3_countAnswers_13 : decode cX3_countAnswers 13 = .ok (.getfield 23, 3) := by decide +kernel
theorem dX3_countAnswers_16 : decode cX3_countAnswers 16 = .ok (.if_icmp .ge 30, 3) := by decide +kernel
theorem dX3_countAnswers_19 : decode cX3_countAnswers 19 = .ok (.aload_n 0, 1) := by decide +kernel
theorem dX3_countAnswers_20 : decode cX3_countAnswers 20 = .ok (.lload_n 1, 1) := by decide +kernel
theorem dX3_countAnswers_21 : decode cX3_countAnswers 21 = .ok (.lload_n 3, 1) := by decide +kernel
theorem dX3_countAnswers_22 : decode cX3_countAnswers 22 = .ok (.iload 5, 2) := by decide +kernel
theorem dX3_countAnswers_24 : decode cX3_countAnswers 24 = .ok (.aload_n 0, 1) := by decide +kernel
theorem dX3_countAnswers_25 : decode cX3_countAnswers 25 = .ok (.getfield 9, 3) := by decide +kernel
theorem dX3_countAnswers_28 : decode cX3_countAnswers 28 = .ok (.iload 7, 2) := by decide +kernel
theorem dX3_countAnswers_30 : decode cX3_countAnswers 30 = .ok (.laload, 1) := by decide +kernel
theorem dX3_countAnswers_31 : decode cX3_countAnswers 31 = .ok (.invokevirtual 60, 3) := by decide +kernel
theorem dX3_countAnswers_34 : decode cX3_countAnswers 34 = .ok (.ifCond .eq 6, 3) := by decide +kernel
theorem dX3_countAnswers_37 : decode cX3_countAnswers 37 = .ok (.iinc 6 1, 3) := by decide +kernel
theorem dX3_countAnswers_40 : decode cX3_countAnswers 40 = .ok (.iinc 7 1, 3) := by decide +kernel
theorem dX3_countAnswers_43 : decode cX3_countAnswers 43 = .ok (.goto (-33), 3) := by decide +kernel
theorem dX3_countAnswers_46 : decode cX3_countAnswers 46 = .ok (.iload 6, 2) := by decide +kernel
theorem dX3_countAnswers_48 : decode cX3_countAnswers 48 = .ok (.ireturn, 1) := by decide +kernel
theorem dX3_findAnswer_0 : decode cX3_findAnswer 0 = .ok (.aload_n 0, 1) := by decide +kernel
theorem dX3_findAnswer_1 : decode cX3_findAnswer 1 = .ok (.invokevirtual 57, 3) := by decide +kernel
theorem dX3_findAnswer_4 : decode cX3_findAnswer 4 = .ok (.iconst 0, 1) := by decide +kernel
theorem dX3_findAnswer_5 : decode cX3_findAnswer 5 = .ok (.istore 6, 2) := by decide +kernel
theorem dX3_findAnswer_7 : decode cX3_findAnswer 7 = .ok (.iconst 0, 1) := by decide +kernel
theorem dX3_findAnswer_8 : decode cX3_findAnswer 8 = .ok (.istore 7, 2) := by decide +kernel
theorem dX3_findAnswer_10 : decode cX3_findAnswer 10 = .ok (.iload 7, 2) := by decide +kernel
theorem dX3_findAnswer_12 : decode cX3_findAnswer 12 = .ok (.aload_n 0, 1) := by decide +kernel
theorem dX3_findAnswer_13 : decode cX3_findAnswer 13 = .ok (.getfield 23, 3) := by decide +kernel
theorem dX3_findAnswer_16 : decode cX3_findAnswer 16 = .ok (.if_icmp .ge 44, 3) := by decide +kernel
theorem dX3_findAnswer_19 : decode cX3_findAnswer 19 = .ok (.aload_n 0, 1) := by decide +kernel
theorem dX3_findAnswer_20 : decode cX3_findAnswer 20 = .ok (.lload_n 1, 1) := by decide +kernel
theorem dX3_findAnswer_21 : decode cX3_findAnswer 21 = .ok (.lload_n 3, 1) := by decide +kernel
theorem dX3_findAnswer_22 : decode cX3_findAnswer 22 = .ok (.iconst (-1), 1) := by decide +kernel
theorem dX3_findAnswer_23 : decode cX3_findAnswer 23 = .ok (.aload_n 0, 1) := by decide +kernel
theorem dX3_findAnswer_24 : decode cX3_findAnswer 24 = .ok (.getfield 9, 3) := by decide +kernel
theorem dX3_findAnswer_27 : decode cX3_findAnswer 27 = .ok (.iload 7, 2) := by decide +kernel
theorem dX3_findAnswer_29 : decode cX3_findAnswer 29 = .ok (.laload, 1) := by decide +kernel
theorem dX3_findAnswer_30 : decode cX3_findAnswer 30 = .ok (.invokevirtual 60, 3) := by decide +kernel
theorem dX3_findAnswer_33 : decode cX3_findAnswer 33 = .ok (.ifCond .eq 21, 3) := by decide +kernel
theorem dX3_findAnswer_36 : decode cX3_findAnswer 36 = .ok (.iload 6, 2) := by decide +kernel
theorem dX3_findAnswer_38 : decode cX3_findAnswer 38 = .ok (.iload 5, 2) := by decide +kernel
theorem dX3_findAnswer_40 : decode cX3_findAnswer 40 = .ok (.if_icmp .ne 11, 3) := by decide +kernel
theorem dX3_findAnswer_43 : decode cX3_findAnswer 43 = .ok (.aload_n 0, 1) := by decide +kernel
theorem dX3_findAnswer_44 : decode cX3_findAnswer 44 = .ok (.getfield 9, 3) := by decide +kernel
theorem dX3_findAnswer_47 : decode cX3_findAnswer 47 = .ok (.iload 7, 2) := by decide +kernel
theorem dX3_findAnswer_49 : decode cX3_findAnswer 49 = .ok (.laload, 1) := by decide +kernel
theorem dX3_findAnswer_50 : decode cX3_findAnswer 50 = .ok (.lreturn, 1) := by decide +kernel
theorem dX3_findAnswer_51 : decode cX3_findAnswer 51 = .ok (.iinc 6 1, 3) := by decide +kernel
theorem dX3_findAnswer_54 : decode cX3_findAnswer 54 = .ok (.iinc 7 1, 3) := by decide +kernel
theorem dX3_findAnswer_57 : decode cX3_findAnswer 57 = .ok (.goto (-47), 3) := by decide +kernel
theorem dX3_findAnswer_60 : decode cX3_findAnswer 60 = .ok (.lconst 0, 1) := by decide +kernel
theorem dX3_findAnswer_61 : decode cX3_findAnswer 61 = .ok (.lreturn, 1) := by decide +kernel
theorem dX3_linesOfAll_0 : decode cX3_linesOfAll 0 = .ok (.aload_n 0, 1) := by decide +kernel
theorem dX3_linesOfAll_1 : decode cX3_linesOfAll 1 = .ok (.invokevirtual 57, 3) := by decide +kernel
theorem dX3_linesOfAll_4 : decode cX3_linesOfAll 4 = .ok (.aload_n 0, 1) := by decide +kernel
theorem dX3_linesOfAll_5 : decode cX3_linesOfAll 5 = .ok (.getfield 15, 3) := by decide +kernel
theorem dX3_linesOfAll_8 : decode cX3_linesOfAll 8 = .ok (.getfield 64, 3) := by decide +kernel
theorem dX3_linesOfAll_11 : decode cX3_linesOfAll 11 = .ok (.lstore 5, 2) := by decide +kernel
theorem dX3_linesOfAll_13 : decode cX3_linesOfAll 13 = .ok (.iconst 0, 1) := by decide +kernel
theorem dX3_linesOfAll_14 : decode cX3_linesOfAll 14 = .ok (.istore 7, 2) := by decide +kernel
theorem dX3_linesOfAll_16 : decode cX3_linesOfAll 16 = .ok (.iload 7, 2) := by decide +kernel
theorem dX3_linesOfAll_18 : decode cX3_linesOfAll 18 = .ok (.aload_n 0, 1) := by decide +kernel
theorem dX3_linesOfAll_19 : decode cX3_linesOfAll 19 = .ok (.getfield 23, 3) := by decide +kernel
theorem dX3_linesOfAll_22 : decode cX3_linesOfAll 22 = .ok (.if_icmp .ge 38, 3) := by decide +kernel
theorem dX3_linesOfAll_25 : decode cX3_linesOfAll 25 = .ok (.aload_n 0, 1) := by decide +kernel
theorem dX3_linesOfAll_26 : decode cX3_linesOfAll 26 = .ok (.lload_n 1, 1) := by decide +kernel
theorem dX3_linesOfAll_27 : decode cX3_linesOfAll 27 = .ok (.lload_n 3, 1) := by decide +kernel
theorem dX3_linesOfAll_28 : decode cX3_linesOfAll 28 = .ok (.iconst (-1), 1) := by decide +kernel
theorem dX3_linesOfAll_29 : decode cX3_linesOfAll 29 = .ok (.aload_n 0, 1) := by decide +kernel
theorem dX3_linesOfAll_30 : decode cX3_linesOfAll 30 = .ok (.getfield 9, 3) := by decide +kernel
theorem dX3_linesOfAll_33 : decode cX3_linesOfAll 33 = .ok (.iload 7, 2) := by decide +kernel
theorem dX3_linesOfAll_35 : decode cX3_linesOfAll 35 = .ok (.laload, 1) := by decide +kernel
theorem dX3_linesOfAll_36 : decode cX3_linesOfAll 36 = .ok (.invokevirtual 60, 3) := by decide +kernel
theorem dX3_linesOfAll_39 : decode cX3_linesOfAll 39 = .ok (.ifCond .eq 15, 3) := by decide +kernel
theorem dX3_linesOfAll_42 : decode cX3_linesOfAll 42 = .ok (.lload 5, 2) := by decide +kernel
theorem dX3_linesOfAll_44 : decode cX3_linesOfAll 44 = .ok (.aload_n 0, 1) := by decide +kernel
theorem dX3_linesOfAll_45 : decode cX3_linesOfAll 45 = .ok (.getfield 9, 3) := by decide +kernel
theorem dX3_linesOfAll_48 : decode cX3_linesOfAll 48 = .ok (.iload 7, 2) := by decide +kernel
theorem dX3_linesOfAll_50 : decode cX3_linesOfAll 50 = .ok (.laload, 1) := by decide +kernel
theorem dX3_linesOfAll_51 : decode cX3_linesOfAll 51 = .ok (.land, 1) := by decide +kernel
theorem dX3_linesOfAll_52 : decode cX3_linesOfAll 52 = .ok (.lstore 5, 2) := by decide +kernel
theorem dX3_linesOfAll_54 : decode cX3_linesOfAll 54 = .ok (.iinc 7 1, 3) := by decide +kernel
theorem dX3_linesOfAll_57 : decode cX3_linesOfAll 57 = .ok (.goto (-41), 3) := by decide +kernel
theorem dX3_linesOfAll_60 : decode cX3_linesOfAll 60 = .ok (.lload 5, 2) := by decide +kernel
theorem dX3_linesOfAll_62 : decode cX3_linesOfAll 62 = .ok (.lreturn, 1) := by decide +kernel
theorem dX3_linesOfSome_0 : decode cX3_linesOfSome 0 = .ok (.aload_n 0, 1) := by decide +kernel
theorem dX3_linesOfSome_1 : decode cX3_linesOfSome 1 = .ok (.invokevirtual 57, 3) := by decide +kernel
theorem dX3_linesOfSome_4 : decode cX3_linesOfSome 4 = .ok (.lconst 0, 1) := by decide +kernel
theorem dX3_linesOfSome_5 : decode cX3_linesOfSome 5 = .ok (.lstore 5, 2) := by decide +kernel
theorem dX3_linesOfSome_7 : decode cX3_linesOfSome 7 = .ok (.iconst 0, 1) := by decide +kernel
theorem dX3_linesOfSome_8 : decode cX3_linesOfSome 8 = .ok (.istore 7, 2) := by decide +kernel
theorem dX3_linesOfSome_10 : decode cX3_linesOfSome 10 = .ok (.iload 7, 2) := by decide +kernel
theorem dX3_linesOfSome_12 : decode cX3_linesOfSome 12 = .ok (.aload_n 0, 1) := by decide +kernel
theorem dX3_linesOfSome_13 : decode cX3_linesOfSome 13 = .ok (.getfield 23, 3) := by decide +kernel
theorem dX3_linesOfSome_16 : decode cX3_linesOfSome 16 = .ok (.if_icmp .ge 38, 3) := by decide +kernel
theorem dX3_linesOfSome_19 : decode cX3_linesOfSome 19 = .ok (.aload_n 0, 1) := by decide +kernel
theorem dX3_linesOfSome_20 : decode cX3_linesOfSome 20 = .ok (.lload_n 1, 1) := by decide +kernel
theorem dX3_linesOfSome_21 : decode cX3_linesOfSome 21 = .ok (.lload_n 3, 1) := by decide +kernel
theorem dX3_linesOfSome_22 : decode cX3_linesOfSome 22 = .ok (.iconst (-1), 1) := by decide +kernel
theorem dX3_linesOfSome_23 : decode cX3_linesOfSome 23 = .ok (.aload_n 0, 1) := by decide +kernel
theorem dX3_linesOfSome_24 : decode cX3_linesOfSome 24 = .ok (.getfield 9, 3) := by decide +kernel
theorem dX3_linesOfSome_27 : decode cX3_linesOfSome 27 = .ok (.iload 7, 2) := by decide +kernel
theorem dX3_linesOfSome_29 : decode cX3_linesOfSome 29 = .ok (.laload, 1) := by decide +kernel
theorem dX3_linesOfSome_30 : decode cX3_linesOfSome 30 = .ok (.invokevirtual 60, 3) := by decide +kernel
theorem dX3_linesOfSome_33 : decode cX3_linesOfSome 33 = .ok (.ifCond .eq 15, 3) := by decide +kernel
theorem dX3_linesOfSome_36 : decode cX3_linesOfSome 36 = .ok (.lload 5, 2) := by decide +kernel
theorem dX3_linesOfSome_38 : decode cX3_linesOfSome 38 = .ok (.aload_n 0, 1) := by decide +kernel
theorem dX3_linesOfSome_39 : decode cX3_linesOfSome 39 = .ok (.getfield 9, 3) := by decide +kernel
theorem dX3_linesOfSome_42 : decode cX3_linesOfSome 42 = .ok (.iload 7, 2) := by decide +kernel
theorem dX3_linesOfSome_44 : decode cX3_linesOfSome 44 = .ok (.laload, 1) := by decide +kernel
theorem dX3_linesOfSome_45 : decode cX3_linesOfSome 45 = .ok (.lor, 1) := by decide +kernel
theorem dX3_linesOfSome_46 : decode cX3_linesOfSome 46 = .ok (.lstore 5, 2) := by decide +kernel
theorem dX3_linesOfSome_48 : decode cX3_linesOfSome 48 = .ok (.iinc 7 1, 3) := by decide +kernel
theorem dX3_linesOfSome_51 : decode cX3_linesOfSome 51 = .ok (.goto (-41), 3) := by decide +kernel
theorem dX3_linesOfSome_54 : decode cX3_linesOfSome 54 = .ok (.lload 5, 2) := by decide +kernel
theorem dX3_linesOfSome_56 : decode cX3_linesOfSome 56 = .ok (.lreturn, 1) := by decide +kernel
theorem dX4_init_0 : decode cX4_init 0 = .ok (.aload_n 0, 1) := by decide +kernel
theorem dX4_init_1 : decode cX4_init 1 = .ok (.invokespecial 3, 3) := by decide +kernel
theorem dX4_init_4 : decode cX4_init 4 = .ok (.aload_n 0, 1) := by decide +kernel
theorem dX4_init_5 : decode cX4_init 5 = .ok (.new 9, 3) := by decide +kernel
theorem dX4_init_8 : decode cX4_init 8 = .ok (.dup, 1) := by decide +kernel
theorem dX4_init_9 : decode cX4_init 9 = .ok (.invokespecial 11, 3) := by decide +kernel
theorem dX4_init_12 : decode cX4_init 12 = .ok (.putfield 12, 3) := by decide +kernel
theorem dX4_init_15 : decode cX4_init 15 = .ok (.aload_n 0, 1) := by decide +kernel
theorem dX4_init_16 : decode cX4_init 16 = .ok (.bipush 8, 2) := by decide +kernel
theorem dX4_init_18 : decode cX4_init 18 = .ok (.newarray .long, 2) := by decide +kernel
theorem dX4_init_20 : decode cX4_init 20 = .ok (.putfield 18, 3) := by decide +kernel
theorem dX4_init_23 : decode cX4_init 23 = .ok (.aload_n 0, 1) := by decide +kernel
theorem dX4_init_24 : decode cX4_init 24 = .ok (.aload_n 1, 1) := by decide +kernel
theorem dX4_init_25 : decode cX4_init 25 = .ok (.putfield 22, 3) := by decide +kernel
theorem dX4_init_28 : decode cX4_init 28 = .ok (.return_, 1) := by decide +kernel
theorem dX4_look_0 : decode cX4_look 0 = .ok (.aload_n 0, 1) := by decide +kernel
theorem dX4_look_1 : decode cX4_look 1 = .ok (.lload_n 1, 1) := by decide +kernel
theorem dX4_look_2 : decode cX4_look 2 = .ok (.putfield 26, 3) := by decide +kernel
theorem dX4_look_5 : decode cX4_look 5 = .ok (.aload_n 0, 1) := by decide +kernel
theorem dX4_look_6 : decode cX4_look 6 = .ok (.aload_n 0, 1) := by decide +kernel
theorem dX4_look_7 : decode cX4_look 7 = .ok (.getfield 22, 3) := by decide +kernel
theorem dX4_look_10 : decode cX4_look 10 = .ok (.getfield 30, 3) := by decide +kernel
theorem dX4_look_13 : decode cX4_look 13 = .ok (.lload_n 1, 1) := by decide +kernel
theorem dX4_look_14 : decode cX4_look 14 = .ok (.ldc2_w 35, 3) := by decide +kernel
theorem dX4_look_17 : decode cX4_look 17 = .ok (.lxor, 1) := by decide +kernel
theorem dX4_look_18 : decode cX4_look 18 = .ok (.land, 1) := by decide +kernel
theorem dX4_look_19 : decode cX4_look 19 = .ok (.lload_n 3, 1) := by decide +kernel
theorem dX4_look_20 : decode cX4_look 20 = .ok (.ldc2_w 35, 3) := by decide +kernel
theorem dX4_look_23 : decode cX4_look 23 = .ok (.lxor, 1) := by decide +kernel
theorem dX4_look_24 : decode cX4_look 24 = .ok (.land, 1) := by decide +kernel
theorem dX4_look_25 : decode cX4_look 25 = .ok (.putfield 37, 3) := by decide +kernel
theorem dX4_look_28 : decode cX4_look 28 = .ok (.aload_n 0, 1) := by decide +kernel
theorem dX4_look_29 : decode cX4_look 29 = .ok (.getfield 12, 3) := by decide +kernel
theorem dX4_look_32 : decode cX4_look 32 = .ok (.aload_n 0, 1) := by decide +kernel
theorem dX4_look_33 : decode cX4_look 33 = .ok (.getfield 22, 3) := by decide +kernel
theorem dX4_look_36 : decode cX4_look 36 = .ok (.getfield 40, 3) := by decide +kernel
theorem dX4_look_39 : decode cX4_look 39 = .ok (.iconst 1, 1) := by decide +kernel
theorem dX4_look_40 : decode cX4_look 40 = .ok (.iadd, 1) := by decide +kernel
theorem dX4_look_41 : decode cX4_look 41 = .ok (.invokevirtual 44, 3) := by decide +kernel
theorem dX4_look_44 : decode cX4_look 44 = .ok (.iconst 0, 1) := by decide +kernel
theorem dX4_look_45 : decode cX4_look 45 = .ok (.istore 5, 2) := by decide +kernel
theorem dX4_look_47 : decode cX4_look 47 = .ok (.iload 5, 2) := by decide +kernel
theorem dX4_look_49 : decode cX4_look 49 = .ok (.aload_n 0, 1) := by decide +kernel
theorem dX4_look_50 : decode cX4_look 50 = .ok (.getfield 22, 3) := by decide +kernel
theorem dX4_look_53 : decode cX4_look 53 = .ok (.getfield 48, 3) := by decide +kernel
theorem dX4_look_56 : decode cX4_look 56 = .ok (.if_icmp .ge 57, 3) := by decide +kernel
theorem dX4_look_59 : decode cX4_look 59 = .ok (.aload_n 0, 1) := by decide +kernel
theorem dX4_look_60 : decode cX4_look 60 = .ok (.getfield 37, 3) := by decide +kernel
theorem dX4_look_63 : decode cX4_look 63 = .ok (.iload 5, 2) := by decide +kernel
theorem dX4_look_65 : decode cX4_look 65 = .ok (.invokestatic 51, 3) := by decide +kernel
theorem dX4_look_68 : decode cX4_look 68 = .ok (.ifCond .ne 39, 3) := by decide +kernel
theorem dX4_look_71 : decode cX4_look 71 = .ok (.aload_n 0, 1) := by decide +kernel
theorem dX4_look_72 : decode cX4_look 72 = .ok (.getfield 12, 3) := by decide +kernel
theorem dX4_look_75 : decode cX4_look 75 = .ok (.aload_n 0, 1) := by decide +kernel
theorem dX4_look_76 : decode cX4_look 76 = .ok (.getfield 22, 3) := by decide +kernel
theorem dX4_look_79 : decode cX4_look 79 = .ok (.getfield 55, 3) := by decide +kernel
theorem dX4_look_82 : decode cX4_look 82 = .ok (.iload 5, 2) := by decide +kernel
theorem dX4_look_84 : decode cX4_look 84 = .ok (.iaload, 1) := by decide +kernel
theorem dX4_look_85 : decode cX4_look 85 = .ok (.aload_n 0, 1) := by decide +kernel
theorem dX4_look_86 : decode cX4_look 86 = .ok (.getfield 22, 3) := by decide +kernel
theorem dX4_look_89 : decode cX4_look 89 = .ok (.getfield 59, 3) := by decide +kernel
theorem dX4_look_92 : decode cX4_look 92 = .ok (.iload 5, 2) := by decide +kernel
theorem dX4_look_94 : decode cX4_look 94 = .ok (.iaload, 1) := by decide +kernel
theorem dX4_look_95 : decode cX4_look 95 = .ok (.aload_n 0, 1) := by decide +kernel
theorem dX4_look_96 : decode cX4_look 96 = .ok (.getfield 26, 3) := by decide +kernel
theorem dX4_look_99 : decode cX4_look 99 = .ok (.iload 5, 2) := by decide +kernel
theorem dX4_look_101 : decode cX4_look 101 = .ok (.invokestatic 51, 3) := by decide +kernel
theorem dX4_look_104 : decode cX4_look 104 = .ok (.invokevirtual 62, 3) := by decide +kernel
theorem dX4_look_107 : decode cX4_look 107 = .ok (.iinc 5 1, 3) := by decide +kernel
theorem dX4_look_110 : decode cX4_look 110 = .ok (.goto (-63), 3) := by decide +kernel
theorem dX4_look_113 : decode cX4_look 113 = .ok (.return_, 1) := by decide +kernel
theorem dX4_reason_0 : decode cX4_reason 0 = .ok (.aload_n 0, 1) := by decide +kernel
theorem dX4_reason_1 : decode cX4_reason 1 = .ok (.invokevirtual 66, 3) := by decide +kernel
theorem dX4_reason_4 : decode cX4_reason 4 = .ok (.ifCond .eq 5, 3) := by decide +kernel
theorem dX4_reason_7 : decode cX4_reason 7 = .ok (.iconst 1, 1) := by decide +kernel
theorem dX4_reason_8 : decode cX4_reason 8 = .ok (.ireturn, 1) := by decide +kernel
theorem dX4_reason_9 : decode cX4_reason 9 = .ok (.aload_n 0, 1) := by decide +kernel
theorem dX4_reason_10 : decode cX4_reason 10 = .ok (.invokevirtual 70, 3) := by decide +kernel
theorem dX4_reason_13 : decode cX4_reason 13 = .ok (.ifCond .eq 5, 3) := by decide +kernel
theorem dX4_reason_16 : decode cX4_reason 16 = .ok (.iconst 2, 1) := by decide +kernel
theorem dX4_reason_17 : decode cX4_reason 17 = .ok (.ireturn, 1) := by decide +kernel
theorem dX4_reason_18 : decode cX4_reason 18 = .ok (.aload_n 0, 1) := by decide +kernel
theorem dX4_reason_19 : decode cX4_reason 19 = .ok (.invokevirtual 73, 3) := by decide +kernel
theorem dX4_reason_22 : decode cX4_reason 22 = .ok (.ifCond .eq 5, 3) := by decide +kernel
theorem dX4_reason_25 : decode cX4_reason 25 = .ok (.iconst 3, 1) := by decide +kernel
theorem dX4_reason_26 : decode cX4_reason 26 = .ok (.ireturn, 1) := by decide +kernel
theorem dX4_reason_27 : decode cX4_reason 27 = .ok (.aload_n 0, 1) := by decide +kernel
theorem dX4_reason_28 : decode cX4_reason 28 = .ok (.getfield 12, 3) := by decide +kernel
theorem dX4_reason_31 : decode cX4_reason 31 = .ok (.getfield 76, 3) := by decide +kernel
theorem dX4_reason_34 : decode cX4_reason 34 = .ok (.ifCond .eq 7, 3) := by decide +kernel
theorem dX4_reason_37 : decode cX4_reason 37 = .ok (.iconst 4, 1) := by decide +kernel
theorem dX4_reason_38 : decode cX4_reason 38 = .ok (.goto 4, 3) := by decide +kernel
theorem dX4_reason_41 : decode cX4_reason 41 = .ok (.iconst 0, 1) := by decide +kernel
theorem dX4_reason_42 : decode cX4_reason 42 = .ok (.ireturn, 1) := by decide +kernel
theorem dX4_hasBrokenCell_0 : decode cX4_hasBrokenCell 0 = .ok (.iconst 0, 1) := by decide +kernel
