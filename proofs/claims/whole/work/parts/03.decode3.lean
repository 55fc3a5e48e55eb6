theorem dX7_keeps_64 : decode cX7_keeps 64 = .ok (.aload_n 0, 1) := by decide +kernel
theorem dX7_keeps_65 : decode cX7_keeps 65 = .ok (.getfield 83, 3) := by decide +kernel
theorem dX7_keeps_68 : decode cX7_keeps 68 = .ok (.imul, 1) := by decide +kernel
theorem dX7_keeps_69 : decode cX7_keeps 69 = .ok (.iload_n 2, 1) := by decide +kernel
theorem dX7_keeps_70 : decode cX7_keeps 70 = .ok (.iadd, 1) := by decide +kernel
theorem dX7_keeps_71 : decode cX7_keeps 71 = .ok (.aload_n 0, 1) := by decide +kernel
theorem dX7_keeps_72 : decode cX7_keeps 72 = .ok (.getfield 42, 3) := by decide +kernel
theorem dX7_keeps_75 : decode cX7_keeps 75 = .ok (.iload_n 2, 1) := by decide +kernel
theorem dX7_keeps_76 : decode cX7_keeps 76 = .ok (.iaload, 1) := by decide +kernel
theorem dX7_keeps_77 : decode cX7_keeps 77 = .ok (.iastore, 1) := by decide +kernel
theorem dX7_keeps_78 : decode cX7_keeps 78 = .ok (.aload_n 0, 1) := by decide +kernel
theorem dX7_keeps_79 : decode cX7_keeps 79 = .ok (.getfield 33, 3) := by decide +kernel
theorem dX7_keeps_82 : decode cX7_keeps 82 = .ok (.aload_n 0, 1) := by decide +kernel
theorem dX7_keeps_83 : decode cX7_keeps 83 = .ok (.getfield 83, 3) := by decide +kernel
theorem dX7_keeps_86 : decode cX7_keeps 86 = .ok (.dup2, 1) := by decide +kernel
theorem dX7_keeps_87 : decode cX7_keeps 87 = .ok (.iaload, 1) := by decide +kernel
theorem dX7_keeps_88 : decode cX7_keeps 88 = .ok (.iconst 1, 1) := by decide +kernel
theorem dX7_keeps_89 : decode cX7_keeps 89 = .ok (.aload_n 0, 1) := by decide +kernel
theorem dX7_keeps_90 : decode cX7_keeps 90 = .ok (.getfield 42, 3) := by decide +kernel
theorem dX7_keeps_93 : decode cX7_keeps 93 = .ok (.iload_n 2, 1) := by decide +kernel
theorem dX7_keeps_94 : decode cX7_keeps 94 = .ok (.iaload, 1) := by decide +kernel
theorem dX7_keeps_95 : decode cX7_keeps 95 = .ok (.ishl, 1) := by decide +kernel
theorem dX7_keeps_96 : decode cX7_keeps 96 = .ok (.ior, 1) := by decide +kernel
theorem dX7_keeps_97 : decode cX7_keeps 97 = .ok (.iastore, 1) := by decide +kernel
theorem dX7_keeps_98 : decode cX7_keeps 98 = .ok (.aload_n 0, 1) := by decide +kernel
theorem dX7_keeps_99 : decode cX7_keeps 99 = .ok (.getfield 36, 3) := by decide +kernel
theorem dX7_keeps_102 : decode cX7_keeps 102 = .ok (.aload_n 0, 1) := by decide +kernel
theorem dX7_keeps_103 : decode cX7_keeps 103 = .ok (.getfield 83, 3) := by decide +kernel
theorem dX7_keeps_106 : decode cX7_keeps 106 = .ok (.dup2, 1) := by decide +kernel
theorem dX7_keeps_107 : decode cX7_keeps 107 = .ok (.iaload, 1) := by decide +kernel
theorem dX7_keeps_108 : decode cX7_keeps 108 = .ok (.aload_n 0, 1) := by decide +kernel
theorem dX7_keeps_109 : decode cX7_keeps 109 = .ok (.getfield 66, 3) := by decide +kernel
theorem dX7_keeps_112 : decode cX7_keeps 112 = .ok (.iconst 1, 1) := by decide +kernel
theorem dX7_keeps_113 : decode cX7_keeps 113 = .ok (.aload_n 0, 1) := by decide +kernel
theorem dX7_keeps_114 : decode cX7_keeps 114 = .ok (.getfield 21, 3) := by decide +kernel
theorem dX7_keeps_117 : decode cX7_keeps 117 = .ok (.aload_n 0, 1) := by decide +kernel
theorem dX7_keeps_118 : decode cX7_keeps 118 = .ok (.getfield 42, 3) := by decide +kernel
theorem dX7_keeps_121 : decode cX7_keeps 121 = .ok (.iload_n 2, 1) := by decide +kernel
theorem dX7_keeps_122 : decode cX7_keeps 122 = .ok (.iaload, 1) := by decide +kernel
theorem dX7_keeps_123 : decode cX7_keeps 123 = .ok (.iaload, 1) := by decide +kernel
theorem dX7_keeps_124 : decode cX7_keeps 124 = .ok (.ishl, 1) := by decide +kernel
theorem dX7_keeps_125 : decode cX7_keeps 125 = .ok (.iand, 1) := by decide +kernel
theorem dX7_keeps_126 : decode cX7_keeps 126 = .ok (.ior, 1) := by decide +kernel
theorem dX7_keeps_127 : decode cX7_keeps 127 = .ok (.iastore, 1) := by decide +kernel
theorem dX7_keeps_128 : decode cX7_keeps 128 = .ok (.iinc 2 1, 3) := by decide +kernel
theorem dX7_keeps_131 : decode cX7_keeps 131 = .ok (.goto (-78), 3) := by decide +kernel
theorem dX7_keeps_134 : decode cX7_keeps 134 = .ok (.aload_n 0, 1) := by decide +kernel
theorem dX7_keeps_135 : decode cX7_keeps 135 = .ok (.dup, 1) := by decide +kernel
theorem dX7_keeps_136 : decode cX7_keeps 136 = .ok (.getfield 83, 3) := by decide +kernel
theorem dX7_keeps_139 : decode cX7_keeps 139 = .ok (.iconst 1, 1) := by decide +kernel
theorem dX7_keeps_140 : decode cX7_keeps 140 = .ok (.iadd, 1) := by decide +kernel
theorem dX7_keeps_141 : decode cX7_keeps 141 = .ok (.putfield 83, 3) := by decide +kernel
theorem dX7_keeps_144 : decode cX7_keeps 144 = .ok (.return_, 1) := by decide +kernel
theorem dX7_works_0 : decode cX7_works 0 = .ok (.aload_n 0, 1) := by decide +kernel
theorem dX7_works_1 : decode cX7_works 1 = .ok (.iconst 0, 1) := by decide +kernel
theorem dX7_works_2 : decode cX7_works 2 = .ok (.putfield 83, 3) := by decide +kernel
theorem dX7_works_5 : decode cX7_works 5 = .ok (.aload_n 0, 1) := by decide +kernel
theorem dX7_works_6 : decode cX7_works 6 = .ok (.iconst 0, 1) := by decide +kernel
theorem dX7_works_7 : decode cX7_works 7 = .ok (.putfield 86, 3) := by decide +kernel
theorem dX7_works_10 : decode cX7_works 10 = .ok (.iconst 0, 1) := by decide +kernel
theorem dX7_works_11 : decode cX7_works 11 = .ok (.istore_n 1, 1) := by decide +kernel
theorem dX7_works_12 : decode cX7_works 12 = .ok (.iconst 0, 1) := by decide +kernel
theorem dX7_works_13 : decode cX7_works 13 = .ok (.istore_n 2, 1) := by decide +kernel
theorem dX7_works_14 : decode cX7_works 14 = .ok (.iload_n 1, 1) := by decide +kernel
theorem dX7_works_15 : decode cX7_works 15 = .ok (.ifCond .lt 136, 3) := by decide +kernel
theorem dX7_works_18 : decode cX7_works 18 = .ok (.aload_n 0, 1) := by decide +kernel
theorem dX7_works_19 : decode cX7_works 19 = .ok (.getfield 86, 3) := by decide +kernel
theorem dX7_works_22 : decode cX7_works 22 = .ok (.ifCond .ne 129, 3) := by decide +kernel
theorem dX7_works_25 : decode cX7_works 25 = .ok (.iload_n 1, 1) := by decide +kernel
theorem dX7_works_26 : decode cX7_works 26 = .ok (.ifCond .ne 7, 3) := by decide +kernel
theorem dX7_works_29 : decode cX7_works 29 = .ok (.iconst 0, 1) := by decide +kernel
theorem dX7_works_30 : decode cX7_works 30 = .ok (.goto 16, 3) := by decide +kernel
theorem dX7_works_33 : decode cX7_works 33 = .ok (.aload_n 0, 1) := by decide +kernel
theorem dX7_works_34 : decode cX7_works 34 = .ok (.getfield 21, 3) := by decide +kernel
theorem dX7_works_37 : decode cX7_works 37 = .ok (.aload_n 0, 1) := by decide +kernel
theorem dX7_works_38 : decode cX7_works 38 = .ok (.getfield 42, 3) := by decide +kernel
theorem dX7_works_41 : decode cX7_works 41 = .ok (.iload_n 1, 1) := by decide +kernel
theorem dX7_works_42 : decode cX7_works 42 = .ok (.iconst 1, 1) := by decide +kernel
theorem dX7_works_43 : decode cX7_works 43 = .ok (.isub, 1) := by decide +kernel
theorem dX7_works_44 : decode cX7_works 44 = .ok (.iaload, 1) := by decide +kernel
theorem dX7_works_45 : decode cX7_works 45 = .ok (.iaload, 1) := by decide +kernel
theorem dX7_works_46 : decode cX7_works 46 = .ok (.istore_n 3, 1) := by decide +kernel
theorem dX7_works_47 : decode cX7_works 47 = .ok (.iload_n 1, 1) := by decide +kernel
theorem dX7_works_48 : decode cX7_works 48 = .ok (.ifCond .le 33, 3) := by decide +kernel
theorem dX7_works_51 : decode cX7_works 51 = .ok (.iload_n 3, 1) := by decide +kernel
theorem dX7_works_52 : decode cX7_works 52 = .ok (.aload_n 0, 1) := by decide +kernel
theorem dX7_works_53 : decode cX7_works 53 = .ok (.getfield 13, 3) := by decide +kernel
theorem dX7_works_56 : decode cX7_works 56 = .ok (.iconst 1, 1) := by decide +kernel
theorem dX7_works_57 : decode cX7_works 57 = .ok (.isub, 1) := by decide +kernel
theorem dX7_works_58 : decode cX7_works 58 = .ok (.if_icmp .ne 23, 3) := by decide +kernel
theorem dX7_works_61 : decode cX7_works 61 = .ok (.aload_n 0, 1) := by decide +kernel
theorem dX7_works_62 : decode cX7_works 62 = .ok (.iload_n 1, 1) := by decide +kernel
theorem dX7_works_63 : decode cX7_works 63 = .ok (.invokevirtual 89, 3) := by decide +kernel
theorem dX7_works_66 : decode cX7_works 66 = .ok (.iinc 1 (-1), 3) := by decide +kernel
theorem dX7_works_69 : decode cX7_works 69 = .ok (.aload_n 0, 1) := by decide +kernel
theorem dX7_works_70 : decode cX7_works 70 = .ok (.getfield 42, 3) := by decide +kernel
theorem dX7_works_73 : decode cX7_works 73 = .ok (.iload_n 1, 1) := by decide +kernel
theorem dX7_works_74 : decode cX7_works 74 = .ok (.iaload, 1) := by decide +kernel
theorem dX7_works_75 : decode cX7_works 75 = .ok (.iconst 1, 1) := by decide +kernel
theorem dX7_works_76 : decode cX7_works 76 = .ok (.iadd, 1) := by decide +kernel
theorem dX7_works_77 : decode cX7_works 77 = .ok (.istore_n 2, 1) := by decide +kernel
theorem dX7_works_78 : decode cX7_works 78 = .ok (.goto (-64), 3) := by decide +kernel
theorem dX7_works_81 : decode cX7_works 81 = .ok (.iload_n 2, 1) := by decide +kernel
theorem dX7_works_82 : decode cX7_works 82 = .ok (.aload_n 0, 1) := by decide +kernel
theorem dX7_works_83 : decode cX7_works 83 = .ok (.getfield 52, 3) := by decide +kernel
theorem dX7_works_86 : decode cX7_works 86 = .ok (.if_icmp .ge 19, 3) := by decide +kernel
theorem dX7_works_89 : decode cX7_works 89 = .ok (.aload_n 0, 1) := by decide +kernel
theorem dX7_works_90 : decode cX7_works 90 = .ok (.getfield 17, 3) := by decide +kernel
theorem dX7_works_93 : decode cX7_works 93 = .ok (.iload_n 2, 1) := by decide +kernel
theorem dX7_works_94 : decode cX7_works 94 = .ok (.iaload, 1) := by decide +kernel
theorem dX7_works_95 : decode cX7_works 95 = .ok (.iload_n 3, 1) := by decide +kernel
theorem dX7_works_96 : decode cX7_works 96 = .ok (.if_icmp .eq 9, 3) := by decide +kernel
theorem dX7_works_99 : decode cX7_works 99 = .ok (.iinc 2 1, 3) := by decide +kernel
theorem dX7_works_102 : decode cX7_works 102 = .ok (.goto (-21), 3) := by decide +kernel
theorem dX7_works_105 : decode cX7_works 105 = .ok (.iload_n 2, 1) := by decide +kernel
theorem dX7_works_106 : decode cX7_works 106 = .ok (.aload_n 0, 1) := by decide +kernel
theorem dX7_works_107 : decode cX7_works 107 = .ok (.getfield 52, 3) := by decide +kernel
theorem dX7_works_110 : decode cX7_works 110 = .ok (.if_icmp .ge 18, 3) := by decide +kernel
theorem dX7_works_113 : decode cX7_works 113 = .ok (.aload_n 0, 1) := by decide +kernel
theorem dX7_works_114 : decode cX7_works 114 = .ok (.getfield 42, 3) := by decide +kernel
theorem dX7_works_117 : decode cX7_works 117 = .ok (.iload_n 1, 1) := by decide +kernel
theorem dX7_works_118 : decode cX7_works 118 = .ok (.iload_n 2, 1) := by decide +kernel
theorem dX7_works_119 : decode cX7_works 119 = .ok (.iastore, 1) := by decide +kernel
theorem dX7_works_120 : decode cX7_works 120 = .ok (.iinc 1 1, 3) := by decide +kernel
theorem dX7_works_123 : decode cX7_works 123 = .ok (.iconst 0, 1) := by decide +kernel
theorem dX7_works_124 : decode cX7_works 124 = .ok (.istore_n 2, 1) := by decide +kernel
theorem dX7_works_125 : decode cX7_works 125 = .ok (.goto (-111), 3) := by decide +kernel
theorem dX7_works_128 : decode cX7_works 128 = .ok (.iinc 1 (-1), 3) := by decide +kernel
theorem dX7_works_131 : decode cX7_works 131 = .ok (.iload_n 1, 1) := by decide +kernel
theorem dX7_works_132 : decode cX7_works 132 = .ok (.ifCond .lt 14, 3) := by decide +kernel
theorem dX7_works_135 : decode cX7_works 135 = .ok (.aload_n 0, 1) := by decide +kernel
theorem dX7_works_136 : decode cX7_works 136 = .ok (.getfield 42, 3) := by decide +kernel
theorem dX7_works_139 : decode cX7_works 139 = .ok (.iload_n 1, 1) := by decide +kernel
theorem dX7_works_140 : decode cX7_works 140 = .ok (.iaload, 1) := by decide +kernel
theorem dX7_works_141 : decode cX7_works 141 = .ok (.iconst 1, 1) := by decide +kernel
theorem dX7_works_142 : decode cX7_works 142 = .ok (.iadd, 1) := by decide +kernel
theorem dX7_works_143 : decode cX7_works 143 = .ok (.goto 4, 3) := by decide +kernel
theorem dX7_works_146 : decode cX7_works 146 = .ok (.iconst 0, 1) := by decide +kernel
theorem dX7_works_147 : decode cX7_works 147 = .ok (.istore_n 2, 1) := by decide +kernel
theorem dX7_works_148 : decode cX7_works 148 = .ok (.goto (-134), 3) := by decide +kernel
theorem dX7_works_151 : decode cX7_works 151 = .ok (.return_, 1) := by decide +kernel
theorem dX7_isTooMany_0 : decode cX7_isTooMany 0 = .ok (.aload_n 0, 1) := by decide +kernel
theorem dX7_isTooMany_1 : decode cX7_isTooMany 1 = .ok (.invokevirtual 93, 3) := by decide +kernel
theorem dX7_isTooMany_4 : decode cX7_isTooMany 4 = .ok (.aload_n 0, 1) := by decide +kernel
theorem dX7_isTooMany_5 : decode cX7_isTooMany 5 = .ok (.getfield 86, 3) := by decide +kernel
theorem dX7_isTooMany_8 : decode cX7_isTooMany 8 = .ok (.ireturn, 1) := by decide +kernel
theorem dX7_ways_0 : decode cX7_ways 0 = .ok (.aload_n 0, 1) := by decide +kernel
theorem dX7_ways_1 : decode cX7_ways 1 = .ok (.invokevirtual 96, 3) := by decide +kernel
theorem dX7_ways_4 : decode cX7_ways 4 = .ok (.ifCond .eq 8, 3) := by decide +kernel
theorem dX7_ways_7 : decode cX7_ways 7 = .ok (.bipush (-2), 2) := by decide +kernel
theorem dX7_ways_9 : decode cX7_ways 9 = .ok (.goto 7, 3) := by decide +kernel
theorem dX7_ways_12 : decode cX7_ways 12 = .ok (.aload_n 0, 1) := by decide +kernel
theorem dX7_ways_13 : decode cX7_ways 13 = .ok (.getfield 83, 3) := by decide +kernel
theorem dX7_ways_16 : decode cX7_ways 16 = .ok (.ireturn, 1) := by decide +kernel
theorem dX7_way_0 : decode cX7_way 0 = .ok (.aload_n 0, 1) := by decide +kernel
theorem dX7_way_1 : decode cX7_way 1 = .ok (.invokevirtual 96, 3) := by decide +kernel
theorem dX7_way_4 : decode cX7_way 4 = .ok (.ifCond .ne 37, 3) := by decide +kernel
theorem dX7_way_7 : decode cX7_way 7 = .ok (.iload_n 1, 1) := by decide +kernel
theorem dX7_way_8 : decode cX7_way 8 = .ok (.i2l, 1) := by decide +kernel
theorem dX7_way_9 : decode cX7_way 9 = .ok (.lconst 0, 1) := by decide +kernel
theorem dX7_way_10 : decode cX7_way 10 = .ok (.aload_n 0, 1) := by decide +kernel
theorem dX7_way_11 : decode cX7_way 11 = .ok (.getfield 83, 3) := by decide +kernel
theorem dX7_way_14 : decode cX7_way 14 = .ok (.iconst 1, 1) := by decide +kernel
theorem dX7_way_15 : decode cX7_way 15 = .ok (.isub, 1) := by decide +kernel
theorem dX7_way_16 : decode cX7_way 16 = .ok (.i2l, 1) := by decide +kernel
theorem dX7_way_17 : decode cX7_way 17 = .ok (.invokestatic 55, 3) := by decide +kernel
theorem dX7_way_20 : decode cX7_way 20 = .ok (.ifCond .eq 21, 3) := by decide +kernel
theorem dX7_way_23 : decode cX7_way 23 = .ok (.iload_n 2, 1) := by decide +kernel
theorem dX7_way_24 : decode cX7_way 24 = .ok (.i2l, 1) := by decide +kernel
theorem dX7_way_25 : decode cX7_way 25 = .ok (.lconst 0, 1) := by decide +kernel
theorem dX7_way_26 : decode cX7_way 26 = .ok (.aload_n 0, 1) := by decide +kernel
theorem dX7_way_27 : decode cX7_way 27 = .ok (.getfield 30, 3) := by decide +kernel
theorem dX7_way_30 : decode cX7_way 30 = .ok (.iload_n 1, 1) := by decide +kernel
theorem dX7_way_31 : decode cX7_way 31 = .ok (.iaload, 1) := by decide +kernel
theorem dX7_way_32 : decode cX7_way 32 = .ok (.iconst 1, 1) := by decide +kernel
theorem dX7_way_33 : decode cX7_way 33 = .ok (.isub, 1) := by decide +kernel
theorem dX7_way_34 : decode cX7_way 34 = .ok (.i2l, 1) := by decide +kernel
theorem dX7_way_35 : decode cX7_way 35 = .ok (.invokestatic 55, 3) := by decide +kernel
theorem dX7_way_38 : decode cX7_way 38 = .ok (.ifCond .ne 5, 3) := by decide +kernel
theorem dX7_way_41 : decode cX7_way 41 = .ok (.iconst (-1), 1) := by decide +kernel
theorem dX7_way_42 : decode cX7_way 42 = .ok (.ireturn, 1) := by decide +kernel
theorem dX7_way_43 : decode cX7_way 43 = .ok (.aload_n 0, 1) := by decide +kernel
theorem dX7_way_44 : decode cX7_way 44 = .ok (.getfield 27, 3) := by decide +kernel
theorem dX7_way_47 : decode cX7_way 47 = .ok (.bipush 16, 2) := by decide +kernel
theorem dX7_way_49 : decode cX7_way 49 = .ok (.iload_n 1, 1) := by decide +kernel
theorem dX7_way_50 : decode cX7_way 50 = .ok (.imul, 1) := by decide +kernel
theorem dX7_way_51 : decode cX7_way 51 = .ok (.iload_n 2, 1) := by decide +kernel
theorem dX7_way_52 : decode cX7_way 52 = .ok (.iadd, 1) := by decide +kernel
theorem dX7_way_53 : decode cX7_way 53 = .ok (.iaload, 1) := by decide +kernel
theorem dX7_way_54 : decode cX7_way 54 = .ok (.ireturn, 1) := by decide +kernel
theorem dX7_logOf_0 : decode cX7_logOf 0 = .ok (.iconst 0, 1) := by decide +kernel
theorem dX7_logOf_1 : decode cX7_logOf 1 = .ok (.istore_n 3, 1) := by decide +kernel
theorem dX7_logOf_2 : decode cX7_logOf 2 = .ok (.iconst 0, 1) := by decide +kernel
theorem dX7_logOf_3 : decode cX7_logOf 3 = .ok (.istore 4, 2) := by decide +kernel
theorem dX7_logOf_5 : decode cX7_logOf 5 = .ok (.iload 4, 2) := by decide +kernel
theorem dX7_logOf_7 : decode cX7_logOf 7 = .ok (.aload_n 0, 1) := by decide +kernel
theorem dX7_logOf_8 : decode cX7_logOf 8 = .ok (.getfield 30, 3) := by decide +kernel
theorem dX7_logOf_11 : decode cX7_logOf 11 = .ok (.iload_n 1, 1) := by decide +kernel
theorem dX7_logOf_12 : decode cX7_logOf 12 = .ok (.iaload, 1) := by decide +kernel
theorem dX7_logOf_13 : decode cX7_logOf 13 = .ok (.if_icmp .ge 55, 3) := by decide +kernel
theorem dX7_logOf_16 : decode cX7_logOf 16 = .ok (.aload_n 0, 1) := by decide +kernel
theorem dX7_logOf_17 : decode cX7_logOf 17 = .ok (.getfield 63, 3) := by decide +kernel
theorem dX7_logOf_20 : decode cX7_logOf 20 = .ok (.aload_n 0, 1) := by decide +kernel
theorem dX7_logOf_21 : decode cX7_logOf 21 = .ok (.getfield 27, 3) := by decide +kernel
theorem dX7_logOf_24 : decode cX7_logOf 24 = .ok (.bipush 16, 2) := by decide +kernel
theorem dX7_logOf_26 : decode cX7_logOf 26 = .ok (.iload_n 1, 1) := by decide +kernel
theorem dX7_logOf_27 : decode cX7_logOf 27 = .ok (.imul, 1) := by decide +kernel
theorem dX7_logOf_28 : decode cX7_logOf 28 = .ok (.iload 4, 2) := by decide +kernel
theorem dX7_logOf_30 : decode cX7_logOf 30 = .ok (.iadd, 1) := by decide +kernel
theorem dX7_logOf_31 : decode cX7_logOf 31 = .ok (.iaload, 1) := by decide +kernel
theorem dX7_logOf_32 : decode cX7_logOf 32 = .ok (.invokestatic 79, 3) := by decide +kernel
theorem dX7_logOf_35 : decode cX7_logOf 35 = .ok (.ifCond .ne 6, 3) := by decide +kernel
theorem dX7_logOf_38 : decode cX7_logOf 38 = .ok (.goto 24, 3) := by decide +kernel
theorem dX7_logOf_41 : decode cX7_logOf 41 = .ok (.iload_n 3, 1) := by decide +kernel
theorem dX7_logOf_42 : decode cX7_logOf 42 = .ok (.iload_n 2, 1) := by decide +kernel
theorem dX7_logOf_43 : decode cX7_logOf 43 = .ok (.if_icmp .ne 16, 3) := by decide +kernel
theorem dX7_logOf_46 : decode cX7_logOf 46 = .ok (.aload_n 0, 1) := by decide +kernel
theorem dX7_logOf_47 : decode cX7_logOf 47 = .ok (.getfield 27, 3) := by decide +kernel
theorem dX7_logOf_50 : decode cX7_logOf 50 = .ok (.bipush 16, 2) := by decide +kernel
theorem dX7_logOf_52 : decode cX7_logOf 52 = .ok (.iload_n 1, 1) := by decide +kernel
theorem dX7_logOf_53 : decode cX7_logOf 53 = .ok (.imul, 1) := by decide +kernel
theorem dX7_logOf_54 : decode cX7_logOf 54 = .ok (.iload 4, 2) := by decide +kernel
theorem dX7_logOf_56 : decode cX7_logOf 56 = .ok (.iadd, 1) := by decide +kernel
theorem dX7_logOf_57 : decode cX7_logOf 57 = .ok (.iaload, 1) := by decide +kernel
theorem dX7_logOf_58 : decode cX7_logOf 58 = .ok (.ireturn, 1) := by decide +kernel
theorem dX7_logOf_59 : decode cX7_logOf 59 = .ok (.iinc 3 1, 3) := by decide +kernel
theorem dX7_logOf_62 : decode cX7_logOf 62 = .ok (.iinc 4 1, 3) := by decide +kernel
theorem dX7_logOf_65 : decode cX7_logOf 65 = .ok (.goto (-60), 3) := by decide +kernel
theorem dX7_logOf_68 : decode cX7_logOf 68 = .ok (.iconst (-1), 1) := by decide +kernel
theorem dX7_logOf_69 : decode cX7_logOf 69 = .ok (.ireturn, 1) := by decide +kernel
theorem dX7_log_0 : decode cX7_log 0 = .ok (.aload_n 0, 1) := by decide +kernel
theorem dX7_log_1 : decode cX7_log 1 = .ok (.invokevirtual 96, 3) := by decide +kernel
theorem dX7_log_4 : decode cX7_log 4 = .ok (.ifCond .ne 23, 3) := by decide +kernel
theorem dX7_log_7 : decode cX7_log 7 = .ok (.iload_n 1, 1) := by decide +kernel
theorem dX7_log_8 : decode cX7_log 8 = .ok (.i2l, 1) := by decide +kernel
theorem dX7_log_9 : decode cX7_log 9 = .ok (.lconst 0, 1) := by decide +kernel
theorem dX7_log_10 : decode cX7_log 10 = .ok (.aload_n 0, 1) := by decide +kernel
theorem dX7_log_11 : decode cX7_log 11 = .ok (.getfield 83, 3) := by decide +kernel
theorem dX7_log_14 : decode cX7_log 14 = .ok (.iconst 1, 1) := by decide +kernel
theorem dX7_log_15 : decode cX7_log 15 = .ok (.isub, 1) := by decide +kernel
theorem dX7_log_16 : decode cX7_log 16 = .ok (.i2l, 1) := by decide +kernel
theorem dX7_log_17 : decode cX7_log 17 = .ok (.invokestatic 55, 3) := by decide +kernel
theorem dX7_log_20 : decode cX7_log 20 = .ok (.ifCond .eq 7, 3) := by decide +kernel
theorem dX7_log_23 : decode cX7_log 23 = .ok (.iload_n 2, 1) := by decide +kernel
theorem dX7_log_24 : decode cX7_log 24 = .ok (.ifCond .ge 7, 3) := by decide +kernel
theorem dX7_log_27 : decode cX7_log 27 = .ok (.iconst (-1), 1) := by decide +kernel
theorem dX7_log_28 : decode cX7_log 28 = .ok (.goto 9, 3) := by decide +kernel
theorem dX7_log_31 : decode cX7_log 31 = .ok (.aload_n 0, 1) := by decide +kernel
theorem dX7_log_32 : decode cX7_log 32 = .ok (.iload_n 1, 1) := by decide +kernel
theorem dX7_log_33 : decode cX7_log 33 = .ok (.iload_n 2, 1) := by decide +kernel
theorem dX7_log_34 : decode cX7_log 34 = .ok (.invokevirtual 100, 3) := by decide +kernel
theorem dX7_log_37 : decode cX7_log 37 = .ok (.ireturn, 1) := by decide +kernel
theorem dX7_areParted_0 : decode cX7_areParted 0 = .ok (.aload_n 0, 1) := by decide +kernel
theorem dX7_areParted_1 : decode cX7_areParted 1 = .ok (.getfield 33, 3) := by decide +kernel
theorem dX7_areParted_4 : decode cX7_areParted 4 = .ok (.iload_n 1, 1) := by decide +kernel
theorem dX7_areParted_5 : decode cX7_areParted 5 = .ok (.iaload, 1) := by decide +kernel
theorem dX7_areParted_6 : decode cX7_areParted 6 = .ok (.iload_n 3, 1) := by decide +kernel
theorem dX7_areParted_7 : decode cX7_areParted 7 = .ok (.iand, 1) := by decide +kernel
theorem dX7_areParted_8 : decode cX7_areParted 8 = .ok (.aload_n 0, 1) := by decide +kernel
theorem dX7_areParted_9 : decode cX7_areParted 9 = .ok (.getfield 33, 3) := by decide +kernel
theorem dX7_areParted_12 : decode cX7_areParted 12 = .ok (.iload_n 2, 1) := by decide +kernel
theorem dX7_areParted_13 : decode cX7_areParted 13 = .ok (.iaload, 1) := by decide +kernel
theorem dX7_areParted_14 : decode cX7_areParted 14 = .ok (.iload_n 3, 1) := by decide +kernel
theorem dX7_areParted_15 : decode cX7_areParted 15 = .ok (.iand, 1) := by decide +kernel
theorem dX7_areParted_16 : decode cX7_areParted 16 = .ok (.if_icmp .eq 7, 3) := by decide +kernel
theorem dX7_areParted_19 : decode cX7_areParted 19 = .ok (.iconst 1, 1) := by decide +kernel
theorem dX7_areParted_20 : decode cX7_areParted 20 = .ok (.goto 4, 3) := by decide +kernel
theorem dX7_areParted_23 : decode cX7_areParted 23 = .ok (.iconst 0, 1) := by decide +kernel
theorem dX7_areParted_24 : decode cX7_areParted 24 = .ok (.ireturn, 1) := by decide +kernel
theorem dX7_firstOf_0 : decode cX7_firstOf 0 = .ok (.iconst 0, 1) := by decide +kernel
theorem dX7_firstOf_1 : decode cX7_firstOf 1 = .ok (.istore_n 3, 1) := by decide +kernel
theorem dX7_firstOf_2 : decode cX7_firstOf 2 = .ok (.aload_n 0, 1) := by decide +kernel
theorem dX7_firstOf_3 : decode cX7_firstOf 3 = .ok (.iload_n 1, 1) := by decide +kernel
theorem dX7_firstOf_4 : decode cX7_firstOf 4 = .ok (.iload_n 3, 1) := by decide +kernel
theorem dX7_firstOf_5 : decode cX7_firstOf 5 = .ok (.iload_n 2, 1) := by decide +kernel
theorem dX7_firstOf_6 : decode cX7_firstOf 6 = .ok (.invokevirtual 104, 3) := by decide +kernel
theorem dX7_firstOf_9 : decode cX7_firstOf 9 = .ok (.ifCond .eq 9, 3) := by decide +kernel
theorem dX7_firstOf_12 : decode cX7_firstOf 12 = .ok (.iinc 3 1, 3) := by decide +kernel
theorem dX7_firstOf_15 : decode cX7_firstOf 15 = .ok (.goto (-13), 3) := by decide +kernel
theorem dX7_firstOf_18 : decode cX7_firstOf 18 = .ok (.iload_n 3, 1) := by decide +kernel
theorem dX7_firstOf_19 : decode cX7_firstOf 19 = .ok (.ireturn, 1) := by decide +kernel
theorem dX7_heapsBy_0 : decode cX7_heapsBy 0 = .ok (.iconst 0, 1) := by decide +kernel
theorem dX7_heapsBy_1 : decode cX7_heapsBy 1 = .ok (.istore_n 2, 1) := by decide +kernel
theorem dX7_heapsBy_2 : decode cX7_heapsBy 2 = .ok (.iconst 0, 1) := by decide +kernel
theorem dX7_heapsBy_3 : decode cX7_heapsBy 3 = .ok (.istore_n 3, 1) := by decide +kernel
theorem dX7_heapsBy_4 : decode cX7_heapsBy 4 = .ok (.iload_n 3, 1) := by decide +kernel
theorem dX7_heapsBy_5 : decode cX7_heapsBy 5 = .ok (.aload_n 0, 1) := by decide +kernel
theorem dX7_heapsBy_6 : decode cX7_heapsBy 6 = .ok (.getfield 83, 3) := by decide +kernel
theorem dX7_heapsBy_9 : decode cX7_heapsBy 9 = .ok (.if_icmp .ge 27, 3) := by decide +kernel
theorem dX7_heapsBy_12 : decode cX7_heapsBy 12 = .ok (.iload_n 2, 1) := by decide +kernel
theorem dX7_heapsBy_13 : decode cX7_heapsBy 13 = .ok (.aload_n 0, 1) := by decide +kernel
theorem dX7_heapsBy_14 : decode cX7_heapsBy 14 = .ok (.iload_n 3, 1) := by decide +kernel
theorem dX7_heapsBy_15 : decode cX7_heapsBy 15 = .ok (.iload_n 1, 1) := by decide +kernel
theorem dX7_heapsBy_16 : decode cX7_heapsBy 16 = .ok (.invokevirtual 108, 3) := by decide +kernel
theorem dX7_heapsBy_19 : decode cX7_heapsBy 19 = .ok (.iload_n 3, 1) := by decide +kernel
theorem dX7_heapsBy_20 : decode cX7_heapsBy 20 = .ok (.if_icmp .ne 7, 3) := by decide +kernel
theorem dX7_heapsBy_23 : decode cX7_heapsBy 23 = .ok (.iconst 1, 1) := by decide +kernel
theorem dX7_heapsBy_24 : decode cX7_heapsBy 24 = .ok (.goto 4, 3) := by decide +kernel
theorem dX7_heapsBy_27 : decode cX7_heapsBy 27 = .ok (.iconst 0, 1) := by decide +kernel
theorem dX7_heapsBy_28 : decode cX7_heapsBy 28 = .ok (.iadd, 1) := by decide +kernel
theorem dX7_heapsBy_29 : decode cX7_heapsBy 29 = .ok (.istore_n 2, 1) := by decide +kernel
theorem dX7_heapsBy_30 : decode cX7_heapsBy 30 = .ok (.iinc 3 1, 3) := by decide +kernel
theorem dX7_heapsBy_33 : decode cX7_heapsBy 33 = .ok (.goto (-29), 3) := by decide +kernel
theorem dX7_heapsBy_36 : decode cX7_heapsBy 36 = .ok (.iload_n 2, 1) := by decide +kernel
theorem dX7_heapsBy_37 : decode cX7_heapsBy 37 = .ok (.ireturn, 1) := by decide +kernel
theorem dX7_heaps_0 : decode cX7_heaps 0 = .ok (.aload_n 0, 1) := by decide +kernel
theorem dX7_heaps_1 : decode cX7_heaps 1 = .ok (.invokevirtual 96, 3) := by decide +kernel
theorem dX7_heaps_4 : decode cX7_heaps 4 = .ok (.ifCond .eq 8, 3) := by decide +kernel
theorem dX7_heaps_7 : decode cX7_heaps 7 = .ok (.bipush (-2), 2) := by decide +kernel
theorem dX7_heaps_9 : decode cX7_heaps 9 = .ok (.goto 11, 3) := by decide +kernel
theorem dX7_heaps_12 : decode cX7_heaps 12 = .ok (.aload_n 0, 1) := by decide +kernel
theorem dX7_heaps_13 : decode cX7_heaps 13 = .ok (.aload_n 0, 1) := by decide +kernel
theorem dX7_heaps_14 : decode cX7_heaps 14 = .ok (.getfield 63, 3) := by decide +kernel
theorem dX7_heaps_17 : decode cX7_heaps 17 = .ok (.invokevirtual 111, 3) := by decide +kernel
theorem dX7_heaps_20 : decode cX7_heaps 20 = .ok (.ireturn, 1) := by decide +kernel
theorem dX7_heap_0 : decode cX7_heap 0 = .ok (.aload_n 0, 1) := by decide +kernel
theorem dX7_heap_1 : decode cX7_heap 1 = .ok (.invokevirtual 96, 3) := by decide +kernel
theorem dX7_heap_4 : decode cX7_heap 4 = .ok (.ifCond .ne 19, 3) := by decide +kernel
theorem dX7_heap_7 : decode cX7_heap 7 = .ok (.iload_n 1, 1) := by decide +kernel
theorem dX7_heap_8 : decode cX7_heap 8 = .ok (.i2l, 1) := by decide +kernel
theorem dX7_heap_9 : decode cX7_heap 9 = .ok (.lconst 0, 1) := by decide +kernel
theorem dX7_heap_10 : decode cX7_heap 10 = .ok (.aload_n 0, 1) := by decide +kernel
theorem dX7_heap_11 : decode cX7_heap 11 = .ok (.getfield 83, 3) := by decide +kernel
theorem dX7_heap_14 : decode cX7_heap 14 = .ok (.iconst 1, 1) := by decide +kernel
theorem dX7_heap_15 : decode cX7_heap 15 = .ok (.isub, 1) := by decide +kernel
theorem dX7_heap_16 : decode cX7_heap 16 = .ok (.i2l, 1) := by decide +kernel
theorem dX7_heap_17 : decode cX7_heap 17 = .ok (.invokestatic 55, 3) := by decide +kernel
theorem dX7_heap_20 : decode cX7_heap 20 = .ok (.ifCond .ne 7, 3) := by decide +kernel
theorem dX7_heap_23 : decode cX7_heap 23 = .ok (.iconst (-1), 1) := by decide +kernel
theorem dX7_heap_24 : decode cX7_heap 24 = .ok (.goto 12, 3) := by decide +kernel
theorem dX7_heap_27 : decode cX7_heap 27 = .ok (.aload_n 0, 1) := by decide +kernel
theorem dX7_heap_28 : decode cX7_heap 28 = .ok (.iload_n 1, 1) := by decide +kernel
theorem dX7_heap_29 : decode cX7_heap 29 = .ok (.aload_n 0, 1) := by decide +kernel
theorem dX7_heap_30 : decode cX7_heap 30 = .ok (.getfield 63, 3) := by decide +kernel
theorem dX7_heap_33 : decode cX7_heap 33 = .ok (.invokevirtual 108, 3) := by decide +kernel
theorem dX7_heap_36 : decode cX7_heap 36 = .ok (.ireturn, 1) := by decide +kernel
theorem dX7_isApart_0 : decode cX7_isApart 0 = .ok (.aload_n 0, 1) := by decide +kernel
theorem dX7_isApart_1 : decode cX7_isApart 1 = .ok (.dup, 1) := by decide +kernel
theorem dX7_isApart_2 : decode cX7_isApart 2 = .ok (.getfield 115, 3) := by decide +kernel
theorem dX7_isApart_5 : decode cX7_isApart 5 = .ok (.iconst 1, 1) := by decide +kernel
theorem dX7_isApart_6 : decode cX7_isApart 6 = .ok (.iadd, 1) := by decide +kernel
theorem dX7_isApart_7 : decode cX7_isApart 7 = .ok (.putfield 115, 3) := by decide +kernel
theorem dX7_isApart_10 : decode cX7_isApart 10 = .ok (.iconst 0, 1) := by decide +kernel
theorem dX7_isApart_11 : decode cX7_isApart 11 = .ok (.istore_n 3, 1) := by decide +kernel
theorem dX7_isApart_12 : decode cX7_isApart 12 = .ok (.iload_n 3, 1) := by decide +kernel
theorem dX7_isApart_13 : decode cX7_isApart 13 = .ok (.aload_n 0, 1) := by decide +kernel
theorem dX7_isApart_14 : decode cX7_isApart 14 = .ok (.getfield 83, 3) := by decide +kernel
theorem dX7_isApart_17 : decode cX7_isApart 17 = .ok (.if_icmp .ge 79, 3) := by decide +kernel
theorem dX7_isApart_20 : decode cX7_isApart 20 = .ok (.aload_n 0, 1) := by decide +kernel
theorem dX7_isApart_21 : decode cX7_isApart 21 = .ok (.getfield 33, 3) := by decide +kernel
theorem dX7_isApart_24 : decode cX7_isApart 24 = .ok (.iload_n 3, 1) := by decide +kernel
theorem dX7_isApart_25 : decode cX7_isApart 25 = .ok (.iaload, 1) := by decide +kernel
theorem dX7_isApart_26 : decode cX7_isApart 26 = .ok (.iload_n 2, 1) := by decide +kernel
theorem dX7_isApart_27 : decode cX7_isApart 27 = .ok (.iand, 1) := by decide +kernel
theorem dX7_isApart_28 : decode cX7_isApart 28 = .ok (.istore 4, 2) := by decide +kernel
theorem dX7_isApart_30 : decode cX7_isApart 30 = .ok (.aload_n 0, 1) := by decide +kernel
theorem dX7_isApart_31 : decode cX7_isApart 31 = .ok (.getfield 46, 3) := by decide +kernel
theorem dX7_isApart_34 : decode cX7_isApart 34 = .ok (.iload 4, 2) := by decide +kernel
theorem dX7_isApart_36 : decode cX7_isApart 36 = .ok (.iaload, 1) := by decide +kernel
theorem dX7_isApart_37 : decode cX7_isApart 37 = .ok (.aload_n 0, 1) := by decide +kernel
theorem dX7_isApart_38 : decode cX7_isApart 38 = .ok (.getfield 115, 3) := by decide +kernel
theorem dX7_isApart_41 : decode cX7_isApart 41 = .ok (.if_icmp .ne 30, 3) := by decide +kernel
theorem dX7_isApart_44 : decode cX7_isApart 44 = .ok (.iload_n 1, 1) := by decide +kernel
theorem dX7_isApart_45 : decode cX7_isApart 45 = .ok (.ifCond .eq 24, 3) := by decide +kernel
theorem dX7_isApart_48 : decode cX7_isApart 48 = .ok (.aload_n 0, 1) := by decide +kernel
theorem dX7_isApart_49 : decode cX7_isApart 49 = .ok (.getfield 36, 3) := by decide +kernel
theorem dX7_isApart_52 : decode cX7_isApart 52 = .ok (.aload_n 0, 1) := by decide +kernel
theorem dX7_isApart_53 : decode cX7_isApart 53 = .ok (.getfield 49, 3) := by decide +kernel
theorem dX7_isApart_56 : decode cX7_isApart 56 = .ok (.iload 4, 2) := by decide +kernel
theorem dX7_isApart_58 : decode cX7_isApart 58 = .ok (.iaload, 1) := by decide +kernel
theorem dX7_isApart_59 : decode cX7_isApart 59 = .ok (.iaload, 1) := by decide +kernel
theorem dX7_isApart_60 : decode cX7_isApart 60 = .ok (.aload_n 0, 1) := by decide +kernel
theorem dX7_isApart_61 : decode cX7_isApart 61 = .ok (.getfield 36, 3) := by decide +kernel
theorem dX7_isApart_64 : decode cX7_isApart 64 = .ok (.iload_n 3, 1) := by decide +kernel
theorem dX7_isApart_65 : decode cX7_isApart 65 = .ok (.iaload, 1) := by decide +kernel
theorem dX7_isApart_66 : decode cX7_isApart 66 = .ok (.if_icmp .eq 5, 3) := by decide +kernel
theorem dX7_isApart_69 : decode cX7_isApart 69 = .ok (.iconst 0, 1) := by decide +kernel
theorem dX7_isApart_70 : decode cX7_isApart 70 = .ok (.ireturn, 1) := by decide +kernel
theorem dX7_isApart_71 : decode cX7_isApart 71 = .ok (.aload_n 0, 1) := by decide +kernel
theorem dX7_isApart_72 : decode cX7_isApart 72 = .ok (.getfield 46, 3) := by decide +kernel
theorem dX7_isApart_75 : decode cX7_isApart 75 = .ok (.iload 4, 2) := by decide +kernel
theorem dX7_isApart_77 : decode cX7_isApart 77 = .ok (.aload_n 0, 1) := by decide +kernel
theorem dX7_isApart_78 : decode cX7_isApart 78 = .ok (.getfield 115, 3) := by decide +kernel
theorem dX7_isApart_81 : decode cX7_isApart 81 = .ok (.iastore, 1) := by decide +kernel
theorem dX7_isApart_82 : decode cX7_isApart 82 = .ok (.aload_n 0, 1) := by decide +kernel
theorem dX7_isApart_83 : decode cX7_isApart 83 = .ok (.getfield 49, 3) := by decide +kernel
theorem dX7_isApart_86 : decode cX7_isApart 86 = .ok (.iload 4, 2) := by decide +kernel
theorem dX7_isApart_88 : decode cX7_isApart 88 = .ok (.iload_n 3, 1) := by decide +kernel
theorem dX7_isApart_89 : decode cX7_isApart 89 = .ok (.iastore, 1) := by decide +kernel
theorem dX7_isApart_90 : decode cX7_isApart 90 = .ok (.iinc 3 1, 3) := by decide +kernel
theorem dX7_isApart_93 : decode cX7_isApart 93 = .ok (.goto (-81), 3) := by decide +kernel
theorem dX7_isApart_96 : decode cX7_isApart 96 = .ok (.iconst 1, 1) := by decide +kernel
theorem dX7_isApart_97 : decode cX7_isApart 97 = .ok (.ireturn, 1) := by decide +kernel
theorem dX7_apart_0 : decode cX7_apart 0 = .ok (.iload_n 1, 1) := by decide +kernel
theorem dX7_apart_1 : decode cX7_apart 1 = .ok (.i2l, 1) := by decide +kernel
theorem dX7_apart_2 : decode cX7_apart 2 = .ok (.lconst 0, 1) := by decide +kernel
theorem dX7_apart_3 : decode cX7_apart 3 = .ok (.lconst 1, 1) := by decide +kernel
theorem dX7_apart_4 : decode cX7_apart 4 = .ok (.invokestatic 55, 3) := by decide +kernel
theorem dX7_apart_7 : decode cX7_apart 7 = .ok (.ifCond .ne 5, 3) := by decide +kernel
theorem dX7_apart_10 : decode cX7_apart 10 = .ok (.iconst (-1), 1) := by decide +kernel
theorem dX7_apart_11 : decode cX7_apart 11 = .ok (.ireturn, 1) := by decide +kernel
theorem dX7_apart_12 : decode cX7_apart 12 = .ok (.aload_n 0, 1) := by decide +kernel
theorem dX7_apart_13 : decode cX7_apart 13 = .ok (.invokevirtual 96, 3) := by decide +kernel
theorem dX7_apart_16 : decode cX7_apart 16 = .ok (.ifCond .eq 8, 3) := by decide +kernel
theorem dX7_apart_19 : decode cX7_apart 19 = .ok (.bipush (-2), 2) := by decide +kernel
theorem dX7_apart_21 : decode cX7_apart 21 = .ok (.goto 20, 3) := by decide +kernel
theorem dX7_apart_24 : decode cX7_apart 24 = .ok (.aload_n 0, 1) := by decide +kernel
theorem dX7_apart_25 : decode cX7_apart 25 = .ok (.iload_n 1, 1) := by decide +kernel
theorem dX7_apart_26 : decode cX7_apart 26 = .ok (.aload_n 0, 1) := by decide +kernel
theorem dX7_apart_27 : decode cX7_apart 27 = .ok (.getfield 63, 3) := by decide +kernel
theorem dX7_apart_30 : decode cX7_apart 30 = .ok (.invokevirtual 118, 3) := by decide +kernel
theorem dX7_apart_33 : decode cX7_apart 33 = .ok (.ifCond .eq 7, 3) := by decide +kernel
theorem dX7_apart_36 : decode cX7_apart 36 = .ok (.iconst 1, 1) := by decide +kernel
theorem dX7_apart_37 : decode cX7_apart 37 = .ok (.goto 4, 3) := by decide +kernel
theorem dX7_apart_40 : decode cX7_apart 40 = .ok (.iconst 0, 1) := by decide +kernel
theorem dX7_apart_41 : decode cX7_apart 41 = .ok (.ireturn, 1) := by decide +kernel
theorem dX7_priceOf_0 : decode cX7_priceOf 0 = .ok (.lconst 0, 1) := by decide +kernel
theorem dX7_priceOf_1 : decode cX7_priceOf 1 = .ok (.lstore_n 2, 1) := by decide +kernel
theorem dX7_priceOf_2 : decode cX7_priceOf 2 = .ok (.iconst 0, 1) := by decide +kernel
theorem dX7_priceOf_3 : decode cX7_priceOf 3 = .ok (.istore 4, 2) := by decide +kernel
theorem dX7_priceOf_5 : decode cX7_priceOf 5 = .ok (.iload 4, 2) := by decide +kernel
theorem dX7_priceOf_7 : decode cX7_priceOf 7 = .ok (.aload_n 0, 1) := by decide +kernel
theorem dX7_priceOf_8 : decode cX7_priceOf 8 = .ok (.getfield 52, 3) := by decide +kernel
theorem dX7_priceOf_11 : decode cX7_priceOf 11 = .ok (.if_icmp .ge 35, 3) := by decide +kernel
theorem dX7_priceOf_14 : decode cX7_priceOf 14 = .ok (.lload_n 2, 1) := by decide +kernel
theorem dX7_priceOf_15 : decode cX7_priceOf 15 = .ok (.iload_n 1, 1) := by decide +kernel
theorem dX7_priceOf_16 : decode cX7_priceOf 16 = .ok (.iload 4, 2) := by decide +kernel
theorem dX7_priceOf_18 : decode cX7_priceOf 18 = .ok (.invokestatic 79, 3) := by decide +kernel
theorem dX7_priceOf_21 : decode cX7_priceOf 21 = .ok (.ifCond .eq 16, 3) := by decide +kernel
theorem dX7_priceOf_24 : decode cX7_priceOf 24 = .ok (.aload_n 0, 1) := by decide +kernel
theorem dX7_priceOf_25 : decode cX7_priceOf 25 = .ok (.getfield 24, 3) := by decide +kernel
theorem dX7_priceOf_28 : decode cX7_priceOf 28 = .ok (.iload 4, 2) := by decide +kernel
theorem dX7_priceOf_30 : decode cX7_priceOf 30 = .ok (.iaload, 1) := by decide +kernel
theorem dX7_priceOf_31 : decode cX7_priceOf 31 = .ok (.i2l, 1) := by decide +kernel
theorem dX7_priceOf_32 : decode cX7_priceOf 32 = .ok (.lconst 1, 1) := by decide +kernel
theorem dX7_priceOf_33 : decode cX7_priceOf 33 = .ok (.ladd, 1) := by decide +kernel
theorem dX7_priceOf_34 : decode cX7_priceOf 34 = .ok (.goto 4, 3) := by decide +kernel
theorem dX7_priceOf_37 : decode cX7_priceOf 37 = .ok (.lconst 0, 1) := by decide +kernel
theorem dX7_priceOf_38 : decode cX7_priceOf 38 = .ok (.ladd, 1) := by decide +kernel
theorem dX7_priceOf_39 : decode cX7_priceOf 39 = .ok (.lstore_n 2, 1) := by decide +kernel
theorem dX7_priceOf_40 : decode cX7_priceOf 40 = .ok (.iinc 4 1, 3) := by decide +kernel
theorem dX7_priceOf_43 : decode cX7_priceOf 43 = .ok (.goto (-38), 3) := by decide +kernel
theorem dX7_priceOf_46 : decode cX7_priceOf 46 = .ok (.lload_n 2, 1) := by decide +kernel
theorem dX7_priceOf_47 : decode cX7_priceOf 47 = .ok (.lreturn, 1) := by decide +kernel
theorem dX7_price_0 : decode cX7_price 0 = .ok (.iload_n 1, 1) := by decide +kernel
theorem dX7_price_1 : decode cX7_price 1 = .ok (.i2l, 1) := by decide +kernel
theorem dX7_price_2 : decode cX7_price 2 = .ok (.lconst 0, 1) := by decide +kernel
theorem dX7_price_3 : decode cX7_price 3 = .ok (.iconst 1, 1) := by decide +kernel
theorem dX7_price_4 : decode cX7_price 4 = .ok (.aload_n 0, 1) := by decide +kernel
theorem dX7_price_5 : decode cX7_price 5 = .ok (.getfield 52, 3) := by decide +kernel
theorem dX7_price_8 : decode cX7_price 8 = .ok (.ishl, 1) := by decide +kernel
theorem dX7_price_9 : decode cX7_price 9 = .ok (.iconst 1, 1) := by decide +kernel
theorem dX7_price_10 : decode cX7_price 10 = .ok (.isub, 1) := by decide +kernel
theorem dX7_price_11 : decode cX7_price 11 = .ok (.i2l, 1) := by decide +kernel
theorem dX7_price_12 : decode cX7_price 12 = .ok (.invokestatic 55, 3) := by decide +kernel
theorem dX7_price_15 : decode cX7_price 15 = .ok (.ifCond .eq 11, 3) := by decide +kernel
theorem dX7_price_18 : decode cX7_price 18 = .ok (.aload_n 0, 1) := by decide +kernel
theorem dX7_price_19 : decode cX7_price 19 = .ok (.iload_n 1, 1) := by decide +kernel
theorem dX7_price_20 : decode cX7_price 20 = .ok (.invokevirtual 121, 3) := by decide +kernel
theorem dX7_price_23 : decode cX7_price 23 = .ok (.goto 6, 3) := by decide +kernel
theorem dX7_price_26 : decode cX7_price 26 = .ok (.ldc2_w 125, 3) := by decide +kernel
theorem dX7_price_29 : decode cX7_price 29 = .ok (.lreturn, 1) := by decide +kernel
theorem dX7_isBetter_0 : decode cX7_isBetter 0 = .ok (.iload_n 0, 1) := by decide +kernel
theorem dX7_isBetter_1 : decode cX7_isBetter 1 = .ok (.invokestatic 127, 3) := by decide +kernel
theorem dX7_isBetter_4 : decode cX7_isBetter 4 = .ok (.iload_n 1, 1) := by decide +kernel
theorem dX7_isBetter_5 : decode cX7_isBetter 5 = .ok (.invokestatic 127, 3) := by decide +kernel
theorem dX7_isBetter_8 : decode cX7_isBetter 8 = .ok (.if_icmp .eq 20, 3) := by decide +kernel
theorem dX7_isBetter_11 : decode cX7_isBetter 11 = .ok (.iload_n 0, 1) := by decide +kernel
theorem dX7_isBetter_12 : decode cX7_isBetter 12 = .ok (.invokestatic 127, 3) := by decide +kernel
theorem dX7_isBetter_15 : decode cX7_isBetter 15 = .ok (.iload_n 1, 1) := by decide +kernel
theorem dX7_isBetter_16 : decode cX7_isBetter 16 = .ok (.invokestatic 127, 3) := by decide +kernel
theorem dX7_isBetter_19 : decode cX7_isBetter 19 = .ok (.if_icmp .ge 7, 3) := by decide +kernel
theorem dX7_isBetter_22 : decode cX7_isBetter 22 = .ok (.iconst 1, 1) := by decide +kernel
theorem dX7_isBetter_23 : decode cX7_isBetter 23 = .ok (.goto 4, 3) := by decide +kernel
theorem dX7_isBetter_26 : decode cX7_isBetter 26 = .ok (.iconst 0, 1) := by decide +kernel
theorem dX7_isBetter_27 : decode cX7_isBetter 27 = .ok (.ireturn, 1) := by decide +kernel
theorem dX7_isBetter_28 : decode cX7_isBetter 28 = .ok (.iload_n 0, 1) := by decide +kernel
theorem dX7_isBetter_29 : decode cX7_isBetter 29 = .ok (.iload_n 1, 1) := by decide +kernel
theorem dX7_isBetter_30 : decode cX7_isBetter 30 = .ok (.ixor, 1) := by decide +kernel
theorem dX7_isBetter_31 : decode cX7_isBetter 31 = .ok (.iload_n 0, 1) := by decide +kernel
theorem dX7_isBetter_32 : decode cX7_isBetter 32 = .ok (.iload_n 1, 1) := by decide +kernel
theorem dX7_isBetter_33 : decode cX7_isBetter 33 = .ok (.ixor, 1) := by decide +kernel
theorem dX7_isBetter_34 : decode cX7_isBetter 34 = .ok (.ineg, 1) := by decide +kernel
theorem dX7_isBetter_35 : decode cX7_isBetter 35 = .ok (.iand, 1) := by decide +kernel
theorem dX7_isBetter_36 : decode cX7_isBetter 36 = .ok (.istore_n 2, 1) := by decide +kernel
theorem dX7_isBetter_37 : decode cX7_isBetter 37 = .ok (.iload_n 0, 1) := by decide +kernel
theorem dX7_isBetter_38 : decode cX7_isBetter 38 = .ok (.iload_n 2, 1) := by decide +kernel
theorem dX7_isBetter_39 : decode cX7_isBetter 39 = .ok (.iand, 1) := by decide +kernel
theorem dX7_isBetter_40 : decode cX7_isBetter 40 = .ok (.ifCond .eq 7, 3) := by decide +kernel
theorem dX7_isBetter_43 : decode cX7_isBetter 43 = .ok (.iconst 1, 1) := by decide +kernel
theorem dX7_isBetter_44 : decode cX7_isBetter 44 = .ok (.goto 4, 3) := by decide +kernel
theorem dX7_isBetter_47 : decode cX7_isBetter 47 = .ok (.iconst 0, 1) := by decide +kernel
theorem dX7_isBetter_48 : decode cX7_isBetter 48 = .ok (.ireturn, 1) := by decide +kernel
theorem dX7_cheapest_0 : decode cX7_cheapest 0 = .ok (.iload_n 1, 1) := by decide +kernel
theorem dX7_cheapest_1 : decode cX7_cheapest 1 = .ok (.i2l, 1) := by decide +kernel
theorem dX7_cheapest_2 : decode cX7_cheapest 2 = .ok (.lconst 0, 1) := by decide +kernel
theorem dX7_cheapest_3 : decode cX7_cheapest 3 = .ok (.lconst 1, 1) := by decide +kernel
theorem dX7_cheapest_4 : decode cX7_cheapest 4 = .ok (.invokestatic 55, 3) := by decide +kernel
theorem dX7_cheapest_7 : decode cX7_cheapest 7 = .ok (.ifCond .ne 5, 3) := by decide +kernel
theorem dX7_cheapest_10 : decode cX7_cheapest 10 = .ok (.iconst (-1), 1) := by decide +kernel
theorem dX7_cheapest_11 : decode cX7_cheapest 11 = .ok (.ireturn, 1) := by decide +kernel
theorem dX7_cheapest_12 : decode cX7_cheapest 12 = .ok (.aload_n 0, 1) := by decide +kernel
theorem dX7_cheapest_13 : decode cX7_cheapest 13 = .ok (.invokevirtual 96, 3) := by decide +kernel
theorem dX7_cheapest_16 : decode cX7_cheapest 16 = .ok (.ifCond .eq 6, 3) := by decide +kernel
theorem dX7_cheapest_19 : decode cX7_cheapest 19 = .ok (.bipush (-2), 2) := by decide +kernel
theorem dX7_cheapest_21 : decode cX7_cheapest 21 = .ok (.ireturn, 1) := by decide +kernel
theorem dX7_cheapest_22 : decode cX7_cheapest 22 = .ok (.iload_n 2, 1) := by decide +kernel
theorem dX7_cheapest_23 : decode cX7_cheapest 23 = .ok (.ifCond .eq 10, 3) := by decide +kernel
theorem dX7_cheapest_26 : decode cX7_cheapest 26 = .ok (.aload_n 0, 1) := by decide +kernel
theorem dX7_cheapest_27 : decode cX7_cheapest 27 = .ok (.getfield 63, 3) := by decide +kernel
theorem dX7_cheapest_30 : decode cX7_cheapest 30 = .ok (.goto 4, 3) := by decide +kernel
theorem dX7_cheapest_33 : decode cX7_cheapest 33 = .ok (.iconst 0, 1) := by decide +kernel
theorem dX7_cheapest_34 : decode cX7_cheapest 34 = .ok (.istore_n 3, 1) := by decide +kernel
theorem dX7_cheapest_35 : decode cX7_cheapest 35 = .ok (.iconst (-1), 1) := by decide +kernel
theorem dX7_cheapest_36 : decode cX7_cheapest 36 = .ok (.istore 4, 2) := by decide +kernel
theorem dX7_cheapest_38 : decode cX7_cheapest 38 = .ok (.lconst 0, 1) := by decide +kernel
theorem dX7_cheapest_39 : decode cX7_cheapest 39 = .ok (.lstore 5, 2) := by decide +kernel
theorem dX7_cheapest_41 : decode cX7_cheapest 41 = .ok (.iconst 0, 1) := by decide +kernel
theorem dX7_cheapest_42 : decode cX7_cheapest 42 = .ok (.istore 7, 2) := by decide +kernel
theorem dX7_cheapest_44 : decode cX7_cheapest 44 = .ok (.iload 7, 2) := by decide +kernel
theorem dX7_cheapest_46 : decode cX7_cheapest 46 = .ok (.iconst 1, 1) := by decide +kernel
theorem dX7_cheapest_47 : decode cX7_cheapest 47 = .ok (.aload_n 0, 1) := by decide +kernel
theorem dX7_cheapest_48 : decode cX7_cheapest 48 = .ok (.getfield 52, 3) := by decide +kernel
theorem dX7_cheapest_51 : decode cX7_cheapest 51 = .ok (.ishl, 1) := by decide +kernel
theorem dX7_cheapest_52 : decode cX7_cheapest 52 = .ok (.if_icmp .ge 81, 3) := by decide +kernel
theorem dX7_cheapest_55 : decode cX7_cheapest 55 = .ok (.iload 7, 2) := by decide +kernel
theorem dX7_cheapest_57 : decode cX7_cheapest 57 = .ok (.iload_n 3, 1) := by decide +kernel
theorem dX7_cheapest_58 : decode cX7_cheapest 58 = .ok (.iand, 1) := by decide +kernel
theorem dX7_cheapest_59 : decode cX7_cheapest 59 = .ok (.iload_n 3, 1) := by decide +kernel
theorem dX7_cheapest_60 : decode cX7_cheapest 60 = .ok (.if_icmp .eq 6, 3) := by decide +kernel
theorem dX7_cheapest_63 : decode cX7_cheapest 63 = .ok (.goto 64, 3) := by decide +kernel
theorem dX7_cheapest_66 : decode cX7_cheapest 66 = .ok (.aload_n 0, 1) := by decide +kernel
theorem dX7_cheapest_67 : decode cX7_cheapest 67 = .ok (.iload 7, 2) := by decide +kernel
theorem dX7_cheapest_69 : decode cX7_cheapest 69 = .ok (.invokevirtual 121, 3) := by decide +kernel
theorem dX7_cheapest_72 : decode cX7_cheapest 72 = .ok (.lstore 8, 2) := by decide +kernel
theorem dX7_cheapest_74 : decode cX7_cheapest 74 = .ok (.iload 4, 2) := by decide +kernel
theorem dX7_cheapest_76 : decode cX7_cheapest 76 = .ok (.iconst (-1), 1) := by decide +kernel
theorem dX7_cheapest_77 : decode cX7_cheapest 77 = .ok (.if_icmp .eq 29, 3) := by decide +kernel
theorem dX7_cheapest_80 : decode cX7_cheapest 80 = .ok (.lload 8, 2) := by decide +kernel
theorem dX7_cheapest_82 : decode cX7_cheapest 82 = .ok (.lload 5, 2) := by decide +kernel
theorem dX7_cheapest_84 : decode cX7_cheapest 84 = .ok (.lcmp, 1) := by decide +kernel
theorem dX7_cheapest_85 : decode cX7_cheapest 85 = .ok (.ifCond .gt 42, 3) := by decide +kernel
theorem dX7_cheapest_88 : decode cX7_cheapest 88 = .ok (.lload 8, 2) := by decide +kernel
theorem dX7_cheapest_90 : decode cX7_cheapest 90 = .ok (.lload 5, 2) := by decide +kernel
theorem dX7_cheapest_92 : decode cX7_cheapest 92 = .ok (.lcmp, 1) := by decide +kernel
theorem dX7_cheapest_93 : decode cX7_cheapest 93 = .ok (.ifCond .ne 13, 3) := by decide +kernel
theorem dX7_cheapest_96 : decode cX7_cheapest 96 = .ok (.iload 7, 2) := by decide +kernel
theorem dX7_cheapest_98 : decode cX7_cheapest 98 = .ok (.iload 4, 2) := by decide +kernel
theorem dX7_cheapest_100 : decode cX7_cheapest 100 = .ok (.invokestatic 130, 3) := by decide +kernel
theorem dX7_cheapest_103 : decode cX7_cheapest 103 = .ok (.ifCond .eq 24, 3) := by decide +kernel
theorem dX7_cheapest_106 : decode cX7_cheapest 106 = .ok (.aload_n 0, 1) := by decide +kernel
theorem dX7_cheapest_107 : decode cX7_cheapest 107 = .ok (.iload_n 1, 1) := by decide +kernel
theorem dX7_cheapest_108 : decode cX7_cheapest 108 = .ok (.iload 7, 2) := by decide +kernel
theorem dX7_cheapest_110 : decode cX7_cheapest 110 = .ok (.invokevirtual 118, 3) := by decide +kernel
theorem dX7_cheapest_113 : decode cX7_cheapest 113 = .ok (.ifCond .ne 6, 3) := by decide +kernel
theorem dX7_cheapest_116 : decode cX7_cheapest 116 = .ok (.goto 11, 3) := by decide +kernel
theorem dX7_cheapest_119 : decode cX7_cheapest 119 = .ok (.iload 7, 2) := by decide +kernel
theorem dX7_cheapest_121 : decode cX7_cheapest 121 = .ok (.istore 4, 2) := by decide +kernel
theorem dX7_cheapest_123 : decode cX7_cheapest 123 = .ok (.lload 8, 2) := by decide +kernel
theorem dX7_cheapest_125 : decode cX7_cheapest 125 = .ok (.lstore 5, 2) := by decide +kernel
theorem dX7_cheapest_127 : decode cX7_cheapest 127 = .ok (.iinc 7 1, 3) := by decide +kernel
theorem dX7_cheapest_130 : decode cX7_cheapest 130 = .ok (.goto (-86), 3) := by decide +kernel
theorem dX7_cheapest_133 : decode cX7_cheapest 133 = .ok (.iload 4, 2) := by decide +kernel
theorem dX7_cheapest_135 : decode cX7_cheapest 135 = .ok (.ireturn, 1) := by decide +kernel
theorem dX7_isUseless_0 : decode cX7_isUseless 0 = .ok (.aload_n 0, 1) := by decide +kernel
theorem dX7_isUseless_1 : decode cX7_isUseless 1 = .ok (.aload_n 0, 1) := by decide +kernel
theorem dX7_isUseless_2 : decode cX7_isUseless 2 = .ok (.getfield 63, 3) := by decide +kernel
theorem dX7_isUseless_5 : decode cX7_isUseless 5 = .ok (.iconst 1, 1) := by decide +kernel
theorem dX7_isUseless_6 : decode cX7_isUseless 6 = .ok (.iload_n 1, 1) := by decide +kernel
theorem dX7_isUseless_7 : decode cX7_isUseless 7 = .ok (.ishl, 1) := by decide +kernel
theorem dX7_isUseless_8 : decode cX7_isUseless 8 = .ok (.iconst (-1), 1) := by decide +kernel
theorem dX7_isUseless_9 : decode cX7_isUseless 9 = .ok (.ixor, 1) := by decide +kernel
theorem dX7_isUseless_10 : decode cX7_isUseless 10 = .ok (.iand, 1) := by decide +kernel
theorem dX7_isUseless_11 : decode cX7_isUseless 11 = .ok (.invokevirtual 111, 3) := by decide +kernel
theorem dX7_isUseless_14 : decode cX7_isUseless 14 = .ok (.aload_n 0, 1) := by decide +kernel
theorem dX7_isUseless_15 : decode cX7_isUseless 15 = .ok (.aload_n 0, 1) := by decide +kernel
theorem dX7_isUseless_16 : decode cX7_isUseless 16 = .ok (.getfield 63, 3) := by decide +kernel
theorem dX7_isUseless_19 : decode cX7_isUseless 19 = .ok (.invokevirtual 111, 3) := by decide +kernel
theorem dX7_isUseless_22 : decode cX7_isUseless 22 = .ok (.if_icmp .ne 7, 3) := by decide +kernel
theorem dX7_isUseless_25 : decode cX7_isUseless 25 = .ok (.iconst 1, 1) := by decide +kernel
theorem dX7_isUseless_26 : decode cX7_isUseless 26 = .ok (.goto 4, 3) := by decide +kernel
theorem dX7_isUseless_29 : decode cX7_isUseless 29 = .ok (.iconst 0, 1) := by decide +kernel
theorem dX7_isUseless_30 : decode cX7_isUseless 30 = .ok (.ireturn, 1) := by decide +kernel
theorem dX7_useless_0 : decode cX7_useless 0 = .ok (.aload_n 0, 1) := by decide +kernel
theorem dX7_useless_1 : decode cX7_useless 1 = .ok (.invokevirtual 96, 3) := by decide +kernel
theorem dX7_useless_4 : decode cX7_useless 4 = .ok (.ifCond .ne 7, 3) := by decide +kernel
theorem dX7_useless_7 : decode cX7_useless 7 = .ok (.iload_n 1, 1) := by decide +kernel
theorem dX7_useless_8 : decode cX7_useless 8 = .ok (.ifCond .ge 5, 3) := by decide +kernel
theorem dX7_useless_11 : decode cX7_useless 11 = .ok (.iconst (-1), 1) := by decide +kernel
theorem dX7_useless_12 : decode cX7_useless 12 = .ok (.ireturn, 1) := by decide +kernel
theorem dX7_useless_13 : decode cX7_useless 13 = .ok (.iconst 0, 1) := by decide +kernel
theorem dX7_useless_14 : decode cX7_useless 14 = .ok (.istore_n 2, 1) := by decide +kernel
theorem dX7_useless_15 : decode cX7_useless 15 = .ok (.iconst 0, 1) := by decide +kernel
theorem dX7_useless_16 : decode cX7_useless 16 = .ok (.istore_n 3, 1) := by decide +kernel
theorem dX7_useless_17 : decode cX7_useless 17 = .ok (.iload_n 3, 1) := by decide +kernel
theorem dX7_useless_18 : decode cX7_useless 18 = .ok (.aload_n 0, 1) := by decide +kernel
theorem dX7_useless_19 : decode cX7_useless 19 = .ok (.getfield 52, 3) := by decide +kernel
theorem dX7_useless_22 : decode cX7_useless 22 = .ok (.if_icmp .ge 41, 3) := by decide +kernel
theorem dX7_useless_25 : decode cX7_useless 25 = .ok (.aload_n 0, 1) := by decide +kernel
theorem dX7_useless_26 : decode cX7_useless 26 = .ok (.getfield 63, 3) := by decide +kernel
theorem dX7_useless_29 : decode cX7_useless 29 = .ok (.iload_n 3, 1) := by decide +kernel
theorem dX7_useless_30 : decode cX7_useless 30 = .ok (.invokestatic 79, 3) := by decide +kernel
theorem dX7_useless_33 : decode cX7_useless 33 = .ok (.ifCond .eq 24, 3) := by decide +kernel
theorem dX7_useless_36 : decode cX7_useless 36 = .ok (.aload_n 0, 1) := by decide +kernel
theorem dX7_useless_37 : decode cX7_useless 37 = .ok (.iload_n 3, 1) := by decide +kernel
theorem dX7_useless_38 : decode cX7_useless 38 = .ok (.invokevirtual 133, 3) := by decide +kernel
theorem dX7_useless_41 : decode cX7_useless 41 = .ok (.ifCond .ne 6, 3) := by decide +kernel
theorem dX7_useless_44 : decode cX7_useless 44 = .ok (.goto 13, 3) := by decide +kernel
theorem dX7_useless_47 : decode cX7_useless 47 = .ok (.iload_n 2, 1) := by decide +kernel
theorem dX7_useless_48 : decode cX7_useless 48 = .ok (.iload_n 1, 1) := by decide +kernel
theorem dX7_useless_49 : decode cX7_useless 49 = .ok (.if_icmp .ne 5, 3) := by decide +kernel
theorem dX7_useless_52 : decode cX7_useless 52 = .ok (.iload_n 3, 1) := by decide +kernel
theorem dX7_useless_53 : decode cX7_useless 53 = .ok (.ireturn, 1) := by decide +kernel
theorem dX7_useless_54 : decode cX7_useless 54 = .ok (.iinc 2 1, 3) := by decide +kernel
theorem dX7_useless_57 : decode cX7_useless 57 = .ok (.iinc 3 1, 3) := by decide +kernel
theorem dX7_useless_60 : decode cX7_useless 60 = .ok (.goto (-43), 3) := by decide +kernel
theorem dX7_useless_63 : decode cX7_useless 63 = .ok (.iconst (-1), 1) := by decide +kernel
theorem dX7_useless_64 : decode cX7_useless 64 = .ok (.ireturn, 1) := by decide +kernel
theorem dX7_why_0 : decode cX7_why 0 = .ok (.aload_n 0, 1) := by decide +kernel
theorem dX7_why_1 : decode cX7_why 1 = .ok (.iload_n 1, 1) := by decide +kernel
theorem dX7_why_2 : decode cX7_why 2 = .ok (.invokevirtual 75, 3) := by decide +kernel
theorem dX7_why_5 : decode cX7_why 5 = .ok (.ifCond .eq 31, 3) := by decide +kernel
theorem dX7_why_8 : decode cX7_why 8 = .ok (.aload_n 0, 1) := by decide +kernel
theorem dX7_why_9 : decode cX7_why 9 = .ok (.getfield 63, 3) := by decide +kernel
theorem dX7_why_12 : decode cX7_why 12 = .ok (.iload_n 1, 1) := by decide +kernel
theorem dX7_why_13 : decode cX7_why 13 = .ok (.invokestatic 79, 3) := by decide +kernel
theorem dX7_why_16 : decode cX7_why 16 = .ok (.ifCond .eq 20, 3) := by decide +kernel
theorem dX7_why_19 : decode cX7_why 19 = .ok (.iload_n 2, 1) := by decide +kernel
theorem dX7_why_20 : decode cX7_why 20 = .ok (.i2l, 1) := by decide +kernel
theorem dX7_why_21 : decode cX7_why 21 = .ok (.lconst 0, 1) := by decide +kernel
theorem dX7_why_22 : decode cX7_why 22 = .ok (.lconst 1, 1) := by decide +kernel
theorem dX7_why_23 : decode cX7_why 23 = .ok (.invokestatic 55, 3) := by decide +kernel
theorem dX7_why_26 : decode cX7_why 26 = .ok (.ifCond .eq 10, 3) := by decide +kernel
theorem dX7_why_29 : decode cX7_why 29 = .ok (.aload_n 0, 1) := by decide +kernel
theorem dX7_why_30 : decode cX7_why 30 = .ok (.invokevirtual 96, 3) := by decide +kernel
theorem dX7_why_33 : decode cX7_why 33 = .ok (.ifCond .eq 5, 3) := by decide +kernel
theorem dX7_why_36 : decode cX7_why 36 = .ok (.iconst (-1), 1) := by decide +kernel
theorem dX7_why_37 : decode cX7_why 37 = .ok (.ireturn, 1) := by decide +kernel
theorem dX7_why_38 : decode cX7_why 38 = .ok (.aload_n 0, 1) := by decide +kernel
theorem dX7_why_39 : decode cX7_why 39 = .ok (.getfield 63, 3) := by decide +kernel
theorem dX7_why_42 : decode cX7_why 42 = .ok (.iconst 1, 1) := by decide +kernel
theorem dX7_why_43 : decode cX7_why 43 = .ok (.iload_n 1, 1) := by decide +kernel
theorem dX7_why_44 : decode cX7_why 44 = .ok (.ishl, 1) := by decide +kernel
theorem dX7_why_45 : decode cX7_why 45 = .ok (.iconst (-1), 1) := by decide +kernel
theorem dX7_why_46 : decode cX7_why 46 = .ok (.ixor, 1) := by decide +kernel
theorem dX7_why_47 : decode cX7_why 47 = .ok (.iand, 1) := by decide +kernel
theorem dX7_why_48 : decode cX7_why 48 = .ok (.istore_n 3, 1) := by decide +kernel
theorem dX7_why_49 : decode cX7_why 49 = .ok (.iconst 0, 1) := by decide +kernel
theorem dX7_why_50 : decode cX7_why 50 = .ok (.istore 4, 2) := by decide +kernel
theorem dX7_why_52 : decode cX7_why 52 = .ok (.iload 4, 2) := by decide +kernel
theorem dX7_why_54 : decode cX7_why 54 = .ok (.aload_n 0, 1) := by decide +kernel
theorem dX7_why_55 : decode cX7_why 55 = .ok (.getfield 83, 3) := by decide +kernel
theorem dX7_why_58 : decode cX7_why 58 = .ok (.if_icmp .ge 66, 3) := by decide +kernel
theorem dX7_why_61 : decode cX7_why 61 = .ok (.iconst 0, 1) := by decide +kernel
theorem dX7_why_62 : decode cX7_why 62 = .ok (.istore 5, 2) := by decide +kernel
theorem dX7_why_64 : decode cX7_why 64 = .ok (.iload 5, 2) := by decide +kernel
theorem dX7_why_66 : decode cX7_why 66 = .ok (.aload_n 0, 1) := by decide +kernel
theorem dX7_why_67 : decode cX7_why 67 = .ok (.getfield 83, 3) := by decide +kernel
theorem dX7_why_70 : decode cX7_why 70 = .ok (.if_icmp .ge 48, 3) := by decide +kernel
theorem dX7_why_73 : decode cX7_why 73 = .ok (.aload_n 0, 1) := by decide +kernel
theorem dX7_why_74 : decode cX7_why 74 = .ok (.iload 4, 2) := by decide +kernel
theorem dX7_why_76 : decode cX7_why 76 = .ok (.iload 5, 2) := by decide +kernel
theorem dX7_why_78 : decode cX7_why 78 = .ok (.aload_n 0, 1) := by decide +kernel
theorem dX7_why_79 : decode cX7_why 79 = .ok (.getfield 63, 3) := by decide +kernel
theorem dX7_why_82 : decode cX7_why 82 = .ok (.invokevirtual 104, 3) := by decide +kernel
theorem dX7_why_85 : decode cX7_why 85 = .ok (.ifCond .eq 27, 3) := by decide +kernel
theorem dX7_why_88 : decode cX7_why 88 = .ok (.aload_n 0, 1) := by decide +kernel
theorem dX7_why_89 : decode cX7_why 89 = .ok (.iload 4, 2) := by decide +kernel
theorem dX7_why_91 : decode cX7_why 91 = .ok (.iload 5, 2) := by decide +kernel
theorem dX7_why_93 : decode cX7_why 93 = .ok (.iload_n 3, 1) := by decide +kernel
theorem dX7_why_94 : decode cX7_why 94 = .ok (.invokevirtual 104, 3) := by decide +kernel
theorem dX7_why_97 : decode cX7_why 97 = .ok (.ifCond .ne 15, 3) := by decide +kernel
theorem dX7_why_100 : decode cX7_why 100 = .ok (.iload_n 2, 1) := by decide +kernel
theorem dX7_why_101 : decode cX7_why 101 = .ok (.ifCond .ne 8, 3) := by decide +kernel
theorem dX7_why_104 : decode cX7_why 104 = .ok (.iload 4, 2) := by decide +kernel
theorem dX7_why_106 : decode cX7_why 106 = .ok (.goto 5, 3) := by decide +kernel
theorem dX7_why_109 : decode cX7_why 109 = .ok (.iload 5, 2) := by decide +kernel
theorem dX7_why_111 : decode cX7_why 111 = .ok (.ireturn, 1) := by decide +kernel
theorem dX7_why_112 : decode cX7_why 112 = .ok (.iinc 5 1, 3) := by decide +kernel
theorem dX7_why_115 : decode cX7_why 115 = .ok (.goto (-51), 3) := by decide +kernel
theorem dX7_why_118 : decode cX7_why 118 = .ok (.iinc 4 1, 3) := by decide +kernel
theorem dX7_why_121 : decode cX7_why 121 = .ok (.goto (-69), 3) := by decide +kernel
theorem dX7_why_124 : decode cX7_why 124 = .ok (.iconst (-1), 1) := by decide +kernel
theorem dX7_why_125 : decode cX7_why 125 = .ok (.ireturn, 1) := by decide +kernel
theorem dX7_push_0 : decode cX7_push 0 = .ok (.bipush 24, 2) := by decide +kernel
theorem dX7_push_2 : decode cX7_push 2 = .ok (.istore_n 2, 1) := by decide +kernel
theorem dX7_push_3 : decode cX7_push 3 = .ok (.iload_n 2, 1) := by decide +kernel
theorem dX7_push_4 : decode cX7_push 4 = .ok (.ifCond .lt 32, 3) := by decide +kernel
theorem dX7_push_7 : decode cX7_push 7 = .ok (.aload_n 0, 1) := by decide +kernel
theorem dX7_push_8 : decode cX7_push 8 = .ok (.getfield 7, 3) := by decide +kernel
theorem dX7_push_11 : decode cX7_push 11 = .ok (.aload_n 0, 1) := by decide +kernel
theorem dX7_push_12 : decode cX7_push 12 = .ok (.getfield 136, 3) := by decide +kernel
theorem dX7_push_15 : decode cX7_push 15 = .ok (.iload_n 1, 1) := by decide +kernel
theorem dX7_push_16 : decode cX7_push 16 = .ok (.iload_n 2, 1) := by decide +kernel
theorem dX7_push_17 : decode cX7_push 17 = .ok (.ishr, 1) := by decide +kernel
theorem dX7_push_18 : decode cX7_push 18 = .ok (.i2b, 1) := by decide +kernel
theorem dX7_push_19 : decode cX7_push 19 = .ok (.bastore, 1) := by decide +kernel
theorem dX7_push_20 : decode cX7_push 20 = .ok (.aload_n 0, 1) := by decide +kernel
theorem dX7_push_21 : decode cX7_push 21 = .ok (.dup, 1) := by decide +kernel
theorem dX7_push_22 : decode cX7_push 22 = .ok (.getfield 136, 3) := by decide +kernel
theorem dX7_push_25 : decode cX7_push 25 = .ok (.iconst 1, 1) := by decide +kernel
theorem dX7_push_26 : decode cX7_push 26 = .ok (.iadd, 1) := by decide +kernel
theorem dX7_push_27 : decode cX7_push 27 = .ok (.putfield 136, 3) := by decide +kernel
theorem dX7_push_30 : decode cX7_push 30 = .ok (.iinc 2 (-8), 3) := by decide +kernel
theorem dX7_push_33 : decode cX7_push 33 = .ok (.goto (-30), 3) := by decide +kernel
theorem dX7_push_36 : decode cX7_push 36 = .ok (.return_, 1) := by decide +kernel
theorem dX7_feed_0 : decode cX7_feed 0 = .ok (.aload_n 0, 1) := by decide +kernel
theorem dX7_feed_1 : decode cX7_feed 1 = .ok (.getfield 136, 3) := by decide +kernel
theorem dX7_feed_4 : decode cX7_feed 4 = .ok (.bipush 20, 2) := by decide +kernel
theorem dX7_feed_6 : decode cX7_feed 6 = .ok (.iadd, 1) := by decide +kernel
theorem dX7_feed_7 : decode cX7_feed 7 = .ok (.bipush 40, 2) := by decide +kernel
theorem dX7_feed_9 : decode cX7_feed 9 = .ok (.if_icmp .le 5, 3) := by decide +kernel
theorem dX7_feed_12 : decode cX7_feed 12 = .ok (.iconst (-1), 1) := by decide +kernel
theorem dX7_feed_13 : decode cX7_feed 13 = .ok (.ireturn, 1) := by decide +kernel
theorem dX7_feed_14 : decode cX7_feed 14 = .ok (.aload_n 0, 1) := by decide +kernel
theorem dX7_feed_15 : decode cX7_feed 15 = .ok (.iload_n 1, 1) := by decide +kernel
theorem dX7_feed_16 : decode cX7_feed 16 = .ok (.invokevirtual 139, 3) := by decide +kernel
theorem dX7_feed_19 : decode cX7_feed 19 = .ok (.aload_n 0, 1) := by decide +kernel
theorem dX7_feed_20 : decode cX7_feed 20 = .ok (.iload_n 2, 1) := by decide +kernel
theorem dX7_feed_21 : decode cX7_feed 21 = .ok (.invokevirtual 139, 3) := by decide +kernel
theorem dX7_feed_24 : decode cX7_feed 24 = .ok (.aload_n 0, 1) := by decide +kernel
theorem dX7_feed_25 : decode cX7_feed 25 = .ok (.iload_n 3, 1) := by decide +kernel
theorem dX7_feed_26 : decode cX7_feed 26 = .ok (.invokevirtual 139, 3) := by decide +kernel
theorem dX7_feed_29 : decode cX7_feed 29 = .ok (.aload_n 0, 1) := by decide +kernel
theorem dX7_feed_30 : decode cX7_feed 30 = .ok (.iload 4, 2) := by decide +kernel
theorem dX7_feed_32 : decode cX7_feed 32 = .ok (.invokevirtual 139, 3) := by decide +kernel
theorem dX7_feed_35 : decode cX7_feed 35 = .ok (.aload_n 0, 1) := by decide +kernel
theorem dX7_feed_36 : decode cX7_feed 36 = .ok (.iload 5, 2) := by decide +kernel
theorem dX7_feed_38 : decode cX7_feed 38 = .ok (.invokevirtual 139, 3) := by decide +kernel
theorem dX7_feed_41 : decode cX7_feed 41 = .ok (.aload_n 0, 1) := by decide +kernel
theorem dX7_feed_42 : decode cX7_feed 42 = .ok (.getfield 136, 3) := by decide +kernel
theorem dX7_feed_45 : decode cX7_feed 45 = .ok (.ireturn, 1) := by decide +kernel
theorem dX7_allows_0 : decode cX7_allows 0 = .ok (.iconst 0, 1) := by decide +kernel
theorem dX7_allows_1 : decode cX7_allows 1 = .ok (.istore_n 2, 1) := by decide +kernel
theorem dX7_allows_2 : decode cX7_allows 2 = .ok (.iload_n 2, 1) := by decide +kernel
theorem dX7_allows_3 : decode cX7_allows 3 = .ok (.aload_n 0, 1) := by decide +kernel
theorem dX7_allows_4 : decode cX7_allows 4 = .ok (.getfield 142, 3) := by decide +kernel
theorem dX7_allows_7 : decode cX7_allows 7 = .ok (.if_icmp .ge 35, 3) := by decide +kernel
theorem dX7_allows_10 : decode cX7_allows 10 = .ok (.aload_n 0, 1) := by decide +kernel
theorem dX7_allows_11 : decode cX7_allows 11 = .ok (.getfield 39, 3) := by decide +kernel
theorem dX7_allows_14 : decode cX7_allows 14 = .ok (.iload_n 2, 1) := by decide +kernel
theorem dX7_allows_15 : decode cX7_allows 15 = .ok (.iaload, 1) := by decide +kernel
theorem dX7_allows_16 : decode cX7_allows 16 = .ok (.ifCond .lt 18, 3) := by decide +kernel
theorem dX7_allows_19 : decode cX7_allows 19 = .ok (.aload_n 0, 1) := by decide +kernel
theorem dX7_allows_20 : decode cX7_allows 20 = .ok (.iload_n 1, 1) := by decide +kernel
theorem dX7_allows_21 : decode cX7_allows 21 = .ok (.iload_n 2, 1) := by decide +kernel
theorem dX7_allows_22 : decode cX7_allows 22 = .ok (.invokevirtual 100, 3) := by decide +kernel
theorem dX7_allows_25 : decode cX7_allows 25 = .ok (.aload_n 0, 1) := by decide +kernel
theorem dX7_allows_26 : decode cX7_allows 26 = .ok (.getfield 39, 3) := by decide +kernel
theorem dX7_allows_29 : decode cX7_allows 29 = .ok (.iload_n 2, 1) := by decide +kernel
theorem dX7_allows_30 : decode cX7_allows 30 = .ok (.iaload, 1) := by decide +kernel
theorem dX7_allows_31 : decode cX7_allows 31 = .ok (.if_icmp .eq 5, 3) := by decide +kernel
theorem dX7_allows_34 : decode cX7_allows 34 = .ok (.iconst 0, 1) := by decide +kernel
theorem dX7_allows_35 : decode cX7_allows 35 = .ok (.ireturn, 1) := by decide +kernel
theorem dX7_allows_36 : decode cX7_allows 36 = .ok (.iinc 2 1, 3) := by decide +kernel
theorem dX7_allows_39 : decode cX7_allows 39 = .ok (.goto (-37), 3) := by decide +kernel
theorem dX7_allows_42 : decode cX7_allows 42 = .ok (.aload_n 0, 1) := by decide +kernel
theorem dX7_allows_43 : decode cX7_allows 43 = .ok (.getfield 145, 3) := by decide +kernel
theorem dX7_allows_46 : decode cX7_allows 46 = .ok (.ifCond .ne 16, 3) := by decide +kernel
theorem dX7_allows_49 : decode cX7_allows 49 = .ok (.aload_n 0, 1) := by decide +kernel
theorem dX7_allows_50 : decode cX7_allows 50 = .ok (.iload_n 1, 1) := by decide +kernel
theorem dX7_allows_51 : decode cX7_allows 51 = .ok (.aload_n 0, 1) := by decide +kernel
theorem dX7_allows_52 : decode cX7_allows 52 = .ok (.getfield 142, 3) := by decide +kernel
theorem dX7_allows_55 : decode cX7_allows 55 = .ok (.invokevirtual 100, 3) := by decide +kernel
theorem dX7_allows_58 : decode cX7_allows 58 = .ok (.iconst (-1), 1) := by decide +kernel
theorem dX7_allows_59 : decode cX7_allows 59 = .ok (.if_icmp .ne 7, 3) := by decide +kernel
theorem dX7_allows_62 : decode cX7_allows 62 = .ok (.iconst 1, 1) := by decide +kernel
theorem dX7_allows_63 : decode cX7_allows 63 = .ok (.goto 4, 3) := by decide +kernel
theorem dX7_allows_66 : decode cX7_allows 66 = .ok (.iconst 0, 1) := by decide +kernel
theorem dX7_allows_67 : decode cX7_allows 67 = .ok (.ireturn, 1) := by decide +kernel
theorem dX7_read_0 : decode cX7_read 0 = .ok (.iload_n 1, 1) := by decide +kernel
theorem dX7_read_1 : decode cX7_read 1 = .ok (.i2l, 1) := by decide +kernel
theorem dX7_read_2 : decode cX7_read 2 = .ok (.lconst 0, 1) := by decide +kernel
theorem dX7_read_3 : decode cX7_read 3 = .ok (.ldc2_w 148, 3) := by decide +kernel
theorem dX7_read_6 : decode cX7_read 6 = .ok (.invokestatic 55, 3) := by decide +kernel
theorem dX7_read_9 : decode cX7_read 9 = .ok (.ifCond .eq 11, 3) := by decide +kernel
theorem dX7_read_12 : decode cX7_read 12 = .ok (.iload_n 1, 1) := by decide +kernel
theorem dX7_read_13 : decode cX7_read 13 = .ok (.aload_n 0, 1) := by decide +kernel
theorem dX7_read_14 : decode cX7_read 14 = .ok (.getfield 136, 3) := by decide +kernel
theorem dX7_read_17 : decode cX7_read 17 = .ok (.if_icmp .le 5, 3) := by decide +kernel
theorem dX7_read_20 : decode cX7_read 20 = .ok (.iconst (-1), 1) := by decide +kernel
theorem dX7_read_21 : decode cX7_read 21 = .ok (.ireturn, 1) := by decide +kernel
theorem dX7_read_22 : decode cX7_read 22 = .ok (.aload_n 0, 1) := by decide +kernel
theorem dX7_read_23 : decode cX7_read 23 = .ok (.iconst 0, 1) := by decide +kernel
theorem dX7_read_24 : decode cX7_read 24 = .ok (.putfield 136, 3) := by decide +kernel
theorem dX7_read_27 : decode cX7_read 27 = .ok (.aload_n 0, 1) := by decide +kernel
theorem dX7_read_28 : decode cX7_read 28 = .ok (.iconst 1, 1) := by decide +kernel
theorem dX7_read_29 : decode cX7_read 29 = .ok (.putfield 69, 3) := by decide +kernel
theorem dX7_read_32 : decode cX7_read 32 = .ok (.aload_n 0, 1) := by decide +kernel
theorem dX7_read_33 : decode cX7_read 33 = .ok (.iload_n 2, 1) := by decide +kernel
theorem dX7_read_34 : decode cX7_read 34 = .ok (.putfield 145, 3) := by decide +kernel
theorem dX7_read_37 : decode cX7_read 37 = .ok (.aload_n 0, 1) := by decide +kernel
theorem dX7_read_38 : decode cX7_read 38 = .ok (.iload_n 1, 1) := by decide +kernel
theorem dX7_read_39 : decode cX7_read 39 = .ok (.putfield 142, 3) := by decide +kernel
theorem dX7_read_42 : decode cX7_read 42 = .ok (.iconst 0, 1) := by decide +kernel
theorem dX7_read_43 : decode cX7_read 43 = .ok (.istore_n 3, 1) := by decide +kernel
theorem dX7_read_44 : decode cX7_read 44 = .ok (.iload_n 3, 1) := by decide +kernel
theorem dX7_read_45 : decode cX7_read 45 = .ok (.iload_n 1, 1) := by decide +kernel
theorem dX7_read_46 : decode cX7_read 46 = .ok (.if_icmp .ge 21, 3) := by decide +kernel
theorem dX7_read_49 : decode cX7_read 49 = .ok (.aload_n 0, 1) := by decide +kernel
theorem dX7_read_50 : decode cX7_read 50 = .ok (.getfield 39, 3) := by decide +kernel
theorem dX7_read_53 : decode cX7_read 53 = .ok (.iload_n 3, 1) := by decide +kernel
theorem dX7_read_54 : decode cX7_read 54 = .ok (.aload_n 0, 1) := by decide +kernel
theorem dX7_read_55 : decode cX7_read 55 = .ok (.getfield 7, 3) := by decide +kernel
theorem dX7_read_58 : decode cX7_read 58 = .ok (.iload_n 3, 1) := by decide +kernel
theorem dX7_read_59 : decode cX7_read 59 = .ok (.baload, 1) := by decide +kernel
theorem dX7_read_60 : decode cX7_read 60 = .ok (.iastore, 1) := by decide +kernel
theorem dX7_read_61 : decode cX7_read 61 = .ok (.iinc 3 1, 3) := by decide +kernel
theorem dX7_read_64 : decode cX7_read 64 = .ok (.goto (-20), 3) := by decide +kernel
theorem dX7_read_67 : decode cX7_read 67 = .ok (.aload_n 0, 1) := by decide +kernel
theorem dX7_read_68 : decode cX7_read 68 = .ok (.invokevirtual 96, 3) := by decide +kernel
theorem dX7_read_71 : decode cX7_read 71 = .ok (.ifCond .eq 6, 3) := by decide +kernel
theorem dX7_read_74 : decode cX7_read 74 = .ok (.bipush (-2), 2) := by decide +kernel
theorem dX7_read_76 : decode cX7_read 76 = .ok (.ireturn, 1) := by decide +kernel
theorem dX7_read_77 : decode cX7_read 77 = .ok (.iconst 0, 1) := by decide +kernel
theorem dX7_read_78 : decode cX7_read 78 = .ok (.istore_n 3, 1) := by decide +kernel
theorem dX7_read_79 : decode cX7_read 79 = .ok (.iconst 0, 1) := by decide +kernel
theorem dX7_read_80 : decode cX7_read 80 = .ok (.istore 4, 2) := by decide +kernel
theorem dX7_read_82 : decode cX7_read 82 = .ok (.iload 4, 2) := by decide +kernel
theorem dX7_read_84 : decode cX7_read 84 = .ok (.aload_n 0, 1) := by decide +kernel
theorem dX7_read_85 : decode cX7_read 85 = .ok (.getfield 83, 3) := by decide +kernel
theorem dX7_read_88 : decode cX7_read 88 = .ok (.if_icmp .ge 26, 3) := by decide +kernel
theorem dX7_read_91 : decode cX7_read 91 = .ok (.iload_n 3, 1) := by decide +kernel
theorem dX7_read_92 : decode cX7_read 92 = .ok (.aload_n 0, 1) := by decide +kernel
theorem dX7_read_93 : decode cX7_read 93 = .ok (.iload 4, 2) := by decide +kernel
theorem dX7_read_95 : decode cX7_read 95 = .ok (.invokevirtual 150, 3) := by decide +kernel
theorem dX7_read_98 : decode cX7_read 98 = .ok (.ifCond .eq 7, 3) := by decide +kernel
theorem dX7_read_101 : decode cX7_read 101 = .ok (.iconst 1, 1) := by decide +kernel
theorem dX7_read_102 : decode cX7_read 102 = .ok (.goto 4, 3) := by decide +kernel
theorem dX7_read_105 : decode cX7_read 105 = .ok (.iconst 0, 1) := by decide +kernel
theorem dX7_read_106 : decode cX7_read 106 = .ok (.iadd, 1) := by decide +kernel
theorem dX7_read_107 : decode cX7_read 107 = .ok (.istore_n 3, 1) := by decide +kernel
theorem dX7_read_108 : decode cX7_read 108 = .ok (.iinc 4 1, 3) := by decide +kernel
theorem dX7_read_111 : decode cX7_read 111 = .ok (.goto (-29), 3) := by decide +kernel
theorem dX7_read_114 : decode cX7_read 114 = .ok (.iload_n 3, 1) := by decide +kernel
theorem dX7_read_115 : decode cX7_read 115 = .ok (.ireturn, 1) := by decide +kernel
theorem dX7_allowed_0 : decode cX7_allowed 0 = .ok (.aload_n 0, 1) := by decide +kernel
theorem dX7_allowed_1 : decode cX7_allowed 1 = .ok (.getfield 69, 3) := by decide +kernel
theorem dX7_allowed_4 : decode cX7_allowed 4 = .ok (.ifCond .eq 14, 3) := by decide +kernel
theorem dX7_allowed_7 : decode cX7_allowed 7 = .ok (.iload_n 1, 1) := by decide +kernel
theorem dX7_allowed_8 : decode cX7_allowed 8 = .ok (.ifCond .lt 10, 3) := by decide +kernel
theorem dX7_allowed_11 : decode cX7_allowed 11 = .ok (.aload_n 0, 1) := by decide +kernel
theorem dX7_allowed_12 : decode cX7_allowed 12 = .ok (.invokevirtual 96, 3) := by decide +kernel
theorem dX7_allowed_15 : decode cX7_allowed 15 = .ok (.ifCond .eq 5, 3) := by decide +kernel
theorem dX7_allowed_18 : decode cX7_allowed 18 = .ok (.iconst (-1), 1) := by decide +kernel
theorem dX7_allowed_19 : decode cX7_allowed 19 = .ok (.ireturn, 1) := by decide +kernel
theorem dX7_allowed_20 : decode cX7_allowed 20 = .ok (.iconst 0, 1) := by decide +kernel
theorem dX7_allowed_21 : decode cX7_allowed 21 = .ok (.istore_n 2, 1) := by decide +kernel
theorem dX7_allowed_22 : decode cX7_allowed 22 = .ok (.iconst 0, 1) := by decide +kernel
theorem dX7_allowed_23 : decode cX7_allowed 23 = .ok (.istore_n 3, 1) := by decide +kernel
theorem dX7_allowed_24 : decode cX7_allowed 24 = .ok (.iload_n 3, 1) := by decide +kernel
theorem dX7_allowed_25 : decode cX7_allowed 25 = .ok (.aload_n 0, 1) := by decide +kernel
theorem dX7_allowed_26 : decode cX7_allowed 26 = .ok (.getfield 83, 3) := by decide +kernel
theorem dX7_allowed_29 : decode cX7_allowed 29 = .ok (.if_icmp .ge 30, 3) := by decide +kernel
theorem dX7_allowed_32 : decode cX7_allowed 32 = .ok (.aload_n 0, 1) := by decide +kernel
theorem dX7_allowed_33 : decode cX7_allowed 33 = .ok (.iload_n 3, 1) := by decide +kernel
theorem dX7_allowed_34 : decode cX7_allowed 34 = .ok (.invokevirtual 150, 3) := by decide +kernel
theorem dX7_allowed_37 : decode cX7_allowed 37 = .ok (.ifCond .ne 6, 3) := by decide +kernel
theorem dX7_allowed_40 : decode cX7_allowed 40 = .ok (.goto 13, 3) := by decide +kernel
theorem dX7_allowed_43 : decode cX7_allowed 43 = .ok (.iload_n 2, 1) := by decide +kernel
theorem dX7_allowed_44 : decode cX7_allowed 44 = .ok (.iload_n 1, 1) := by decide +kernel
theorem dX7_allowed_45 : decode cX7_allowed 45 = .ok (.if_icmp .ne 5, 3) := by decide +kernel
theorem dX7_allowed_48 : decode cX7_allowed 48 = .ok (.iload_n 3, 1) := by decide +kernel
theorem dX7_allowed_49 : decode cX7_allowed 49 = .ok (.ireturn, 1) := by decide +kernel
theorem dX7_allowed_50 : decode cX7_allowed 50 = .ok (.iinc 2 1, 3) := by decide +kernel
theorem dX7_allowed_53 : decode cX7_allowed 53 = .ok (.iinc 3 1, 3) := by decide +kernel
theorem dX7_allowed_56 : decode cX7_allowed 56 = .ok (.goto (-32), 3) := by decide +kernel
theorem dX7_allowed_59 : decode cX7_allowed 59 = .ok (.iconst (-1), 1) := by decide +kernel
theorem dX7_allowed_60 : decode cX7_allowed 60 = .ok (.ireturn, 1) := by decide +kernel
theorem dX7_found_0 : decode cX7_found 0 = .ok (.aload_n 0, 1) := by decide +kernel
theorem dX7_found_1 : decode cX7_found 1 = .ok (.getfield 69, 3) := by decide +kernel
theorem dX7_found_4 : decode cX7_found 4 = .ok (.ifCond .eq 22, 3) := by decide +kernel
theorem dX7_found_7 : decode cX7_found 7 = .ok (.iload_n 1, 1) := by decide +kernel
theorem dX7_found_8 : decode cX7_found 8 = .ok (.i2l, 1) := by decide +kernel
theorem dX7_found_9 : decode cX7_found 9 = .ok (.lconst 0, 1) := by decide +kernel
theorem dX7_found_10 : decode cX7_found 10 = .ok (.ldc2_w 153, 3) := by decide +kernel
theorem dX7_found_13 : decode cX7_found 13 = .ok (.invokestatic 55, 3) := by decide +kernel
theorem dX7_found_16 : decode cX7_found 16 = .ok (.ifCond .eq 10, 3) := by decide +kernel
theorem dX7_found_19 : decode cX7_found 19 = .ok (.aload_n 0, 1) := by decide +kernel
theorem dX7_found_20 : decode cX7_found 20 = .ok (.invokevirtual 96, 3) := by decide +kernel
theorem dX7_found_23 : decode cX7_found 23 = .ok (.ifCond .eq 5, 3) := by decide +kernel
theorem dX7_found_26 : decode cX7_found 26 = .ok (.iconst (-1), 1) := by decide +kernel
theorem dX7_found_27 : decode cX7_found 27 = .ok (.ireturn, 1) := by decide +kernel
theorem dX7_found_28 : decode cX7_found 28 = .ok (.iconst (-1), 1) := by decide +kernel
theorem dX7_found_29 : decode cX7_found 29 = .ok (.istore_n 2, 1) := by decide +kernel
theorem dX7_found_30 : decode cX7_found 30 = .ok (.iconst 0, 1) := by decide +kernel
theorem dX7_found_31 : decode cX7_found 31 = .ok (.istore_n 3, 1) := by decide +kernel
theorem dX7_found_32 : decode cX7_found 32 = .ok (.iconst 0, 1) := by decide +kernel
theorem dX7_found_33 : decode cX7_found 33 = .ok (.istore 4, 2) := by decide +kernel
theorem dX7_found_35 : decode cX7_found 35 = .ok (.iconst 0, 1) := by decide +kernel
theorem dX7_found_36 : decode cX7_found 36 = .ok (.istore 5, 2) := by decide +kernel
theorem dX7_found_38 : decode cX7_found 38 = .ok (.iload 5, 2) := by decide +kernel
theorem dX7_found_40 : decode cX7_found 40 = .ok (.aload_n 0, 1) := by decide +kernel
theorem dX7_found_41 : decode cX7_found 41 = .ok (.getfield 83, 3) := by decide +kernel
theorem dX7_found_44 : decode cX7_found 44 = .ok (.if_icmp .ge 58, 3) := by decide +kernel
theorem dX7_found_47 : decode cX7_found 47 = .ok (.aload_n 0, 1) := by decide +kernel
theorem dX7_found_48 : decode cX7_found 48 = .ok (.iload 5, 2) := by decide +kernel
theorem dX7_found_50 : decode cX7_found 50 = .ok (.invokevirtual 150, 3) := by decide +kernel
theorem dX7_found_53 : decode cX7_found 53 = .ok (.ifCond .ne 6, 3) := by decide +kernel
theorem dX7_found_56 : decode cX7_found 56 = .ok (.goto 40, 3) := by decide +kernel
theorem dX7_found_59 : decode cX7_found 59 = .ok (.iload_n 1, 1) := by decide +kernel
theorem dX7_found_60 : decode cX7_found 60 = .ok (.iconst 2, 1) := by decide +kernel
theorem dX7_found_61 : decode cX7_found 61 = .ok (.if_icmp .ge 13, 3) := by decide +kernel
theorem dX7_found_64 : decode cX7_found 64 = .ok (.aload_n 0, 1) := by decide +kernel
theorem dX7_found_65 : decode cX7_found 65 = .ok (.getfield 33, 3) := by decide +kernel
theorem dX7_found_68 : decode cX7_found 68 = .ok (.iload 5, 2) := by decide +kernel
theorem dX7_found_70 : decode cX7_found 70 = .ok (.iaload, 1) := by decide +kernel
theorem dX7_found_71 : decode cX7_found 71 = .ok (.goto 10, 3) := by decide +kernel
theorem dX7_found_74 : decode cX7_found 74 = .ok (.aload_n 0, 1) := by decide +kernel
theorem dX7_found_75 : decode cX7_found 75 = .ok (.getfield 36, 3) := by decide +kernel
theorem dX7_found_78 : decode cX7_found 78 = .ok (.iload 5, 2) := by decide +kernel
theorem dX7_found_80 : decode cX7_found 80 = .ok (.iaload, 1) := by decide +kernel
theorem dX7_found_81 : decode cX7_found 81 = .ok (.istore 6, 2) := by decide +kernel
theorem dX7_found_83 : decode cX7_found 83 = .ok (.iload_n 2, 1) := by decide +kernel
theorem dX7_found_84 : decode cX7_found 84 = .ok (.iload 6, 2) := by decide +kernel
theorem dX7_found_86 : decode cX7_found 86 = .ok (.iand, 1) := by decide +kernel
theorem dX7_found_87 : decode cX7_found 87 = .ok (.istore_n 2, 1) := by decide +kernel
theorem dX7_found_88 : decode cX7_found 88 = .ok (.iload_n 3, 1) := by decide +kernel
theorem dX7_found_89 : decode cX7_found 89 = .ok (.iload 6, 2) := by decide +kernel
theorem dX7_found_91 : decode cX7_found 91 = .ok (.ior, 1) := by decide +kernel
theorem dX7_found_92 : decode cX7_found 92 = .ok (.istore_n 3, 1) := by decide +kernel
theorem dX7_found_93 : decode cX7_found 93 = .ok (.iconst 1, 1) := by decide +kernel
theorem dX7_found_94 : decode cX7_found 94 = .ok (.istore 4, 2) := by decide +kernel
theorem dX7_found_96 : decode cX7_found 96 = .ok (.iinc 5 1, 3) := by decide +kernel
theorem dX7_found_99 : decode cX7_found 99 = .ok (.goto (-61), 3) := by decide +kernel
theorem dX7_found_102 : decode cX7_found 102 = .ok (.iload 4, 2) := by decide +kernel
theorem dX7_found_104 : decode cX7_found 104 = .ok (.ifCond .ne 7, 3) := by decide +kernel
theorem dX7_found_107 : decode cX7_found 107 = .ok (.iconst (-1), 1) := by decide +kernel
theorem dX7_found_108 : decode cX7_found 108 = .ok (.goto 14, 3) := by decide +kernel
theorem dX7_found_111 : decode cX7_found 111 = .ok (.iload_n 1, 1) := by decide +kernel
theorem dX7_found_112 : decode cX7_found 112 = .ok (.iconst 2, 1) := by decide +kernel
theorem dX7_found_113 : decode cX7_found 113 = .ok (.irem, 1) := by decide +kernel
theorem dX7_found_114 : decode cX7_found 114 = .ok (.ifCond .ne 7, 3) := by decide +kernel
theorem dX7_found_117 : decode cX7_found 117 = .ok (.iload_n 2, 1) := by decide +kernel
theorem dX7_found_118 : decode cX7_found 118 = .ok (.goto 4, 3) := by decide +kernel
theorem dX7_found_121 : decode cX7_found 121 = .ok (.iload_n 3, 1) := by decide +kernel
theorem dX7_found_122 : decode cX7_found 122 = .ok (.ireturn, 1) := by decide +kernel
theorem dX7_look_0 : decode cX7_look 0 = .ok (.aload_n 0, 1) := by decide +kernel
theorem dX7_look_1 : decode cX7_look 1 = .ok (.iload_n 1, 1) := by decide +kernel
theorem dX7_look_2 : decode cX7_look 2 = .ok (.invokevirtual 75, 3) := by decide +kernel
theorem dX7_look_5 : decode cX7_look 5 = .ok (.ifCond .ne 5, 3) := by decide +kernel
theorem dX7_look_8 : decode cX7_look 8 = .ok (.iconst (-1), 1) := by decide +kernel
theorem dX7_look_9 : decode cX7_look 9 = .ok (.ireturn, 1) := by decide +kernel
theorem dX7_look_10 : decode cX7_look 10 = .ok (.iload_n 2, 1) := by decide +kernel
theorem dX7_look_11 : decode cX7_look 11 = .ok (.tableswitch 67 0 3 #[29, 36, 43, 50], 29) := by decide +kernel
theorem dX7_look_40 : decode cX7_look 40 = .ok (.aload_n 0, 1) := by decide +kernel
theorem dX7_look_41 : decode cX7_look 41 = .ok (.getfield 17, 3) := by decide +kernel
theorem dX7_look_44 : decode cX7_look 44 = .ok (.iload_n 1, 1) := by decide +kernel
theorem dX7_look_45 : decode cX7_look 45 = .ok (.iaload, 1) := by decide +kernel
theorem dX7_look_46 : decode cX7_look 46 = .ok (.ireturn, 1) := by decide +kernel
theorem dX7_look_47 : decode cX7_look 47 = .ok (.aload_n 0, 1) := by decide +kernel
theorem dX7_look_48 : decode cX7_look 48 = .ok (.getfield 21, 3) := by decide +kernel
theorem dX7_look_51 : decode cX7_look 51 = .ok (.iload_n 1, 1) := by decide +kernel
theorem dX7_look_52 : decode cX7_look 52 = .ok (.iaload, 1) := by decide +kernel
theorem dX7_look_53 : decode cX7_look 53 = .ok (.ireturn, 1) := by decide +kernel
theorem dX7_look_54 : decode cX7_look 54 = .ok (.aload_n 0, 1) := by decide +kernel
theorem dX7_look_55 : decode cX7_look 55 = .ok (.getfield 24, 3) := by decide +kernel
theorem dX7_look_58 : decode cX7_look 58 = .ok (.iload_n 1, 1) := by decide +kernel
theorem dX7_look_59 : decode cX7_look 59 = .ok (.iaload, 1) := by decide +kernel
theorem dX7_look_60 : decode cX7_look 60 = .ok (.ireturn, 1) := by decide +kernel
theorem dX7_look_61 : decode cX7_look 61 = .ok (.aload_n 0, 1) := by decide +kernel
theorem dX7_look_62 : decode cX7_look 62 = .ok (.getfield 63, 3) := by decide +kernel
theorem dX7_look_65 : decode cX7_look 65 = .ok (.iload_n 1, 1) := by decide +kernel
theorem dX7_look_66 : decode cX7_look 66 = .ok (.invokestatic 79, 3) := by decide +kernel
theorem dX7_look_69 : decode cX7_look 69 = .ok (.ifCond .eq 7, 3) := by decide +kernel
theorem dX7_look_72 : decode cX7_look 72 = .ok (.iconst 1, 1) := by decide +kernel
theorem dX7_look_73 : decode cX7_look 73 = .ok (.goto 4, 3) := by decide +kernel
theorem dX7_look_76 : decode cX7_look 76 = .ok (.iconst 0, 1) := by decide +kernel
theorem dX7_look_77 : decode cX7_look 77 = .ok (.ireturn, 1) := by decide +kernel
theorem dX7_look_78 : decode cX7_look 78 = .ok (.iconst (-1), 1) := by decide +kernel
theorem dX7_look_79 : decode cX7_look 79 = .ok (.ireturn, 1) := by decide +kernel
theorem dX7_count_0 : decode cX7_count 0 = .ok (.iload_n 1, 1) := by decide +kernel
theorem dX7_count_1 : decode cX7_count 1 = .ok (.tableswitch 84 0 5 #[39, 45, 51, 60, 69, 78], 39) := by decide +kernel
theorem dX7_count_40 : decode cX7_count 40 = .ok (.aload_n 0, 1) := by decide +kernel
theorem dX7_count_41 : decode cX7_count 41 = .ok (.getfield 13, 3) := by decide +kernel
theorem dX7_count_44 : decode cX7_count 44 = .ok (.i2l, 1) := by decide +kernel
theorem dX7_count_45 : decode cX7_count 45 = .ok (.lreturn, 1) := by decide +kernel
theorem dX7_count_46 : decode cX7_count 46 = .ok (.aload_n 0, 1) := by decide +kernel
theorem dX7_count_47 : decode cX7_count 47 = .ok (.getfield 52, 3) := by decide +kernel
theorem dX7_count_50 : decode cX7_count 50 = .ok (.i2l, 1) := by decide +kernel
theorem dX7_count_51 : decode cX7_count 51 = .ok (.lreturn, 1) := by decide +kernel
theorem dX7_count_52 : decode cX7_count 52 = .ok (.aload_n 0, 1) := by decide +kernel
theorem dX7_count_53 : decode cX7_count 53 = .ok (.getfield 63, 3) := by decide +kernel
theorem dX7_count_56 : decode cX7_count 56 = .ok (.invokestatic 127, 3) := by decide +kernel
theorem dX7_count_59 : decode cX7_count 59 = .ok (.i2l, 1) := by decide +kernel
theorem dX7_count_60 : decode cX7_count 60 = .ok (.lreturn, 1) := by decide +kernel
theorem dX7_count_61 : decode cX7_count 61 = .ok (.aload_n 0, 1) := by decide +kernel
theorem dX7_count_62 : decode cX7_count 62 = .ok (.getfield 66, 3) := by decide +kernel
theorem dX7_count_65 : decode cX7_count 65 = .ok (.invokestatic 127, 3) := by decide +kernel
theorem dX7_count_68 : decode cX7_count 68 = .ok (.i2l, 1) := by decide +kernel
theorem dX7_count_69 : decode cX7_count 69 = .ok (.lreturn, 1) := by decide +kernel
theorem dX7_count_70 : decode cX7_count 70 = .ok (.aload_n 0, 1) := by decide +kernel
theorem dX7_count_71 : decode cX7_count 71 = .ok (.aload_n 0, 1) := by decide +kernel
theorem dX7_count_72 : decode cX7_count 72 = .ok (.getfield 63, 3) := by decide +kernel
theorem dX7_count_75 : decode cX7_count 75 = .ok (.invokevirtual 121, 3) := by decide +kernel
theorem dX7_count_78 : decode cX7_count 78 = .ok (.lreturn, 1) := by decide +kernel
theorem dX7_count_79 : decode cX7_count 79 = .ok (.aload_n 0, 1) := by decide +kernel
theorem dX7_count_80 : decode cX7_count 80 = .ok (.getfield 136, 3) := by decide +kernel
theorem dX7_count_83 : decode cX7_count 83 = .ok (.i2l, 1) := by decide +kernel
theorem dX7_count_84 : decode cX7_count 84 = .ok (.lreturn, 1) := by decide +kernel
