theorem dL_cell_0 : decode cL_cell 0 = .ok (.iload_n 1, 1) := by decide +kernel
theorem dL_cell_1 : decode cL_cell 1 = .ok (.aload_n 0, 1) := by decide +kernel
theorem dL_cell_2 : decode cL_cell 2 = .ok (.arraylength, 1) := by decide +kernel
theorem dL_cell_3 : decode cL_cell 3 = .ok (.if_icmp .ge 9, 3) := by decide +kernel
theorem dL_cell_6 : decode cL_cell 6 = .ok (.aload_n 0, 1) := by decide +kernel
theorem dL_cell_7 : decode cL_cell 7 = .ok (.iload_n 1, 1) := by decide +kernel
theorem dL_cell_8 : decode cL_cell 8 = .ok (.iaload, 1) := by decide +kernel
theorem dL_cell_9 : decode cL_cell 9 = .ok (.goto 10, 3) := by decide +kernel
theorem dL_cell_12 : decode cL_cell 12 = .ok (.ldc 7, 2) := by decide +kernel
theorem dL_cell_14 : decode cL_cell 14 = .ok (.iload_n 1, 1) := by decide +kernel
theorem dL_cell_15 : decode cL_cell 15 = .ok (.bipush 71, 2) := by decide +kernel
theorem dL_cell_17 : decode cL_cell 17 = .ok (.iadd, 1) := by decide +kernel
theorem dL_cell_18 : decode cL_cell 18 = .ok (.imul, 1) := by decide +kernel
theorem dL_cell_19 : decode cL_cell 19 = .ok (.ireturn, 1) := by decide +kernel
theorem dL_at_0 : decode cL_at 0 = .ok (.iload_n 0, 1) := by decide +kernel
theorem dL_at_1 : decode cL_at 1 = .ok (.iconst 1, 1) := by decide +kernel
theorem dL_at_2 : decode cL_at 2 = .ok (.iushr, 1) := by decide +kernel
theorem dL_at_3 : decode cL_at 3 = .ok (.iload_n 1, 1) := by decide +kernel
theorem dL_at_4 : decode cL_at 4 = .ok (.irem, 1) := by decide +kernel
theorem dL_at_5 : decode cL_at 5 = .ok (.ireturn, 1) := by decide +kernel
theorem dL_hour_0 : decode cL_hour 0 = .ok (.iload_n 0, 1) := by decide +kernel
theorem dL_hour_1 : decode cL_hour 1 = .ok (.bipush 60, 2) := by decide +kernel
theorem dL_hour_3 : decode cL_hour 3 = .ok (.if_icmp .ge 8, 3) := by decide +kernel
theorem dL_hour_6 : decode cL_hour 6 = .ok (.bipush 12, 2) := by decide +kernel
theorem dL_hour_8 : decode cL_hour 8 = .ok (.goto 7, 3) := by decide +kernel
theorem dL_hour_11 : decode cL_hour 11 = .ok (.iload_n 0, 1) := by decide +kernel
theorem dL_hour_12 : decode cL_hour 12 = .ok (.bipush 60, 2) := by decide +kernel
theorem dL_hour_14 : decode cL_hour 14 = .ok (.idiv, 1) := by decide +kernel
theorem dL_hour_15 : decode cL_hour 15 = .ok (.ireturn, 1) := by decide +kernel
theorem dL_silent_0 : decode cL_silent 0 = .ok (.iconst 0, 1) := by decide +kernel
theorem dL_silent_1 : decode cL_silent 1 = .ok (.istore_n 2, 1) := by decide +kernel
theorem dL_silent_2 : decode cL_silent 2 = .ok (.aload_n 1, 1) := by decide +kernel
theorem dL_silent_3 : decode cL_silent 3 = .ok (.iconst 4, 1) := by decide +kernel
theorem dL_silent_4 : decode cL_silent 4 = .ok (.iaload, 1) := by decide +kernel
theorem dL_silent_5 : decode cL_silent 5 = .ok (.ifCond .le 39, 3) := by decide +kernel
theorem dL_silent_8 : decode cL_silent 8 = .ok (.iload_n 2, 1) := by decide +kernel
theorem dL_silent_9 : decode cL_silent 9 = .ok (.aload_n 1, 1) := by decide +kernel
theorem dL_silent_10 : decode cL_silent 10 = .ok (.iconst 5, 1) := by decide +kernel
theorem dL_silent_11 : decode cL_silent 11 = .ok (.iaload, 1) := by decide +kernel
theorem dL_silent_12 : decode cL_silent 12 = .ok (.if_icmp .ge 32, 3) := by decide +kernel
theorem dL_silent_15 : decode cL_silent 15 = .ok (.aload_n 1, 1) := by decide +kernel
theorem dL_silent_16 : decode cL_silent 16 = .ok (.iconst 4, 1) := by decide +kernel
theorem dL_silent_17 : decode cL_silent 17 = .ok (.iaload, 1) := by decide +kernel
theorem dL_silent_18 : decode cL_silent 18 = .ok (.iconst 1, 1) := by decide +kernel
theorem dL_silent_19 : decode cL_silent 19 = .ok (.isub, 1) := by decide +kernel
theorem dL_silent_20 : decode cL_silent 20 = .ok (.iload_n 2, 1) := by decide +kernel
theorem dL_silent_21 : decode cL_silent 21 = .ok (.iadd, 1) := by decide +kernel
theorem dL_silent_22 : decode cL_silent 22 = .ok (.bipush 12, 2) := by decide +kernel
theorem dL_silent_24 : decode cL_silent 24 = .ok (.irem, 1) := by decide +kernel
theorem dL_silent_25 : decode cL_silent 25 = .ok (.iconst 1, 1) := by decide +kernel
theorem dL_silent_26 : decode cL_silent 26 = .ok (.iadd, 1) := by decide +kernel
theorem dL_silent_27 : decode cL_silent 27 = .ok (.aload_n 0, 1) := by decide +kernel
theorem dL_silent_28 : decode cL_silent 28 = .ok (.iconst 1, 1) := by decide +kernel
theorem dL_silent_29 : decode cL_silent 29 = .ok (.iaload, 1) := by decide +kernel
theorem dL_silent_30 : decode cL_silent 30 = .ok (.invokestatic 8, 3) := by decide +kernel
theorem dL_silent_33 : decode cL_silent 33 = .ok (.if_icmp .ne 5, 3) := by decide +kernel
theorem dL_silent_36 : decode cL_silent 36 = .ok (.iconst 1, 1) := by decide +kernel
theorem dL_silent_37 : decode cL_silent 37 = .ok (.ireturn, 1) := by decide +kernel
theorem dL_silent_38 : decode cL_silent 38 = .ok (.iinc 2 1, 3) := by decide +kernel
theorem dL_silent_41 : decode cL_silent 41 = .ok (.goto (-39), 3) := by decide +kernel
theorem dL_silent_44 : decode cL_silent 44 = .ok (.iconst 0, 1) := by decide +kernel
theorem dL_silent_45 : decode cL_silent 45 = .ok (.ireturn, 1) := by decide +kernel
theorem dL_drop_0 : decode cL_drop 0 = .ok (.iconst 2, 1) := by decide +kernel
theorem dL_drop_1 : decode cL_drop 1 = .ok (.istore_n 2, 1) := by decide +kernel
theorem dL_drop_2 : decode cL_drop 2 = .ok (.iload_n 2, 1) := by decide +kernel
theorem dL_drop_3 : decode cL_drop 3 = .ok (.iconst 2, 1) := by decide +kernel
theorem dL_drop_4 : decode cL_drop 4 = .ok (.aload_n 0, 1) := by decide +kernel
theorem dL_drop_5 : decode cL_drop 5 = .ok (.bipush 13, 2) := by decide +kernel
theorem dL_drop_7 : decode cL_drop 7 = .ok (.iaload, 1) := by decide +kernel
theorem dL_drop_8 : decode cL_drop 8 = .ok (.imul, 1) := by decide +kernel
theorem dL_drop_9 : decode cL_drop 9 = .ok (.if_icmp .ge 17, 3) := by decide +kernel
theorem dL_drop_12 : decode cL_drop 12 = .ok (.aload_n 1, 1) := by decide +kernel
theorem dL_drop_13 : decode cL_drop 13 = .ok (.iload_n 2, 1) := by decide +kernel
theorem dL_drop_14 : decode cL_drop 14 = .ok (.iconst 2, 1) := by decide +kernel
theorem dL_drop_15 : decode cL_drop 15 = .ok (.isub, 1) := by decide +kernel
theorem dL_drop_16 : decode cL_drop 16 = .ok (.aload_n 1, 1) := by decide +kernel
theorem dL_drop_17 : decode cL_drop 17 = .ok (.iload_n 2, 1) := by decide +kernel
theorem dL_drop_18 : decode cL_drop 18 = .ok (.iaload, 1) := by decide +kernel
theorem dL_drop_19 : decode cL_drop 19 = .ok (.iastore, 1) := by decide +kernel
theorem dL_drop_20 : decode cL_drop 20 = .ok (.iinc 2 1, 3) := by decide +kernel
theorem dL_drop_23 : decode cL_drop 23 = .ok (.goto (-21), 3) := by decide +kernel
theorem dL_drop_26 : decode cL_drop 26 = .ok (.aload_n 0, 1) := by decide +kernel
theorem dL_drop_27 : decode cL_drop 27 = .ok (.bipush 13, 2) := by decide +kernel
theorem dL_drop_29 : decode cL_drop 29 = .ok (.dup2, 1) := by decide +kernel
theorem dL_drop_30 : decode cL_drop 30 = .ok (.iaload, 1) := by decide +kernel
theorem dL_drop_31 : decode cL_drop 31 = .ok (.iconst 1, 1) := by decide +kernel
theorem dL_drop_32 : decode cL_drop 32 = .ok (.isub, 1) := by decide +kernel
theorem dL_drop_33 : decode cL_drop 33 = .ok (.iastore, 1) := by decide +kernel
theorem dL_drop_34 : decode cL_drop 34 = .ok (.return_, 1) := by decide +kernel
theorem dL_up_0 : decode cL_up 0 = .ok (.iconst 0, 1) := by decide +kernel
theorem dL_up_1 : decode cL_up 1 = .ok (.istore_n 3, 1) := by decide +kernel
theorem dL_up_2 : decode cL_up 2 = .ok (.iload_n 3, 1) := by decide +kernel
theorem dL_up_3 : decode cL_up 3 = .ok (.iload_n 1, 1) := by decide +kernel
theorem dL_up_4 : decode cL_up 4 = .ok (.if_icmp .ge 25, 3) := by decide +kernel
theorem dL_up_7 : decode cL_up 7 = .ok (.aload_n 2, 1) := by decide +kernel
theorem dL_up_8 : decode cL_up 8 = .ok (.iload_n 0, 1) := by decide +kernel
theorem dL_up_9 : decode cL_up 9 = .ok (.iaload, 1) := by decide +kernel
theorem dL_up_10 : decode cL_up 10 = .ok (.sipush 200, 3) := by decide +kernel
theorem dL_up_13 : decode cL_up 13 = .ok (.if_icmp .ge 16, 3) := by decide +kernel
theorem dL_up_16 : decode cL_up 16 = .ok (.aload_n 2, 1) := by decide +kernel
theorem dL_up_17 : decode cL_up 17 = .ok (.iload_n 0, 1) := by decide +kernel
theorem dL_up_18 : decode cL_up 18 = .ok (.dup2, 1) := by decide +kernel
theorem dL_up_19 : decode cL_up 19 = .ok (.iaload, 1) := by decide +kernel
theorem dL_up_20 : decode cL_up 20 = .ok (.iconst 1, 1) := by decide +kernel
theorem dL_up_21 : decode cL_up 21 = .ok (.iadd, 1) := by decide +kernel
theorem dL_up_22 : decode cL_up 22 = .ok (.iastore, 1) := by decide +kernel
theorem dL_up_23 : decode cL_up 23 = .ok (.iinc 3 1, 3) := by decide +kernel
theorem dL_up_26 : decode cL_up 26 = .ok (.goto (-24), 3) := by decide +kernel
theorem dL_up_29 : decode cL_up 29 = .ok (.aload_n 2, 1) := by decide +kernel
theorem dL_up_30 : decode cL_up 30 = .ok (.bipush 6, 2) := by decide +kernel
theorem dL_up_32 : decode cL_up 32 = .ok (.iload_n 0, 1) := by decide +kernel
theorem dL_up_33 : decode cL_up 33 = .ok (.iadd, 1) := by decide +kernel
theorem dL_up_34 : decode cL_up 34 = .ok (.dup2, 1) := by decide +kernel
theorem dL_up_35 : decode cL_up 35 = .ok (.iaload, 1) := by decide +kernel
theorem dL_up_36 : decode cL_up 36 = .ok (.iload_n 3, 1) := by decide +kernel
theorem dL_up_37 : decode cL_up 37 = .ok (.iadd, 1) := by decide +kernel
theorem dL_up_38 : decode cL_up 38 = .ok (.iastore, 1) := by decide +kernel
theorem dL_up_39 : decode cL_up 39 = .ok (.iload_n 3, 1) := by decide +kernel
theorem dL_up_40 : decode cL_up 40 = .ok (.ireturn, 1) := by decide +kernel
theorem dL_minute_0 : decode cL_minute 0 = .ok (.iconst (-1), 1) := by decide +kernel
theorem dL_minute_1 : decode cL_minute 1 = .ok (.istore 5, 2) := by decide +kernel
theorem dL_minute_3 : decode cL_minute 3 = .ok (.aload_n 0, 1) := by decide +kernel
theorem dL_minute_4 : decode cL_minute 4 = .ok (.bipush 12, 2) := by decide +kernel
theorem dL_minute_6 : decode cL_minute 6 = .ok (.iaload, 1) := by decide +kernel
theorem dL_minute_7 : decode cL_minute 7 = .ok (.iconst 1, 1) := by decide +kernel
theorem dL_minute_8 : decode cL_minute 8 = .ok (.isub, 1) := by decide +kernel
theorem dL_minute_9 : decode cL_minute 9 = .ok (.istore 6, 2) := by decide +kernel
theorem dL_minute_11 : decode cL_minute 11 = .ok (.iload 6, 2) := by decide +kernel
theorem dL_minute_13 : decode cL_minute 13 = .ok (.ifCond .lt 86, 3) := by decide +kernel
theorem dL_minute_16 : decode cL_minute 16 = .ok (.aload_n 3, 1) := by decide +kernel
theorem dL_minute_17 : decode cL_minute 17 = .ok (.iconst 5, 1) := by decide +kernel
theorem dL_minute_18 : decode cL_minute 18 = .ok (.iload 6, 2) := by decide +kernel
theorem dL_minute_20 : decode cL_minute 20 = .ok (.imul, 1) := by decide +kernel
theorem dL_minute_21 : decode cL_minute 21 = .ok (.iaload, 1) := by decide +kernel
theorem dL_minute_22 : decode cL_minute 22 = .ok (.iconst 1, 1) := by decide +kernel
theorem dL_minute_23 : decode cL_minute 23 = .ok (.if_icmp .ne 20, 3) := by decide +kernel
theorem dL_minute_26 : decode cL_minute 26 = .ok (.aload_n 0, 1) := by decide +kernel
theorem dL_minute_27 : decode cL_minute 27 = .ok (.bipush 13, 2) := by decide +kernel
theorem dL_minute_29 : decode cL_minute 29 = .ok (.iaload, 1) := by decide +kernel
theorem dL_minute_30 : decode cL_minute 30 = .ok (.ifCond .le 13, 3) := by decide +kernel
theorem dL_minute_33 : decode cL_minute 33 = .ok (.aload_n 1, 1) := by decide +kernel
theorem dL_minute_34 : decode cL_minute 34 = .ok (.iconst 1, 1) := by decide +kernel
theorem dL_minute_35 : decode cL_minute 35 = .ok (.iaload, 1) := by decide +kernel
theorem dL_minute_36 : decode cL_minute 36 = .ok (.ifCond .le 7, 3) := by decide +kernel
theorem dL_minute_39 : decode cL_minute 39 = .ok (.iconst 1, 1) := by decide +kernel
theorem dL_minute_40 : decode cL_minute 40 = .ok (.goto 4, 3) := by decide +kernel
theorem dL_minute_43 : decode cL_minute 43 = .ok (.iconst 0, 1) := by decide +kernel
theorem dL_minute_44 : decode cL_minute 44 = .ok (.istore 7, 2) := by decide +kernel
theorem dL_minute_46 : decode cL_minute 46 = .ok (.aload_n 3, 1) := by decide +kernel
theorem dL_minute_47 : decode cL_minute 47 = .ok (.iconst 5, 1) := by decide +kernel
theorem dL_minute_48 : decode cL_minute 48 = .ok (.iload 6, 2) := by decide +kernel
theorem dL_minute_50 : decode cL_minute 50 = .ok (.imul, 1) := by decide +kernel
theorem dL_minute_51 : decode cL_minute 51 = .ok (.iconst 3, 1) := by decide +kernel
theorem dL_minute_52 : decode cL_minute 52 = .ok (.iadd, 1) := by decide +kernel
theorem dL_minute_53 : decode cL_minute 53 = .ok (.iaload, 1) := by decide +kernel
theorem dL_minute_54 : decode cL_minute 54 = .ok (.aload_n 0, 1) := by decide +kernel
theorem dL_minute_55 : decode cL_minute 55 = .ok (.iconst 0, 1) := by decide +kernel
theorem dL_minute_56 : decode cL_minute 56 = .ok (.iaload, 1) := by decide +kernel
theorem dL_minute_57 : decode cL_minute 57 = .ok (.if_icmp .gt 36, 3) := by decide +kernel
theorem dL_minute_60 : decode cL_minute 60 = .ok (.iload 7, 2) := by decide +kernel
theorem dL_minute_62 : decode cL_minute 62 = .ok (.ifCond .ne 31, 3) := by decide +kernel
theorem dL_minute_65 : decode cL_minute 65 = .ok (.iload 5, 2) := by decide +kernel
theorem dL_minute_67 : decode cL_minute 67 = .ok (.ifCond .lt 22, 3) := by decide +kernel
theorem dL_minute_70 : decode cL_minute 70 = .ok (.aload_n 3, 1) := by decide +kernel
theorem dL_minute_71 : decode cL_minute 71 = .ok (.iconst 5, 1) := by decide +kernel
theorem dL_minute_72 : decode cL_minute 72 = .ok (.iload 6, 2) := by decide +kernel
theorem dL_minute_74 : decode cL_minute 74 = .ok (.imul, 1) := by decide +kernel
theorem dL_minute_75 : decode cL_minute 75 = .ok (.iconst 3, 1) := by decide +kernel
theorem dL_minute_76 : decode cL_minute 76 = .ok (.iadd, 1) := by decide +kernel
theorem dL_minute_77 : decode cL_minute 77 = .ok (.iaload, 1) := by decide +kernel
theorem dL_minute_78 : decode cL_minute 78 = .ok (.aload_n 3, 1) := by decide +kernel
theorem dL_minute_79 : decode cL_minute 79 = .ok (.iconst 5, 1) := by decide +kernel
theorem dL_minute_80 : decode cL_minute 80 = .ok (.iload 5, 2) := by decide +kernel
theorem dL_minute_82 : decode cL_minute 82 = .ok (.imul, 1) := by decide +kernel
theorem dL_minute_83 : decode cL_minute 83 = .ok (.iconst 3, 1) := by decide +kernel
theorem dL_minute_84 : decode cL_minute 84 = .ok (.iadd, 1) := by decide +kernel
theorem dL_minute_85 : decode cL_minute 85 = .ok (.iaload, 1) := by decide +kernel
theorem dL_minute_86 : decode cL_minute 86 = .ok (.if_icmp .gt 7, 3) := by decide +kernel
theorem dL_minute_89 : decode cL_minute 89 = .ok (.iload 6, 2) := by decide +kernel
theorem dL_minute_91 : decode cL_minute 91 = .ok (.istore 5, 2) := by decide +kernel
theorem dL_minute_93 : decode cL_minute 93 = .ok (.iinc 6 (-1), 3) := by decide +kernel
theorem dL_minute_96 : decode cL_minute 96 = .ok (.goto (-85), 3) := by decide +kernel
theorem dL_minute_99 : decode cL_minute 99 = .ok (.iload 5, 2) := by decide +kernel
theorem dL_minute_101 : decode cL_minute 101 = .ok (.ifCond .lt 54, 3) := by decide +kernel
theorem dL_minute_104 : decode cL_minute 104 = .ok (.aload_n 3, 1) := by decide +kernel
theorem dL_minute_105 : decode cL_minute 105 = .ok (.iconst 5, 1) := by decide +kernel
theorem dL_minute_106 : decode cL_minute 106 = .ok (.iload 5, 2) := by decide +kernel
theorem dL_minute_108 : decode cL_minute 108 = .ok (.imul, 1) := by decide +kernel
theorem dL_minute_109 : decode cL_minute 109 = .ok (.iaload, 1) := by decide +kernel
theorem dL_minute_110 : decode cL_minute 110 = .ok (.aload_n 3, 1) := by decide +kernel
theorem dL_minute_111 : decode cL_minute 111 = .ok (.iconst 5, 1) := by decide +kernel
theorem dL_minute_112 : decode cL_minute 112 = .ok (.iload 5, 2) := by decide +kernel
theorem dL_minute_114 : decode cL_minute 114 = .ok (.imul, 1) := by decide +kernel
theorem dL_minute_115 : decode cL_minute 115 = .ok (.iconst 1, 1) := by decide +kernel
theorem dL_minute_116 : decode cL_minute 116 = .ok (.iadd, 1) := by decide +kernel
theorem dL_minute_117 : decode cL_minute 117 = .ok (.iaload, 1) := by decide +kernel
theorem dL_minute_118 : decode cL_minute 118 = .ok (.aload_n 1, 1) := by decide +kernel
theorem dL_minute_119 : decode cL_minute 119 = .ok (.invokestatic 14, 3) := by decide +kernel
theorem dL_minute_122 : decode cL_minute 122 = .ok (.pop, 1) := by decide +kernel
theorem dL_minute_123 : decode cL_minute 123 = .ok (.aload_n 3, 1) := by decide +kernel
theorem dL_minute_124 : decode cL_minute 124 = .ok (.iconst 5, 1) := by decide +kernel
theorem dL_minute_125 : decode cL_minute 125 = .ok (.iload 5, 2) := by decide +kernel
theorem dL_minute_127 : decode cL_minute 127 = .ok (.imul, 1) := by decide +kernel
theorem dL_minute_128 : decode cL_minute 128 = .ok (.iconst 3, 1) := by decide +kernel
theorem dL_minute_129 : decode cL_minute 129 = .ok (.iadd, 1) := by decide +kernel
theorem dL_minute_130 : decode cL_minute 130 = .ok (.aload_n 0, 1) := by decide +kernel
theorem dL_minute_131 : decode cL_minute 131 = .ok (.iconst 0, 1) := by decide +kernel
theorem dL_minute_132 : decode cL_minute 132 = .ok (.iaload, 1) := by decide +kernel
theorem dL_minute_133 : decode cL_minute 133 = .ok (.aload_n 3, 1) := by decide +kernel
theorem dL_minute_134 : decode cL_minute 134 = .ok (.iconst 5, 1) := by decide +kernel
theorem dL_minute_135 : decode cL_minute 135 = .ok (.iload 5, 2) := by decide +kernel
theorem dL_minute_137 : decode cL_minute 137 = .ok (.imul, 1) := by decide +kernel
theorem dL_minute_138 : decode cL_minute 138 = .ok (.iconst 2, 1) := by decide +kernel
theorem dL_minute_139 : decode cL_minute 139 = .ok (.iadd, 1) := by decide +kernel
theorem dL_minute_140 : decode cL_minute 140 = .ok (.iaload, 1) := by decide +kernel
theorem dL_minute_141 : decode cL_minute 141 = .ok (.iadd, 1) := by decide +kernel
theorem dL_minute_142 : decode cL_minute 142 = .ok (.iastore, 1) := by decide +kernel
theorem dL_minute_143 : decode cL_minute 143 = .ok (.aload_n 3, 1) := by decide +kernel
theorem dL_minute_144 : decode cL_minute 144 = .ok (.iconst 5, 1) := by decide +kernel
theorem dL_minute_145 : decode cL_minute 145 = .ok (.iload 5, 2) := by decide +kernel
theorem dL_minute_147 : decode cL_minute 147 = .ok (.imul, 1) := by decide +kernel
theorem dL_minute_148 : decode cL_minute 148 = .ok (.iconst 4, 1) := by decide +kernel
theorem dL_minute_149 : decode cL_minute 149 = .ok (.iadd, 1) := by decide +kernel
theorem dL_minute_150 : decode cL_minute 150 = .ok (.dup2, 1) := by decide +kernel
theorem dL_minute_151 : decode cL_minute 151 = .ok (.iaload, 1) := by decide +kernel
theorem dL_minute_152 : decode cL_minute 152 = .ok (.iconst 1, 1) := by decide +kernel
theorem dL_minute_153 : decode cL_minute 153 = .ok (.iadd, 1) := by decide +kernel
theorem dL_minute_154 : decode cL_minute 154 = .ok (.iastore, 1) := by decide +kernel
theorem dL_minute_155 : decode cL_minute 155 = .ok (.aload_n 0, 1) := by decide +kernel
theorem dL_minute_156 : decode cL_minute 156 = .ok (.iconst 2, 1) := by decide +kernel
theorem dL_minute_157 : decode cL_minute 157 = .ok (.iaload, 1) := by decide +kernel
theorem dL_minute_158 : decode cL_minute 158 = .ok (.aload_n 2, 1) := by decide +kernel
theorem dL_minute_159 : decode cL_minute 159 = .ok (.iconst 1, 1) := by decide +kernel
theorem dL_minute_160 : decode cL_minute 160 = .ok (.iaload, 1) := by decide +kernel
theorem dL_minute_161 : decode cL_minute 161 = .ok (.if_icmp .gt 26, 3) := by decide +kernel
theorem dL_minute_164 : decode cL_minute 164 = .ok (.aload_n 0, 1) := by decide +kernel
theorem dL_minute_165 : decode cL_minute 165 = .ok (.iconst 2, 1) := by decide +kernel
theorem dL_minute_166 : decode cL_minute 166 = .ok (.iaload, 1) := by decide +kernel
theorem dL_minute_167 : decode cL_minute 167 = .ok (.aload_n 2, 1) := by decide +kernel
theorem dL_minute_168 : decode cL_minute 168 = .ok (.iconst 0, 1) := by decide +kernel
theorem dL_minute_169 : decode cL_minute 169 = .ok (.iaload, 1) := by decide +kernel
theorem dL_minute_170 : decode cL_minute 170 = .ok (.if_icmp .ge 17, 3) := by decide +kernel
theorem dL_minute_173 : decode cL_minute 173 = .ok (.aload_n 1, 1) := by decide +kernel
theorem dL_minute_174 : decode cL_minute 174 = .ok (.iconst 0, 1) := by decide +kernel
theorem dL_minute_175 : decode cL_minute 175 = .ok (.iaload, 1) := by decide +kernel
theorem dL_minute_176 : decode cL_minute 176 = .ok (.ifCond .le 11, 3) := by decide +kernel
theorem dL_minute_179 : decode cL_minute 179 = .ok (.aload_n 0, 1) := by decide +kernel
theorem dL_minute_180 : decode cL_minute 180 = .ok (.bipush 11, 2) := by decide +kernel
theorem dL_minute_182 : decode cL_minute 182 = .ok (.dup2, 1) := by decide +kernel
theorem dL_minute_183 : decode cL_minute 183 = .ok (.iaload, 1) := by decide +kernel
theorem dL_minute_184 : decode cL_minute 184 = .ok (.iconst 1, 1) := by decide +kernel
theorem dL_minute_185 : decode cL_minute 185 = .ok (.iadd, 1) := by decide +kernel
theorem dL_minute_186 : decode cL_minute 186 = .ok (.iastore, 1) := by decide +kernel
theorem dL_minute_187 : decode cL_minute 187 = .ok (.aload_n 0, 1) := by decide +kernel
theorem dL_minute_188 : decode cL_minute 188 = .ok (.iconst 2, 1) := by decide +kernel
theorem dL_minute_189 : decode cL_minute 189 = .ok (.iaload, 1) := by decide +kernel
theorem dL_minute_190 : decode cL_minute 190 = .ok (.aload_n 2, 1) := by decide +kernel
theorem dL_minute_191 : decode cL_minute 191 = .ok (.iconst 1, 1) := by decide +kernel
theorem dL_minute_192 : decode cL_minute 192 = .ok (.iaload, 1) := by decide +kernel
theorem dL_minute_193 : decode cL_minute 193 = .ok (.if_icmp .gt 42, 3) := by decide +kernel
theorem dL_minute_196 : decode cL_minute 196 = .ok (.aload_n 0, 1) := by decide +kernel
theorem dL_minute_197 : decode cL_minute 197 = .ok (.iconst 2, 1) := by decide +kernel
theorem dL_minute_198 : decode cL_minute 198 = .ok (.iaload, 1) := by decide +kernel
theorem dL_minute_199 : decode cL_minute 199 = .ok (.aload_n 2, 1) := by decide +kernel
theorem dL_minute_200 : decode cL_minute 200 = .ok (.iconst 0, 1) := by decide +kernel
theorem dL_minute_201 : decode cL_minute 201 = .ok (.iaload, 1) := by decide +kernel
theorem dL_minute_202 : decode cL_minute 202 = .ok (.if_icmp .ge 33, 3) := by decide +kernel
theorem dL_minute_205 : decode cL_minute 205 = .ok (.aload_n 1, 1) := by decide +kernel
theorem dL_minute_206 : decode cL_minute 206 = .ok (.iconst 0, 1) := by decide +kernel
theorem dL_minute_207 : decode cL_minute 207 = .ok (.iaload, 1) := by decide +kernel
theorem dL_minute_208 : decode cL_minute 208 = .ok (.ifCond .le 27, 3) := by decide +kernel
theorem dL_minute_211 : decode cL_minute 211 = .ok (.aload_n 0, 1) := by decide +kernel
theorem dL_minute_212 : decode cL_minute 212 = .ok (.iconst 2, 1) := by decide +kernel
theorem dL_minute_213 : decode cL_minute 213 = .ok (.dup2, 1) := by decide +kernel
theorem dL_minute_214 : decode cL_minute 214 = .ok (.iaload, 1) := by decide +kernel
theorem dL_minute_215 : decode cL_minute 215 = .ok (.iconst 1, 1) := by decide +kernel
theorem dL_minute_216 : decode cL_minute 216 = .ok (.iadd, 1) := by decide +kernel
theorem dL_minute_217 : decode cL_minute 217 = .ok (.iastore, 1) := by decide +kernel
theorem dL_minute_218 : decode cL_minute 218 = .ok (.aload_n 1, 1) := by decide +kernel
theorem dL_minute_219 : decode cL_minute 219 = .ok (.iconst 0, 1) := by decide +kernel
theorem dL_minute_220 : decode cL_minute 220 = .ok (.dup2, 1) := by decide +kernel
theorem dL_minute_221 : decode cL_minute 221 = .ok (.iaload, 1) := by decide +kernel
theorem dL_minute_222 : decode cL_minute 222 = .ok (.iconst 1, 1) := by decide +kernel
theorem dL_minute_223 : decode cL_minute 223 = .ok (.isub, 1) := by decide +kernel
theorem dL_minute_224 : decode cL_minute 224 = .ok (.iastore, 1) := by decide +kernel
theorem dL_minute_225 : decode cL_minute 225 = .ok (.aload_n 1, 1) := by decide +kernel
theorem dL_minute_226 : decode cL_minute 226 = .ok (.iconst 3, 1) := by decide +kernel
theorem dL_minute_227 : decode cL_minute 227 = .ok (.dup2, 1) := by decide +kernel
theorem dL_minute_228 : decode cL_minute 228 = .ok (.iaload, 1) := by decide +kernel
theorem dL_minute_229 : decode cL_minute 229 = .ok (.iconst 1, 1) := by decide +kernel
theorem dL_minute_230 : decode cL_minute 230 = .ok (.iadd, 1) := by decide +kernel
theorem dL_minute_231 : decode cL_minute 231 = .ok (.iastore, 1) := by decide +kernel
theorem dL_minute_232 : decode cL_minute 232 = .ok (.goto (-36), 3) := by decide +kernel
theorem dL_minute_235 : decode cL_minute 235 = .ok (.aload_n 0, 1) := by decide +kernel
theorem dL_minute_236 : decode cL_minute 236 = .ok (.iconst 2, 1) := by decide +kernel
theorem dL_minute_237 : decode cL_minute 237 = .ok (.iaload, 1) := by decide +kernel
theorem dL_minute_238 : decode cL_minute 238 = .ok (.ifCond .le 20, 3) := by decide +kernel
theorem dL_minute_241 : decode cL_minute 241 = .ok (.aload_n 0, 1) := by decide +kernel
theorem dL_minute_242 : decode cL_minute 242 = .ok (.iconst 3, 1) := by decide +kernel
theorem dL_minute_243 : decode cL_minute 243 = .ok (.iaload, 1) := by decide +kernel
theorem dL_minute_244 : decode cL_minute 244 = .ok (.aload_n 0, 1) := by decide +kernel
theorem dL_minute_245 : decode cL_minute 245 = .ok (.iconst 4, 1) := by decide +kernel
theorem dL_minute_246 : decode cL_minute 246 = .ok (.iaload, 1) := by decide +kernel
theorem dL_minute_247 : decode cL_minute 247 = .ok (.iadd, 1) := by decide +kernel
theorem dL_minute_248 : decode cL_minute 248 = .ok (.aload_n 2, 1) := by decide +kernel
theorem dL_minute_249 : decode cL_minute 249 = .ok (.iconst 2, 1) := by decide +kernel
theorem dL_minute_250 : decode cL_minute 250 = .ok (.iaload, 1) := by decide +kernel
theorem dL_minute_251 : decode cL_minute 251 = .ok (.if_icmp .gt 7, 3) := by decide +kernel
theorem dL_minute_254 : decode cL_minute 254 = .ok (.iconst 1, 1) := by decide +kernel
theorem dL_minute_255 : decode cL_minute 255 = .ok (.goto 4, 3) := by decide +kernel
theorem dL_minute_258 : decode cL_minute 258 = .ok (.iconst 0, 1) := by decide +kernel
theorem dL_minute_259 : decode cL_minute 259 = .ok (.istore 6, 2) := by decide +kernel
theorem dL_minute_261 : decode cL_minute 261 = .ok (.aload_n 0, 1) := by decide +kernel
theorem dL_minute_262 : decode cL_minute 262 = .ok (.iconst 2, 1) := by decide +kernel
theorem dL_minute_263 : decode cL_minute 263 = .ok (.iaload, 1) := by decide +kernel
theorem dL_minute_264 : decode cL_minute 264 = .ok (.ifCond .ne 14, 3) := by decide +kernel
theorem dL_minute_267 : decode cL_minute 267 = .ok (.aload_n 0, 1) := by decide +kernel
theorem dL_minute_268 : decode cL_minute 268 = .ok (.bipush 10, 2) := by decide +kernel
theorem dL_minute_270 : decode cL_minute 270 = .ok (.dup2, 1) := by decide +kernel
theorem dL_minute_271 : decode cL_minute 271 = .ok (.iaload, 1) := by decide +kernel
theorem dL_minute_272 : decode cL_minute 272 = .ok (.iconst 1, 1) := by decide +kernel
theorem dL_minute_273 : decode cL_minute 273 = .ok (.iadd, 1) := by decide +kernel
theorem dL_minute_274 : decode cL_minute 274 = .ok (.iastore, 1) := by decide +kernel
theorem dL_minute_275 : decode cL_minute 275 = .ok (.goto 59, 3) := by decide +kernel
theorem dL_minute_278 : decode cL_minute 278 = .ok (.aload_n 0, 1) := by decide +kernel
theorem dL_minute_279 : decode cL_minute 279 = .ok (.iconst 2, 1) := by decide +kernel
theorem dL_minute_280 : decode cL_minute 280 = .ok (.dup2, 1) := by decide +kernel
theorem dL_minute_281 : decode cL_minute 281 = .ok (.iaload, 1) := by decide +kernel
theorem dL_minute_282 : decode cL_minute 282 = .ok (.iconst 1, 1) := by decide +kernel
theorem dL_minute_283 : decode cL_minute 283 = .ok (.isub, 1) := by decide +kernel
theorem dL_minute_284 : decode cL_minute 284 = .ok (.iastore, 1) := by decide +kernel
theorem dL_minute_285 : decode cL_minute 285 = .ok (.iload 6, 2) := by decide +kernel
theorem dL_minute_287 : decode cL_minute 287 = .ok (.ifCond .eq 18, 3) := by decide +kernel
theorem dL_minute_290 : decode cL_minute 290 = .ok (.aload_n 0, 1) := by decide +kernel
theorem dL_minute_291 : decode cL_minute 291 = .ok (.iconst 1, 1) := by decide +kernel
theorem dL_minute_292 : decode cL_minute 292 = .ok (.aload_n 0, 1) := by decide +kernel
theorem dL_minute_293 : decode cL_minute 293 = .ok (.iconst 1, 1) := by decide +kernel
theorem dL_minute_294 : decode cL_minute 294 = .ok (.iaload, 1) := by decide +kernel
theorem dL_minute_295 : decode cL_minute 295 = .ok (.iconst 1, 1) := by decide +kernel
theorem dL_minute_296 : decode cL_minute 296 = .ok (.iadd, 1) := by decide +kernel
theorem dL_minute_297 : decode cL_minute 297 = .ok (.sipush 720, 3) := by decide +kernel
theorem dL_minute_300 : decode cL_minute 300 = .ok (.irem, 1) := by decide +kernel
theorem dL_minute_301 : decode cL_minute 301 = .ok (.iastore, 1) := by decide +kernel
theorem dL_minute_302 : decode cL_minute 302 = .ok (.goto 32, 3) := by decide +kernel
theorem dL_minute_305 : decode cL_minute 305 = .ok (.aload_n 0, 1) := by decide +kernel
theorem dL_minute_306 : decode cL_minute 306 = .ok (.bipush 9, 2) := by decide +kernel
theorem dL_minute_308 : decode cL_minute 308 = .ok (.dup2, 1) := by decide +kernel
theorem dL_minute_309 : decode cL_minute 309 = .ok (.iaload, 1) := by decide +kernel
theorem dL_minute_310 : decode cL_minute 310 = .ok (.iconst 1, 1) := by decide +kernel
theorem dL_minute_311 : decode cL_minute 311 = .ok (.iadd, 1) := by decide +kernel
theorem dL_minute_312 : decode cL_minute 312 = .ok (.dup_x2, 1) := by decide +kernel
theorem dL_minute_313 : decode cL_minute 313 = .ok (.iastore, 1) := by decide +kernel
theorem dL_minute_314 : decode cL_minute 314 = .ok (.iconst 5, 1) := by decide +kernel
theorem dL_minute_315 : decode cL_minute 315 = .ok (.irem, 1) := by decide +kernel
theorem dL_minute_316 : decode cL_minute 316 = .ok (.ifCond .ne 18, 3) := by decide +kernel
theorem dL_minute_319 : decode cL_minute 319 = .ok (.aload_n 0, 1) := by decide +kernel
theorem dL_minute_320 : decode cL_minute 320 = .ok (.iconst 4, 1) := by decide +kernel
theorem dL_minute_321 : decode cL_minute 321 = .ok (.iaload, 1) := by decide +kernel
theorem dL_minute_322 : decode cL_minute 322 = .ok (.bipush 20, 2) := by decide +kernel
theorem dL_minute_324 : decode cL_minute 324 = .ok (.if_icmp .ge 10, 3) := by decide +kernel
theorem dL_minute_327 : decode cL_minute 327 = .ok (.aload_n 0, 1) := by decide +kernel
theorem dL_minute_328 : decode cL_minute 328 = .ok (.iconst 4, 1) := by decide +kernel
theorem dL_minute_329 : decode cL_minute 329 = .ok (.dup2, 1) := by decide +kernel
theorem dL_minute_330 : decode cL_minute 330 = .ok (.iaload, 1) := by decide +kernel
theorem dL_minute_331 : decode cL_minute 331 = .ok (.iconst 1, 1) := by decide +kernel
theorem dL_minute_332 : decode cL_minute 332 = .ok (.iadd, 1) := by decide +kernel
theorem dL_minute_333 : decode cL_minute 333 = .ok (.iastore, 1) := by decide +kernel
theorem dL_minute_334 : decode cL_minute 334 = .ok (.aload_n 0, 1) := by decide +kernel
theorem dL_minute_335 : decode cL_minute 335 = .ok (.aload_n 2, 1) := by decide +kernel
theorem dL_minute_336 : decode cL_minute 336 = .ok (.invokestatic 18, 3) := by decide +kernel
theorem dL_minute_339 : decode cL_minute 339 = .ok (.istore 7, 2) := by decide +kernel
theorem dL_minute_341 : decode cL_minute 341 = .ok (.aload_n 0, 1) := by decide +kernel
theorem dL_minute_342 : decode cL_minute 342 = .ok (.iconst 1, 1) := by decide +kernel
theorem dL_minute_343 : decode cL_minute 343 = .ok (.iaload, 1) := by decide +kernel
theorem dL_minute_344 : decode cL_minute 344 = .ok (.bipush 60, 2) := by decide +kernel
theorem dL_minute_346 : decode cL_minute 346 = .ok (.irem, 1) := by decide +kernel
theorem dL_minute_347 : decode cL_minute 347 = .ok (.ifCond .ne 7, 3) := by decide +kernel
theorem dL_minute_350 : decode cL_minute 350 = .ok (.iconst 4, 1) := by decide +kernel
theorem dL_minute_351 : decode cL_minute 351 = .ok (.goto 12, 3) := by decide +kernel
theorem dL_minute_354 : decode cL_minute 354 = .ok (.aload_n 0, 1) := by decide +kernel
theorem dL_minute_355 : decode cL_minute 355 = .ok (.iconst 1, 1) := by decide +kernel
theorem dL_minute_356 : decode cL_minute 356 = .ok (.iaload, 1) := by decide +kernel
theorem dL_minute_357 : decode cL_minute 357 = .ok (.bipush 60, 2) := by decide +kernel
theorem dL_minute_359 : decode cL_minute 359 = .ok (.irem, 1) := by decide +kernel
theorem dL_minute_360 : decode cL_minute 360 = .ok (.bipush 15, 2) := by decide +kernel
theorem dL_minute_362 : decode cL_minute 362 = .ok (.idiv, 1) := by decide +kernel
theorem dL_minute_363 : decode cL_minute 363 = .ok (.istore 8, 2) := by decide +kernel
theorem dL_minute_365 : decode cL_minute 365 = .ok (.iconst 0, 1) := by decide +kernel
theorem dL_minute_366 : decode cL_minute 366 = .ok (.istore 9, 2) := by decide +kernel
theorem dL_minute_368 : decode cL_minute 368 = .ok (.iload 6, 2) := by decide +kernel
theorem dL_minute_370 : decode cL_minute 370 = .ok (.ifCond .eq 70, 3) := by decide +kernel
theorem dL_minute_373 : decode cL_minute 373 = .ok (.iload 7, 2) := by decide +kernel
theorem dL_minute_375 : decode cL_minute 375 = .ok (.ifCond .ne 65, 3) := by decide +kernel
theorem dL_minute_378 : decode cL_minute 378 = .ok (.aload_n 0, 1) := by decide +kernel
theorem dL_minute_379 : decode cL_minute 379 = .ok (.iconst 1, 1) := by decide +kernel
theorem dL_minute_380 : decode cL_minute 380 = .ok (.iaload, 1) := by decide +kernel
theorem dL_minute_381 : decode cL_minute 381 = .ok (.bipush 15, 2) := by decide +kernel
theorem dL_minute_383 : decode cL_minute 383 = .ok (.irem, 1) := by decide +kernel
theorem dL_minute_384 : decode cL_minute 384 = .ok (.ifCond .ne 56, 3) := by decide +kernel
theorem dL_minute_387 : decode cL_minute 387 = .ok (.iload 9, 2) := by decide +kernel
theorem dL_minute_389 : decode cL_minute 389 = .ok (.iload 8, 2) := by decide +kernel
theorem dL_minute_391 : decode cL_minute 391 = .ok (.if_icmp .ge 49, 3) := by decide +kernel
theorem dL_minute_394 : decode cL_minute 394 = .ok (.aload_n 1, 1) := by decide +kernel
theorem dL_minute_395 : decode cL_minute 395 = .ok (.iconst 2, 1) := by decide +kernel
theorem dL_minute_396 : decode cL_minute 396 = .ok (.iaload, 1) := by decide +kernel
theorem dL_minute_397 : decode cL_minute 397 = .ok (.iconst 2, 1) := by decide +kernel
theorem dL_minute_398 : decode cL_minute 398 = .ok (.if_icmp .ge 14, 3) := by decide +kernel
theorem dL_minute_401 : decode cL_minute 401 = .ok (.aload_n 0, 1) := by decide +kernel
theorem dL_minute_402 : decode cL_minute 402 = .ok (.bipush 8, 2) := by decide +kernel
theorem dL_minute_404 : decode cL_minute 404 = .ok (.dup2, 1) := by decide +kernel
theorem dL_minute_405 : decode cL_minute 405 = .ok (.iaload, 1) := by decide +kernel
theorem dL_minute_406 : decode cL_minute 406 = .ok (.iconst 1, 1) := by decide +kernel
theorem dL_minute_407 : decode cL_minute 407 = .ok (.iadd, 1) := by decide +kernel
theorem dL_minute_408 : decode cL_minute 408 = .ok (.iastore, 1) := by decide +kernel
theorem dL_minute_409 : decode cL_minute 409 = .ok (.goto 25, 3) := by decide +kernel
theorem dL_minute_412 : decode cL_minute 412 = .ok (.aload_n 1, 1) := by decide +kernel
theorem dL_minute_413 : decode cL_minute 413 = .ok (.iconst 2, 1) := by decide +kernel
theorem dL_minute_414 : decode cL_minute 414 = .ok (.dup2, 1) := by decide +kernel
theorem dL_minute_415 : decode cL_minute 415 = .ok (.iaload, 1) := by decide +kernel
theorem dL_minute_416 : decode cL_minute 416 = .ok (.iconst 2, 1) := by decide +kernel
theorem dL_minute_417 : decode cL_minute 417 = .ok (.isub, 1) := by decide +kernel
theorem dL_minute_418 : decode cL_minute 418 = .ok (.iastore, 1) := by decide +kernel
theorem dL_minute_419 : decode cL_minute 419 = .ok (.aload_n 1, 1) := by decide +kernel
theorem dL_minute_420 : decode cL_minute 420 = .ok (.iconst 5, 1) := by decide +kernel
theorem dL_minute_421 : decode cL_minute 421 = .ok (.dup2, 1) := by decide +kernel
theorem dL_minute_422 : decode cL_minute 422 = .ok (.iaload, 1) := by decide +kernel
theorem dL_minute_423 : decode cL_minute 423 = .ok (.iconst 2, 1) := by decide +kernel
theorem dL_minute_424 : decode cL_minute 424 = .ok (.iadd, 1) := by decide +kernel
theorem dL_minute_425 : decode cL_minute 425 = .ok (.iastore, 1) := by decide +kernel
theorem dL_minute_426 : decode cL_minute 426 = .ok (.aload_n 0, 1) := by decide +kernel
theorem dL_minute_427 : decode cL_minute 427 = .ok (.bipush 7, 2) := by decide +kernel
theorem dL_minute_429 : decode cL_minute 429 = .ok (.dup2, 1) := by decide +kernel
theorem dL_minute_430 : decode cL_minute 430 = .ok (.iaload, 1) := by decide +kernel
theorem dL_minute_431 : decode cL_minute 431 = .ok (.iconst 1, 1) := by decide +kernel
theorem dL_minute_432 : decode cL_minute 432 = .ok (.iadd, 1) := by decide +kernel
theorem dL_minute_433 : decode cL_minute 433 = .ok (.iastore, 1) := by decide +kernel
theorem dL_minute_434 : decode cL_minute 434 = .ok (.iinc 9 1, 3) := by decide +kernel
theorem dL_minute_437 : decode cL_minute 437 = .ok (.goto (-69), 3) := by decide +kernel
theorem dL_minute_440 : decode cL_minute 440 = .ok (.iload 6, 2) := by decide +kernel
theorem dL_minute_442 : decode cL_minute 442 = .ok (.ifCond .eq 30, 3) := by decide +kernel
theorem dL_minute_445 : decode cL_minute 445 = .ok (.aload_n 0, 1) := by decide +kernel
theorem dL_minute_446 : decode cL_minute 446 = .ok (.iconst 1, 1) := by decide +kernel
theorem dL_minute_447 : decode cL_minute 447 = .ok (.iaload, 1) := by decide +kernel
theorem dL_minute_448 : decode cL_minute 448 = .ok (.bipush 60, 2) := by decide +kernel
theorem dL_minute_450 : decode cL_minute 450 = .ok (.irem, 1) := by decide +kernel
theorem dL_minute_451 : decode cL_minute 451 = .ok (.ifCond .ne 21, 3) := by decide +kernel
theorem dL_minute_454 : decode cL_minute 454 = .ok (.iload 7, 2) := by decide +kernel
theorem dL_minute_456 : decode cL_minute 456 = .ok (.ifCond .eq 16, 3) := by decide +kernel
theorem dL_minute_459 : decode cL_minute 459 = .ok (.aload_n 0, 1) := by decide +kernel
theorem dL_minute_460 : decode cL_minute 460 = .ok (.bipush 6, 2) := by decide +kernel
theorem dL_minute_462 : decode cL_minute 462 = .ok (.dup2, 1) := by decide +kernel
theorem dL_minute_463 : decode cL_minute 463 = .ok (.iaload, 1) := by decide +kernel
theorem dL_minute_464 : decode cL_minute 464 = .ok (.aload_n 0, 1) := by decide +kernel
theorem dL_minute_465 : decode cL_minute 465 = .ok (.iconst 1, 1) := by decide +kernel
theorem dL_minute_466 : decode cL_minute 466 = .ok (.iaload, 1) := by decide +kernel
theorem dL_minute_467 : decode cL_minute 467 = .ok (.invokestatic 8, 3) := by decide +kernel
theorem dL_minute_470 : decode cL_minute 470 = .ok (.iadd, 1) := by decide +kernel
theorem dL_minute_471 : decode cL_minute 471 = .ok (.iastore, 1) := by decide +kernel
theorem dL_minute_472 : decode cL_minute 472 = .ok (.iload 6, 2) := by decide +kernel
theorem dL_minute_474 : decode cL_minute 474 = .ok (.ifCond .eq 82, 3) := by decide +kernel
theorem dL_minute_477 : decode cL_minute 477 = .ok (.aload_n 0, 1) := by decide +kernel
theorem dL_minute_478 : decode cL_minute 478 = .ok (.iconst 1, 1) := by decide +kernel
theorem dL_minute_479 : decode cL_minute 479 = .ok (.iaload, 1) := by decide +kernel
theorem dL_minute_480 : decode cL_minute 480 = .ok (.bipush 60, 2) := by decide +kernel
theorem dL_minute_482 : decode cL_minute 482 = .ok (.irem, 1) := by decide +kernel
theorem dL_minute_483 : decode cL_minute 483 = .ok (.ifCond .ne 73, 3) := by decide +kernel
theorem dL_minute_486 : decode cL_minute 486 = .ok (.iload 7, 2) := by decide +kernel
theorem dL_minute_488 : decode cL_minute 488 = .ok (.ifCond .ne 68, 3) := by decide +kernel
theorem dL_minute_491 : decode cL_minute 491 = .ok (.aload_n 0, 1) := by decide +kernel
theorem dL_minute_492 : decode cL_minute 492 = .ok (.bipush 13, 2) := by decide +kernel
theorem dL_minute_494 : decode cL_minute 494 = .ok (.iaload, 1) := by decide +kernel
theorem dL_minute_495 : decode cL_minute 495 = .ok (.iconst 4, 1) := by decide +kernel
theorem dL_minute_496 : decode cL_minute 496 = .ok (.if_icmp .ne 20, 3) := by decide +kernel
theorem dL_minute_499 : decode cL_minute 499 = .ok (.aload_n 0, 1) := by decide +kernel
theorem dL_minute_500 : decode cL_minute 500 = .ok (.bipush 6, 2) := by decide +kernel
theorem dL_minute_502 : decode cL_minute 502 = .ok (.dup2, 1) := by decide +kernel
theorem dL_minute_503 : decode cL_minute 503 = .ok (.iaload, 1) := by decide +kernel
theorem dL_minute_504 : decode cL_minute 504 = .ok (.aload 4, 2) := by decide +kernel
theorem dL_minute_506 : decode cL_minute 506 = .ok (.iconst 1, 1) := by decide +kernel
theorem dL_minute_507 : decode cL_minute 507 = .ok (.iaload, 1) := by decide +kernel
theorem dL_minute_508 : decode cL_minute 508 = .ok (.iadd, 1) := by decide +kernel
theorem dL_minute_509 : decode cL_minute 509 = .ok (.iastore, 1) := by decide +kernel
theorem dL_minute_510 : decode cL_minute 510 = .ok (.aload_n 0, 1) := by decide +kernel
theorem dL_minute_511 : decode cL_minute 511 = .ok (.aload 4, 2) := by decide +kernel
theorem dL_minute_513 : decode cL_minute 513 = .ok (.invokestatic 22, 3) := by decide +kernel
theorem dL_minute_516 : decode cL_minute 516 = .ok (.aload 4, 2) := by decide +kernel
theorem dL_minute_518 : decode cL_minute 518 = .ok (.iconst 2, 1) := by decide +kernel
theorem dL_minute_519 : decode cL_minute 519 = .ok (.aload_n 0, 1) := by decide +kernel
theorem dL_minute_520 : decode cL_minute 520 = .ok (.bipush 13, 2) := by decide +kernel
theorem dL_minute_522 : decode cL_minute 522 = .ok (.iaload, 1) := by decide +kernel
theorem dL_minute_523 : decode cL_minute 523 = .ok (.imul, 1) := by decide +kernel
theorem dL_minute_524 : decode cL_minute 524 = .ok (.aload_n 0, 1) := by decide +kernel
theorem dL_minute_525 : decode cL_minute 525 = .ok (.iconst 1, 1) := by decide +kernel
theorem dL_minute_526 : decode cL_minute 526 = .ok (.iaload, 1) := by decide +kernel
theorem dL_minute_527 : decode cL_minute 527 = .ok (.invokestatic 8, 3) := by decide +kernel
theorem dL_minute_530 : decode cL_minute 530 = .ok (.iastore, 1) := by decide +kernel
theorem dL_minute_531 : decode cL_minute 531 = .ok (.aload 4, 2) := by decide +kernel
theorem dL_minute_533 : decode cL_minute 533 = .ok (.iconst 2, 1) := by decide +kernel
theorem dL_minute_534 : decode cL_minute 534 = .ok (.aload_n 0, 1) := by decide +kernel
theorem dL_minute_535 : decode cL_minute 535 = .ok (.bipush 13, 2) := by decide +kernel
theorem dL_minute_537 : decode cL_minute 537 = .ok (.iaload, 1) := by decide +kernel
theorem dL_minute_538 : decode cL_minute 538 = .ok (.imul, 1) := by decide +kernel
theorem dL_minute_539 : decode cL_minute 539 = .ok (.iconst 1, 1) := by decide +kernel
theorem dL_minute_540 : decode cL_minute 540 = .ok (.iadd, 1) := by decide +kernel
theorem dL_minute_541 : decode cL_minute 541 = .ok (.aload_n 0, 1) := by decide +kernel
theorem dL_minute_542 : decode cL_minute 542 = .ok (.iconst 1, 1) := by decide +kernel
theorem dL_minute_543 : decode cL_minute 543 = .ok (.iaload, 1) := by decide +kernel
theorem dL_minute_544 : decode cL_minute 544 = .ok (.invokestatic 8, 3) := by decide +kernel
theorem dL_minute_547 : decode cL_minute 547 = .ok (.iastore, 1) := by decide +kernel
theorem dL_minute_548 : decode cL_minute 548 = .ok (.aload_n 0, 1) := by decide +kernel
theorem dL_minute_549 : decode cL_minute 549 = .ok (.bipush 13, 2) := by decide +kernel
theorem dL_minute_551 : decode cL_minute 551 = .ok (.dup2, 1) := by decide +kernel
theorem dL_minute_552 : decode cL_minute 552 = .ok (.iaload, 1) := by decide +kernel
theorem dL_minute_553 : decode cL_minute 553 = .ok (.iconst 1, 1) := by decide +kernel
theorem dL_minute_554 : decode cL_minute 554 = .ok (.iadd, 1) := by decide +kernel
theorem dL_minute_555 : decode cL_minute 555 = .ok (.iastore, 1) := by decide +kernel
theorem dL_minute_556 : decode cL_minute 556 = .ok (.aload_n 0, 1) := by decide +kernel
theorem dL_minute_557 : decode cL_minute 557 = .ok (.bipush 13, 2) := by decide +kernel
theorem dL_minute_559 : decode cL_minute 559 = .ok (.iaload, 1) := by decide +kernel
theorem dL_minute_560 : decode cL_minute 560 = .ok (.ifCond .le 80, 3) := by decide +kernel
theorem dL_minute_563 : decode cL_minute 563 = .ok (.iload 7, 2) := by decide +kernel
theorem dL_minute_565 : decode cL_minute 565 = .ok (.ifCond .ne 75, 3) := by decide +kernel
theorem dL_minute_568 : decode cL_minute 568 = .ok (.iconst 0, 1) := by decide +kernel
theorem dL_minute_569 : decode cL_minute 569 = .ok (.istore 9, 2) := by decide +kernel
theorem dL_minute_571 : decode cL_minute 571 = .ok (.iload 9, 2) := by decide +kernel
theorem dL_minute_573 : decode cL_minute 573 = .ok (.aload_n 2, 1) := by decide +kernel
theorem dL_minute_574 : decode cL_minute 574 = .ok (.iconst 3, 1) := by decide +kernel
theorem dL_minute_575 : decode cL_minute 575 = .ok (.iaload, 1) := by decide +kernel
theorem dL_minute_576 : decode cL_minute 576 = .ok (.if_icmp .ge 51, 3) := by decide +kernel
theorem dL_minute_579 : decode cL_minute 579 = .ok (.aload 4, 2) := by decide +kernel
theorem dL_minute_581 : decode cL_minute 581 = .ok (.iconst 1, 1) := by decide +kernel
theorem dL_minute_582 : decode cL_minute 582 = .ok (.iaload, 1) := by decide +kernel
theorem dL_minute_583 : decode cL_minute 583 = .ok (.ifCond .le 44, 3) := by decide +kernel
theorem dL_minute_586 : decode cL_minute 586 = .ok (.aload_n 1, 1) := by decide +kernel
theorem dL_minute_587 : decode cL_minute 587 = .ok (.iconst 1, 1) := by decide +kernel
theorem dL_minute_588 : decode cL_minute 588 = .ok (.iaload, 1) := by decide +kernel
theorem dL_minute_589 : decode cL_minute 589 = .ok (.ifCond .le 38, 3) := by decide +kernel
theorem dL_minute_592 : decode cL_minute 592 = .ok (.aload 4, 2) := by decide +kernel
theorem dL_minute_594 : decode cL_minute 594 = .ok (.iconst 1, 1) := by decide +kernel
theorem dL_minute_595 : decode cL_minute 595 = .ok (.dup2, 1) := by decide +kernel
theorem dL_minute_596 : decode cL_minute 596 = .ok (.iaload, 1) := by decide +kernel
theorem dL_minute_597 : decode cL_minute 597 = .ok (.iconst 1, 1) := by decide +kernel
theorem dL_minute_598 : decode cL_minute 598 = .ok (.isub, 1) := by decide +kernel
theorem dL_minute_599 : decode cL_minute 599 = .ok (.iastore, 1) := by decide +kernel
theorem dL_minute_600 : decode cL_minute 600 = .ok (.aload_n 1, 1) := by decide +kernel
theorem dL_minute_601 : decode cL_minute 601 = .ok (.iconst 1, 1) := by decide +kernel
theorem dL_minute_602 : decode cL_minute 602 = .ok (.dup2, 1) := by decide +kernel
theorem dL_minute_603 : decode cL_minute 603 = .ok (.iaload, 1) := by decide +kernel
theorem dL_minute_604 : decode cL_minute 604 = .ok (.iconst 1, 1) := by decide +kernel
theorem dL_minute_605 : decode cL_minute 605 = .ok (.isub, 1) := by decide +kernel
theorem dL_minute_606 : decode cL_minute 606 = .ok (.iastore, 1) := by decide +kernel
theorem dL_minute_607 : decode cL_minute 607 = .ok (.aload_n 1, 1) := by decide +kernel
theorem dL_minute_608 : decode cL_minute 608 = .ok (.iconst 4, 1) := by decide +kernel
theorem dL_minute_609 : decode cL_minute 609 = .ok (.dup2, 1) := by decide +kernel
theorem dL_minute_610 : decode cL_minute 610 = .ok (.iaload, 1) := by decide +kernel
theorem dL_minute_611 : decode cL_minute 611 = .ok (.iconst 1, 1) := by decide +kernel
theorem dL_minute_612 : decode cL_minute 612 = .ok (.iadd, 1) := by decide +kernel
theorem dL_minute_613 : decode cL_minute 613 = .ok (.iastore, 1) := by decide +kernel
theorem dL_minute_614 : decode cL_minute 614 = .ok (.aload_n 0, 1) := by decide +kernel
theorem dL_minute_615 : decode cL_minute 615 = .ok (.iconst 5, 1) := by decide +kernel
theorem dL_minute_616 : decode cL_minute 616 = .ok (.dup2, 1) := by decide +kernel
theorem dL_minute_617 : decode cL_minute 617 = .ok (.iaload, 1) := by decide +kernel
theorem dL_minute_618 : decode cL_minute 618 = .ok (.iconst 1, 1) := by decide +kernel
theorem dL_minute_619 : decode cL_minute 619 = .ok (.iadd, 1) := by decide +kernel
theorem dL_minute_620 : decode cL_minute 620 = .ok (.iastore, 1) := by decide +kernel
theorem dL_minute_621 : decode cL_minute 621 = .ok (.iinc 9 1, 3) := by decide +kernel
theorem dL_minute_624 : decode cL_minute 624 = .ok (.goto (-53), 3) := by decide +kernel
theorem dL_minute_627 : decode cL_minute 627 = .ok (.aload 4, 2) := by decide +kernel
theorem dL_minute_629 : decode cL_minute 629 = .ok (.iconst 1, 1) := by decide +kernel
theorem dL_minute_630 : decode cL_minute 630 = .ok (.iaload, 1) := by decide +kernel
theorem dL_minute_631 : decode cL_minute 631 = .ok (.ifCond .ne 9, 3) := by decide +kernel
theorem dL_minute_634 : decode cL_minute 634 = .ok (.aload_n 0, 1) := by decide +kernel
theorem dL_minute_635 : decode cL_minute 635 = .ok (.aload 4, 2) := by decide +kernel
theorem dL_minute_637 : decode cL_minute 637 = .ok (.invokestatic 22, 3) := by decide +kernel
theorem dL_minute_640 : decode cL_minute 640 = .ok (.aload_n 0, 1) := by decide +kernel
theorem dL_minute_641 : decode cL_minute 641 = .ok (.iconst 0, 1) := by decide +kernel
theorem dL_minute_642 : decode cL_minute 642 = .ok (.dup2, 1) := by decide +kernel
theorem dL_minute_643 : decode cL_minute 643 = .ok (.iaload, 1) := by decide +kernel
theorem dL_minute_644 : decode cL_minute 644 = .ok (.iconst 1, 1) := by decide +kernel
theorem dL_minute_645 : decode cL_minute 645 = .ok (.iadd, 1) := by decide +kernel
theorem dL_minute_646 : decode cL_minute 646 = .ok (.iastore, 1) := by decide +kernel
theorem dL_minute_647 : decode cL_minute 647 = .ok (.return_, 1) := by decide +kernel
theorem dL_fresh_0 : decode cL_fresh 0 = .ok (.aload_n 0, 1) := by decide +kernel
theorem dL_fresh_1 : decode cL_fresh 1 = .ok (.iconst 2, 1) := by decide +kernel
theorem dL_fresh_2 : decode cL_fresh 2 = .ok (.bipush 10, 2) := by decide +kernel
theorem dL_fresh_4 : decode cL_fresh 4 = .ok (.iastore, 1) := by decide +kernel
theorem dL_fresh_5 : decode cL_fresh 5 = .ok (.aload_n 1, 1) := by decide +kernel
theorem dL_fresh_6 : decode cL_fresh 6 = .ok (.iconst 0, 1) := by decide +kernel
theorem dL_fresh_7 : decode cL_fresh 7 = .ok (.sipush 200, 3) := by decide +kernel
theorem dL_fresh_10 : decode cL_fresh 10 = .ok (.iastore, 1) := by decide +kernel
theorem dL_fresh_11 : decode cL_fresh 11 = .ok (.aload_n 1, 1) := by decide +kernel
theorem dL_fresh_12 : decode cL_fresh 12 = .ok (.iconst 1, 1) := by decide +kernel
theorem dL_fresh_13 : decode cL_fresh 13 = .ok (.sipush 200, 3) := by decide +kernel
theorem dL_fresh_16 : decode cL_fresh 16 = .ok (.iastore, 1) := by decide +kernel
theorem dL_fresh_17 : decode cL_fresh 17 = .ok (.aload_n 1, 1) := by decide +kernel
theorem dL_fresh_18 : decode cL_fresh 18 = .ok (.iconst 2, 1) := by decide +kernel
theorem dL_fresh_19 : decode cL_fresh 19 = .ok (.sipush 200, 3) := by decide +kernel
theorem dL_fresh_22 : decode cL_fresh 22 = .ok (.iastore, 1) := by decide +kernel
theorem dL_fresh_23 : decode cL_fresh 23 = .ok (.aload_n 2, 1) := by decide +kernel
theorem dL_fresh_24 : decode cL_fresh 24 = .ok (.iconst 0, 1) := by decide +kernel
theorem dL_fresh_25 : decode cL_fresh 25 = .ok (.bipush 10, 2) := by decide +kernel
theorem dL_fresh_27 : decode cL_fresh 27 = .ok (.iastore, 1) := by decide +kernel
theorem dL_fresh_28 : decode cL_fresh 28 = .ok (.aload_n 2, 1) := by decide +kernel
theorem dL_fresh_29 : decode cL_fresh 29 = .ok (.iconst 1, 1) := by decide +kernel
theorem dL_fresh_30 : decode cL_fresh 30 = .ok (.iconst 2, 1) := by decide +kernel
theorem dL_fresh_31 : decode cL_fresh 31 = .ok (.iastore, 1) := by decide +kernel
theorem dL_fresh_32 : decode cL_fresh 32 = .ok (.aload_n 2, 1) := by decide +kernel
theorem dL_fresh_33 : decode cL_fresh 33 = .ok (.iconst 2, 1) := by decide +kernel
theorem dL_fresh_34 : decode cL_fresh 34 = .ok (.bipush 8, 2) := by decide +kernel
theorem dL_fresh_36 : decode cL_fresh 36 = .ok (.iastore, 1) := by decide +kernel
theorem dL_fresh_37 : decode cL_fresh 37 = .ok (.aload_n 2, 1) := by decide +kernel
theorem dL_fresh_38 : decode cL_fresh 38 = .ok (.iconst 3, 1) := by decide +kernel
theorem dL_fresh_39 : decode cL_fresh 39 = .ok (.bipush 6, 2) := by decide +kernel
theorem dL_fresh_41 : decode cL_fresh 41 = .ok (.iastore, 1) := by decide +kernel
theorem dL_fresh_42 : decode cL_fresh 42 = .ok (.aload_n 2, 1) := by decide +kernel
theorem dL_fresh_43 : decode cL_fresh 43 = .ok (.iconst 5, 1) := by decide +kernel
theorem dL_fresh_44 : decode cL_fresh 44 = .ok (.bipush 6, 2) := by decide +kernel
theorem dL_fresh_46 : decode cL_fresh 46 = .ok (.iastore, 1) := by decide +kernel
theorem dL_fresh_47 : decode cL_fresh 47 = .ok (.return_, 1) := by decide +kernel
theorem dL_hands_0 : decode cL_hands 0 = .ok (.iload_n 1, 1) := by decide +kernel
theorem dL_hands_1 : decode cL_hands 1 = .ok (.bipush 10, 2) := by decide +kernel
theorem dL_hands_3 : decode cL_hands 3 = .ok (.invokestatic 26, 3) := by decide +kernel
theorem dL_hands_6 : decode cL_hands 6 = .ok (.istore 7, 2) := by decide +kernel
theorem dL_hands_8 : decode cL_hands 8 = .ok (.iload 7, 2) := by decide +kernel
theorem dL_hands_10 : decode cL_hands 10 = .ok (.iconst 3, 1) := by decide +kernel
theorem dL_hands_11 : decode cL_hands 11 = .ok (.if_icmp .ge 65, 3) := by decide +kernel
theorem dL_hands_14 : decode cL_hands 14 = .ok (.iload_n 2, 1) := by decide +kernel
theorem dL_hands_15 : decode cL_hands 15 = .ok (.iconst 3, 1) := by decide +kernel
theorem dL_hands_16 : decode cL_hands 16 = .ok (.invokestatic 26, 3) := by decide +kernel
theorem dL_hands_19 : decode cL_hands 19 = .ok (.istore 8, 2) := by decide +kernel
theorem dL_hands_21 : decode cL_hands 21 = .ok (.iconst 1, 1) := by decide +kernel
theorem dL_hands_22 : decode cL_hands 22 = .ok (.iload_n 2, 1) := by decide +kernel
theorem dL_hands_23 : decode cL_hands 23 = .ok (.iconst 3, 1) := by decide +kernel
theorem dL_hands_24 : decode cL_hands 24 = .ok (.ishr, 1) := by decide +kernel
theorem dL_hands_25 : decode cL_hands 25 = .ok (.iload_n 2, 1) := by decide +kernel
theorem dL_hands_26 : decode cL_hands 26 = .ok (.bipush 10, 2) := by decide +kernel
theorem dL_hands_28 : decode cL_hands 28 = .ok (.ishr, 1) := by decide +kernel
theorem dL_hands_29 : decode cL_hands 29 = .ok (.iconst 3, 1) := by decide +kernel
theorem dL_hands_30 : decode cL_hands 30 = .ok (.invokestatic 26, 3) := by decide +kernel
theorem dL_hands_33 : decode cL_hands 33 = .ok (.ifCond .ne 9, 3) := by decide +kernel
theorem dL_hands_36 : decode cL_hands 36 = .ok (.sipush 200, 3) := by decide +kernel
theorem dL_hands_39 : decode cL_hands 39 = .ok (.goto 5, 3) := by decide +kernel
theorem dL_hands_42 : decode cL_hands 42 = .ok (.bipush 30, 2) := by decide +kernel
theorem dL_hands_44 : decode cL_hands 44 = .ok (.invokestatic 26, 3) := by decide +kernel
theorem dL_hands_47 : decode cL_hands 47 = .ok (.iadd, 1) := by decide +kernel
theorem dL_hands_48 : decode cL_hands 48 = .ok (.istore 9, 2) := by decide +kernel
theorem dL_hands_50 : decode cL_hands 50 = .ok (.aload_n 0, 1) := by decide +kernel
theorem dL_hands_51 : decode cL_hands 51 = .ok (.iload 8, 2) := by decide +kernel
theorem dL_hands_53 : decode cL_hands 53 = .ok (.iload 9, 2) := by decide +kernel
theorem dL_hands_55 : decode cL_hands 55 = .ok (.invokevirtual 30, 3) := by decide +kernel
theorem dL_hands_58 : decode cL_hands 58 = .ok (.iload 8, 2) := by decide +kernel
theorem dL_hands_60 : decode cL_hands 60 = .ok (.iload 9, 2) := by decide +kernel
theorem dL_hands_62 : decode cL_hands 62 = .ok (.aload 4, 2) := by decide +kernel
theorem dL_hands_64 : decode cL_hands 64 = .ok (.invokestatic 14, 3) := by decide +kernel
theorem dL_hands_67 : decode cL_hands 67 = .ok (.if_icmp .ne 7, 3) := by decide +kernel
theorem dL_hands_70 : decode cL_hands 70 = .ok (.iconst 1, 1) := by decide +kernel
theorem dL_hands_71 : decode cL_hands 71 = .ok (.goto 4, 3) := by decide +kernel
theorem dL_hands_74 : decode cL_hands 74 = .ok (.iconst 0, 1) := by decide +kernel
theorem dL_hands_75 : decode cL_hands 75 = .ok (.ireturn, 1) := by decide +kernel
theorem dL_hands_76 : decode cL_hands 76 = .ok (.iload 7, 2) := by decide +kernel
theorem dL_hands_78 : decode cL_hands 78 = .ok (.bipush 6, 2) := by decide +kernel
theorem dL_hands_80 : decode cL_hands 80 = .ok (.if_icmp .ge 131, 3) := by decide +kernel
theorem dL_hands_83 : decode cL_hands 83 = .ok (.iload_n 2, 1) := by decide +kernel
theorem dL_hands_84 : decode cL_hands 84 = .ok (.bipush 6, 2) := by decide +kernel
theorem dL_hands_86 : decode cL_hands 86 = .ok (.invokestatic 26, 3) := by decide +kernel
theorem dL_hands_89 : decode cL_hands 89 = .ok (.istore 8, 2) := by decide +kernel
theorem dL_hands_91 : decode cL_hands 91 = .ok (.iload 8, 2) := by decide +kernel
theorem dL_hands_93 : decode cL_hands 93 = .ok (.ifCond .ne 7, 3) := by decide +kernel
theorem dL_hands_96 : decode cL_hands 96 = .ok (.iconst 2, 1) := by decide +kernel
theorem dL_hands_97 : decode cL_hands 97 = .ok (.goto 20, 3) := by decide +kernel
theorem dL_hands_100 : decode cL_hands 100 = .ok (.iload 8, 2) := by decide +kernel
theorem dL_hands_102 : decode cL_hands 102 = .ok (.iconst 1, 1) := by decide +kernel
theorem dL_hands_103 : decode cL_hands 103 = .ok (.if_icmp .eq 9, 3) := by decide +kernel
theorem dL_hands_106 : decode cL_hands 106 = .ok (.iload 8, 2) := by decide +kernel
theorem dL_hands_108 : decode cL_hands 108 = .ok (.iconst 4, 1) := by decide +kernel
theorem dL_hands_109 : decode cL_hands 109 = .ok (.if_icmp .ne 7, 3) := by decide +kernel
theorem dL_hands_112 : decode cL_hands 112 = .ok (.iconst 0, 1) := by decide +kernel
theorem dL_hands_113 : decode cL_hands 113 = .ok (.goto 4, 3) := by decide +kernel
theorem dL_hands_116 : decode cL_hands 116 = .ok (.iconst 1, 1) := by decide +kernel
theorem dL_hands_117 : decode cL_hands 117 = .ok (.istore 9, 2) := by decide +kernel
theorem dL_hands_119 : decode cL_hands 119 = .ok (.iload 8, 2) := by decide +kernel
theorem dL_hands_121 : decode cL_hands 121 = .ok (.ifCond .ne 8, 3) := by decide +kernel
theorem dL_hands_124 : decode cL_hands 124 = .ok (.bipush 30, 2) := by decide +kernel
theorem dL_hands_126 : decode cL_hands 126 = .ok (.goto 16, 3) := by decide +kernel
theorem dL_hands_129 : decode cL_hands 129 = .ok (.iload 8, 2) := by decide +kernel
theorem dL_hands_131 : decode cL_hands 131 = .ok (.iconst 3, 1) := by decide +kernel
theorem dL_hands_132 : decode cL_hands 132 = .ok (.if_icmp .ge 8, 3) := by decide +kernel
theorem dL_hands_135 : decode cL_hands 135 = .ok (.bipush 20, 2) := by decide +kernel
theorem dL_hands_137 : decode cL_hands 137 = .ok (.goto 5, 3) := by decide +kernel
theorem dL_hands_140 : decode cL_hands 140 = .ok (.bipush 12, 2) := by decide +kernel
theorem dL_hands_142 : decode cL_hands 142 = .ok (.istore 10, 2) := by decide +kernel
theorem dL_hands_144 : decode cL_hands 144 = .ok (.aload 5, 2) := by decide +kernel
theorem dL_hands_146 : decode cL_hands 146 = .ok (.iload 8, 2) := by decide +kernel
theorem dL_hands_148 : decode cL_hands 148 = .ok (.iaload, 1) := by decide +kernel
theorem dL_hands_149 : decode cL_hands 149 = .ok (.istore 11, 2) := by decide +kernel
theorem dL_hands_151 : decode cL_hands 151 = .ok (.aload 5, 2) := by decide +kernel
theorem dL_hands_153 : decode cL_hands 153 = .ok (.iload 8, 2) := by decide +kernel
theorem dL_hands_155 : decode cL_hands 155 = .ok (.iload 9, 2) := by decide +kernel
theorem dL_hands_157 : decode cL_hands 157 = .ok (.iload_n 2, 1) := by decide +kernel
theorem dL_hands_158 : decode cL_hands 158 = .ok (.iconst 4, 1) := by decide +kernel
theorem dL_hands_159 : decode cL_hands 159 = .ok (.ishr, 1) := by decide +kernel
theorem dL_hands_160 : decode cL_hands 160 = .ok (.iload 10, 2) := by decide +kernel
theorem dL_hands_162 : decode cL_hands 162 = .ok (.iload 9, 2) := by decide +kernel
theorem dL_hands_164 : decode cL_hands 164 = .ok (.isub, 1) := by decide +kernel
theorem dL_hands_165 : decode cL_hands 165 = .ok (.iconst 1, 1) := by decide +kernel
theorem dL_hands_166 : decode cL_hands 166 = .ok (.iadd, 1) := by decide +kernel
theorem dL_hands_167 : decode cL_hands 167 = .ok (.invokestatic 26, 3) := by decide +kernel
theorem dL_hands_170 : decode cL_hands 170 = .ok (.iadd, 1) := by decide +kernel
theorem dL_hands_171 : decode cL_hands 171 = .ok (.iastore, 1) := by decide +kernel
theorem dL_hands_172 : decode cL_hands 172 = .ok (.aload_n 3, 1) := by decide +kernel
theorem dL_hands_173 : decode cL_hands 173 = .ok (.iconst 2, 1) := by decide +kernel
theorem dL_hands_174 : decode cL_hands 174 = .ok (.iaload, 1) := by decide +kernel
theorem dL_hands_175 : decode cL_hands 175 = .ok (.aload 5, 2) := by decide +kernel
theorem dL_hands_177 : decode cL_hands 177 = .ok (.iconst 0, 1) := by decide +kernel
theorem dL_hands_178 : decode cL_hands 178 = .ok (.iaload, 1) := by decide +kernel
theorem dL_hands_179 : decode cL_hands 179 = .ok (.if_icmp .le 10, 3) := by decide +kernel
theorem dL_hands_182 : decode cL_hands 182 = .ok (.aload_n 3, 1) := by decide +kernel
theorem dL_hands_183 : decode cL_hands 183 = .ok (.iconst 2, 1) := by decide +kernel
theorem dL_hands_184 : decode cL_hands 184 = .ok (.aload 5, 2) := by decide +kernel
theorem dL_hands_186 : decode cL_hands 186 = .ok (.iconst 0, 1) := by decide +kernel
theorem dL_hands_187 : decode cL_hands 187 = .ok (.iaload, 1) := by decide +kernel
theorem dL_hands_188 : decode cL_hands 188 = .ok (.iastore, 1) := by decide +kernel
theorem dL_hands_189 : decode cL_hands 189 = .ok (.aload_n 0, 1) := by decide +kernel
theorem dL_hands_190 : decode cL_hands 190 = .ok (.iload 8, 2) := by decide +kernel
theorem dL_hands_192 : decode cL_hands 192 = .ok (.aload 5, 2) := by decide +kernel
theorem dL_hands_194 : decode cL_hands 194 = .ok (.iload 8, 2) := by decide +kernel
theorem dL_hands_196 : decode cL_hands 196 = .ok (.iaload, 1) := by decide +kernel
theorem dL_hands_197 : decode cL_hands 197 = .ok (.invokevirtual 35, 3) := by decide +kernel
theorem dL_hands_200 : decode cL_hands 200 = .ok (.iload 11, 2) := by decide +kernel
theorem dL_hands_202 : decode cL_hands 202 = .ok (.if_icmp .ne 7, 3) := by decide +kernel
theorem dL_hands_205 : decode cL_hands 205 = .ok (.iconst 1, 1) := by decide +kernel
theorem dL_hands_206 : decode cL_hands 206 = .ok (.goto 4, 3) := by decide +kernel
theorem dL_hands_209 : decode cL_hands 209 = .ok (.iconst 0, 1) := by decide +kernel
theorem dL_hands_210 : decode cL_hands 210 = .ok (.ireturn, 1) := by decide +kernel
theorem dL_hands_211 : decode cL_hands 211 = .ok (.iload 7, 2) := by decide +kernel
theorem dL_hands_213 : decode cL_hands 213 = .ok (.bipush 6, 2) := by decide +kernel
theorem dL_hands_215 : decode cL_hands 215 = .ok (.if_icmp .ne 50, 3) := by decide +kernel
theorem dL_hands_218 : decode cL_hands 218 = .ok (.aload_n 3, 1) := by decide +kernel
theorem dL_hands_219 : decode cL_hands 219 = .ok (.iconst 3, 1) := by decide +kernel
theorem dL_hands_220 : decode cL_hands 220 = .ok (.iaload, 1) := by decide +kernel
theorem dL_hands_221 : decode cL_hands 221 = .ok (.istore 8, 2) := by decide +kernel
theorem dL_hands_223 : decode cL_hands 223 = .ok (.aload_n 3, 1) := by decide +kernel
theorem dL_hands_224 : decode cL_hands 224 = .ok (.iconst 3, 1) := by decide +kernel
theorem dL_hands_225 : decode cL_hands 225 = .ok (.iload_n 2, 1) := by decide +kernel
theorem dL_hands_226 : decode cL_hands 226 = .ok (.iload_n 2, 1) := by decide +kernel
theorem dL_hands_227 : decode cL_hands 227 = .ok (.iconst 5, 1) := by decide +kernel
theorem dL_hands_228 : decode cL_hands 228 = .ok (.ishr, 1) := by decide +kernel
theorem dL_hands_229 : decode cL_hands 229 = .ok (.iconst 2, 1) := by decide +kernel
theorem dL_hands_230 : decode cL_hands 230 = .ok (.invokestatic 26, 3) := by decide +kernel
theorem dL_hands_233 : decode cL_hands 233 = .ok (.ifCond .ne 8, 3) := by decide +kernel
theorem dL_hands_236 : decode cL_hands 236 = .ok (.bipush 21, 2) := by decide +kernel
theorem dL_hands_238 : decode cL_hands 238 = .ok (.goto 5, 3) := by decide +kernel
theorem dL_hands_241 : decode cL_hands 241 = .ok (.bipush 6, 2) := by decide +kernel
theorem dL_hands_243 : decode cL_hands 243 = .ok (.invokestatic 26, 3) := by decide +kernel
theorem dL_hands_246 : decode cL_hands 246 = .ok (.iastore, 1) := by decide +kernel
theorem dL_hands_247 : decode cL_hands 247 = .ok (.aload_n 0, 1) := by decide +kernel
theorem dL_hands_248 : decode cL_hands 248 = .ok (.aload_n 3, 1) := by decide +kernel
theorem dL_hands_249 : decode cL_hands 249 = .ok (.iconst 3, 1) := by decide +kernel
theorem dL_hands_250 : decode cL_hands 250 = .ok (.iaload, 1) := by decide +kernel
theorem dL_hands_251 : decode cL_hands 251 = .ok (.invokevirtual 38, 3) := by decide +kernel
theorem dL_hands_254 : decode cL_hands 254 = .ok (.iload 8, 2) := by decide +kernel
theorem dL_hands_256 : decode cL_hands 256 = .ok (.if_icmp .ne 7, 3) := by decide +kernel
theorem dL_hands_259 : decode cL_hands 259 = .ok (.iconst 1, 1) := by decide +kernel
theorem dL_hands_260 : decode cL_hands 260 = .ok (.goto 4, 3) := by decide +kernel
theorem dL_hands_263 : decode cL_hands 263 = .ok (.iconst 0, 1) := by decide +kernel
theorem dL_hands_264 : decode cL_hands 264 = .ok (.ireturn, 1) := by decide +kernel
theorem dL_hands_265 : decode cL_hands 265 = .ok (.iload 7, 2) := by decide +kernel
theorem dL_hands_267 : decode cL_hands 267 = .ok (.bipush 7, 2) := by decide +kernel
theorem dL_hands_269 : decode cL_hands 269 = .ok (.if_icmp .ne 51, 3) := by decide +kernel
theorem dL_hands_272 : decode cL_hands 272 = .ok (.aload_n 3, 1) := by decide +kernel
theorem dL_hands_273 : decode cL_hands 273 = .ok (.iconst 1, 1) := by decide +kernel
theorem dL_hands_274 : decode cL_hands 274 = .ok (.iaload, 1) := by decide +kernel
theorem dL_hands_275 : decode cL_hands 275 = .ok (.istore 8, 2) := by decide +kernel
theorem dL_hands_277 : decode cL_hands 277 = .ok (.aload_n 3, 1) := by decide +kernel
theorem dL_hands_278 : decode cL_hands 278 = .ok (.iconst 1, 1) := by decide +kernel
theorem dL_hands_279 : decode cL_hands 279 = .ok (.iload_n 2, 1) := by decide +kernel
theorem dL_hands_280 : decode cL_hands 280 = .ok (.bipush 12, 2) := by decide +kernel
theorem dL_hands_282 : decode cL_hands 282 = .ok (.invokestatic 26, 3) := by decide +kernel
theorem dL_hands_285 : decode cL_hands 285 = .ok (.bipush 60, 2) := by decide +kernel
theorem dL_hands_287 : decode cL_hands 287 = .ok (.imul, 1) := by decide +kernel
theorem dL_hands_288 : decode cL_hands 288 = .ok (.bipush 50, 2) := by decide +kernel
theorem dL_hands_290 : decode cL_hands 290 = .ok (.iadd, 1) := by decide +kernel
theorem dL_hands_291 : decode cL_hands 291 = .ok (.iload_n 2, 1) := by decide +kernel
theorem dL_hands_292 : decode cL_hands 292 = .ok (.bipush 6, 2) := by decide +kernel
theorem dL_hands_294 : decode cL_hands 294 = .ok (.ishr, 1) := by decide +kernel
theorem dL_hands_295 : decode cL_hands 295 = .ok (.bipush 10, 2) := by decide +kernel
theorem dL_hands_297 : decode cL_hands 297 = .ok (.invokestatic 26, 3) := by decide +kernel
theorem dL_hands_300 : decode cL_hands 300 = .ok (.iadd, 1) := by decide +kernel
theorem dL_hands_301 : decode cL_hands 301 = .ok (.iastore, 1) := by decide +kernel
theorem dL_hands_302 : decode cL_hands 302 = .ok (.aload_n 0, 1) := by decide +kernel
theorem dL_hands_303 : decode cL_hands 303 = .ok (.aload_n 3, 1) := by decide +kernel
theorem dL_hands_304 : decode cL_hands 304 = .ok (.iconst 1, 1) := by decide +kernel
theorem dL_hands_305 : decode cL_hands 305 = .ok (.iaload, 1) := by decide +kernel
theorem dL_hands_306 : decode cL_hands 306 = .ok (.invokevirtual 41, 3) := by decide +kernel
theorem dL_hands_309 : decode cL_hands 309 = .ok (.iload 8, 2) := by decide +kernel
theorem dL_hands_311 : decode cL_hands 311 = .ok (.if_icmp .ne 7, 3) := by decide +kernel
theorem dL_hands_314 : decode cL_hands 314 = .ok (.iconst 1, 1) := by decide +kernel
theorem dL_hands_315 : decode cL_hands 315 = .ok (.goto 4, 3) := by decide +kernel
theorem dL_hands_318 : decode cL_hands 318 = .ok (.iconst 0, 1) := by decide +kernel
theorem dL_hands_319 : decode cL_hands 319 = .ok (.ireturn, 1) := by decide +kernel
theorem dL_hands_320 : decode cL_hands 320 = .ok (.iload 7, 2) := by decide +kernel
theorem dL_hands_322 : decode cL_hands 322 = .ok (.bipush 8, 2) := by decide +kernel
theorem dL_hands_324 : decode cL_hands 324 = .ok (.if_icmp .ne 27, 3) := by decide +kernel
theorem dL_hands_327 : decode cL_hands 327 = .ok (.aload_n 3, 1) := by decide +kernel
theorem dL_hands_328 : decode cL_hands 328 = .ok (.iconst 4, 1) := by decide +kernel
theorem dL_hands_329 : decode cL_hands 329 = .ok (.iaload, 1) := by decide +kernel
theorem dL_hands_330 : decode cL_hands 330 = .ok (.istore 8, 2) := by decide +kernel
theorem dL_hands_332 : decode cL_hands 332 = .ok (.aload_n 3, 1) := by decide +kernel
theorem dL_hands_333 : decode cL_hands 333 = .ok (.iconst 4, 1) := by decide +kernel
theorem dL_hands_334 : decode cL_hands 334 = .ok (.iconst 0, 1) := by decide +kernel
theorem dL_hands_335 : decode cL_hands 335 = .ok (.iastore, 1) := by decide +kernel
theorem dL_hands_336 : decode cL_hands 336 = .ok (.aload_n 0, 1) := by decide +kernel
theorem dL_hands_337 : decode cL_hands 337 = .ok (.invokevirtual 44, 3) := by decide +kernel
theorem dL_hands_340 : decode cL_hands 340 = .ok (.iload 8, 2) := by decide +kernel
theorem dL_hands_342 : decode cL_hands 342 = .ok (.if_icmp .ne 7, 3) := by decide +kernel
theorem dL_hands_345 : decode cL_hands 345 = .ok (.iconst 1, 1) := by decide +kernel
theorem dL_hands_346 : decode cL_hands 346 = .ok (.goto 4, 3) := by decide +kernel
theorem dL_hands_349 : decode cL_hands 349 = .ok (.iconst 0, 1) := by decide +kernel
theorem dL_hands_350 : decode cL_hands 350 = .ok (.ireturn, 1) := by decide +kernel
theorem dL_hands_351 : decode cL_hands 351 = .ok (.iconst 0, 1) := by decide +kernel
theorem dL_hands_352 : decode cL_hands 352 = .ok (.istore 8, 2) := by decide +kernel
theorem dL_hands_354 : decode cL_hands 354 = .ok (.iconst 0, 1) := by decide +kernel
theorem dL_hands_355 : decode cL_hands 355 = .ok (.istore 9, 2) := by decide +kernel
theorem dL_hands_357 : decode cL_hands 357 = .ok (.iload 9, 2) := by decide +kernel
theorem dL_hands_359 : decode cL_hands 359 = .ok (.aload_n 3, 1) := by decide +kernel
theorem dL_hands_360 : decode cL_hands 360 = .ok (.bipush 13, 2) := by decide +kernel
theorem dL_hands_362 : decode cL_hands 362 = .ok (.iaload, 1) := by decide +kernel
theorem dL_hands_363 : decode cL_hands 363 = .ok (.if_icmp .ge 23, 3) := by decide +kernel
theorem dL_hands_366 : decode cL_hands 366 = .ok (.iload 8, 2) := by decide +kernel
theorem dL_hands_368 : decode cL_hands 368 = .ok (.aload 6, 2) := by decide +kernel
theorem dL_hands_370 : decode cL_hands 370 = .ok (.iconst 2, 1) := by decide +kernel
theorem dL_hands_371 : decode cL_hands 371 = .ok (.iload 9, 2) := by decide +kernel
theorem dL_hands_373 : decode cL_hands 373 = .ok (.imul, 1) := by decide +kernel
theorem dL_hands_374 : decode cL_hands 374 = .ok (.iconst 1, 1) := by decide +kernel
theorem dL_hands_375 : decode cL_hands 375 = .ok (.iadd, 1) := by decide +kernel
theorem dL_hands_376 : decode cL_hands 376 = .ok (.iaload, 1) := by decide +kernel
theorem dL_hands_377 : decode cL_hands 377 = .ok (.iadd, 1) := by decide +kernel
theorem dL_hands_378 : decode cL_hands 378 = .ok (.istore 8, 2) := by decide +kernel
theorem dL_hands_380 : decode cL_hands 380 = .ok (.iinc 9 1, 3) := by decide +kernel
theorem dL_hands_383 : decode cL_hands 383 = .ok (.goto (-26), 3) := by decide +kernel
theorem dL_hands_386 : decode cL_hands 386 = .ok (.aload_n 3, 1) := by decide +kernel
theorem dL_hands_387 : decode cL_hands 387 = .ok (.bipush 6, 2) := by decide +kernel
theorem dL_hands_389 : decode cL_hands 389 = .ok (.dup2, 1) := by decide +kernel
theorem dL_hands_390 : decode cL_hands 390 = .ok (.iaload, 1) := by decide +kernel
theorem dL_hands_391 : decode cL_hands 391 = .ok (.iload 8, 2) := by decide +kernel
theorem dL_hands_393 : decode cL_hands 393 = .ok (.iadd, 1) := by decide +kernel
theorem dL_hands_394 : decode cL_hands 394 = .ok (.iastore, 1) := by decide +kernel
theorem dL_hands_395 : decode cL_hands 395 = .ok (.aload_n 3, 1) := by decide +kernel
theorem dL_hands_396 : decode cL_hands 396 = .ok (.bipush 13, 2) := by decide +kernel
theorem dL_hands_398 : decode cL_hands 398 = .ok (.iconst 0, 1) := by decide +kernel
theorem dL_hands_399 : decode cL_hands 399 = .ok (.iastore, 1) := by decide +kernel
theorem dL_hands_400 : decode cL_hands 400 = .ok (.aload_n 0, 1) := by decide +kernel
theorem dL_hands_401 : decode cL_hands 401 = .ok (.invokevirtual 48, 3) := by decide +kernel
theorem dL_hands_404 : decode cL_hands 404 = .ok (.iload 8, 2) := by decide +kernel
theorem dL_hands_406 : decode cL_hands 406 = .ok (.if_icmp .ne 7, 3) := by decide +kernel
theorem dL_hands_409 : decode cL_hands 409 = .ok (.iconst 1, 1) := by decide +kernel
theorem dL_hands_410 : decode cL_hands 410 = .ok (.goto 4, 3) := by decide +kernel
theorem dL_hands_413 : decode cL_hands 413 = .ok (.iconst 0, 1) := by decide +kernel
theorem dL_hands_414 : decode cL_hands 414 = .ok (.ireturn, 1) := by decide +kernel
theorem dL_winders_0 : decode cL_winders 0 = .ok (.aload_n 3, 1) := by decide +kernel
theorem dL_winders_1 : decode cL_winders 1 = .ok (.bipush 12, 2) := by decide +kernel
theorem dL_winders_3 : decode cL_winders 3 = .ok (.iaload, 1) := by decide +kernel
theorem dL_winders_4 : decode cL_winders 4 = .ok (.bipush 6, 2) := by decide +kernel
theorem dL_winders_6 : decode cL_winders 6 = .ok (.if_icmp .eq 18, 3) := by decide +kernel
theorem dL_winders_9 : decode cL_winders 9 = .ok (.aload_n 3, 1) := by decide +kernel
theorem dL_winders_10 : decode cL_winders 10 = .ok (.bipush 12, 2) := by decide +kernel
theorem dL_winders_12 : decode cL_winders 12 = .ok (.iaload, 1) := by decide +kernel
theorem dL_winders_13 : decode cL_winders 13 = .ok (.ifCond .le 85, 3) := by decide +kernel
theorem dL_winders_16 : decode cL_winders 16 = .ok (.iload_n 1, 1) := by decide +kernel
theorem dL_winders_17 : decode cL_winders 17 = .ok (.iconst 4, 1) := by decide +kernel
theorem dL_winders_18 : decode cL_winders 18 = .ok (.invokestatic 26, 3) := by decide +kernel
theorem dL_winders_21 : decode cL_winders 21 = .ok (.ifCond .ne 77, 3) := by decide +kernel
theorem dL_winders_24 : decode cL_winders 24 = .ok (.iload_n 2, 1) := by decide +kernel
theorem dL_winders_25 : decode cL_winders 25 = .ok (.aload_n 3, 1) := by decide +kernel
theorem dL_winders_26 : decode cL_winders 26 = .ok (.bipush 12, 2) := by decide +kernel
theorem dL_winders_28 : decode cL_winders 28 = .ok (.iaload, 1) := by decide +kernel
theorem dL_winders_29 : decode cL_winders 29 = .ok (.invokestatic 26, 3) := by decide +kernel
theorem dL_winders_32 : decode cL_winders 32 = .ok (.istore 5, 2) := by decide +kernel
theorem dL_winders_34 : decode cL_winders 34 = .ok (.iconst 5, 1) := by decide +kernel
theorem dL_winders_35 : decode cL_winders 35 = .ok (.iload 5, 2) := by decide +kernel
theorem dL_winders_37 : decode cL_winders 37 = .ok (.imul, 1) := by decide +kernel
theorem dL_winders_38 : decode cL_winders 38 = .ok (.istore 6, 2) := by decide +kernel
theorem dL_winders_40 : decode cL_winders 40 = .ok (.iload 6, 2) := by decide +kernel
theorem dL_winders_42 : decode cL_winders 42 = .ok (.iconst 5, 1) := by decide +kernel
theorem dL_winders_43 : decode cL_winders 43 = .ok (.aload_n 3, 1) := by decide +kernel
theorem dL_winders_44 : decode cL_winders 44 = .ok (.bipush 12, 2) := by decide +kernel
theorem dL_winders_46 : decode cL_winders 46 = .ok (.iaload, 1) := by decide +kernel
theorem dL_winders_47 : decode cL_winders 47 = .ok (.imul, 1) := by decide +kernel
theorem dL_winders_48 : decode cL_winders 48 = .ok (.iconst 5, 1) := by decide +kernel
theorem dL_winders_49 : decode cL_winders 49 = .ok (.isub, 1) := by decide +kernel
theorem dL_winders_50 : decode cL_winders 50 = .ok (.if_icmp .ge 21, 3) := by decide +kernel
theorem dL_winders_53 : decode cL_winders 53 = .ok (.aload 4, 2) := by decide +kernel
theorem dL_winders_55 : decode cL_winders 55 = .ok (.iload 6, 2) := by decide +kernel
theorem dL_winders_57 : decode cL_winders 57 = .ok (.aload 4, 2) := by decide +kernel
theorem dL_winders_59 : decode cL_winders 59 = .ok (.iload 6, 2) := by decide +kernel
theorem dL_winders_61 : decode cL_winders 61 = .ok (.iconst 5, 1) := by decide +kernel
theorem dL_winders_62 : decode cL_winders 62 = .ok (.iadd, 1) := by decide +kernel
theorem dL_winders_63 : decode cL_winders 63 = .ok (.iaload, 1) := by decide +kernel
theorem dL_winders_64 : decode cL_winders 64 = .ok (.iastore, 1) := by decide +kernel
theorem dL_winders_65 : decode cL_winders 65 = .ok (.iinc 6 1, 3) := by decide +kernel
theorem dL_winders_68 : decode cL_winders 68 = .ok (.goto (-28), 3) := by decide +kernel
theorem dL_winders_71 : decode cL_winders 71 = .ok (.aload_n 3, 1) := by decide +kernel
theorem dL_winders_72 : decode cL_winders 72 = .ok (.bipush 12, 2) := by decide +kernel
theorem dL_winders_74 : decode cL_winders 74 = .ok (.dup2, 1) := by decide +kernel
theorem dL_winders_75 : decode cL_winders 75 = .ok (.iaload, 1) := by decide +kernel
theorem dL_winders_76 : decode cL_winders 76 = .ok (.iconst 1, 1) := by decide +kernel
theorem dL_winders_77 : decode cL_winders 77 = .ok (.isub, 1) := by decide +kernel
theorem dL_winders_78 : decode cL_winders 78 = .ok (.iastore, 1) := by decide +kernel
theorem dL_winders_79 : decode cL_winders 79 = .ok (.aload_n 0, 1) := by decide +kernel
theorem dL_winders_80 : decode cL_winders 80 = .ok (.iload 5, 2) := by decide +kernel
theorem dL_winders_82 : decode cL_winders 82 = .ok (.invokevirtual 51, 3) := by decide +kernel
theorem dL_winders_85 : decode cL_winders 85 = .ok (.aload_n 3, 1) := by decide +kernel
theorem dL_winders_86 : decode cL_winders 86 = .ok (.bipush 12, 2) := by decide +kernel
theorem dL_winders_88 : decode cL_winders 88 = .ok (.iaload, 1) := by decide +kernel
theorem dL_winders_89 : decode cL_winders 89 = .ok (.if_icmp .ne 7, 3) := by decide +kernel
theorem dL_winders_92 : decode cL_winders 92 = .ok (.iconst 1, 1) := by decide +kernel
theorem dL_winders_93 : decode cL_winders 93 = .ok (.goto 4, 3) := by decide +kernel
theorem dL_winders_96 : decode cL_winders 96 = .ok (.iconst 0, 1) := by decide +kernel
theorem dL_winders_97 : decode cL_winders 97 = .ok (.ireturn, 1) := by decide +kernel
theorem dL_winders_98 : decode cL_winders 98 = .ok (.iconst 5, 1) := by decide +kernel
theorem dL_winders_99 : decode cL_winders 99 = .ok (.aload_n 3, 1) := by decide +kernel
theorem dL_winders_100 : decode cL_winders 100 = .ok (.bipush 12, 2) := by decide +kernel
theorem dL_winders_102 : decode cL_winders 102 = .ok (.iaload, 1) := by decide +kernel
theorem dL_winders_103 : decode cL_winders 103 = .ok (.imul, 1) := by decide +kernel
theorem dL_winders_104 : decode cL_winders 104 = .ok (.istore 5, 2) := by decide +kernel
theorem dL_winders_106 : decode cL_winders 106 = .ok (.aload 4, 2) := by decide +kernel
theorem dL_winders_108 : decode cL_winders 108 = .ok (.iload 5, 2) := by decide +kernel
theorem dL_winders_110 : decode cL_winders 110 = .ok (.iload_n 1, 1) := by decide +kernel
theorem dL_winders_111 : decode cL_winders 111 = .ok (.iconst 3, 1) := by decide +kernel
theorem dL_winders_112 : decode cL_winders 112 = .ok (.ishr, 1) := by decide +kernel
theorem dL_winders_113 : decode cL_winders 113 = .ok (.iconst 3, 1) := by decide +kernel
theorem dL_winders_114 : decode cL_winders 114 = .ok (.invokestatic 26, 3) := by decide +kernel
theorem dL_winders_117 : decode cL_winders 117 = .ok (.iastore, 1) := by decide +kernel
theorem dL_winders_118 : decode cL_winders 118 = .ok (.aload 4, 2) := by decide +kernel
theorem dL_winders_120 : decode cL_winders 120 = .ok (.iload 5, 2) := by decide +kernel
theorem dL_winders_122 : decode cL_winders 122 = .ok (.iconst 1, 1) := by decide +kernel
theorem dL_winders_123 : decode cL_winders 123 = .ok (.iadd, 1) := by decide +kernel
theorem dL_winders_124 : decode cL_winders 124 = .ok (.iconst 1, 1) := by decide +kernel
theorem dL_winders_125 : decode cL_winders 125 = .ok (.iload_n 2, 1) := by decide +kernel
theorem dL_winders_126 : decode cL_winders 126 = .ok (.iload_n 1, 1) := by decide +kernel
theorem dL_winders_127 : decode cL_winders 127 = .ok (.iconst 5, 1) := by decide +kernel
theorem dL_winders_128 : decode cL_winders 128 = .ok (.ishr, 1) := by decide +kernel
theorem dL_winders_129 : decode cL_winders 129 = .ok (.iconst 2, 1) := by decide +kernel
theorem dL_winders_130 : decode cL_winders 130 = .ok (.invokestatic 26, 3) := by decide +kernel
theorem dL_winders_133 : decode cL_winders 133 = .ok (.ifCond .ne 9, 3) := by decide +kernel
theorem dL_winders_136 : decode cL_winders 136 = .ok (.sipush 200, 3) := by decide +kernel
theorem dL_winders_139 : decode cL_winders 139 = .ok (.goto 5, 3) := by decide +kernel
theorem dL_winders_142 : decode cL_winders 142 = .ok (.bipush 20, 2) := by decide +kernel
theorem dL_winders_144 : decode cL_winders 144 = .ok (.invokestatic 26, 3) := by decide +kernel
theorem dL_winders_147 : decode cL_winders 147 = .ok (.iadd, 1) := by decide +kernel
theorem dL_winders_148 : decode cL_winders 148 = .ok (.iastore, 1) := by decide +kernel
theorem dL_winders_149 : decode cL_winders 149 = .ok (.aload 4, 2) := by decide +kernel
theorem dL_winders_151 : decode cL_winders 151 = .ok (.iload 5, 2) := by decide +kernel
theorem dL_winders_153 : decode cL_winders 153 = .ok (.iconst 2, 1) := by decide +kernel
theorem dL_winders_154 : decode cL_winders 154 = .ok (.iadd, 1) := by decide +kernel
theorem dL_winders_155 : decode cL_winders 155 = .ok (.iconst 1, 1) := by decide +kernel
theorem dL_winders_156 : decode cL_winders 156 = .ok (.iload_n 2, 1) := by decide +kernel
theorem dL_winders_157 : decode cL_winders 157 = .ok (.bipush 8, 2) := by decide +kernel
theorem dL_winders_159 : decode cL_winders 159 = .ok (.ishr, 1) := by decide +kernel
theorem dL_winders_160 : decode cL_winders 160 = .ok (.iload_n 1, 1) := by decide +kernel
theorem dL_winders_161 : decode cL_winders 161 = .ok (.bipush 7, 2) := by decide +kernel
theorem dL_winders_163 : decode cL_winders 163 = .ok (.ishr, 1) := by decide +kernel
theorem dL_winders_164 : decode cL_winders 164 = .ok (.iconst 2, 1) := by decide +kernel
theorem dL_winders_165 : decode cL_winders 165 = .ok (.invokestatic 26, 3) := by decide +kernel
theorem dL_winders_168 : decode cL_winders 168 = .ok (.ifCond .ne 9, 3) := by decide +kernel
theorem dL_winders_171 : decode cL_winders 171 = .ok (.sipush 720, 3) := by decide +kernel
theorem dL_winders_174 : decode cL_winders 174 = .ok (.goto 5, 3) := by decide +kernel
theorem dL_winders_177 : decode cL_winders 177 = .ok (.bipush 40, 2) := by decide +kernel
theorem dL_winders_179 : decode cL_winders 179 = .ok (.invokestatic 26, 3) := by decide +kernel
theorem dL_winders_182 : decode cL_winders 182 = .ok (.iadd, 1) := by decide +kernel
theorem dL_winders_183 : decode cL_winders 183 = .ok (.iastore, 1) := by decide +kernel
theorem dL_winders_184 : decode cL_winders 184 = .ok (.aload 4, 2) := by decide +kernel
theorem dL_winders_186 : decode cL_winders 186 = .ok (.iload 5, 2) := by decide +kernel
theorem dL_winders_188 : decode cL_winders 188 = .ok (.iconst 3, 1) := by decide +kernel
theorem dL_winders_189 : decode cL_winders 189 = .ok (.iadd, 1) := by decide +kernel
theorem dL_winders_190 : decode cL_winders 190 = .ok (.aload_n 3, 1) := by decide +kernel
theorem dL_winders_191 : decode cL_winders 191 = .ok (.iconst 0, 1) := by decide +kernel
theorem dL_winders_192 : decode cL_winders 192 = .ok (.iaload, 1) := by decide +kernel
theorem dL_winders_193 : decode cL_winders 193 = .ok (.aload 4, 2) := by decide +kernel
theorem dL_winders_195 : decode cL_winders 195 = .ok (.iload 5, 2) := by decide +kernel
theorem dL_winders_197 : decode cL_winders 197 = .ok (.iconst 2, 1) := by decide +kernel
theorem dL_winders_198 : decode cL_winders 198 = .ok (.iadd, 1) := by decide +kernel
theorem dL_winders_199 : decode cL_winders 199 = .ok (.iaload, 1) := by decide +kernel
theorem dL_winders_200 : decode cL_winders 200 = .ok (.iadd, 1) := by decide +kernel
theorem dL_winders_201 : decode cL_winders 201 = .ok (.iastore, 1) := by decide +kernel
theorem dL_winders_202 : decode cL_winders 202 = .ok (.aload 4, 2) := by decide +kernel
theorem dL_winders_204 : decode cL_winders 204 = .ok (.iload 5, 2) := by decide +kernel
theorem dL_winders_206 : decode cL_winders 206 = .ok (.iconst 4, 1) := by decide +kernel
theorem dL_winders_207 : decode cL_winders 207 = .ok (.iadd, 1) := by decide +kernel
theorem dL_winders_208 : decode cL_winders 208 = .ok (.iconst 0, 1) := by decide +kernel
theorem dL_winders_209 : decode cL_winders 209 = .ok (.iastore, 1) := by decide +kernel
theorem dL_winders_210 : decode cL_winders 210 = .ok (.aload_n 3, 1) := by decide +kernel
theorem dL_winders_211 : decode cL_winders 211 = .ok (.bipush 12, 2) := by decide +kernel
theorem dL_winders_213 : decode cL_winders 213 = .ok (.dup2, 1) := by decide +kernel
theorem dL_winders_214 : decode cL_winders 214 = .ok (.iaload, 1) := by decide +kernel
theorem dL_winders_215 : decode cL_winders 215 = .ok (.iconst 1, 1) := by decide +kernel
theorem dL_winders_216 : decode cL_winders 216 = .ok (.iadd, 1) := by decide +kernel
theorem dL_winders_217 : decode cL_winders 217 = .ok (.iastore, 1) := by decide +kernel
theorem dL_winders_218 : decode cL_winders 218 = .ok (.aload_n 0, 1) := by decide +kernel
theorem dL_winders_219 : decode cL_winders 219 = .ok (.aload 4, 2) := by decide +kernel
theorem dL_winders_221 : decode cL_winders 221 = .ok (.iload 5, 2) := by decide +kernel
theorem dL_winders_223 : decode cL_winders 223 = .ok (.iaload, 1) := by decide +kernel
theorem dL_winders_224 : decode cL_winders 224 = .ok (.aload 4, 2) := by decide +kernel
theorem dL_winders_226 : decode cL_winders 226 = .ok (.iload 5, 2) := by decide +kernel
theorem dL_winders_228 : decode cL_winders 228 = .ok (.iconst 1, 1) := by decide +kernel
theorem dL_winders_229 : decode cL_winders 229 = .ok (.iadd, 1) := by decide +kernel
theorem dL_winders_230 : decode cL_winders 230 = .ok (.iaload, 1) := by decide +kernel
theorem dL_winders_231 : decode cL_winders 231 = .ok (.aload 4, 2) := by decide +kernel
theorem dL_winders_233 : decode cL_winders 233 = .ok (.iload 5, 2) := by decide +kernel
theorem dL_winders_235 : decode cL_winders 235 = .ok (.iconst 2, 1) := by decide +kernel
theorem dL_winders_236 : decode cL_winders 236 = .ok (.iadd, 1) := by decide +kernel
theorem dL_winders_237 : decode cL_winders 237 = .ok (.iaload, 1) := by decide +kernel
theorem dL_winders_238 : decode cL_winders 238 = .ok (.invokevirtual 54, 3) := by decide +kernel
theorem dL_winders_241 : decode cL_winders 241 = .ok (.aload_n 3, 1) := by decide +kernel
theorem dL_winders_242 : decode cL_winders 242 = .ok (.bipush 12, 2) := by decide +kernel
theorem dL_winders_244 : decode cL_winders 244 = .ok (.iaload, 1) := by decide +kernel
theorem dL_winders_245 : decode cL_winders 245 = .ok (.iconst 1, 1) := by decide +kernel
theorem dL_winders_246 : decode cL_winders 246 = .ok (.isub, 1) := by decide +kernel
theorem dL_winders_247 : decode cL_winders 247 = .ok (.if_icmp .ne 7, 3) := by decide +kernel
theorem dL_winders_250 : decode cL_winders 250 = .ok (.iconst 1, 1) := by decide +kernel
theorem dL_winders_251 : decode cL_winders 251 = .ok (.goto 4, 3) := by decide +kernel
theorem dL_winders_254 : decode cL_winders 254 = .ok (.iconst 0, 1) := by decide +kernel
theorem dL_winders_255 : decode cL_winders 255 = .ok (.ireturn, 1) := by decide +kernel
theorem dL_passes_0 : decode cL_passes 0 = .ok (.iconst 1, 1) := by decide +kernel
theorem dL_passes_1 : decode cL_passes 1 = .ok (.iload_n 1, 1) := by decide +kernel
theorem dL_passes_2 : decode cL_passes 2 = .ok (.iload_n 1, 1) := by decide +kernel
theorem dL_passes_3 : decode cL_passes 3 = .ok (.bipush 8, 2) := by decide +kernel
theorem dL_passes_5 : decode cL_passes 5 = .ok (.ishr, 1) := by decide +kernel
theorem dL_passes_6 : decode cL_passes 6 = .ok (.iconst 3, 1) := by decide +kernel
theorem dL_passes_7 : decode cL_passes 7 = .ok (.invokestatic 26, 3) := by decide +kernel
theorem dL_passes_10 : decode cL_passes 10 = .ok (.ifCond .ne 9, 3) := by decide +kernel
theorem dL_passes_13 : decode cL_passes 13 = .ok (.sipush 400, 3) := by decide +kernel
theorem dL_passes_16 : decode cL_passes 16 = .ok (.goto 5, 3) := by decide +kernel
theorem dL_passes_19 : decode cL_passes 19 = .ok (.bipush 70, 2) := by decide +kernel
theorem dL_passes_21 : decode cL_passes 21 = .ok (.invokestatic 26, 3) := by decide +kernel
theorem dL_passes_24 : decode cL_passes 24 = .ok (.iadd, 1) := by decide +kernel
theorem dL_passes_25 : decode cL_passes 25 = .ok (.istore 7, 2) := by decide +kernel
theorem dL_passes_27 : decode cL_passes 27 = .ok (.aload_n 2, 1) := by decide +kernel
theorem dL_passes_28 : decode cL_passes 28 = .ok (.iconst 5, 1) := by decide +kernel
theorem dL_passes_29 : decode cL_passes 29 = .ok (.iaload, 1) := by decide +kernel
theorem dL_passes_30 : decode cL_passes 30 = .ok (.istore 8, 2) := by decide +kernel
theorem dL_passes_32 : decode cL_passes 32 = .ok (.iconst 0, 1) := by decide +kernel
theorem dL_passes_33 : decode cL_passes 33 = .ok (.istore 9, 2) := by decide +kernel
theorem dL_passes_35 : decode cL_passes 35 = .ok (.iload 9, 2) := by decide +kernel
theorem dL_passes_37 : decode cL_passes 37 = .ok (.iload 7, 2) := by decide +kernel
theorem dL_passes_39 : decode cL_passes 39 = .ok (.if_icmp .ge 20, 3) := by decide +kernel
theorem dL_passes_42 : decode cL_passes 42 = .ok (.aload_n 2, 1) := by decide +kernel
theorem dL_passes_43 : decode cL_passes 43 = .ok (.aload_n 3, 1) := by decide +kernel
theorem dL_passes_44 : decode cL_passes 44 = .ok (.aload 4, 2) := by decide +kernel
theorem dL_passes_46 : decode cL_passes 46 = .ok (.aload 5, 2) := by decide +kernel
theorem dL_passes_48 : decode cL_passes 48 = .ok (.aload 6, 2) := by decide +kernel
theorem dL_passes_50 : decode cL_passes 50 = .ok (.invokestatic 58, 3) := by decide +kernel
theorem dL_passes_53 : decode cL_passes 53 = .ok (.iinc 9 1, 3) := by decide +kernel
theorem dL_passes_56 : decode cL_passes 56 = .ok (.goto (-21), 3) := by decide +kernel
theorem dL_passes_59 : decode cL_passes 59 = .ok (.aload_n 0, 1) := by decide +kernel
theorem dL_passes_60 : decode cL_passes 60 = .ok (.iload 7, 2) := by decide +kernel
theorem dL_passes_62 : decode cL_passes 62 = .ok (.invokevirtual 62, 3) := by decide +kernel
theorem dL_passes_65 : decode cL_passes 65 = .ok (.aload_n 2, 1) := by decide +kernel
theorem dL_passes_66 : decode cL_passes 66 = .ok (.iconst 5, 1) := by decide +kernel
theorem dL_passes_67 : decode cL_passes 67 = .ok (.iaload, 1) := by decide +kernel
theorem dL_passes_68 : decode cL_passes 68 = .ok (.iload 8, 2) := by decide +kernel
theorem dL_passes_70 : decode cL_passes 70 = .ok (.isub, 1) := by decide +kernel
theorem dL_passes_71 : decode cL_passes 71 = .ok (.if_icmp .ne 7, 3) := by decide +kernel
theorem dL_passes_74 : decode cL_passes 74 = .ok (.iconst 1, 1) := by decide +kernel
theorem dL_passes_75 : decode cL_passes 75 = .ok (.goto 4, 3) := by decide +kernel
theorem dL_passes_78 : decode cL_passes 78 = .ok (.iconst 0, 1) := by decide +kernel
theorem dL_passes_79 : decode cL_passes 79 = .ok (.ireturn, 1) := by decide +kernel
theorem dL_told_0 : decode cL_told 0 = .ok (.iconst 0, 1) := by decide +kernel
theorem dL_told_1 : decode cL_told 1 = .ok (.istore 6, 2) := by decide +kernel
theorem dL_told_3 : decode cL_told 3 = .ok (.iload 6, 2) := by decide +kernel
theorem dL_told_5 : decode cL_told 5 = .ok (.iconst 5, 1) := by decide +kernel
theorem dL_told_6 : decode cL_told 6 = .ok (.if_icmp .ge 24, 3) := by decide +kernel
theorem dL_told_9 : decode cL_told 9 = .ok (.aload_n 0, 1) := by decide +kernel
theorem dL_told_10 : decode cL_told 10 = .ok (.iload 6, 2) := by decide +kernel
theorem dL_told_12 : decode cL_told 12 = .ok (.invokevirtual 65, 3) := by decide +kernel
theorem dL_told_15 : decode cL_told 15 = .ok (.aload_n 1, 1) := by decide +kernel
theorem dL_told_16 : decode cL_told 16 = .ok (.iload 6, 2) := by decide +kernel
theorem dL_told_18 : decode cL_told 18 = .ok (.iaload, 1) := by decide +kernel
theorem dL_told_19 : decode cL_told 19 = .ok (.if_icmp .eq 5, 3) := by decide +kernel
theorem dL_told_22 : decode cL_told 22 = .ok (.iconst 0, 1) := by decide +kernel
theorem dL_told_23 : decode cL_told 23 = .ok (.ireturn, 1) := by decide +kernel
theorem dL_told_24 : decode cL_told 24 = .ok (.iinc 6 1, 3) := by decide +kernel
theorem dL_told_27 : decode cL_told 27 = .ok (.goto (-24), 3) := by decide +kernel
theorem dL_told_30 : decode cL_told 30 = .ok (.iconst 5, 1) := by decide +kernel
theorem dL_told_31 : decode cL_told 31 = .ok (.istore 6, 2) := by decide +kernel
theorem dL_told_33 : decode cL_told 33 = .ok (.iload 6, 2) := by decide +kernel
theorem dL_told_35 : decode cL_told 35 = .ok (.bipush 12, 2) := by decide +kernel
theorem dL_told_37 : decode cL_told 37 = .ok (.if_icmp .ge 26, 3) := by decide +kernel
theorem dL_told_40 : decode cL_told 40 = .ok (.aload_n 0, 1) := by decide +kernel
theorem dL_told_41 : decode cL_told 41 = .ok (.iload 6, 2) := by decide +kernel
theorem dL_told_43 : decode cL_told 43 = .ok (.iconst 2, 1) := by decide +kernel
theorem dL_told_44 : decode cL_told 44 = .ok (.iadd, 1) := by decide +kernel
theorem dL_told_45 : decode cL_told 45 = .ok (.invokevirtual 65, 3) := by decide +kernel
theorem dL_told_48 : decode cL_told 48 = .ok (.aload_n 1, 1) := by decide +kernel
theorem dL_told_49 : decode cL_told 49 = .ok (.iload 6, 2) := by decide +kernel
theorem dL_told_51 : decode cL_told 51 = .ok (.iaload, 1) := by decide +kernel
theorem dL_told_52 : decode cL_told 52 = .ok (.if_icmp .eq 5, 3) := by decide +kernel
theorem dL_told_55 : decode cL_told 55 = .ok (.iconst 0, 1) := by decide +kernel
theorem dL_told_56 : decode cL_told 56 = .ok (.ireturn, 1) := by decide +kernel
theorem dL_told_57 : decode cL_told 57 = .ok (.iinc 6 1, 3) := by decide +kernel
theorem dL_told_60 : decode cL_told 60 = .ok (.goto (-27), 3) := by decide +kernel
theorem dL_told_63 : decode cL_told 63 = .ok (.iconst 0, 1) := by decide +kernel
theorem dL_told_64 : decode cL_told 64 = .ok (.istore 6, 2) := by decide +kernel
theorem dL_told_66 : decode cL_told 66 = .ok (.iload 6, 2) := by decide +kernel
theorem dL_told_68 : decode cL_told 68 = .ok (.bipush 9, 2) := by decide +kernel
theorem dL_told_70 : decode cL_told 70 = .ok (.if_icmp .ge 30, 3) := by decide +kernel
theorem dL_told_73 : decode cL_told 73 = .ok (.aload_n 0, 1) := by decide +kernel
theorem dL_told_74 : decode cL_told 74 = .ok (.iload 6, 2) := by decide +kernel
theorem dL_told_76 : decode cL_told 76 = .ok (.iconst 3, 1) := by decide +kernel
theorem dL_told_77 : decode cL_told 77 = .ok (.irem, 1) := by decide +kernel
theorem dL_told_78 : decode cL_told 78 = .ok (.iload 6, 2) := by decide +kernel
theorem dL_told_80 : decode cL_told 80 = .ok (.iconst 3, 1) := by decide +kernel
theorem dL_told_81 : decode cL_told 81 = .ok (.idiv, 1) := by decide +kernel
theorem dL_told_82 : decode cL_told 82 = .ok (.invokevirtual 68, 3) := by decide +kernel
theorem dL_told_85 : decode cL_told 85 = .ok (.aload_n 2, 1) := by decide +kernel
theorem dL_told_86 : decode cL_told 86 = .ok (.iload 6, 2) := by decide +kernel
theorem dL_told_88 : decode cL_told 88 = .ok (.iaload, 1) := by decide +kernel
theorem dL_told_89 : decode cL_told 89 = .ok (.if_icmp .eq 5, 3) := by decide +kernel
theorem dL_told_92 : decode cL_told 92 = .ok (.iconst 0, 1) := by decide +kernel
theorem dL_told_93 : decode cL_told 93 = .ok (.ireturn, 1) := by decide +kernel
theorem dL_told_94 : decode cL_told 94 = .ok (.iinc 6 1, 3) := by decide +kernel
theorem dL_told_97 : decode cL_told 97 = .ok (.goto (-31), 3) := by decide +kernel
theorem dL_told_100 : decode cL_told 100 = .ok (.iconst 0, 1) := by decide +kernel
theorem dL_told_101 : decode cL_told 101 = .ok (.istore 6, 2) := by decide +kernel
theorem dL_told_103 : decode cL_told 103 = .ok (.iload 6, 2) := by decide +kernel
theorem dL_told_105 : decode cL_told 105 = .ok (.bipush 6, 2) := by decide +kernel
theorem dL_told_107 : decode cL_told 107 = .ok (.if_icmp .ge 24, 3) := by decide +kernel
theorem dL_told_110 : decode cL_told 110 = .ok (.aload_n 0, 1) := by decide +kernel
theorem dL_told_111 : decode cL_told 111 = .ok (.iload 6, 2) := by decide +kernel
theorem dL_told_113 : decode cL_told 113 = .ok (.invokevirtual 71, 3) := by decide +kernel
theorem dL_told_116 : decode cL_told 116 = .ok (.aload_n 3, 1) := by decide +kernel
theorem dL_told_117 : decode cL_told 117 = .ok (.iload 6, 2) := by decide +kernel
theorem dL_told_119 : decode cL_told 119 = .ok (.iaload, 1) := by decide +kernel
theorem dL_told_120 : decode cL_told 120 = .ok (.if_icmp .eq 5, 3) := by decide +kernel
theorem dL_told_123 : decode cL_told 123 = .ok (.iconst 0, 1) := by decide +kernel
theorem dL_told_124 : decode cL_told 124 = .ok (.ireturn, 1) := by decide +kernel
theorem dL_told_125 : decode cL_told 125 = .ok (.iinc 6 1, 3) := by decide +kernel
theorem dL_told_128 : decode cL_told 128 = .ok (.goto (-25), 3) := by decide +kernel
theorem dL_told_131 : decode cL_told 131 = .ok (.iconst 0, 1) := by decide +kernel
theorem dL_told_132 : decode cL_told 132 = .ok (.istore 6, 2) := by decide +kernel
theorem dL_told_134 : decode cL_told 134 = .ok (.iconst 0, 1) := by decide +kernel
theorem dL_told_135 : decode cL_told 135 = .ok (.istore 7, 2) := by decide +kernel
theorem dL_told_137 : decode cL_told 137 = .ok (.iload 7, 2) := by decide +kernel
theorem dL_told_139 : decode cL_told 139 = .ok (.aload_n 1, 1) := by decide +kernel
theorem dL_told_140 : decode cL_told 140 = .ok (.bipush 13, 2) := by decide +kernel
theorem dL_told_142 : decode cL_told 142 = .ok (.iaload, 1) := by decide +kernel
theorem dL_told_143 : decode cL_told 143 = .ok (.if_icmp .ge 61, 3) := by decide +kernel
theorem dL_told_146 : decode cL_told 146 = .ok (.iload 6, 2) := by decide +kernel
theorem dL_told_148 : decode cL_told 148 = .ok (.aload 5, 2) := by decide +kernel
theorem dL_told_150 : decode cL_told 150 = .ok (.iconst 2, 1) := by decide +kernel
theorem dL_told_151 : decode cL_told 151 = .ok (.iload 7, 2) := by decide +kernel
theorem dL_told_153 : decode cL_told 153 = .ok (.imul, 1) := by decide +kernel
theorem dL_told_154 : decode cL_told 154 = .ok (.iconst 1, 1) := by decide +kernel
theorem dL_told_155 : decode cL_told 155 = .ok (.iadd, 1) := by decide +kernel
theorem dL_told_156 : decode cL_told 156 = .ok (.iaload, 1) := by decide +kernel
theorem dL_told_157 : decode cL_told 157 = .ok (.iadd, 1) := by decide +kernel
theorem dL_told_158 : decode cL_told 158 = .ok (.istore 6, 2) := by decide +kernel
theorem dL_told_160 : decode cL_told 160 = .ok (.aload_n 0, 1) := by decide +kernel
theorem dL_told_161 : decode cL_told 161 = .ok (.iload 7, 2) := by decide +kernel
theorem dL_told_163 : decode cL_told 163 = .ok (.iconst 0, 1) := by decide +kernel
theorem dL_told_164 : decode cL_told 164 = .ok (.invokevirtual 74, 3) := by decide +kernel
theorem dL_told_167 : decode cL_told 167 = .ok (.aload 5, 2) := by decide +kernel
theorem dL_told_169 : decode cL_told 169 = .ok (.iconst 2, 1) := by decide +kernel
theorem dL_told_170 : decode cL_told 170 = .ok (.iload 7, 2) := by decide +kernel
theorem dL_told_172 : decode cL_told 172 = .ok (.imul, 1) := by decide +kernel
theorem dL_told_173 : decode cL_told 173 = .ok (.iaload, 1) := by decide +kernel
theorem dL_told_174 : decode cL_told 174 = .ok (.if_icmp .ne 22, 3) := by decide +kernel
theorem dL_told_177 : decode cL_told 177 = .ok (.aload_n 0, 1) := by decide +kernel
theorem dL_told_178 : decode cL_told 178 = .ok (.iload 7, 2) := by decide +kernel
theorem dL_told_180 : decode cL_told 180 = .ok (.iconst 1, 1) := by decide +kernel
theorem dL_told_181 : decode cL_told 181 = .ok (.invokevirtual 74, 3) := by decide +kernel
theorem dL_told_184 : decode cL_told 184 = .ok (.aload 5, 2) := by decide +kernel
theorem dL_told_186 : decode cL_told 186 = .ok (.iconst 2, 1) := by decide +kernel
theorem dL_told_187 : decode cL_told 187 = .ok (.iload 7, 2) := by decide +kernel
theorem dL_told_189 : decode cL_told 189 = .ok (.imul, 1) := by decide +kernel
theorem dL_told_190 : decode cL_told 190 = .ok (.iconst 1, 1) := by decide +kernel
theorem dL_told_191 : decode cL_told 191 = .ok (.iadd, 1) := by decide +kernel
theorem dL_told_192 : decode cL_told 192 = .ok (.iaload, 1) := by decide +kernel
theorem dL_told_193 : decode cL_told 193 = .ok (.if_icmp .eq 5, 3) := by decide +kernel
theorem dL_told_196 : decode cL_told 196 = .ok (.iconst 0, 1) := by decide +kernel
theorem dL_told_197 : decode cL_told 197 = .ok (.ireturn, 1) := by decide +kernel
theorem dL_told_198 : decode cL_told 198 = .ok (.iinc 7 1, 3) := by decide +kernel
theorem dL_told_201 : decode cL_told 201 = .ok (.goto (-64), 3) := by decide +kernel
theorem dL_told_204 : decode cL_told 204 = .ok (.iconst 0, 1) := by decide +kernel
theorem dL_told_205 : decode cL_told 205 = .ok (.istore 7, 2) := by decide +kernel
theorem dL_told_207 : decode cL_told 207 = .ok (.iload 7, 2) := by decide +kernel
theorem dL_told_209 : decode cL_told 209 = .ok (.aload_n 1, 1) := by decide +kernel
theorem dL_told_210 : decode cL_told 210 = .ok (.bipush 12, 2) := by decide +kernel
theorem dL_told_212 : decode cL_told 212 = .ok (.iaload, 1) := by decide +kernel
theorem dL_told_213 : decode cL_told 213 = .ok (.if_icmp .ge 179, 3) := by decide +kernel
theorem dL_told_216 : decode cL_told 216 = .ok (.aload 4, 2) := by decide +kernel
theorem dL_told_218 : decode cL_told 218 = .ok (.iconst 5, 1) := by decide +kernel
theorem dL_told_219 : decode cL_told 219 = .ok (.iload 7, 2) := by decide +kernel
theorem dL_told_221 : decode cL_told 221 = .ok (.imul, 1) := by decide +kernel
theorem dL_told_222 : decode cL_told 222 = .ok (.iconst 3, 1) := by decide +kernel
theorem dL_told_223 : decode cL_told 223 = .ok (.iadd, 1) := by decide +kernel
theorem dL_told_224 : decode cL_told 224 = .ok (.iaload, 1) := by decide +kernel
theorem dL_told_225 : decode cL_told 225 = .ok (.aload_n 1, 1) := by decide +kernel
theorem dL_told_226 : decode cL_told 226 = .ok (.iconst 0, 1) := by decide +kernel
theorem dL_told_227 : decode cL_told 227 = .ok (.iaload, 1) := by decide +kernel
theorem dL_told_228 : decode cL_told 228 = .ok (.isub, 1) := by decide +kernel
theorem dL_told_229 : decode cL_told 229 = .ok (.istore 8, 2) := by decide +kernel
theorem dL_told_231 : decode cL_told 231 = .ok (.iload 8, 2) := by decide +kernel
theorem dL_told_233 : decode cL_told 233 = .ok (.ifCond .gt 31, 3) := by decide +kernel
theorem dL_told_236 : decode cL_told 236 = .ok (.aload 4, 2) := by decide +kernel
theorem dL_told_238 : decode cL_told 238 = .ok (.iconst 5, 1) := by decide +kernel
theorem dL_told_239 : decode cL_told 239 = .ok (.iload 7, 2) := by decide +kernel
theorem dL_told_241 : decode cL_told 241 = .ok (.imul, 1) := by decide +kernel
theorem dL_told_242 : decode cL_told 242 = .ok (.iaload, 1) := by decide +kernel
theorem dL_told_243 : decode cL_told 243 = .ok (.iconst 1, 1) := by decide +kernel
theorem dL_told_244 : decode cL_told 244 = .ok (.if_icmp .ne 20, 3) := by decide +kernel
theorem dL_told_247 : decode cL_told 247 = .ok (.aload_n 1, 1) := by decide +kernel
theorem dL_told_248 : decode cL_told 248 = .ok (.bipush 13, 2) := by decide +kernel
theorem dL_told_250 : decode cL_told 250 = .ok (.iaload, 1) := by decide +kernel
theorem dL_told_251 : decode cL_told 251 = .ok (.ifCond .le 13, 3) := by decide +kernel
theorem dL_told_254 : decode cL_told 254 = .ok (.aload_n 2, 1) := by decide +kernel
theorem dL_told_255 : decode cL_told 255 = .ok (.iconst 1, 1) := by decide +kernel
theorem dL_told_256 : decode cL_told 256 = .ok (.iaload, 1) := by decide +kernel
theorem dL_told_257 : decode cL_told 257 = .ok (.ifCond .le 7, 3) := by decide +kernel
theorem dL_told_260 : decode cL_told 260 = .ok (.iconst 1, 1) := by decide +kernel
theorem dL_told_261 : decode cL_told 261 = .ok (.goto 4, 3) := by decide +kernel
theorem dL_told_264 : decode cL_told 264 = .ok (.iconst 0, 1) := by decide +kernel
theorem dL_told_265 : decode cL_told 265 = .ok (.istore 9, 2) := by decide +kernel
theorem dL_told_267 : decode cL_told 267 = .ok (.aload_n 0, 1) := by decide +kernel
theorem dL_told_268 : decode cL_told 268 = .ok (.iload 7, 2) := by decide +kernel
theorem dL_told_270 : decode cL_told 270 = .ok (.iconst 0, 1) := by decide +kernel
theorem dL_told_271 : decode cL_told 271 = .ok (.invokevirtual 77, 3) := by decide +kernel
theorem dL_told_274 : decode cL_told 274 = .ok (.aload 4, 2) := by decide +kernel
theorem dL_told_276 : decode cL_told 276 = .ok (.iconst 5, 1) := by decide +kernel
theorem dL_told_277 : decode cL_told 277 = .ok (.iload 7, 2) := by decide +kernel
theorem dL_told_279 : decode cL_told 279 = .ok (.imul, 1) := by decide +kernel
theorem dL_told_280 : decode cL_told 280 = .ok (.iaload, 1) := by decide +kernel
theorem dL_told_281 : decode cL_told 281 = .ok (.if_icmp .ne 41, 3) := by decide +kernel
theorem dL_told_284 : decode cL_told 284 = .ok (.aload_n 0, 1) := by decide +kernel
theorem dL_told_285 : decode cL_told 285 = .ok (.iload 7, 2) := by decide +kernel
theorem dL_told_287 : decode cL_told 287 = .ok (.iconst 1, 1) := by decide +kernel
theorem dL_told_288 : decode cL_told 288 = .ok (.invokevirtual 77, 3) := by decide +kernel
theorem dL_told_291 : decode cL_told 291 = .ok (.aload 4, 2) := by decide +kernel
theorem dL_told_293 : decode cL_told 293 = .ok (.iconst 5, 1) := by decide +kernel
theorem dL_told_294 : decode cL_told 294 = .ok (.iload 7, 2) := by decide +kernel
theorem dL_told_296 : decode cL_told 296 = .ok (.imul, 1) := by decide +kernel
theorem dL_told_297 : decode cL_told 297 = .ok (.iconst 1, 1) := by decide +kernel
theorem dL_told_298 : decode cL_told 298 = .ok (.iadd, 1) := by decide +kernel
theorem dL_told_299 : decode cL_told 299 = .ok (.iaload, 1) := by decide +kernel
theorem dL_told_300 : decode cL_told 300 = .ok (.if_icmp .ne 22, 3) := by decide +kernel
theorem dL_told_303 : decode cL_told 303 = .ok (.aload_n 0, 1) := by decide +kernel
theorem dL_told_304 : decode cL_told 304 = .ok (.iload 7, 2) := by decide +kernel
theorem dL_told_306 : decode cL_told 306 = .ok (.iconst 2, 1) := by decide +kernel
theorem dL_told_307 : decode cL_told 307 = .ok (.invokevirtual 77, 3) := by decide +kernel
theorem dL_told_310 : decode cL_told 310 = .ok (.aload 4, 2) := by decide +kernel
theorem dL_told_312 : decode cL_told 312 = .ok (.iconst 5, 1) := by decide +kernel
theorem dL_told_313 : decode cL_told 313 = .ok (.iload 7, 2) := by decide +kernel
theorem dL_told_315 : decode cL_told 315 = .ok (.imul, 1) := by decide +kernel
theorem dL_told_316 : decode cL_told 316 = .ok (.iconst 2, 1) := by decide +kernel
theorem dL_told_317 : decode cL_told 317 = .ok (.iadd, 1) := by decide +kernel
theorem dL_told_318 : decode cL_told 318 = .ok (.iaload, 1) := by decide +kernel
theorem dL_told_319 : decode cL_told 319 = .ok (.if_icmp .eq 5, 3) := by decide +kernel
theorem dL_told_322 : decode cL_told 322 = .ok (.iconst 0, 1) := by decide +kernel
theorem dL_told_323 : decode cL_told 323 = .ok (.ireturn, 1) := by decide +kernel
theorem dL_told_324 : decode cL_told 324 = .ok (.aload_n 0, 1) := by decide +kernel
theorem dL_told_325 : decode cL_told 325 = .ok (.iload 7, 2) := by decide +kernel
theorem dL_told_327 : decode cL_told 327 = .ok (.iconst 3, 1) := by decide +kernel
theorem dL_told_328 : decode cL_told 328 = .ok (.invokevirtual 77, 3) := by decide +kernel
theorem dL_told_331 : decode cL_told 331 = .ok (.iload 8, 2) := by decide +kernel
theorem dL_told_333 : decode cL_told 333 = .ok (.ifCond .le 8, 3) := by decide +kernel
theorem dL_told_336 : decode cL_told 336 = .ok (.iload 8, 2) := by decide +kernel
theorem dL_told_338 : decode cL_told 338 = .ok (.goto 4, 3) := by decide +kernel
theorem dL_told_341 : decode cL_told 341 = .ok (.iconst 0, 1) := by decide +kernel
theorem dL_told_342 : decode cL_told 342 = .ok (.if_icmp .ne 42, 3) := by decide +kernel
theorem dL_told_345 : decode cL_told 345 = .ok (.aload_n 0, 1) := by decide +kernel
theorem dL_told_346 : decode cL_told 346 = .ok (.iload 7, 2) := by decide +kernel
theorem dL_told_348 : decode cL_told 348 = .ok (.iconst 4, 1) := by decide +kernel
theorem dL_told_349 : decode cL_told 349 = .ok (.invokevirtual 77, 3) := by decide +kernel
theorem dL_told_352 : decode cL_told 352 = .ok (.aload 4, 2) := by decide +kernel
theorem dL_told_354 : decode cL_told 354 = .ok (.iconst 5, 1) := by decide +kernel
theorem dL_told_355 : decode cL_told 355 = .ok (.iload 7, 2) := by decide +kernel
theorem dL_told_357 : decode cL_told 357 = .ok (.imul, 1) := by decide +kernel
theorem dL_told_358 : decode cL_told 358 = .ok (.iconst 4, 1) := by decide +kernel
theorem dL_told_359 : decode cL_told 359 = .ok (.iadd, 1) := by decide +kernel
theorem dL_told_360 : decode cL_told 360 = .ok (.iaload, 1) := by decide +kernel
theorem dL_told_361 : decode cL_told 361 = .ok (.if_icmp .ne 23, 3) := by decide +kernel
theorem dL_told_364 : decode cL_told 364 = .ok (.aload_n 0, 1) := by decide +kernel
theorem dL_told_365 : decode cL_told 365 = .ok (.iload 7, 2) := by decide +kernel
theorem dL_told_367 : decode cL_told 367 = .ok (.iconst 5, 1) := by decide +kernel
theorem dL_told_368 : decode cL_told 368 = .ok (.invokevirtual 77, 3) := by decide +kernel
theorem dL_told_371 : decode cL_told 371 = .ok (.iload 9, 2) := by decide +kernel
theorem dL_told_373 : decode cL_told 373 = .ok (.ifCond .eq 7, 3) := by decide +kernel
theorem dL_told_376 : decode cL_told 376 = .ok (.iconst 1, 1) := by decide +kernel
theorem dL_told_377 : decode cL_told 377 = .ok (.goto 4, 3) := by decide +kernel
theorem dL_told_380 : decode cL_told 380 = .ok (.iconst 0, 1) := by decide +kernel
theorem dL_told_381 : decode cL_told 381 = .ok (.if_icmp .eq 5, 3) := by decide +kernel
theorem dL_told_384 : decode cL_told 384 = .ok (.iconst 0, 1) := by decide +kernel
theorem dL_told_385 : decode cL_told 385 = .ok (.ireturn, 1) := by decide +kernel
theorem dL_told_386 : decode cL_told 386 = .ok (.iinc 7 1, 3) := by decide +kernel
theorem dL_told_389 : decode cL_told 389 = .ok (.goto (-182), 3) := by decide +kernel
theorem dL_told_392 : decode cL_told 392 = .ok (.aload_n 1, 1) := by decide +kernel
theorem dL_told_393 : decode cL_told 393 = .ok (.iconst 0, 1) := by decide +kernel
theorem dL_told_394 : decode cL_told 394 = .ok (.iaload, 1) := by decide +kernel
theorem dL_told_395 : decode cL_told 395 = .ok (.sipush 720, 3) := by decide +kernel
theorem dL_told_398 : decode cL_told 398 = .ok (.irem, 1) := by decide +kernel
theorem dL_told_399 : decode cL_told 399 = .ok (.aload_n 1, 1) := by decide +kernel
theorem dL_told_400 : decode cL_told 400 = .ok (.iconst 1, 1) := by decide +kernel
theorem dL_told_401 : decode cL_told 401 = .ok (.iaload, 1) := by decide +kernel
theorem dL_told_402 : decode cL_told 402 = .ok (.isub, 1) := by decide +kernel
theorem dL_told_403 : decode cL_told 403 = .ok (.istore 7, 2) := by decide +kernel
theorem dL_told_405 : decode cL_told 405 = .ok (.aload_n 0, 1) := by decide +kernel
theorem dL_told_406 : decode cL_told 406 = .ok (.iconst 5, 1) := by decide +kernel
theorem dL_told_407 : decode cL_told 407 = .ok (.invokevirtual 65, 3) := by decide +kernel
theorem dL_told_410 : decode cL_told 410 = .ok (.aload_n 1, 1) := by decide +kernel
theorem dL_told_411 : decode cL_told 411 = .ok (.bipush 13, 2) := by decide +kernel
theorem dL_told_413 : decode cL_told 413 = .ok (.iaload, 1) := by decide +kernel
theorem dL_told_414 : decode cL_told 414 = .ok (.if_icmp .ne 91, 3) := by decide +kernel
theorem dL_told_417 : decode cL_told 417 = .ok (.aload_n 0, 1) := by decide +kernel
theorem dL_told_418 : decode cL_told 418 = .ok (.bipush 6, 2) := by decide +kernel
theorem dL_told_420 : decode cL_told 420 = .ok (.invokevirtual 65, 3) := by decide +kernel
theorem dL_told_423 : decode cL_told 423 = .ok (.iload 6, 2) := by decide +kernel
theorem dL_told_425 : decode cL_told 425 = .ok (.if_icmp .ne 80, 3) := by decide +kernel
theorem dL_told_428 : decode cL_told 428 = .ok (.aload_n 0, 1) := by decide +kernel
theorem dL_told_429 : decode cL_told 429 = .ok (.bipush 14, 2) := by decide +kernel
theorem dL_told_431 : decode cL_told 431 = .ok (.invokevirtual 65, 3) := by decide +kernel
theorem dL_told_434 : decode cL_told 434 = .ok (.aload_n 1, 1) := by decide +kernel
theorem dL_told_435 : decode cL_told 435 = .ok (.bipush 12, 2) := by decide +kernel
theorem dL_told_437 : decode cL_told 437 = .ok (.iaload, 1) := by decide +kernel
theorem dL_told_438 : decode cL_told 438 = .ok (.if_icmp .ne 67, 3) := by decide +kernel
theorem dL_told_441 : decode cL_told 441 = .ok (.aload_n 0, 1) := by decide +kernel
theorem dL_told_442 : decode cL_told 442 = .ok (.bipush 15, 2) := by decide +kernel
theorem dL_told_444 : decode cL_told 444 = .ok (.invokevirtual 65, 3) := by decide +kernel
theorem dL_told_447 : decode cL_told 447 = .ok (.iload 7, 2) := by decide +kernel
theorem dL_told_449 : decode cL_told 449 = .ok (.ifCond .ge 12, 3) := by decide +kernel
theorem dL_told_452 : decode cL_told 452 = .ok (.iload 7, 2) := by decide +kernel
theorem dL_told_454 : decode cL_told 454 = .ok (.sipush 720, 3) := by decide +kernel
theorem dL_told_457 : decode cL_told 457 = .ok (.iadd, 1) := by decide +kernel
theorem dL_told_458 : decode cL_told 458 = .ok (.goto 5, 3) := by decide +kernel
theorem dL_told_461 : decode cL_told 461 = .ok (.iload 7, 2) := by decide +kernel
theorem dL_told_463 : decode cL_told 463 = .ok (.if_icmp .ne 42, 3) := by decide +kernel
theorem dL_told_466 : decode cL_told 466 = .ok (.aload_n 0, 1) := by decide +kernel
theorem dL_told_467 : decode cL_told 467 = .ok (.bipush 16, 2) := by decide +kernel
theorem dL_told_469 : decode cL_told 469 = .ok (.invokevirtual 65, 3) := by decide +kernel
theorem dL_told_472 : decode cL_told 472 = .ok (.aload_n 1, 1) := by decide +kernel
theorem dL_told_473 : decode cL_told 473 = .ok (.aload_n 3, 1) := by decide +kernel
theorem dL_told_474 : decode cL_told 474 = .ok (.invokestatic 18, 3) := by decide +kernel
theorem dL_told_477 : decode cL_told 477 = .ok (.ifCond .eq 7, 3) := by decide +kernel
theorem dL_told_480 : decode cL_told 480 = .ok (.iconst 1, 1) := by decide +kernel
theorem dL_told_481 : decode cL_told 481 = .ok (.goto 4, 3) := by decide +kernel
theorem dL_told_484 : decode cL_told 484 = .ok (.iconst 0, 1) := by decide +kernel
theorem dL_told_485 : decode cL_told 485 = .ok (.if_icmp .ne 20, 3) := by decide +kernel
theorem dL_told_488 : decode cL_told 488 = .ok (.aload_n 0, 1) := by decide +kernel
theorem dL_told_489 : decode cL_told 489 = .ok (.bipush 17, 2) := by decide +kernel
theorem dL_told_491 : decode cL_told 491 = .ok (.invokevirtual 65, 3) := by decide +kernel
theorem dL_told_494 : decode cL_told 494 = .ok (.aload_n 1, 1) := by decide +kernel
theorem dL_told_495 : decode cL_told 495 = .ok (.bipush 14, 2) := by decide +kernel
theorem dL_told_497 : decode cL_told 497 = .ok (.iaload, 1) := by decide +kernel
theorem dL_told_498 : decode cL_told 498 = .ok (.if_icmp .ne 7, 3) := by decide +kernel
theorem dL_told_501 : decode cL_told 501 = .ok (.iconst 1, 1) := by decide +kernel
theorem dL_told_502 : decode cL_told 502 = .ok (.goto 4, 3) := by decide +kernel
theorem dL_told_505 : decode cL_told 505 = .ok (.iconst 0, 1) := by decide +kernel
theorem dL_told_506 : decode cL_told 506 = .ok (.ireturn, 1) := by decide +kernel
theorem dL_law_0 : decode cL_law 0 = .ok (.new 31, 3) := by decide +kernel
theorem dL_law_3 : decode cL_law 3 = .ok (.dup, 1) := by decide +kernel
theorem dL_law_4 : decode cL_law 4 = .ok (.invokespecial 80, 3) := by decide +kernel
theorem dL_law_7 : decode cL_law 7 = .ok (.astore_n 1, 1) := by decide +kernel
theorem dL_law_8 : decode cL_law 8 = .ok (.bipush 15, 2) := by decide +kernel
theorem dL_law_10 : decode cL_law 10 = .ok (.newarray .int, 2) := by decide +kernel
theorem dL_law_12 : decode cL_law 12 = .ok (.astore_n 2, 1) := by decide +kernel
theorem dL_law_13 : decode cL_law 13 = .ok (.bipush 9, 2) := by decide +kernel
theorem dL_law_15 : decode cL_law 15 = .ok (.newarray .int, 2) := by decide +kernel
theorem dL_law_17 : decode cL_law 17 = .ok (.astore_n 3, 1) := by decide +kernel
theorem dL_law_18 : decode cL_law 18 = .ok (.bipush 6, 2) := by decide +kernel
theorem dL_law_20 : decode cL_law 20 = .ok (.newarray .int, 2) := by decide +kernel
theorem dL_law_22 : decode cL_law 22 = .ok (.astore 4, 2) := by decide +kernel
theorem dL_law_24 : decode cL_law 24 = .ok (.bipush 30, 2) := by decide +kernel
theorem dL_law_26 : decode cL_law 26 = .ok (.newarray .int, 2) := by decide +kernel
theorem dL_law_28 : decode cL_law 28 = .ok (.astore 5, 2) := by decide +kernel
theorem dL_law_30 : decode cL_law 30 = .ok (.bipush 10, 2) := by decide +kernel
theorem dL_law_32 : decode cL_law 32 = .ok (.newarray .int, 2) := by decide +kernel
theorem dL_law_34 : decode cL_law 34 = .ok (.astore 6, 2) := by decide +kernel
theorem dL_law_36 : decode cL_law 36 = .ok (.aload_n 2, 1) := by decide +kernel
theorem dL_law_37 : decode cL_law 37 = .ok (.aload_n 3, 1) := by decide +kernel
theorem dL_law_38 : decode cL_law 38 = .ok (.aload 4, 2) := by decide +kernel
theorem dL_law_40 : decode cL_law 40 = .ok (.invokestatic 81, 3) := by decide +kernel
theorem dL_law_43 : decode cL_law 43 = .ok (.iconst 0, 1) := by decide +kernel
theorem dL_law_44 : decode cL_law 44 = .ok (.istore 7, 2) := by decide +kernel
theorem dL_law_46 : decode cL_law 46 = .ok (.iload 7, 2) := by decide +kernel
theorem dL_law_48 : decode cL_law 48 = .ok (.bipush 30, 2) := by decide +kernel
theorem dL_law_50 : decode cL_law 50 = .ok (.if_icmp .ge 142, 3) := by decide +kernel
theorem dL_law_53 : decode cL_law 53 = .ok (.aload_n 0, 1) := by decide +kernel
theorem dL_law_54 : decode cL_law 54 = .ok (.iconst 2, 1) := by decide +kernel
theorem dL_law_55 : decode cL_law 55 = .ok (.iload 7, 2) := by decide +kernel
theorem dL_law_57 : decode cL_law 57 = .ok (.imul, 1) := by decide +kernel
theorem dL_law_58 : decode cL_law 58 = .ok (.invokestatic 85, 3) := by decide +kernel
theorem dL_law_61 : decode cL_law 61 = .ok (.istore 8, 2) := by decide +kernel
theorem dL_law_63 : decode cL_law 63 = .ok (.aload_n 0, 1) := by decide +kernel
theorem dL_law_64 : decode cL_law 64 = .ok (.iconst 2, 1) := by decide +kernel
theorem dL_law_65 : decode cL_law 65 = .ok (.iload 7, 2) := by decide +kernel
theorem dL_law_67 : decode cL_law 67 = .ok (.imul, 1) := by decide +kernel
theorem dL_law_68 : decode cL_law 68 = .ok (.iconst 1, 1) := by decide +kernel
theorem dL_law_69 : decode cL_law 69 = .ok (.iadd, 1) := by decide +kernel
theorem dL_law_70 : decode cL_law 70 = .ok (.invokestatic 85, 3) := by decide +kernel
theorem dL_law_73 : decode cL_law 73 = .ok (.istore 9, 2) := by decide +kernel
theorem dL_law_75 : decode cL_law 75 = .ok (.iload 8, 2) := by decide +kernel
theorem dL_law_77 : decode cL_law 77 = .ok (.bipush 20, 2) := by decide +kernel
theorem dL_law_79 : decode cL_law 79 = .ok (.ishr, 1) := by decide +kernel
theorem dL_law_80 : decode cL_law 80 = .ok (.bipush 10, 2) := by decide +kernel
theorem dL_law_82 : decode cL_law 82 = .ok (.invokestatic 26, 3) := by decide +kernel
theorem dL_law_85 : decode cL_law 85 = .ok (.istore 10, 2) := by decide +kernel
theorem dL_law_87 : decode cL_law 87 = .ok (.iload 10, 2) := by decide +kernel
theorem dL_law_89 : decode cL_law 89 = .ok (.iconst 4, 1) := by decide +kernel
theorem dL_law_90 : decode cL_law 90 = .ok (.if_icmp .ge 20, 3) := by decide +kernel
theorem dL_law_93 : decode cL_law 93 = .ok (.aload_n 1, 1) := by decide +kernel
theorem dL_law_94 : decode cL_law 94 = .ok (.iload 8, 2) := by decide +kernel
theorem dL_law_96 : decode cL_law 96 = .ok (.iload 9, 2) := by decide +kernel
theorem dL_law_98 : decode cL_law 98 = .ok (.aload_n 2, 1) := by decide +kernel
theorem dL_law_99 : decode cL_law 99 = .ok (.aload_n 3, 1) := by decide +kernel
theorem dL_law_100 : decode cL_law 100 = .ok (.aload 4, 2) := by decide +kernel
theorem dL_law_102 : decode cL_law 102 = .ok (.aload 6, 2) := by decide +kernel
theorem dL_law_104 : decode cL_law 104 = .ok (.invokestatic 89, 3) := by decide +kernel
theorem dL_law_107 : decode cL_law 107 = .ok (.goto 38, 3) := by decide +kernel
theorem dL_law_110 : decode cL_law 110 = .ok (.iload 10, 2) := by decide +kernel
theorem dL_law_112 : decode cL_law 112 = .ok (.bipush 6, 2) := by decide +kernel
theorem dL_law_114 : decode cL_law 114 = .ok (.if_icmp .ge 17, 3) := by decide +kernel
theorem dL_law_117 : decode cL_law 117 = .ok (.aload_n 1, 1) := by decide +kernel
theorem dL_law_118 : decode cL_law 118 = .ok (.iload 8, 2) := by decide +kernel
theorem dL_law_120 : decode cL_law 120 = .ok (.iload 9, 2) := by decide +kernel
theorem dL_law_122 : decode cL_law 122 = .ok (.aload_n 2, 1) := by decide +kernel
theorem dL_law_123 : decode cL_law 123 = .ok (.aload 5, 2) := by decide +kernel
theorem dL_law_125 : decode cL_law 125 = .ok (.invokestatic 93, 3) := by decide +kernel
theorem dL_law_128 : decode cL_law 128 = .ok (.goto 17, 3) := by decide +kernel
theorem dL_law_131 : decode cL_law 131 = .ok (.aload_n 1, 1) := by decide +kernel
theorem dL_law_132 : decode cL_law 132 = .ok (.iload 9, 2) := by decide +kernel
theorem dL_law_134 : decode cL_law 134 = .ok (.aload_n 2, 1) := by decide +kernel
theorem dL_law_135 : decode cL_law 135 = .ok (.aload_n 3, 1) := by decide +kernel
theorem dL_law_136 : decode cL_law 136 = .ok (.aload 4, 2) := by decide +kernel
theorem dL_law_138 : decode cL_law 138 = .ok (.aload 5, 2) := by decide +kernel
theorem dL_law_140 : decode cL_law 140 = .ok (.aload 6, 2) := by decide +kernel
theorem dL_law_142 : decode cL_law 142 = .ok (.invokestatic 97, 3) := by decide +kernel
theorem dL_law_145 : decode cL_law 145 = .ok (.istore 11, 2) := by decide +kernel
theorem dL_law_147 : decode cL_law 147 = .ok (.aload_n 2, 1) := by decide +kernel
theorem dL_law_148 : decode cL_law 148 = .ok (.bipush 14, 2) := by decide +kernel
theorem dL_law_150 : decode cL_law 150 = .ok (.iaload, 1) := by decide +kernel
theorem dL_law_151 : decode cL_law 151 = .ok (.bipush 6, 2) := by decide +kernel
theorem dL_law_153 : decode cL_law 153 = .ok (.if_icmp .ge 11, 3) := by decide +kernel
theorem dL_law_156 : decode cL_law 156 = .ok (.aload_n 2, 1) := by decide +kernel
theorem dL_law_157 : decode cL_law 157 = .ok (.bipush 14, 2) := by decide +kernel
theorem dL_law_159 : decode cL_law 159 = .ok (.dup2, 1) := by decide +kernel
theorem dL_law_160 : decode cL_law 160 = .ok (.iaload, 1) := by decide +kernel
theorem dL_law_161 : decode cL_law 161 = .ok (.iconst 1, 1) := by decide +kernel
theorem dL_law_162 : decode cL_law 162 = .ok (.iadd, 1) := by decide +kernel
theorem dL_law_163 : decode cL_law 163 = .ok (.iastore, 1) := by decide +kernel
theorem dL_law_164 : decode cL_law 164 = .ok (.iload 11, 2) := by decide +kernel
theorem dL_law_166 : decode cL_law 166 = .ok (.ifCond .eq 18, 3) := by decide +kernel
theorem dL_law_169 : decode cL_law 169 = .ok (.aload_n 1, 1) := by decide +kernel
theorem dL_law_170 : decode cL_law 170 = .ok (.aload_n 2, 1) := by decide +kernel
theorem dL_law_171 : decode cL_law 171 = .ok (.aload_n 3, 1) := by decide +kernel
theorem dL_law_172 : decode cL_law 172 = .ok (.aload 4, 2) := by decide +kernel
theorem dL_law_174 : decode cL_law 174 = .ok (.aload 5, 2) := by decide +kernel
theorem dL_law_176 : decode cL_law 176 = .ok (.aload 6, 2) := by decide +kernel
theorem dL_law_178 : decode cL_law 178 = .ok (.invokestatic 101, 3) := by decide +kernel
theorem dL_law_181 : decode cL_law 181 = .ok (.ifCond .ne 5, 3) := by decide +kernel
theorem dL_law_184 : decode cL_law 184 = .ok (.iconst 0, 1) := by decide +kernel
theorem dL_law_185 : decode cL_law 185 = .ok (.ireturn, 1) := by decide +kernel
theorem dL_law_186 : decode cL_law 186 = .ok (.iinc 7 1, 3) := by decide +kernel
theorem dL_law_189 : decode cL_law 189 = .ok (.goto (-143), 3) := by decide +kernel
theorem dL_law_192 : decode cL_law 192 = .ok (.iconst 1, 1) := by decide +kernel
theorem dL_law_193 : decode cL_law 193 = .ok (.ireturn, 1) := by decide +kernel
