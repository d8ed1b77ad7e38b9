theorem dX6_init_0 : decode cX6_init 0 = .ok (.aload_n 0, 1) := by decide +kernel
theorem dX6_init_1 : decode cX6_init 1 = .ok (.invokespecial 1, 3) := by decide +kernel
theorem dX6_init_4 : decode cX6_init 4 = .ok (.aload_n 0, 1) := by decide +kernel
theorem dX6_init_5 : decode cX6_init 5 = .ok (.bipush 12, 2) := by decide +kernel
theorem dX6_init_7 : decode cX6_init 7 = .ok (.newarray .int, 2) := by decide +kernel
theorem dX6_init_9 : decode cX6_init 9 = .ok (.dup, 1) := by decide +kernel
theorem dX6_init_10 : decode cX6_init 10 = .ok (.iconst 0, 1) := by decide +kernel
theorem dX6_init_11 : decode cX6_init 11 = .ok (.bipush 10, 2) := by decide +kernel
theorem dX6_init_13 : decode cX6_init 13 = .ok (.iastore, 1) := by decide +kernel
theorem dX6_init_14 : decode cX6_init 14 = .ok (.dup, 1) := by decide +kernel
theorem dX6_init_15 : decode cX6_init 15 = .ok (.iconst 1, 1) := by decide +kernel
theorem dX6_init_16 : decode cX6_init 16 = .ok (.bipush 10, 2) := by decide +kernel
theorem dX6_init_18 : decode cX6_init 18 = .ok (.iastore, 1) := by decide +kernel
theorem dX6_init_19 : decode cX6_init 19 = .ok (.dup, 1) := by decide +kernel
theorem dX6_init_20 : decode cX6_init 20 = .ok (.iconst 2, 1) := by decide +kernel
theorem dX6_init_21 : decode cX6_init 21 = .ok (.bipush 10, 2) := by decide +kernel
theorem dX6_init_23 : decode cX6_init 23 = .ok (.iastore, 1) := by decide +kernel
theorem dX6_init_24 : decode cX6_init 24 = .ok (.dup, 1) := by decide +kernel
theorem dX6_init_25 : decode cX6_init 25 = .ok (.iconst 3, 1) := by decide +kernel
theorem dX6_init_26 : decode cX6_init 26 = .ok (.bipush 10, 2) := by decide +kernel
theorem dX6_init_28 : decode cX6_init 28 = .ok (.iastore, 1) := by decide +kernel
theorem dX6_init_29 : decode cX6_init 29 = .ok (.dup, 1) := by decide +kernel
theorem dX6_init_30 : decode cX6_init 30 = .ok (.iconst 4, 1) := by decide +kernel
theorem dX6_init_31 : decode cX6_init 31 = .ok (.bipush 10, 2) := by decide +kernel
theorem dX6_init_33 : decode cX6_init 33 = .ok (.iastore, 1) := by decide +kernel
theorem dX6_init_34 : decode cX6_init 34 = .ok (.dup, 1) := by decide +kernel
theorem dX6_init_35 : decode cX6_init 35 = .ok (.iconst 5, 1) := by decide +kernel
theorem dX6_init_36 : decode cX6_init 36 = .ok (.bipush 10, 2) := by decide +kernel
theorem dX6_init_38 : decode cX6_init 38 = .ok (.iastore, 1) := by decide +kernel
theorem dX6_init_39 : decode cX6_init 39 = .ok (.dup, 1) := by decide +kernel
theorem dX6_init_40 : decode cX6_init 40 = .ok (.bipush 6, 2) := by decide +kernel
theorem dX6_init_42 : decode cX6_init 42 = .ok (.bipush 10, 2) := by decide +kernel
theorem dX6_init_44 : decode cX6_init 44 = .ok (.iastore, 1) := by decide +kernel
theorem dX6_init_45 : decode cX6_init 45 = .ok (.dup, 1) := by decide +kernel
theorem dX6_init_46 : decode cX6_init 46 = .ok (.bipush 7, 2) := by decide +kernel
theorem dX6_init_48 : decode cX6_init 48 = .ok (.bipush 10, 2) := by decide +kernel
theorem dX6_init_50 : decode cX6_init 50 = .ok (.iastore, 1) := by decide +kernel
theorem dX6_init_51 : decode cX6_init 51 = .ok (.dup, 1) := by decide +kernel
theorem dX6_init_52 : decode cX6_init 52 = .ok (.bipush 8, 2) := by decide +kernel
theorem dX6_init_54 : decode cX6_init 54 = .ok (.bipush 10, 2) := by decide +kernel
theorem dX6_init_56 : decode cX6_init 56 = .ok (.iastore, 1) := by decide +kernel
theorem dX6_init_57 : decode cX6_init 57 = .ok (.dup, 1) := by decide +kernel
theorem dX6_init_58 : decode cX6_init 58 = .ok (.bipush 9, 2) := by decide +kernel
theorem dX6_init_60 : decode cX6_init 60 = .ok (.bipush 10, 2) := by decide +kernel
theorem dX6_init_62 : decode cX6_init 62 = .ok (.iastore, 1) := by decide +kernel
theorem dX6_init_63 : decode cX6_init 63 = .ok (.dup, 1) := by decide +kernel
theorem dX6_init_64 : decode cX6_init 64 = .ok (.bipush 10, 2) := by decide +kernel
theorem dX6_init_66 : decode cX6_init 66 = .ok (.bipush 10, 2) := by decide +kernel
theorem dX6_init_68 : decode cX6_init 68 = .ok (.iastore, 1) := by decide +kernel
theorem dX6_init_69 : decode cX6_init 69 = .ok (.dup, 1) := by decide +kernel
theorem dX6_init_70 : decode cX6_init 70 = .ok (.bipush 11, 2) := by decide +kernel
theorem dX6_init_72 : decode cX6_init 72 = .ok (.bipush 10, 2) := by decide +kernel
theorem dX6_init_74 : decode cX6_init 74 = .ok (.iastore, 1) := by decide +kernel
theorem dX6_init_75 : decode cX6_init 75 = .ok (.putfield 7, 3) := by decide +kernel
theorem dX6_init_78 : decode cX6_init 78 = .ok (.aload_n 0, 1) := by decide +kernel
theorem dX6_init_79 : decode cX6_init 79 = .ok (.bipush 12, 2) := by decide +kernel
theorem dX6_init_81 : decode cX6_init 81 = .ok (.newarray .boolean, 2) := by decide +kernel
theorem dX6_init_83 : decode cX6_init 83 = .ok (.putfield 13, 3) := by decide +kernel
theorem dX6_init_86 : decode cX6_init 86 = .ok (.aload_n 0, 1) := by decide +kernel
theorem dX6_init_87 : decode cX6_init 87 = .ok (.bipush 10, 2) := by decide +kernel
theorem dX6_init_89 : decode cX6_init 89 = .ok (.putfield 17, 3) := by decide +kernel
theorem dX6_init_92 : decode cX6_init 92 = .ok (.aload_n 0, 1) := by decide +kernel
theorem dX6_init_93 : decode cX6_init 93 = .ok (.sipush 10000, 3) := by decide +kernel
theorem dX6_init_96 : decode cX6_init 96 = .ok (.putfield 21, 3) := by decide +kernel
theorem dX6_init_99 : decode cX6_init 99 = .ok (.aload_n 0, 1) := by decide +kernel
theorem dX6_init_100 : decode cX6_init 100 = .ok (.sipush 10000, 3) := by decide +kernel
theorem dX6_init_103 : decode cX6_init 103 = .ok (.putfield 24, 3) := by decide +kernel
theorem dX6_init_106 : decode cX6_init 106 = .ok (.aload_n 0, 1) := by decide +kernel
theorem dX6_init_107 : decode cX6_init 107 = .ok (.bipush 8, 2) := by decide +kernel
theorem dX6_init_109 : decode cX6_init 109 = .ok (.newarray .int, 2) := by decide +kernel
theorem dX6_init_111 : decode cX6_init 111 = .ok (.putfield 27, 3) := by decide +kernel
theorem dX6_init_114 : decode cX6_init 114 = .ok (.aload_n 0, 1) := by decide +kernel
theorem dX6_init_115 : decode cX6_init 115 = .ok (.bipush 8, 2) := by decide +kernel
theorem dX6_init_117 : decode cX6_init 117 = .ok (.newarray .boolean, 2) := by decide +kernel
theorem dX6_init_119 : decode cX6_init 119 = .ok (.putfield 30, 3) := by decide +kernel
theorem dX6_init_122 : decode cX6_init 122 = .ok (.aload_n 0, 1) := by decide +kernel
theorem dX6_init_123 : decode cX6_init 123 = .ok (.bipush 8, 2) := by decide +kernel
theorem dX6_init_125 : decode cX6_init 125 = .ok (.newarray .boolean, 2) := by decide +kernel
theorem dX6_init_127 : decode cX6_init 127 = .ok (.putfield 33, 3) := by decide +kernel
theorem dX6_init_130 : decode cX6_init 130 = .ok (.aload_n 0, 1) := by decide +kernel
theorem dX6_init_131 : decode cX6_init 131 = .ok (.bipush 8, 2) := by decide +kernel
theorem dX6_init_133 : decode cX6_init 133 = .ok (.newarray .int, 2) := by decide +kernel
theorem dX6_init_135 : decode cX6_init 135 = .ok (.putfield 36, 3) := by decide +kernel
theorem dX6_init_138 : decode cX6_init 138 = .ok (.aload_n 0, 1) := by decide +kernel
theorem dX6_init_139 : decode cX6_init 139 = .ok (.bipush 8, 2) := by decide +kernel
theorem dX6_init_141 : decode cX6_init 141 = .ok (.newarray .int, 2) := by decide +kernel
theorem dX6_init_143 : decode cX6_init 143 = .ok (.putfield 39, 3) := by decide +kernel
theorem dX6_init_146 : decode cX6_init 146 = .ok (.aload_n 0, 1) := by decide +kernel
theorem dX6_init_147 : decode cX6_init 147 = .ok (.bipush 8, 2) := by decide +kernel
theorem dX6_init_149 : decode cX6_init 149 = .ok (.newarray .int, 2) := by decide +kernel
theorem dX6_init_151 : decode cX6_init 151 = .ok (.putfield 42, 3) := by decide +kernel
theorem dX6_init_154 : decode cX6_init 154 = .ok (.aload_n 0, 1) := by decide +kernel
theorem dX6_init_155 : decode cX6_init 155 = .ok (.bipush 8, 2) := by decide +kernel
theorem dX6_init_157 : decode cX6_init 157 = .ok (.newarray .int, 2) := by decide +kernel
theorem dX6_init_159 : decode cX6_init 159 = .ok (.putfield 45, 3) := by decide +kernel
theorem dX6_init_162 : decode cX6_init 162 = .ok (.aload_n 0, 1) := by decide +kernel
theorem dX6_init_163 : decode cX6_init 163 = .ok (.bipush 10, 2) := by decide +kernel
theorem dX6_init_165 : decode cX6_init 165 = .ok (.newarray .int, 2) := by decide +kernel
theorem dX6_init_167 : decode cX6_init 167 = .ok (.putfield 48, 3) := by decide +kernel
theorem dX6_init_170 : decode cX6_init 170 = .ok (.aload_n 0, 1) := by decide +kernel
theorem dX6_init_171 : decode cX6_init 171 = .ok (.iload_n 1, 1) := by decide +kernel
theorem dX6_init_172 : decode cX6_init 172 = .ok (.ifCond .ge 7, 3) := by decide +kernel
theorem dX6_init_175 : decode cX6_init 175 = .ok (.iconst 0, 1) := by decide +kernel
theorem dX6_init_176 : decode cX6_init 176 = .ok (.goto 15, 3) := by decide +kernel
theorem dX6_init_179 : decode cX6_init 179 = .ok (.iload_n 1, 1) := by decide +kernel
theorem dX6_init_180 : decode cX6_init 180 = .ok (.bipush 12, 2) := by decide +kernel
theorem dX6_init_182 : decode cX6_init 182 = .ok (.if_icmp .le 8, 3) := by decide +kernel
theorem dX6_init_185 : decode cX6_init 185 = .ok (.bipush 12, 2) := by decide +kernel
theorem dX6_init_187 : decode cX6_init 187 = .ok (.goto 4, 3) := by decide +kernel
theorem dX6_init_190 : decode cX6_init 190 = .ok (.iload_n 1, 1) := by decide +kernel
theorem dX6_init_191 : decode cX6_init 191 = .ok (.putfield 51, 3) := by decide +kernel
theorem dX6_init_194 : decode cX6_init 194 = .ok (.return_, 1) := by decide +kernel
theorem dX6_thrown_0 : decode cX6_thrown 0 = .ok (.aload_n 0, 1) := by decide +kernel
theorem dX6_thrown_1 : decode cX6_thrown 1 = .ok (.getfield 54, 3) := by decide +kernel
theorem dX6_thrown_4 : decode cX6_thrown 4 = .ok (.ireturn, 1) := by decide +kernel
theorem dX6_within_0 : decode cX6_within 0 = .ok (.iload_n 0, 1) := by decide +kernel
theorem dX6_within_1 : decode cX6_within 1 = .ok (.iload_n 1, 1) := by decide +kernel
theorem dX6_within_2 : decode cX6_within 2 = .ok (.if_icmp .lt 12, 3) := by decide +kernel
theorem dX6_within_5 : decode cX6_within 5 = .ok (.iload_n 0, 1) := by decide +kernel
theorem dX6_within_6 : decode cX6_within 6 = .ok (.iload_n 2, 1) := by decide +kernel
theorem dX6_within_7 : decode cX6_within 7 = .ok (.if_icmp .gt 7, 3) := by decide +kernel
theorem dX6_within_10 : decode cX6_within 10 = .ok (.iconst 1, 1) := by decide +kernel
theorem dX6_within_11 : decode cX6_within 11 = .ok (.goto 4, 3) := by decide +kernel
theorem dX6_within_14 : decode cX6_within 14 = .ok (.iconst 0, 1) := by decide +kernel
theorem dX6_within_15 : decode cX6_within 15 = .ok (.ireturn, 1) := by decide +kernel
theorem dX6_isPallet_0 : decode cX6_isPallet 0 = .ok (.iload_n 1, 1) := by decide +kernel
theorem dX6_isPallet_1 : decode cX6_isPallet 1 = .ok (.ifCond .lt 15, 3) := by decide +kernel
theorem dX6_isPallet_4 : decode cX6_isPallet 4 = .ok (.iload_n 1, 1) := by decide +kernel
theorem dX6_isPallet_5 : decode cX6_isPallet 5 = .ok (.aload_n 0, 1) := by decide +kernel
theorem dX6_isPallet_6 : decode cX6_isPallet 6 = .ok (.getfield 57, 3) := by decide +kernel
theorem dX6_isPallet_9 : decode cX6_isPallet 9 = .ok (.if_icmp .ge 7, 3) := by decide +kernel
theorem dX6_isPallet_12 : decode cX6_isPallet 12 = .ok (.iconst 1, 1) := by decide +kernel
theorem dX6_isPallet_13 : decode cX6_isPallet 13 = .ok (.goto 4, 3) := by decide +kernel
theorem dX6_isPallet_16 : decode cX6_isPallet 16 = .ok (.iconst 0, 1) := by decide +kernel
theorem dX6_isPallet_17 : decode cX6_isPallet 17 = .ok (.ireturn, 1) := by decide +kernel
theorem dX6_cell_0 : decode cX6_cell 0 = .ok (.aload_n 0, 1) := by decide +kernel
theorem dX6_cell_1 : decode cX6_cell 1 = .ok (.iload_n 1, 1) := by decide +kernel
theorem dX6_cell_2 : decode cX6_cell 2 = .ok (.iconst 0, 1) := by decide +kernel
theorem dX6_cell_3 : decode cX6_cell 3 = .ok (.aload_n 0, 1) := by decide +kernel
theorem dX6_cell_4 : decode cX6_cell 4 = .ok (.getfield 51, 3) := by decide +kernel
theorem dX6_cell_7 : decode cX6_cell 7 = .ok (.iconst 1, 1) := by decide +kernel
theorem dX6_cell_8 : decode cX6_cell 8 = .ok (.isub, 1) := by decide +kernel
theorem dX6_cell_9 : decode cX6_cell 9 = .ok (.invokestatic 60, 3) := by decide +kernel
theorem dX6_cell_12 : decode cX6_cell 12 = .ok (.ifCond .ne 7, 3) := by decide +kernel
theorem dX6_cell_15 : decode cX6_cell 15 = .ok (.iconst 1, 1) := by decide +kernel
theorem dX6_cell_16 : decode cX6_cell 16 = .ok (.goto 31, 3) := by decide +kernel
theorem dX6_cell_19 : decode cX6_cell 19 = .ok (.iload_n 2, 1) := by decide +kernel
theorem dX6_cell_20 : decode cX6_cell 20 = .ok (.iconst 1, 1) := by decide +kernel
theorem dX6_cell_21 : decode cX6_cell 21 = .ok (.bipush 10, 2) := by decide +kernel
theorem dX6_cell_23 : decode cX6_cell 23 = .ok (.invokestatic 60, 3) := by decide +kernel
theorem dX6_cell_26 : decode cX6_cell 26 = .ok (.ifCond .ne 7, 3) := by decide +kernel
theorem dX6_cell_29 : decode cX6_cell 29 = .ok (.iconst 2, 1) := by decide +kernel
theorem dX6_cell_30 : decode cX6_cell 30 = .ok (.goto 17, 3) := by decide +kernel
theorem dX6_cell_33 : decode cX6_cell 33 = .ok (.aload_n 0, 1) := by decide +kernel
theorem dX6_cell_34 : decode cX6_cell 34 = .ok (.iload_n 1, 1) := by decide +kernel
theorem dX6_cell_35 : decode cX6_cell 35 = .ok (.invokevirtual 64, 3) := by decide +kernel
theorem dX6_cell_38 : decode cX6_cell 38 = .ok (.iconst (-1), 1) := by decide +kernel
theorem dX6_cell_39 : decode cX6_cell 39 = .ok (.if_icmp .eq 7, 3) := by decide +kernel
theorem dX6_cell_42 : decode cX6_cell 42 = .ok (.iconst 3, 1) := by decide +kernel
theorem dX6_cell_43 : decode cX6_cell 43 = .ok (.goto 4, 3) := by decide +kernel
theorem dX6_cell_46 : decode cX6_cell 46 = .ok (.iconst 0, 1) := by decide +kernel
theorem dX6_cell_47 : decode cX6_cell 47 = .ok (.putfield 54, 3) := by decide +kernel
theorem dX6_cell_50 : decode cX6_cell 50 = .ok (.aload_n 0, 1) := by decide +kernel
theorem dX6_cell_51 : decode cX6_cell 51 = .ok (.getfield 54, 3) := by decide +kernel
theorem dX6_cell_54 : decode cX6_cell 54 = .ok (.ifCond .eq 4, 3) := by decide +kernel
theorem dX6_cell_57 : decode cX6_cell 57 = .ok (.return_, 1) := by decide +kernel
theorem dX6_cell_58 : decode cX6_cell 58 = .ok (.aload_n 0, 1) := by decide +kernel
theorem dX6_cell_59 : decode cX6_cell 59 = .ok (.getfield 7, 3) := by decide +kernel
theorem dX6_cell_62 : decode cX6_cell 62 = .ok (.iload_n 1, 1) := by decide +kernel
theorem dX6_cell_63 : decode cX6_cell 63 = .ok (.iload_n 2, 1) := by decide +kernel
theorem dX6_cell_64 : decode cX6_cell 64 = .ok (.iastore, 1) := by decide +kernel
theorem dX6_cell_65 : decode cX6_cell 65 = .ok (.aload_n 0, 1) := by decide +kernel
theorem dX6_cell_66 : decode cX6_cell 66 = .ok (.getfield 13, 3) := by decide +kernel
theorem dX6_cell_69 : decode cX6_cell 69 = .ok (.iload_n 1, 1) := by decide +kernel
theorem dX6_cell_70 : decode cX6_cell 70 = .ok (.iload_n 3, 1) := by decide +kernel
theorem dX6_cell_71 : decode cX6_cell 71 = .ok (.bastore, 1) := by decide +kernel
theorem dX6_cell_72 : decode cX6_cell 72 = .ok (.return_, 1) := by decide +kernel
theorem dX6_axles_0 : decode cX6_axles 0 = .ok (.aload_n 0, 1) := by decide +kernel
theorem dX6_axles_1 : decode cX6_axles 1 = .ok (.iload_n 1, 1) := by decide +kernel
theorem dX6_axles_2 : decode cX6_axles 2 = .ok (.iconst 0, 1) := by decide +kernel
theorem dX6_axles_3 : decode cX6_axles 3 = .ok (.bipush 100, 2) := by decide +kernel
theorem dX6_axles_5 : decode cX6_axles 5 = .ok (.invokestatic 60, 3) := by decide +kernel
theorem dX6_axles_8 : decode cX6_axles 8 = .ok (.ifCond .eq 45, 3) := by decide +kernel
theorem dX6_axles_11 : decode cX6_axles 11 = .ok (.iload_n 2, 1) := by decide +kernel
theorem dX6_axles_12 : decode cX6_axles 12 = .ok (.iconst 0, 1) := by decide +kernel
theorem dX6_axles_13 : decode cX6_axles 13 = .ok (.bipush 100, 2) := by decide +kernel
theorem dX6_axles_15 : decode cX6_axles 15 = .ok (.invokestatic 60, 3) := by decide +kernel
theorem dX6_axles_18 : decode cX6_axles 18 = .ok (.ifCond .eq 35, 3) := by decide +kernel
theorem dX6_axles_21 : decode cX6_axles 21 = .ok (.iload_n 2, 1) := by decide +kernel
theorem dX6_axles_22 : decode cX6_axles 22 = .ok (.iload_n 1, 1) := by decide +kernel
theorem dX6_axles_23 : decode cX6_axles 23 = .ok (.if_icmp .le 30, 3) := by decide +kernel
theorem dX6_axles_26 : decode cX6_axles 26 = .ok (.iload_n 3, 1) := by decide +kernel
theorem dX6_axles_27 : decode cX6_axles 27 = .ok (.iconst 0, 1) := by decide +kernel
theorem dX6_axles_28 : decode cX6_axles 28 = .ok (.sipush 10000, 3) := by decide +kernel
theorem dX6_axles_31 : decode cX6_axles 31 = .ok (.invokestatic 60, 3) := by decide +kernel
theorem dX6_axles_34 : decode cX6_axles 34 = .ok (.ifCond .eq 19, 3) := by decide +kernel
theorem dX6_axles_37 : decode cX6_axles 37 = .ok (.iload 4, 2) := by decide +kernel
theorem dX6_axles_39 : decode cX6_axles 39 = .ok (.iconst 0, 1) := by decide +kernel
theorem dX6_axles_40 : decode cX6_axles 40 = .ok (.sipush 10000, 3) := by decide +kernel
theorem dX6_axles_43 : decode cX6_axles 43 = .ok (.invokestatic 60, 3) := by decide +kernel
theorem dX6_axles_46 : decode cX6_axles 46 = .ok (.ifCond .eq 7, 3) := by decide +kernel
theorem dX6_axles_49 : decode cX6_axles 49 = .ok (.iconst 0, 1) := by decide +kernel
theorem dX6_axles_50 : decode cX6_axles 50 = .ok (.goto 4, 3) := by decide +kernel
theorem dX6_axles_53 : decode cX6_axles 53 = .ok (.iconst 1, 1) := by decide +kernel
theorem dX6_axles_54 : decode cX6_axles 54 = .ok (.putfield 54, 3) := by decide +kernel
theorem dX6_axles_57 : decode cX6_axles 57 = .ok (.aload_n 0, 1) := by decide +kernel
theorem dX6_axles_58 : decode cX6_axles 58 = .ok (.getfield 54, 3) := by decide +kernel
theorem dX6_axles_61 : decode cX6_axles 61 = .ok (.ifCond .eq 4, 3) := by decide +kernel
theorem dX6_axles_64 : decode cX6_axles 64 = .ok (.return_, 1) := by decide +kernel
theorem dX6_axles_65 : decode cX6_axles 65 = .ok (.aload_n 0, 1) := by decide +kernel
theorem dX6_axles_66 : decode cX6_axles 66 = .ok (.iload_n 1, 1) := by decide +kernel
theorem dX6_axles_67 : decode cX6_axles 67 = .ok (.putfield 68, 3) := by decide +kernel
theorem dX6_axles_70 : decode cX6_axles 70 = .ok (.aload_n 0, 1) := by decide +kernel
theorem dX6_axles_71 : decode cX6_axles 71 = .ok (.iload_n 2, 1) := by decide +kernel
theorem dX6_axles_72 : decode cX6_axles 72 = .ok (.putfield 17, 3) := by decide +kernel
theorem dX6_axles_75 : decode cX6_axles 75 = .ok (.aload_n 0, 1) := by decide +kernel
theorem dX6_axles_76 : decode cX6_axles 76 = .ok (.iload_n 3, 1) := by decide +kernel
theorem dX6_axles_77 : decode cX6_axles 77 = .ok (.putfield 21, 3) := by decide +kernel
theorem dX6_axles_80 : decode cX6_axles 80 = .ok (.aload_n 0, 1) := by decide +kernel
theorem dX6_axles_81 : decode cX6_axles 81 = .ok (.iload 4, 2) := by decide +kernel
theorem dX6_axles_83 : decode cX6_axles 83 = .ok (.putfield 24, 3) := by decide +kernel
theorem dX6_axles_86 : decode cX6_axles 86 = .ok (.return_, 1) := by decide +kernel
theorem dX6_pallet_0 : decode cX6_pallet 0 = .ok (.iload_n 1, 1) := by decide +kernel
theorem dX6_pallet_1 : decode cX6_pallet 1 = .ok (.iconst 1, 1) := by decide +kernel
theorem dX6_pallet_2 : decode cX6_pallet 2 = .ok (.sipush 1000, 3) := by decide +kernel
theorem dX6_pallet_5 : decode cX6_pallet 5 = .ok (.invokestatic 60, 3) := by decide +kernel
theorem dX6_pallet_8 : decode cX6_pallet 8 = .ok (.ifCond .eq 29, 3) := by decide +kernel
theorem dX6_pallet_11 : decode cX6_pallet 11 = .ok (.iload 4, 2) := by decide +kernel
theorem dX6_pallet_13 : decode cX6_pallet 13 = .ok (.iconst 1, 1) := by decide +kernel
theorem dX6_pallet_14 : decode cX6_pallet 14 = .ok (.bipush 9, 2) := by decide +kernel
theorem dX6_pallet_16 : decode cX6_pallet 16 = .ok (.invokestatic 60, 3) := by decide +kernel
theorem dX6_pallet_19 : decode cX6_pallet 19 = .ok (.ifCond .eq 18, 3) := by decide +kernel
theorem dX6_pallet_22 : decode cX6_pallet 22 = .ok (.iload 5, 2) := by decide +kernel
theorem dX6_pallet_24 : decode cX6_pallet 24 = .ok (.iconst 1, 1) := by decide +kernel
theorem dX6_pallet_25 : decode cX6_pallet 25 = .ok (.bipush 10, 2) := by decide +kernel
theorem dX6_pallet_27 : decode cX6_pallet 27 = .ok (.invokestatic 60, 3) := by decide +kernel
theorem dX6_pallet_30 : decode cX6_pallet 30 = .ok (.ifCond .eq 7, 3) := by decide +kernel
theorem dX6_pallet_33 : decode cX6_pallet 33 = .ok (.iconst 1, 1) := by decide +kernel
theorem dX6_pallet_34 : decode cX6_pallet 34 = .ok (.goto 4, 3) := by decide +kernel
theorem dX6_pallet_37 : decode cX6_pallet 37 = .ok (.iconst 0, 1) := by decide +kernel
theorem dX6_pallet_38 : decode cX6_pallet 38 = .ok (.istore 6, 2) := by decide +kernel
theorem dX6_pallet_40 : decode cX6_pallet 40 = .ok (.aload_n 0, 1) := by decide +kernel
theorem dX6_pallet_41 : decode cX6_pallet 41 = .ok (.iload 6, 2) := by decide +kernel
theorem dX6_pallet_43 : decode cX6_pallet 43 = .ok (.ifCond .ne 7, 3) := by decide +kernel
theorem dX6_pallet_46 : decode cX6_pallet 46 = .ok (.iconst 1, 1) := by decide +kernel
theorem dX6_pallet_47 : decode cX6_pallet 47 = .ok (.goto 28, 3) := by decide +kernel
theorem dX6_pallet_50 : decode cX6_pallet 50 = .ok (.aload_n 0, 1) := by decide +kernel
theorem dX6_pallet_51 : decode cX6_pallet 51 = .ok (.getfield 71, 3) := by decide +kernel
theorem dX6_pallet_54 : decode cX6_pallet 54 = .ok (.ifCond .eq 7, 3) := by decide +kernel
theorem dX6_pallet_57 : decode cX6_pallet 57 = .ok (.iconst 2, 1) := by decide +kernel
theorem dX6_pallet_58 : decode cX6_pallet 58 = .ok (.goto 17, 3) := by decide +kernel
theorem dX6_pallet_61 : decode cX6_pallet 61 = .ok (.aload_n 0, 1) := by decide +kernel
theorem dX6_pallet_62 : decode cX6_pallet 62 = .ok (.getfield 57, 3) := by decide +kernel
theorem dX6_pallet_65 : decode cX6_pallet 65 = .ok (.bipush 8, 2) := by decide +kernel
theorem dX6_pallet_67 : decode cX6_pallet 67 = .ok (.if_icmp .ne 7, 3) := by decide +kernel
theorem dX6_pallet_70 : decode cX6_pallet 70 = .ok (.iconst 3, 1) := by decide +kernel
theorem dX6_pallet_71 : decode cX6_pallet 71 = .ok (.goto 4, 3) := by decide +kernel
theorem dX6_pallet_74 : decode cX6_pallet 74 = .ok (.iconst 0, 1) := by decide +kernel
theorem dX6_pallet_75 : decode cX6_pallet 75 = .ok (.putfield 54, 3) := by decide +kernel
theorem dX6_pallet_78 : decode cX6_pallet 78 = .ok (.aload_n 0, 1) := by decide +kernel
theorem dX6_pallet_79 : decode cX6_pallet 79 = .ok (.getfield 54, 3) := by decide +kernel
theorem dX6_pallet_82 : decode cX6_pallet 82 = .ok (.ifCond .eq 5, 3) := by decide +kernel
theorem dX6_pallet_85 : decode cX6_pallet 85 = .ok (.iconst 0, 1) := by decide +kernel
theorem dX6_pallet_86 : decode cX6_pallet 86 = .ok (.ireturn, 1) := by decide +kernel
theorem dX6_pallet_87 : decode cX6_pallet 87 = .ok (.aload_n 0, 1) := by decide +kernel
theorem dX6_pallet_88 : decode cX6_pallet 88 = .ok (.getfield 27, 3) := by decide +kernel
theorem dX6_pallet_91 : decode cX6_pallet 91 = .ok (.aload_n 0, 1) := by decide +kernel
theorem dX6_pallet_92 : decode cX6_pallet 92 = .ok (.getfield 57, 3) := by decide +kernel
theorem dX6_pallet_95 : decode cX6_pallet 95 = .ok (.iload_n 1, 1) := by decide +kernel
theorem dX6_pallet_96 : decode cX6_pallet 96 = .ok (.iastore, 1) := by decide +kernel
theorem dX6_pallet_97 : decode cX6_pallet 97 = .ok (.aload_n 0, 1) := by decide +kernel
theorem dX6_pallet_98 : decode cX6_pallet 98 = .ok (.getfield 30, 3) := by decide +kernel
theorem dX6_pallet_101 : decode cX6_pallet 101 = .ok (.aload_n 0, 1) := by decide +kernel
theorem dX6_pallet_102 : decode cX6_pallet 102 = .ok (.getfield 57, 3) := by decide +kernel
theorem dX6_pallet_105 : decode cX6_pallet 105 = .ok (.iload_n 2, 1) := by decide +kernel
theorem dX6_pallet_106 : decode cX6_pallet 106 = .ok (.bastore, 1) := by decide +kernel
theorem dX6_pallet_107 : decode cX6_pallet 107 = .ok (.aload_n 0, 1) := by decide +kernel
theorem dX6_pallet_108 : decode cX6_pallet 108 = .ok (.getfield 33, 3) := by decide +kernel
theorem dX6_pallet_111 : decode cX6_pallet 111 = .ok (.aload_n 0, 1) := by decide +kernel
theorem dX6_pallet_112 : decode cX6_pallet 112 = .ok (.getfield 57, 3) := by decide +kernel
theorem dX6_pallet_115 : decode cX6_pallet 115 = .ok (.iload_n 3, 1) := by decide +kernel
theorem dX6_pallet_116 : decode cX6_pallet 116 = .ok (.bastore, 1) := by decide +kernel
theorem dX6_pallet_117 : decode cX6_pallet 117 = .ok (.aload_n 0, 1) := by decide +kernel
theorem dX6_pallet_118 : decode cX6_pallet 118 = .ok (.getfield 36, 3) := by decide +kernel
theorem dX6_pallet_121 : decode cX6_pallet 121 = .ok (.aload_n 0, 1) := by decide +kernel
theorem dX6_pallet_122 : decode cX6_pallet 122 = .ok (.getfield 57, 3) := by decide +kernel
theorem dX6_pallet_125 : decode cX6_pallet 125 = .ok (.iload 4, 2) := by decide +kernel
theorem dX6_pallet_127 : decode cX6_pallet 127 = .ok (.iastore, 1) := by decide +kernel
theorem dX6_pallet_128 : decode cX6_pallet 128 = .ok (.aload_n 0, 1) := by decide +kernel
theorem dX6_pallet_129 : decode cX6_pallet 129 = .ok (.getfield 39, 3) := by decide +kernel
theorem dX6_pallet_132 : decode cX6_pallet 132 = .ok (.aload_n 0, 1) := by decide +kernel
theorem dX6_pallet_133 : decode cX6_pallet 133 = .ok (.getfield 57, 3) := by decide +kernel
theorem dX6_pallet_136 : decode cX6_pallet 136 = .ok (.iload 5, 2) := by decide +kernel
theorem dX6_pallet_138 : decode cX6_pallet 138 = .ok (.iastore, 1) := by decide +kernel
theorem dX6_pallet_139 : decode cX6_pallet 139 = .ok (.aload_n 0, 1) := by decide +kernel
theorem dX6_pallet_140 : decode cX6_pallet 140 = .ok (.getfield 42, 3) := by decide +kernel
theorem dX6_pallet_143 : decode cX6_pallet 143 = .ok (.aload_n 0, 1) := by decide +kernel
theorem dX6_pallet_144 : decode cX6_pallet 144 = .ok (.getfield 57, 3) := by decide +kernel
theorem dX6_pallet_147 : decode cX6_pallet 147 = .ok (.iconst (-1), 1) := by decide +kernel
theorem dX6_pallet_148 : decode cX6_pallet 148 = .ok (.iastore, 1) := by decide +kernel
theorem dX6_pallet_149 : decode cX6_pallet 149 = .ok (.aload_n 0, 1) := by decide +kernel
theorem dX6_pallet_150 : decode cX6_pallet 150 = .ok (.dup, 1) := by decide +kernel
theorem dX6_pallet_151 : decode cX6_pallet 151 = .ok (.getfield 57, 3) := by decide +kernel
theorem dX6_pallet_154 : decode cX6_pallet 154 = .ok (.iconst 1, 1) := by decide +kernel
theorem dX6_pallet_155 : decode cX6_pallet 155 = .ok (.iadd, 1) := by decide +kernel
theorem dX6_pallet_156 : decode cX6_pallet 156 = .ok (.putfield 57, 3) := by decide +kernel
theorem dX6_pallet_159 : decode cX6_pallet 159 = .ok (.aload_n 0, 1) := by decide +kernel
theorem dX6_pallet_160 : decode cX6_pallet 160 = .ok (.getfield 57, 3) := by decide +kernel
theorem dX6_pallet_163 : decode cX6_pallet 163 = .ok (.iconst 1, 1) := by decide +kernel
theorem dX6_pallet_164 : decode cX6_pallet 164 = .ok (.isub, 1) := by decide +kernel
theorem dX6_pallet_165 : decode cX6_pallet 165 = .ok (.ireturn, 1) := by decide +kernel
theorem dX6_standsAt_0 : decode cX6_standsAt 0 = .ok (.iconst 0, 1) := by decide +kernel
theorem dX6_standsAt_1 : decode cX6_standsAt 1 = .ok (.istore_n 2, 1) := by decide +kernel
theorem dX6_standsAt_2 : decode cX6_standsAt 2 = .ok (.iload_n 2, 1) := by decide +kernel
theorem dX6_standsAt_3 : decode cX6_standsAt 3 = .ok (.aload_n 0, 1) := by decide +kernel
theorem dX6_standsAt_4 : decode cX6_standsAt 4 = .ok (.getfield 57, 3) := by decide +kernel
theorem dX6_standsAt_7 : decode cX6_standsAt 7 = .ok (.if_icmp .ge 21, 3) := by decide +kernel
theorem dX6_standsAt_10 : decode cX6_standsAt 10 = .ok (.aload_n 0, 1) := by decide +kernel
theorem dX6_standsAt_11 : decode cX6_standsAt 11 = .ok (.getfield 42, 3) := by decide +kernel
theorem dX6_standsAt_14 : decode cX6_standsAt 14 = .ok (.iload_n 2, 1) := by decide +kernel
theorem dX6_standsAt_15 : decode cX6_standsAt 15 = .ok (.iaload, 1) := by decide +kernel
theorem dX6_standsAt_16 : decode cX6_standsAt 16 = .ok (.iload_n 1, 1) := by decide +kernel
theorem dX6_standsAt_17 : decode cX6_standsAt 17 = .ok (.if_icmp .ne 5, 3) := by decide +kernel
theorem dX6_standsAt_20 : decode cX6_standsAt 20 = .ok (.iload_n 2, 1) := by decide +kernel
theorem dX6_standsAt_21 : decode cX6_standsAt 21 = .ok (.ireturn, 1) := by decide +kernel
theorem dX6_standsAt_22 : decode cX6_standsAt 22 = .ok (.iinc 2 1, 3) := by decide +kernel
theorem dX6_standsAt_25 : decode cX6_standsAt 25 = .ok (.goto (-23), 3) := by decide +kernel
theorem dX6_standsAt_28 : decode cX6_standsAt 28 = .ok (.iconst (-1), 1) := by decide +kernel
theorem dX6_standsAt_29 : decode cX6_standsAt 29 = .ok (.ireturn, 1) := by decide +kernel
theorem dX6_load_0 : decode cX6_load 0 = .ok (.iconst 0, 1) := by decide +kernel
theorem dX6_load_1 : decode cX6_load 1 = .ok (.istore_n 2, 1) := by decide +kernel
theorem dX6_load_2 : decode cX6_load 2 = .ok (.iconst 0, 1) := by decide +kernel
theorem dX6_load_3 : decode cX6_load 3 = .ok (.istore_n 3, 1) := by decide +kernel
theorem dX6_load_4 : decode cX6_load 4 = .ok (.iload_n 3, 1) := by decide +kernel
theorem dX6_load_5 : decode cX6_load 5 = .ok (.aload_n 0, 1) := by decide +kernel
theorem dX6_load_6 : decode cX6_load 6 = .ok (.getfield 57, 3) := by decide +kernel
theorem dX6_load_9 : decode cX6_load 9 = .ok (.if_icmp .ge 59, 3) := by decide +kernel
theorem dX6_load_12 : decode cX6_load 12 = .ok (.aload_n 0, 1) := by decide +kernel
theorem dX6_load_13 : decode cX6_load 13 = .ok (.getfield 42, 3) := by decide +kernel
theorem dX6_load_16 : decode cX6_load 16 = .ok (.iload_n 3, 1) := by decide +kernel
theorem dX6_load_17 : decode cX6_load 17 = .ok (.iaload, 1) := by decide +kernel
theorem dX6_load_18 : decode cX6_load 18 = .ok (.iconst (-1), 1) := by decide +kernel
theorem dX6_load_19 : decode cX6_load 19 = .ok (.if_icmp .eq 43, 3) := by decide +kernel
theorem dX6_load_22 : decode cX6_load 22 = .ok (.iload_n 2, 1) := by decide +kernel
theorem dX6_load_23 : decode cX6_load 23 = .ok (.aload_n 0, 1) := by decide +kernel
theorem dX6_load_24 : decode cX6_load 24 = .ok (.getfield 27, 3) := by decide +kernel
theorem dX6_load_27 : decode cX6_load 27 = .ok (.iload_n 3, 1) := by decide +kernel
theorem dX6_load_28 : decode cX6_load 28 = .ok (.iaload, 1) := by decide +kernel
theorem dX6_load_29 : decode cX6_load 29 = .ok (.iload_n 1, 1) := by decide +kernel
theorem dX6_load_30 : decode cX6_load 30 = .ok (.iconst 1, 1) := by decide +kernel
theorem dX6_load_31 : decode cX6_load 31 = .ok (.if_icmp .ne 17, 3) := by decide +kernel
theorem dX6_load_34 : decode cX6_load 34 = .ok (.aload_n 0, 1) := by decide +kernel
theorem dX6_load_35 : decode cX6_load 35 = .ok (.getfield 42, 3) := by decide +kernel
theorem dX6_load_38 : decode cX6_load 38 = .ok (.iload_n 3, 1) := by decide +kernel
theorem dX6_load_39 : decode cX6_load 39 = .ok (.iaload, 1) := by decide +kernel
theorem dX6_load_40 : decode cX6_load 40 = .ok (.aload_n 0, 1) := by decide +kernel
theorem dX6_load_41 : decode cX6_load 41 = .ok (.getfield 68, 3) := by decide +kernel
theorem dX6_load_44 : decode cX6_load 44 = .ok (.isub, 1) := by decide +kernel
theorem dX6_load_45 : decode cX6_load 45 = .ok (.goto 14, 3) := by decide +kernel
theorem dX6_load_48 : decode cX6_load 48 = .ok (.aload_n 0, 1) := by decide +kernel
theorem dX6_load_49 : decode cX6_load 49 = .ok (.getfield 17, 3) := by decide +kernel
theorem dX6_load_52 : decode cX6_load 52 = .ok (.aload_n 0, 1) := by decide +kernel
theorem dX6_load_53 : decode cX6_load 53 = .ok (.getfield 42, 3) := by decide +kernel
theorem dX6_load_56 : decode cX6_load 56 = .ok (.iload_n 3, 1) := by decide +kernel
theorem dX6_load_57 : decode cX6_load 57 = .ok (.iaload, 1) := by decide +kernel
theorem dX6_load_58 : decode cX6_load 58 = .ok (.isub, 1) := by decide +kernel
theorem dX6_load_59 : decode cX6_load 59 = .ok (.imul, 1) := by decide +kernel
theorem dX6_load_60 : decode cX6_load 60 = .ok (.iadd, 1) := by decide +kernel
theorem dX6_load_61 : decode cX6_load 61 = .ok (.istore_n 2, 1) := by decide +kernel
theorem dX6_load_62 : decode cX6_load 62 = .ok (.iinc 3 1, 3) := by decide +kernel
theorem dX6_load_65 : decode cX6_load 65 = .ok (.goto (-61), 3) := by decide +kernel
theorem dX6_load_68 : decode cX6_load 68 = .ok (.iload_n 2, 1) := by decide +kernel
theorem dX6_load_69 : decode cX6_load 69 = .ok (.ireturn, 1) := by decide +kernel
theorem dX6_axlesBear_0 : decode cX6_axlesBear 0 = .ok (.aload_n 0, 1) := by decide +kernel
theorem dX6_axlesBear_1 : decode cX6_axlesBear 1 = .ok (.iconst 0, 1) := by decide +kernel
theorem dX6_axlesBear_2 : decode cX6_axlesBear 2 = .ok (.invokevirtual 75, 3) := by decide +kernel
theorem dX6_axlesBear_5 : decode cX6_axlesBear 5 = .ok (.aload_n 0, 1) := by decide +kernel
theorem dX6_axlesBear_6 : decode cX6_axlesBear 6 = .ok (.getfield 21, 3) := by decide +kernel
theorem dX6_axlesBear_9 : decode cX6_axlesBear 9 = .ok (.aload_n 0, 1) := by decide +kernel
theorem dX6_axlesBear_10 : decode cX6_axlesBear 10 = .ok (.getfield 17, 3) := by decide +kernel
theorem dX6_axlesBear_13 : decode cX6_axlesBear 13 = .ok (.aload_n 0, 1) := by decide +kernel
theorem dX6_axlesBear_14 : decode cX6_axlesBear 14 = .ok (.getfield 68, 3) := by decide +kernel
theorem dX6_axlesBear_17 : decode cX6_axlesBear 17 = .ok (.isub, 1) := by decide +kernel
theorem dX6_axlesBear_18 : decode cX6_axlesBear 18 = .ok (.imul, 1) := by decide +kernel
theorem dX6_axlesBear_19 : decode cX6_axlesBear 19 = .ok (.if_icmp .gt 29, 3) := by decide +kernel
theorem dX6_axlesBear_22 : decode cX6_axlesBear 22 = .ok (.aload_n 0, 1) := by decide +kernel
theorem dX6_axlesBear_23 : decode cX6_axlesBear 23 = .ok (.iconst 1, 1) := by decide +kernel
theorem dX6_axlesBear_24 : decode cX6_axlesBear 24 = .ok (.invokevirtual 75, 3) := by decide +kernel
theorem dX6_axlesBear_27 : decode cX6_axlesBear 27 = .ok (.aload_n 0, 1) := by decide +kernel
theorem dX6_axlesBear_28 : decode cX6_axlesBear 28 = .ok (.getfield 24, 3) := by decide +kernel
theorem dX6_axlesBear_31 : decode cX6_axlesBear 31 = .ok (.aload_n 0, 1) := by decide +kernel
theorem dX6_axlesBear_32 : decode cX6_axlesBear 32 = .ok (.getfield 17, 3) := by decide +kernel
theorem dX6_axlesBear_35 : decode cX6_axlesBear 35 = .ok (.aload_n 0, 1) := by decide +kernel
theorem dX6_axlesBear_36 : decode cX6_axlesBear 36 = .ok (.getfield 68, 3) := by decide +kernel
theorem dX6_axlesBear_39 : decode cX6_axlesBear 39 = .ok (.isub, 1) := by decide +kernel
theorem dX6_axlesBear_40 : decode cX6_axlesBear 40 = .ok (.imul, 1) := by decide +kernel
theorem dX6_axlesBear_41 : decode cX6_axlesBear 41 = .ok (.if_icmp .gt 7, 3) := by decide +kernel
theorem dX6_axlesBear_44 : decode cX6_axlesBear 44 = .ok (.iconst 1, 1) := by decide +kernel
theorem dX6_axlesBear_45 : decode cX6_axlesBear 45 = .ok (.goto 4, 3) := by decide +kernel
theorem dX6_axlesBear_48 : decode cX6_axlesBear 48 = .ok (.iconst 0, 1) := by decide +kernel
theorem dX6_axlesBear_49 : decode cX6_axlesBear 49 = .ok (.ireturn, 1) := by decide +kernel
theorem dX6_keepsOff_0 : decode cX6_keepsOff 0 = .ok (.iload_n 1, 1) := by decide +kernel
theorem dX6_keepsOff_1 : decode cX6_keepsOff 1 = .ok (.iconst 2, 1) := by decide +kernel
theorem dX6_keepsOff_2 : decode cX6_keepsOff 2 = .ok (.if_icmp .ne 24, 3) := by decide +kernel
theorem dX6_keepsOff_5 : decode cX6_keepsOff 5 = .ok (.aload_n 0, 1) := by decide +kernel
theorem dX6_keepsOff_6 : decode cX6_keepsOff 6 = .ok (.getfield 7, 3) := by decide +kernel
theorem dX6_keepsOff_9 : decode cX6_keepsOff 9 = .ok (.iload_n 3, 1) := by decide +kernel
theorem dX6_keepsOff_10 : decode cX6_keepsOff 10 = .ok (.iaload, 1) := by decide +kernel
theorem dX6_keepsOff_11 : decode cX6_keepsOff 11 = .ok (.aload_n 0, 1) := by decide +kernel
theorem dX6_keepsOff_12 : decode cX6_keepsOff 12 = .ok (.getfield 39, 3) := by decide +kernel
theorem dX6_keepsOff_15 : decode cX6_keepsOff 15 = .ok (.iload_n 2, 1) := by decide +kernel
theorem dX6_keepsOff_16 : decode cX6_keepsOff 16 = .ok (.iaload, 1) := by decide +kernel
theorem dX6_keepsOff_17 : decode cX6_keepsOff 17 = .ok (.if_icmp .ge 7, 3) := by decide +kernel
theorem dX6_keepsOff_20 : decode cX6_keepsOff 20 = .ok (.iconst 1, 1) := by decide +kernel
theorem dX6_keepsOff_21 : decode cX6_keepsOff 21 = .ok (.goto 4, 3) := by decide +kernel
theorem dX6_keepsOff_24 : decode cX6_keepsOff 24 = .ok (.iconst 0, 1) := by decide +kernel
theorem dX6_keepsOff_25 : decode cX6_keepsOff 25 = .ok (.ireturn, 1) := by decide +kernel
theorem dX6_keepsOff_26 : decode cX6_keepsOff 26 = .ok (.iload_n 1, 1) := by decide +kernel
theorem dX6_keepsOff_27 : decode cX6_keepsOff 27 = .ok (.iconst 3, 1) := by decide +kernel
theorem dX6_keepsOff_28 : decode cX6_keepsOff 28 = .ok (.if_icmp .ne 27, 3) := by decide +kernel
theorem dX6_keepsOff_31 : decode cX6_keepsOff 31 = .ok (.aload_n 0, 1) := by decide +kernel
theorem dX6_keepsOff_32 : decode cX6_keepsOff 32 = .ok (.getfield 30, 3) := by decide +kernel
theorem dX6_keepsOff_35 : decode cX6_keepsOff 35 = .ok (.iload_n 2, 1) := by decide +kernel
theorem dX6_keepsOff_36 : decode cX6_keepsOff 36 = .ok (.baload, 1) := by decide +kernel
theorem dX6_keepsOff_37 : decode cX6_keepsOff 37 = .ok (.ifCond .eq 16, 3) := by decide +kernel
theorem dX6_keepsOff_40 : decode cX6_keepsOff 40 = .ok (.aload_n 0, 1) := by decide +kernel
theorem dX6_keepsOff_41 : decode cX6_keepsOff 41 = .ok (.getfield 13, 3) := by decide +kernel
theorem dX6_keepsOff_44 : decode cX6_keepsOff 44 = .ok (.iload_n 3, 1) := by decide +kernel
theorem dX6_keepsOff_45 : decode cX6_keepsOff 45 = .ok (.baload, 1) := by decide +kernel
theorem dX6_keepsOff_46 : decode cX6_keepsOff 46 = .ok (.ifCond .ne 7, 3) := by decide +kernel
theorem dX6_keepsOff_49 : decode cX6_keepsOff 49 = .ok (.iconst 1, 1) := by decide +kernel
theorem dX6_keepsOff_50 : decode cX6_keepsOff 50 = .ok (.goto 4, 3) := by decide +kernel
theorem dX6_keepsOff_53 : decode cX6_keepsOff 53 = .ok (.iconst 0, 1) := by decide +kernel
theorem dX6_keepsOff_54 : decode cX6_keepsOff 54 = .ok (.ireturn, 1) := by decide +kernel
theorem dX6_keepsOff_55 : decode cX6_keepsOff 55 = .ok (.iconst 0, 1) := by decide +kernel
theorem dX6_keepsOff_56 : decode cX6_keepsOff 56 = .ok (.istore 4, 2) := by decide +kernel
theorem dX6_keepsOff_58 : decode cX6_keepsOff 58 = .ok (.iload 4, 2) := by decide +kernel
theorem dX6_keepsOff_60 : decode cX6_keepsOff 60 = .ok (.aload_n 0, 1) := by decide +kernel
theorem dX6_keepsOff_61 : decode cX6_keepsOff 61 = .ok (.getfield 57, 3) := by decide +kernel
theorem dX6_keepsOff_64 : decode cX6_keepsOff 64 = .ok (.if_icmp .ge 140, 3) := by decide +kernel
theorem dX6_keepsOff_67 : decode cX6_keepsOff 67 = .ok (.iload 4, 2) := by decide +kernel
theorem dX6_keepsOff_69 : decode cX6_keepsOff 69 = .ok (.iload_n 2, 1) := by decide +kernel
theorem dX6_keepsOff_70 : decode cX6_keepsOff 70 = .ok (.if_icmp .ne 7, 3) := by decide +kernel
theorem dX6_keepsOff_73 : decode cX6_keepsOff 73 = .ok (.iconst (-1), 1) := by decide +kernel
theorem dX6_keepsOff_74 : decode cX6_keepsOff 74 = .ok (.goto 10, 3) := by decide +kernel
theorem dX6_keepsOff_77 : decode cX6_keepsOff 77 = .ok (.aload_n 0, 1) := by decide +kernel
theorem dX6_keepsOff_78 : decode cX6_keepsOff 78 = .ok (.getfield 42, 3) := by decide +kernel
theorem dX6_keepsOff_81 : decode cX6_keepsOff 81 = .ok (.iload 4, 2) := by decide +kernel
theorem dX6_keepsOff_83 : decode cX6_keepsOff 83 = .ok (.iaload, 1) := by decide +kernel
theorem dX6_keepsOff_84 : decode cX6_keepsOff 84 = .ok (.istore 5, 2) := by decide +kernel
theorem dX6_keepsOff_86 : decode cX6_keepsOff 86 = .ok (.iload 5, 2) := by decide +kernel
theorem dX6_keepsOff_88 : decode cX6_keepsOff 88 = .ok (.iconst (-1), 1) := by decide +kernel
theorem dX6_keepsOff_89 : decode cX6_keepsOff 89 = .ok (.if_icmp .eq 109, 3) := by decide +kernel
theorem dX6_keepsOff_92 : decode cX6_keepsOff 92 = .ok (.iload_n 1, 1) := by decide +kernel
theorem dX6_keepsOff_93 : decode cX6_keepsOff 93 = .ok (.iconst 1, 1) := by decide +kernel
theorem dX6_keepsOff_94 : decode cX6_keepsOff 94 = .ok (.if_icmp .ne 11, 3) := by decide +kernel
theorem dX6_keepsOff_97 : decode cX6_keepsOff 97 = .ok (.iload 5, 2) := by decide +kernel
theorem dX6_keepsOff_99 : decode cX6_keepsOff 99 = .ok (.iload_n 3, 1) := by decide +kernel
theorem dX6_keepsOff_100 : decode cX6_keepsOff 100 = .ok (.if_icmp .ne 5, 3) := by decide +kernel
theorem dX6_keepsOff_103 : decode cX6_keepsOff 103 = .ok (.iconst 1, 1) := by decide +kernel
theorem dX6_keepsOff_104 : decode cX6_keepsOff 104 = .ok (.ireturn, 1) := by decide +kernel
theorem dX6_keepsOff_105 : decode cX6_keepsOff 105 = .ok (.iload_n 1, 1) := by decide +kernel
theorem dX6_keepsOff_106 : decode cX6_keepsOff 106 = .ok (.iconst 4, 1) := by decide +kernel
theorem dX6_keepsOff_107 : decode cX6_keepsOff 107 = .ok (.if_icmp .ne 40, 3) := by decide +kernel
theorem dX6_keepsOff_110 : decode cX6_keepsOff 110 = .ok (.aload_n 0, 1) := by decide +kernel
theorem dX6_keepsOff_111 : decode cX6_keepsOff 111 = .ok (.getfield 33, 3) := by decide +kernel
theorem dX6_keepsOff_114 : decode cX6_keepsOff 114 = .ok (.iload_n 2, 1) := by decide +kernel
theorem dX6_keepsOff_115 : decode cX6_keepsOff 115 = .ok (.baload, 1) := by decide +kernel
theorem dX6_keepsOff_116 : decode cX6_keepsOff 116 = .ok (.ifCond .eq 31, 3) := by decide +kernel
theorem dX6_keepsOff_119 : decode cX6_keepsOff 119 = .ok (.aload_n 0, 1) := by decide +kernel
theorem dX6_keepsOff_120 : decode cX6_keepsOff 120 = .ok (.getfield 33, 3) := by decide +kernel
theorem dX6_keepsOff_123 : decode cX6_keepsOff 123 = .ok (.iload 4, 2) := by decide +kernel
theorem dX6_keepsOff_125 : decode cX6_keepsOff 125 = .ok (.baload, 1) := by decide +kernel
theorem dX6_keepsOff_126 : decode cX6_keepsOff 126 = .ok (.ifCond .eq 21, 3) := by decide +kernel
theorem dX6_keepsOff_129 : decode cX6_keepsOff 129 = .ok (.iload 5, 2) := by decide +kernel
theorem dX6_keepsOff_131 : decode cX6_keepsOff 131 = .ok (.iload_n 3, 1) := by decide +kernel
theorem dX6_keepsOff_132 : decode cX6_keepsOff 132 = .ok (.iconst 1, 1) := by decide +kernel
theorem dX6_keepsOff_133 : decode cX6_keepsOff 133 = .ok (.iadd, 1) := by decide +kernel
theorem dX6_keepsOff_134 : decode cX6_keepsOff 134 = .ok (.if_icmp .eq 11, 3) := by decide +kernel
theorem dX6_keepsOff_137 : decode cX6_keepsOff 137 = .ok (.iload 5, 2) := by decide +kernel
theorem dX6_keepsOff_139 : decode cX6_keepsOff 139 = .ok (.iload_n 3, 1) := by decide +kernel
theorem dX6_keepsOff_140 : decode cX6_keepsOff 140 = .ok (.iconst 1, 1) := by decide +kernel
theorem dX6_keepsOff_141 : decode cX6_keepsOff 141 = .ok (.isub, 1) := by decide +kernel
theorem dX6_keepsOff_142 : decode cX6_keepsOff 142 = .ok (.if_icmp .ne 5, 3) := by decide +kernel
theorem dX6_keepsOff_145 : decode cX6_keepsOff 145 = .ok (.iconst 1, 1) := by decide +kernel
theorem dX6_keepsOff_146 : decode cX6_keepsOff 146 = .ok (.ireturn, 1) := by decide +kernel
theorem dX6_keepsOff_147 : decode cX6_keepsOff 147 = .ok (.iload_n 1, 1) := by decide +kernel
theorem dX6_keepsOff_148 : decode cX6_keepsOff 148 = .ok (.iconst 5, 1) := by decide +kernel
theorem dX6_keepsOff_149 : decode cX6_keepsOff 149 = .ok (.if_icmp .ne 49, 3) := by decide +kernel
theorem dX6_keepsOff_152 : decode cX6_keepsOff 152 = .ok (.aload_n 0, 1) := by decide +kernel
theorem dX6_keepsOff_153 : decode cX6_keepsOff 153 = .ok (.getfield 36, 3) := by decide +kernel
theorem dX6_keepsOff_156 : decode cX6_keepsOff 156 = .ok (.iload_n 2, 1) := by decide +kernel
theorem dX6_keepsOff_157 : decode cX6_keepsOff 157 = .ok (.iaload, 1) := by decide +kernel
theorem dX6_keepsOff_158 : decode cX6_keepsOff 158 = .ok (.aload_n 0, 1) := by decide +kernel
theorem dX6_keepsOff_159 : decode cX6_keepsOff 159 = .ok (.getfield 36, 3) := by decide +kernel
theorem dX6_keepsOff_162 : decode cX6_keepsOff 162 = .ok (.iload 4, 2) := by decide +kernel
theorem dX6_keepsOff_164 : decode cX6_keepsOff 164 = .ok (.iaload, 1) := by decide +kernel
theorem dX6_keepsOff_165 : decode cX6_keepsOff 165 = .ok (.if_icmp .ge 9, 3) := by decide +kernel
theorem dX6_keepsOff_168 : decode cX6_keepsOff 168 = .ok (.iload_n 3, 1) := by decide +kernel
theorem dX6_keepsOff_169 : decode cX6_keepsOff 169 = .ok (.iload 5, 2) := by decide +kernel
theorem dX6_keepsOff_171 : decode cX6_keepsOff 171 = .ok (.if_icmp .lt 25, 3) := by decide +kernel
theorem dX6_keepsOff_174 : decode cX6_keepsOff 174 = .ok (.aload_n 0, 1) := by decide +kernel
theorem dX6_keepsOff_175 : decode cX6_keepsOff 175 = .ok (.getfield 36, 3) := by decide +kernel
theorem dX6_keepsOff_178 : decode cX6_keepsOff 178 = .ok (.iload_n 2, 1) := by decide +kernel
theorem dX6_keepsOff_179 : decode cX6_keepsOff 179 = .ok (.iaload, 1) := by decide +kernel
theorem dX6_keepsOff_180 : decode cX6_keepsOff 180 = .ok (.aload_n 0, 1) := by decide +kernel
theorem dX6_keepsOff_181 : decode cX6_keepsOff 181 = .ok (.getfield 36, 3) := by decide +kernel
theorem dX6_keepsOff_184 : decode cX6_keepsOff 184 = .ok (.iload 4, 2) := by decide +kernel
theorem dX6_keepsOff_186 : decode cX6_keepsOff 186 = .ok (.iaload, 1) := by decide +kernel
theorem dX6_keepsOff_187 : decode cX6_keepsOff 187 = .ok (.if_icmp .le 11, 3) := by decide +kernel
theorem dX6_keepsOff_190 : decode cX6_keepsOff 190 = .ok (.iload_n 3, 1) := by decide +kernel
theorem dX6_keepsOff_191 : decode cX6_keepsOff 191 = .ok (.iload 5, 2) := by decide +kernel
theorem dX6_keepsOff_193 : decode cX6_keepsOff 193 = .ok (.if_icmp .le 5, 3) := by decide +kernel
theorem dX6_keepsOff_196 : decode cX6_keepsOff 196 = .ok (.iconst 1, 1) := by decide +kernel
theorem dX6_keepsOff_197 : decode cX6_keepsOff 197 = .ok (.ireturn, 1) := by decide +kernel
theorem dX6_keepsOff_198 : decode cX6_keepsOff 198 = .ok (.iinc 4 1, 3) := by decide +kernel
theorem dX6_keepsOff_201 : decode cX6_keepsOff 201 = .ok (.goto (-143), 3) := by decide +kernel
theorem dX6_keepsOff_204 : decode cX6_keepsOff 204 = .ok (.iconst 0, 1) := by decide +kernel
theorem dX6_keepsOff_205 : decode cX6_keepsOff 205 = .ok (.ireturn, 1) := by decide +kernel
theorem dX6_bars_0 : decode cX6_bars 0 = .ok (.iconst 1, 1) := by decide +kernel
theorem dX6_bars_1 : decode cX6_bars 1 = .ok (.istore_n 3, 1) := by decide +kernel
theorem dX6_bars_2 : decode cX6_bars 2 = .ok (.iload_n 3, 1) := by decide +kernel
theorem dX6_bars_3 : decode cX6_bars 3 = .ok (.iconst 5, 1) := by decide +kernel
theorem dX6_bars_4 : decode cX6_bars 4 = .ok (.if_icmp .gt 21, 3) := by decide +kernel
theorem dX6_bars_7 : decode cX6_bars 7 = .ok (.aload_n 0, 1) := by decide +kernel
theorem dX6_bars_8 : decode cX6_bars 8 = .ok (.iload_n 3, 1) := by decide +kernel
theorem dX6_bars_9 : decode cX6_bars 9 = .ok (.iload_n 1, 1) := by decide +kernel
theorem dX6_bars_10 : decode cX6_bars 10 = .ok (.iload_n 2, 1) := by decide +kernel
theorem dX6_bars_11 : decode cX6_bars 11 = .ok (.invokevirtual 78, 3) := by decide +kernel
theorem dX6_bars_14 : decode cX6_bars 14 = .ok (.ifCond .eq 5, 3) := by decide +kernel
theorem dX6_bars_17 : decode cX6_bars 17 = .ok (.iload_n 3, 1) := by decide +kernel
theorem dX6_bars_18 : decode cX6_bars 18 = .ok (.ireturn, 1) := by decide +kernel
theorem dX6_bars_19 : decode cX6_bars 19 = .ok (.iinc 3 1, 3) := by decide +kernel
theorem dX6_bars_22 : decode cX6_bars 22 = .ok (.goto (-20), 3) := by decide +kernel
theorem dX6_bars_25 : decode cX6_bars 25 = .ok (.aload_n 0, 1) := by decide +kernel
theorem dX6_bars_26 : decode cX6_bars 26 = .ok (.iload_n 1, 1) := by decide +kernel
theorem dX6_bars_27 : decode cX6_bars 27 = .ok (.iload_n 2, 1) := by decide +kernel
theorem dX6_bars_28 : decode cX6_bars 28 = .ok (.invokevirtual 81, 3) := by decide +kernel
theorem dX6_bars_31 : decode cX6_bars 31 = .ok (.ifCond .eq 7, 3) := by decide +kernel
theorem dX6_bars_34 : decode cX6_bars 34 = .ok (.iconst 0, 1) := by decide +kernel
theorem dX6_bars_35 : decode cX6_bars 35 = .ok (.goto 5, 3) := by decide +kernel
theorem dX6_bars_38 : decode cX6_bars 38 = .ok (.bipush 6, 2) := by decide +kernel
theorem dX6_bars_40 : decode cX6_bars 40 = .ok (.ireturn, 1) := by decide +kernel
theorem dX6_axlesBearAt_0 : decode cX6_axlesBearAt 0 = .ok (.aload_n 0, 1) := by decide +kernel
theorem dX6_axlesBearAt_1 : decode cX6_axlesBearAt 1 = .ok (.getfield 42, 3) := by decide +kernel
theorem dX6_axlesBearAt_4 : decode cX6_axlesBearAt 4 = .ok (.iload_n 1, 1) := by decide +kernel
theorem dX6_axlesBearAt_5 : decode cX6_axlesBearAt 5 = .ok (.iaload, 1) := by decide +kernel
theorem dX6_axlesBearAt_6 : decode cX6_axlesBearAt 6 = .ok (.istore_n 3, 1) := by decide +kernel
theorem dX6_axlesBearAt_7 : decode cX6_axlesBearAt 7 = .ok (.aload_n 0, 1) := by decide +kernel
theorem dX6_axlesBearAt_8 : decode cX6_axlesBearAt 8 = .ok (.getfield 42, 3) := by decide +kernel
theorem dX6_axlesBearAt_11 : decode cX6_axlesBearAt 11 = .ok (.iload_n 1, 1) := by decide +kernel
theorem dX6_axlesBearAt_12 : decode cX6_axlesBearAt 12 = .ok (.iload_n 2, 1) := by decide +kernel
theorem dX6_axlesBearAt_13 : decode cX6_axlesBearAt 13 = .ok (.iastore, 1) := by decide +kernel
theorem dX6_axlesBearAt_14 : decode cX6_axlesBearAt 14 = .ok (.aload_n 0, 1) := by decide +kernel
theorem dX6_axlesBearAt_15 : decode cX6_axlesBearAt 15 = .ok (.invokevirtual 85, 3) := by decide +kernel
theorem dX6_axlesBearAt_18 : decode cX6_axlesBearAt 18 = .ok (.istore 4, 2) := by decide +kernel
theorem dX6_axlesBearAt_20 : decode cX6_axlesBearAt 20 = .ok (.aload_n 0, 1) := by decide +kernel
theorem dX6_axlesBearAt_21 : decode cX6_axlesBearAt 21 = .ok (.getfield 42, 3) := by decide +kernel
theorem dX6_axlesBearAt_24 : decode cX6_axlesBearAt 24 = .ok (.iload_n 1, 1) := by decide +kernel
theorem dX6_axlesBearAt_25 : decode cX6_axlesBearAt 25 = .ok (.iload_n 3, 1) := by decide +kernel
theorem dX6_axlesBearAt_26 : decode cX6_axlesBearAt 26 = .ok (.iastore, 1) := by decide +kernel
theorem dX6_axlesBearAt_27 : decode cX6_axlesBearAt 27 = .ok (.iload 4, 2) := by decide +kernel
theorem dX6_axlesBearAt_29 : decode cX6_axlesBearAt 29 = .ok (.ireturn, 1) := by decide +kernel
theorem dX6_standing_0 : decode cX6_standing 0 = .ok (.iconst 0, 1) := by decide +kernel
theorem dX6_standing_1 : decode cX6_standing 1 = .ok (.istore_n 1, 1) := by decide +kernel
theorem dX6_standing_2 : decode cX6_standing 2 = .ok (.iconst 0, 1) := by decide +kernel
theorem dX6_standing_3 : decode cX6_standing 3 = .ok (.istore_n 2, 1) := by decide +kernel
theorem dX6_standing_4 : decode cX6_standing 4 = .ok (.iload_n 2, 1) := by decide +kernel
theorem dX6_standing_5 : decode cX6_standing 5 = .ok (.aload_n 0, 1) := by decide +kernel
theorem dX6_standing_6 : decode cX6_standing 6 = .ok (.getfield 57, 3) := by decide +kernel
theorem dX6_standing_9 : decode cX6_standing 9 = .ok (.if_icmp .ge 22, 3) := by decide +kernel
theorem dX6_standing_12 : decode cX6_standing 12 = .ok (.aload_n 0, 1) := by decide +kernel
theorem dX6_standing_13 : decode cX6_standing 13 = .ok (.getfield 42, 3) := by decide +kernel
theorem dX6_standing_16 : decode cX6_standing 16 = .ok (.iload_n 2, 1) := by decide +kernel
theorem dX6_standing_17 : decode cX6_standing 17 = .ok (.iaload, 1) := by decide +kernel
theorem dX6_standing_18 : decode cX6_standing 18 = .ok (.iconst (-1), 1) := by decide +kernel
theorem dX6_standing_19 : decode cX6_standing 19 = .ok (.if_icmp .eq 6, 3) := by decide +kernel
theorem dX6_standing_22 : decode cX6_standing 22 = .ok (.iinc 1 1, 3) := by decide +kernel
theorem dX6_standing_25 : decode cX6_standing 25 = .ok (.iinc 2 1, 3) := by decide +kernel
theorem dX6_standing_28 : decode cX6_standing 28 = .ok (.goto (-24), 3) := by decide +kernel
theorem dX6_standing_31 : decode cX6_standing 31 = .ok (.iload_n 1, 1) := by decide +kernel
theorem dX6_standing_32 : decode cX6_standing 32 = .ok (.ireturn, 1) := by decide +kernel
theorem dX6_standingWeight_0 : decode cX6_standingWeight 0 = .ok (.iconst 0, 1) := by decide +kernel
theorem dX6_standingWeight_1 : decode cX6_standingWeight 1 = .ok (.istore_n 1, 1) := by decide +kernel
theorem dX6_standingWeight_2 : decode cX6_standingWeight 2 = .ok (.iconst 0, 1) := by decide +kernel
theorem dX6_standingWeight_3 : decode cX6_standingWeight 3 = .ok (.istore_n 2, 1) := by decide +kernel
theorem dX6_standingWeight_4 : decode cX6_standingWeight 4 = .ok (.iload_n 2, 1) := by decide +kernel
theorem dX6_standingWeight_5 : decode cX6_standingWeight 5 = .ok (.aload_n 0, 1) := by decide +kernel
theorem dX6_standingWeight_6 : decode cX6_standingWeight 6 = .ok (.getfield 57, 3) := by decide +kernel
theorem dX6_standingWeight_9 : decode cX6_standingWeight 9 = .ok (.if_icmp .ge 28, 3) := by decide +kernel
theorem dX6_standingWeight_12 : decode cX6_standingWeight 12 = .ok (.aload_n 0, 1) := by decide +kernel
theorem dX6_standingWeight_13 : decode cX6_standingWeight 13 = .ok (.getfield 42, 3) := by decide +kernel
theorem dX6_standingWeight_16 : decode cX6_standingWeight 16 = .ok (.iload_n 2, 1) := by decide +kernel
theorem dX6_standingWeight_17 : decode cX6_standingWeight 17 = .ok (.iaload, 1) := by decide +kernel
theorem dX6_standingWeight_18 : decode cX6_standingWeight 18 = .ok (.iconst (-1), 1) := by decide +kernel
theorem dX6_standingWeight_19 : decode cX6_standingWeight 19 = .ok (.if_icmp .eq 12, 3) := by decide +kernel
theorem dX6_standingWeight_22 : decode cX6_standingWeight 22 = .ok (.iload_n 1, 1) := by decide +kernel
theorem dX6_standingWeight_23 : decode cX6_standingWeight 23 = .ok (.aload_n 0, 1) := by decide +kernel
theorem dX6_standingWeight_24 : decode cX6_standingWeight 24 = .ok (.getfield 27, 3) := by decide +kernel
theorem dX6_standingWeight_27 : decode cX6_standingWeight 27 = .ok (.iload_n 2, 1) := by decide +kernel
theorem dX6_standingWeight_28 : decode cX6_standingWeight 28 = .ok (.iaload, 1) := by decide +kernel
theorem dX6_standingWeight_29 : decode cX6_standingWeight 29 = .ok (.iadd, 1) := by decide +kernel
theorem dX6_standingWeight_30 : decode cX6_standingWeight 30 = .ok (.istore_n 1, 1) := by decide +kernel
theorem dX6_standingWeight_31 : decode cX6_standingWeight 31 = .ok (.iinc 2 1, 3) := by decide +kernel
theorem dX6_standingWeight_34 : decode cX6_standingWeight 34 = .ok (.goto (-30), 3) := by decide +kernel
theorem dX6_standingWeight_37 : decode cX6_standingWeight 37 = .ok (.iload_n 1, 1) := by decide +kernel
theorem dX6_standingWeight_38 : decode cX6_standingWeight 38 = .ok (.ireturn, 1) := by decide +kernel
theorem dX6_fits_0 : decode cX6_fits 0 = .ok (.aload_n 0, 1) := by decide +kernel
theorem dX6_fits_1 : decode cX6_fits 1 = .ok (.getfield 42, 3) := by decide +kernel
theorem dX6_fits_4 : decode cX6_fits 4 = .ok (.iload_n 1, 1) := by decide +kernel
theorem dX6_fits_5 : decode cX6_fits 5 = .ok (.iaload, 1) := by decide +kernel
theorem dX6_fits_6 : decode cX6_fits 6 = .ok (.istore_n 2, 1) := by decide +kernel
theorem dX6_fits_7 : decode cX6_fits 7 = .ok (.iload_n 2, 1) := by decide +kernel
theorem dX6_fits_8 : decode cX6_fits 8 = .ok (.iconst (-1), 1) := by decide +kernel
theorem dX6_fits_9 : decode cX6_fits 9 = .ok (.if_icmp .ne 5, 3) := by decide +kernel
theorem dX6_fits_12 : decode cX6_fits 12 = .ok (.iconst 1, 1) := by decide +kernel
theorem dX6_fits_13 : decode cX6_fits 13 = .ok (.ireturn, 1) := by decide +kernel
theorem dX6_fits_14 : decode cX6_fits 14 = .ok (.iload_n 1, 1) := by decide +kernel
theorem dX6_fits_15 : decode cX6_fits 15 = .ok (.iconst 1, 1) := by decide +kernel
theorem dX6_fits_16 : decode cX6_fits 16 = .ok (.iadd, 1) := by decide +kernel
theorem dX6_fits_17 : decode cX6_fits 17 = .ok (.istore_n 3, 1) := by decide +kernel
theorem dX6_fits_18 : decode cX6_fits 18 = .ok (.iload_n 3, 1) := by decide +kernel
theorem dX6_fits_19 : decode cX6_fits 19 = .ok (.aload_n 0, 1) := by decide +kernel
theorem dX6_fits_20 : decode cX6_fits 20 = .ok (.getfield 57, 3) := by decide +kernel
theorem dX6_fits_23 : decode cX6_fits 23 = .ok (.if_icmp .ge 16, 3) := by decide +kernel
theorem dX6_fits_26 : decode cX6_fits 26 = .ok (.aload_n 0, 1) := by decide +kernel
theorem dX6_fits_27 : decode cX6_fits 27 = .ok (.getfield 42, 3) := by decide +kernel
theorem dX6_fits_30 : decode cX6_fits 30 = .ok (.iload_n 3, 1) := by decide +kernel
theorem dX6_fits_31 : decode cX6_fits 31 = .ok (.iconst (-1), 1) := by decide +kernel
theorem dX6_fits_32 : decode cX6_fits 32 = .ok (.iastore, 1) := by decide +kernel
theorem dX6_fits_33 : decode cX6_fits 33 = .ok (.iinc 3 1, 3) := by decide +kernel
theorem dX6_fits_36 : decode cX6_fits 36 = .ok (.goto (-18), 3) := by decide +kernel
theorem dX6_fits_39 : decode cX6_fits 39 = .ok (.iconst 1, 1) := by decide +kernel
theorem dX6_fits_40 : decode cX6_fits 40 = .ok (.istore_n 3, 1) := by decide +kernel
theorem dX6_fits_41 : decode cX6_fits 41 = .ok (.iload_n 3, 1) := by decide +kernel
theorem dX6_fits_42 : decode cX6_fits 42 = .ok (.iconst 5, 1) := by decide +kernel
theorem dX6_fits_43 : decode cX6_fits 43 = .ok (.if_icmp .gt 21, 3) := by decide +kernel
theorem dX6_fits_46 : decode cX6_fits 46 = .ok (.aload_n 0, 1) := by decide +kernel
theorem dX6_fits_47 : decode cX6_fits 47 = .ok (.iload_n 3, 1) := by decide +kernel
theorem dX6_fits_48 : decode cX6_fits 48 = .ok (.iload_n 1, 1) := by decide +kernel
theorem dX6_fits_49 : decode cX6_fits 49 = .ok (.iload_n 2, 1) := by decide +kernel
theorem dX6_fits_50 : decode cX6_fits 50 = .ok (.invokevirtual 78, 3) := by decide +kernel
theorem dX6_fits_53 : decode cX6_fits 53 = .ok (.ifCond .eq 5, 3) := by decide +kernel
theorem dX6_fits_56 : decode cX6_fits 56 = .ok (.iconst 0, 1) := by decide +kernel
theorem dX6_fits_57 : decode cX6_fits 57 = .ok (.ireturn, 1) := by decide +kernel
theorem dX6_fits_58 : decode cX6_fits 58 = .ok (.iinc 3 1, 3) := by decide +kernel
theorem dX6_fits_61 : decode cX6_fits 61 = .ok (.goto (-20), 3) := by decide +kernel
theorem dX6_fits_64 : decode cX6_fits 64 = .ok (.iconst 1, 1) := by decide +kernel
theorem dX6_fits_65 : decode cX6_fits 65 = .ok (.ireturn, 1) := by decide +kernel
theorem dX6_nextPlace_0 : decode cX6_nextPlace 0 = .ok (.iload_n 1, 1) := by decide +kernel
theorem dX6_nextPlace_1 : decode cX6_nextPlace 1 = .ok (.iconst (-1), 1) := by decide +kernel
theorem dX6_nextPlace_2 : decode cX6_nextPlace 2 = .ok (.if_icmp .ne 8, 3) := by decide +kernel
theorem dX6_nextPlace_5 : decode cX6_nextPlace 5 = .ok (.bipush 100, 2) := by decide +kernel
theorem dX6_nextPlace_7 : decode cX6_nextPlace 7 = .ok (.goto 20, 3) := by decide +kernel
theorem dX6_nextPlace_10 : decode cX6_nextPlace 10 = .ok (.iload_n 1, 1) := by decide +kernel
theorem dX6_nextPlace_11 : decode cX6_nextPlace 11 = .ok (.iconst 1, 1) := by decide +kernel
theorem dX6_nextPlace_12 : decode cX6_nextPlace 12 = .ok (.iadd, 1) := by decide +kernel
theorem dX6_nextPlace_13 : decode cX6_nextPlace 13 = .ok (.aload_n 0, 1) := by decide +kernel
theorem dX6_nextPlace_14 : decode cX6_nextPlace 14 = .ok (.getfield 51, 3) := by decide +kernel
theorem dX6_nextPlace_17 : decode cX6_nextPlace 17 = .ok (.if_icmp .ge 9, 3) := by decide +kernel
theorem dX6_nextPlace_20 : decode cX6_nextPlace 20 = .ok (.iload_n 1, 1) := by decide +kernel
theorem dX6_nextPlace_21 : decode cX6_nextPlace 21 = .ok (.iconst 1, 1) := by decide +kernel
theorem dX6_nextPlace_22 : decode cX6_nextPlace 22 = .ok (.iadd, 1) := by decide +kernel
theorem dX6_nextPlace_23 : decode cX6_nextPlace 23 = .ok (.goto 4, 3) := by decide +kernel
theorem dX6_nextPlace_26 : decode cX6_nextPlace 26 = .ok (.iconst (-1), 1) := by decide +kernel
theorem dX6_nextPlace_27 : decode cX6_nextPlace 27 = .ok (.ireturn, 1) := by decide +kernel
theorem dX6_solveExactly_0 : decode cX6_solveExactly 0 = .ok (.iconst (-1), 1) := by decide +kernel
theorem dX6_solveExactly_1 : decode cX6_solveExactly 1 = .ok (.istore_n 1, 1) := by decide +kernel
theorem dX6_solveExactly_2 : decode cX6_solveExactly 2 = .ok (.iconst 0, 1) := by decide +kernel
theorem dX6_solveExactly_3 : decode cX6_solveExactly 3 = .ok (.istore_n 2, 1) := by decide +kernel
theorem dX6_solveExactly_4 : decode cX6_solveExactly 4 = .ok (.iconst 0, 1) := by decide +kernel
theorem dX6_solveExactly_5 : decode cX6_solveExactly 5 = .ok (.istore_n 3, 1) := by decide +kernel
theorem dX6_solveExactly_6 : decode cX6_solveExactly 6 = .ok (.iconst 0, 1) := by decide +kernel
theorem dX6_solveExactly_7 : decode cX6_solveExactly 7 = .ok (.istore 4, 2) := by decide +kernel
theorem dX6_solveExactly_9 : decode cX6_solveExactly 9 = .ok (.iload 4, 2) := by decide +kernel
theorem dX6_solveExactly_11 : decode cX6_solveExactly 11 = .ok (.aload_n 0, 1) := by decide +kernel
theorem dX6_solveExactly_12 : decode cX6_solveExactly 12 = .ok (.getfield 57, 3) := by decide +kernel
theorem dX6_solveExactly_15 : decode cX6_solveExactly 15 = .ok (.if_icmp .ge 25, 3) := by decide +kernel
theorem dX6_solveExactly_18 : decode cX6_solveExactly 18 = .ok (.aload_n 0, 1) := by decide +kernel
theorem dX6_solveExactly_19 : decode cX6_solveExactly 19 = .ok (.getfield 42, 3) := by decide +kernel
theorem dX6_solveExactly_22 : decode cX6_solveExactly 22 = .ok (.iload 4, 2) := by decide +kernel
theorem dX6_solveExactly_24 : decode cX6_solveExactly 24 = .ok (.iconst (-1), 1) := by decide +kernel
theorem dX6_solveExactly_25 : decode cX6_solveExactly 25 = .ok (.iastore, 1) := by decide +kernel
theorem dX6_solveExactly_26 : decode cX6_solveExactly 26 = .ok (.aload_n 0, 1) := by decide +kernel
theorem dX6_solveExactly_27 : decode cX6_solveExactly 27 = .ok (.getfield 45, 3) := by decide +kernel
theorem dX6_solveExactly_30 : decode cX6_solveExactly 30 = .ok (.iload 4, 2) := by decide +kernel
theorem dX6_solveExactly_32 : decode cX6_solveExactly 32 = .ok (.iconst (-1), 1) := by decide +kernel
theorem dX6_solveExactly_33 : decode cX6_solveExactly 33 = .ok (.iastore, 1) := by decide +kernel
theorem dX6_solveExactly_34 : decode cX6_solveExactly 34 = .ok (.iinc 4 1, 3) := by decide +kernel
theorem dX6_solveExactly_37 : decode cX6_solveExactly 37 = .ok (.goto (-28), 3) := by decide +kernel
theorem dX6_solveExactly_40 : decode cX6_solveExactly 40 = .ok (.aload_n 0, 1) := by decide +kernel
theorem dX6_solveExactly_41 : decode cX6_solveExactly 41 = .ok (.getfield 57, 3) := by decide +kernel
theorem dX6_solveExactly_44 : decode cX6_solveExactly 44 = .ok (.ifCond .ne 4, 3) := by decide +kernel
theorem dX6_solveExactly_47 : decode cX6_solveExactly 47 = .ok (.return_, 1) := by decide +kernel
theorem dX6_solveExactly_48 : decode cX6_solveExactly 48 = .ok (.aload_n 0, 1) := by decide +kernel
theorem dX6_solveExactly_49 : decode cX6_solveExactly 49 = .ok (.getfield 42, 3) := by decide +kernel
theorem dX6_solveExactly_52 : decode cX6_solveExactly 52 = .ok (.iconst 0, 1) := by decide +kernel
theorem dX6_solveExactly_53 : decode cX6_solveExactly 53 = .ok (.aload_n 0, 1) := by decide +kernel
theorem dX6_solveExactly_54 : decode cX6_solveExactly 54 = .ok (.getfield 51, 3) := by decide +kernel
theorem dX6_solveExactly_57 : decode cX6_solveExactly 57 = .ok (.ifCond .le 7, 3) := by decide +kernel
theorem dX6_solveExactly_60 : decode cX6_solveExactly 60 = .ok (.iconst 0, 1) := by decide +kernel
theorem dX6_solveExactly_61 : decode cX6_solveExactly 61 = .ok (.goto 4, 3) := by decide +kernel
theorem dX6_solveExactly_64 : decode cX6_solveExactly 64 = .ok (.iconst (-1), 1) := by decide +kernel
theorem dX6_solveExactly_65 : decode cX6_solveExactly 65 = .ok (.iastore, 1) := by decide +kernel
theorem dX6_solveExactly_66 : decode cX6_solveExactly 66 = .ok (.iload_n 3, 1) := by decide +kernel
theorem dX6_solveExactly_67 : decode cX6_solveExactly 67 = .ok (.ifCond .lt 202, 3) := by decide +kernel
theorem dX6_solveExactly_70 : decode cX6_solveExactly 70 = .ok (.aload_n 0, 1) := by decide +kernel
theorem dX6_solveExactly_71 : decode cX6_solveExactly 71 = .ok (.getfield 42, 3) := by decide +kernel
theorem dX6_solveExactly_74 : decode cX6_solveExactly 74 = .ok (.iload_n 3, 1) := by decide +kernel
theorem dX6_solveExactly_75 : decode cX6_solveExactly 75 = .ok (.iaload, 1) := by decide +kernel
theorem dX6_solveExactly_76 : decode cX6_solveExactly 76 = .ok (.bipush 100, 2) := by decide +kernel
theorem dX6_solveExactly_78 : decode cX6_solveExactly 78 = .ok (.if_icmp .ne 36, 3) := by decide +kernel
theorem dX6_solveExactly_81 : decode cX6_solveExactly 81 = .ok (.aload_n 0, 1) := by decide +kernel
theorem dX6_solveExactly_82 : decode cX6_solveExactly 82 = .ok (.getfield 42, 3) := by decide +kernel
theorem dX6_solveExactly_85 : decode cX6_solveExactly 85 = .ok (.iload_n 3, 1) := by decide +kernel
theorem dX6_solveExactly_86 : decode cX6_solveExactly 86 = .ok (.iconst (-1), 1) := by decide +kernel
theorem dX6_solveExactly_87 : decode cX6_solveExactly 87 = .ok (.iastore, 1) := by decide +kernel
theorem dX6_solveExactly_88 : decode cX6_solveExactly 88 = .ok (.iinc 3 (-1), 3) := by decide +kernel
theorem dX6_solveExactly_91 : decode cX6_solveExactly 91 = .ok (.iload_n 3, 1) := by decide +kernel
theorem dX6_solveExactly_92 : decode cX6_solveExactly 92 = .ok (.ifCond .lt (-26), 3) := by decide +kernel
theorem dX6_solveExactly_95 : decode cX6_solveExactly 95 = .ok (.aload_n 0, 1) := by decide +kernel
theorem dX6_solveExactly_96 : decode cX6_solveExactly 96 = .ok (.getfield 42, 3) := by decide +kernel
theorem dX6_solveExactly_99 : decode cX6_solveExactly 99 = .ok (.iload_n 3, 1) := by decide +kernel
theorem dX6_solveExactly_100 : decode cX6_solveExactly 100 = .ok (.aload_n 0, 1) := by decide +kernel
theorem dX6_solveExactly_101 : decode cX6_solveExactly 101 = .ok (.aload_n 0, 1) := by decide +kernel
theorem dX6_solveExactly_102 : decode cX6_solveExactly 102 = .ok (.getfield 42, 3) := by decide +kernel
theorem dX6_solveExactly_105 : decode cX6_solveExactly 105 = .ok (.iload_n 3, 1) := by decide +kernel
theorem dX6_solveExactly_106 : decode cX6_solveExactly 106 = .ok (.iaload, 1) := by decide +kernel
theorem dX6_solveExactly_107 : decode cX6_solveExactly 107 = .ok (.invokevirtual 89, 3) := by decide +kernel
theorem dX6_solveExactly_110 : decode cX6_solveExactly 110 = .ok (.iastore, 1) := by decide +kernel
theorem dX6_solveExactly_111 : decode cX6_solveExactly 111 = .ok (.goto (-45), 3) := by decide +kernel
theorem dX6_solveExactly_114 : decode cX6_solveExactly 114 = .ok (.aload_n 0, 1) := by decide +kernel
theorem dX6_solveExactly_115 : decode cX6_solveExactly 115 = .ok (.iload_n 3, 1) := by decide +kernel
theorem dX6_solveExactly_116 : decode cX6_solveExactly 116 = .ok (.invokevirtual 92, 3) := by decide +kernel
theorem dX6_solveExactly_119 : decode cX6_solveExactly 119 = .ok (.ifCond .ne 22, 3) := by decide +kernel
theorem dX6_solveExactly_122 : decode cX6_solveExactly 122 = .ok (.aload_n 0, 1) := by decide +kernel
theorem dX6_solveExactly_123 : decode cX6_solveExactly 123 = .ok (.getfield 42, 3) := by decide +kernel
theorem dX6_solveExactly_126 : decode cX6_solveExactly 126 = .ok (.iload_n 3, 1) := by decide +kernel
theorem dX6_solveExactly_127 : decode cX6_solveExactly 127 = .ok (.aload_n 0, 1) := by decide +kernel
theorem dX6_solveExactly_128 : decode cX6_solveExactly 128 = .ok (.aload_n 0, 1) := by decide +kernel
theorem dX6_solveExactly_129 : decode cX6_solveExactly 129 = .ok (.getfield 42, 3) := by decide +kernel
theorem dX6_solveExactly_132 : decode cX6_solveExactly 132 = .ok (.iload_n 3, 1) := by decide +kernel
theorem dX6_solveExactly_133 : decode cX6_solveExactly 133 = .ok (.iaload, 1) := by decide +kernel
theorem dX6_solveExactly_134 : decode cX6_solveExactly 134 = .ok (.invokevirtual 89, 3) := by decide +kernel
theorem dX6_solveExactly_137 : decode cX6_solveExactly 137 = .ok (.iastore, 1) := by decide +kernel
theorem dX6_solveExactly_138 : decode cX6_solveExactly 138 = .ok (.goto (-72), 3) := by decide +kernel
theorem dX6_solveExactly_141 : decode cX6_solveExactly 141 = .ok (.iload_n 3, 1) := by decide +kernel
theorem dX6_solveExactly_142 : decode cX6_solveExactly 142 = .ok (.iconst 1, 1) := by decide +kernel
theorem dX6_solveExactly_143 : decode cX6_solveExactly 143 = .ok (.iadd, 1) := by decide +kernel
theorem dX6_solveExactly_144 : decode cX6_solveExactly 144 = .ok (.aload_n 0, 1) := by decide +kernel
theorem dX6_solveExactly_145 : decode cX6_solveExactly 145 = .ok (.getfield 57, 3) := by decide +kernel
theorem dX6_solveExactly_148 : decode cX6_solveExactly 148 = .ok (.if_icmp .ge 27, 3) := by decide +kernel
theorem dX6_solveExactly_151 : decode cX6_solveExactly 151 = .ok (.iinc 3 1, 3) := by decide +kernel
theorem dX6_solveExactly_154 : decode cX6_solveExactly 154 = .ok (.aload_n 0, 1) := by decide +kernel
theorem dX6_solveExactly_155 : decode cX6_solveExactly 155 = .ok (.getfield 42, 3) := by decide +kernel
theorem dX6_solveExactly_158 : decode cX6_solveExactly 158 = .ok (.iload_n 3, 1) := by decide +kernel
theorem dX6_solveExactly_159 : decode cX6_solveExactly 159 = .ok (.aload_n 0, 1) := by decide +kernel
theorem dX6_solveExactly_160 : decode cX6_solveExactly 160 = .ok (.getfield 51, 3) := by decide +kernel
theorem dX6_solveExactly_163 : decode cX6_solveExactly 163 = .ok (.ifCond .le 7, 3) := by decide +kernel
theorem dX6_solveExactly_166 : decode cX6_solveExactly 166 = .ok (.iconst 0, 1) := by decide +kernel
theorem dX6_solveExactly_167 : decode cX6_solveExactly 167 = .ok (.goto 4, 3) := by decide +kernel
theorem dX6_solveExactly_170 : decode cX6_solveExactly 170 = .ok (.iconst (-1), 1) := by decide +kernel
theorem dX6_solveExactly_171 : decode cX6_solveExactly 171 = .ok (.iastore, 1) := by decide +kernel
theorem dX6_solveExactly_172 : decode cX6_solveExactly 172 = .ok (.goto (-106), 3) := by decide +kernel
theorem dX6_solveExactly_175 : decode cX6_solveExactly 175 = .ok (.aload_n 0, 1) := by decide +kernel
theorem dX6_solveExactly_176 : decode cX6_solveExactly 176 = .ok (.invokevirtual 96, 3) := by decide +kernel
theorem dX6_solveExactly_179 : decode cX6_solveExactly 179 = .ok (.istore 4, 2) := by decide +kernel
theorem dX6_solveExactly_181 : decode cX6_solveExactly 181 = .ok (.aload_n 0, 1) := by decide +kernel
theorem dX6_solveExactly_182 : decode cX6_solveExactly 182 = .ok (.invokevirtual 100, 3) := by decide +kernel
theorem dX6_solveExactly_185 : decode cX6_solveExactly 185 = .ok (.istore 5, 2) := by decide +kernel
theorem dX6_solveExactly_187 : decode cX6_solveExactly 187 = .ok (.iload 4, 2) := by decide +kernel
theorem dX6_solveExactly_189 : decode cX6_solveExactly 189 = .ok (.iload_n 1, 1) := by decide +kernel
theorem dX6_solveExactly_190 : decode cX6_solveExactly 190 = .ok (.if_icmp .gt 15, 3) := by decide +kernel
theorem dX6_solveExactly_193 : decode cX6_solveExactly 193 = .ok (.iload 4, 2) := by decide +kernel
theorem dX6_solveExactly_195 : decode cX6_solveExactly 195 = .ok (.iload_n 1, 1) := by decide +kernel
theorem dX6_solveExactly_196 : decode cX6_solveExactly 196 = .ok (.if_icmp .ne 54, 3) := by decide +kernel
theorem dX6_solveExactly_199 : decode cX6_solveExactly 199 = .ok (.iload 5, 2) := by decide +kernel
theorem dX6_solveExactly_201 : decode cX6_solveExactly 201 = .ok (.iload_n 2, 1) := by decide +kernel
theorem dX6_solveExactly_202 : decode cX6_solveExactly 202 = .ok (.if_icmp .le 48, 3) := by decide +kernel
theorem dX6_solveExactly_205 : decode cX6_solveExactly 205 = .ok (.aload_n 0, 1) := by decide +kernel
theorem dX6_solveExactly_206 : decode cX6_solveExactly 206 = .ok (.invokevirtual 85, 3) := by decide +kernel
theorem dX6_solveExactly_209 : decode cX6_solveExactly 209 = .ok (.ifCond .eq 41, 3) := by decide +kernel
theorem dX6_solveExactly_212 : decode cX6_solveExactly 212 = .ok (.iload 4, 2) := by decide +kernel
theorem dX6_solveExactly_214 : decode cX6_solveExactly 214 = .ok (.istore_n 1, 1) := by decide +kernel
theorem dX6_solveExactly_215 : decode cX6_solveExactly 215 = .ok (.iload 5, 2) := by decide +kernel
theorem dX6_solveExactly_217 : decode cX6_solveExactly 217 = .ok (.istore_n 2, 1) := by decide +kernel
theorem dX6_solveExactly_218 : decode cX6_solveExactly 218 = .ok (.iconst 0, 1) := by decide +kernel
theorem dX6_solveExactly_219 : decode cX6_solveExactly 219 = .ok (.istore 6, 2) := by decide +kernel
theorem dX6_solveExactly_221 : decode cX6_solveExactly 221 = .ok (.iload 6, 2) := by decide +kernel
theorem dX6_solveExactly_223 : decode cX6_solveExactly 223 = .ok (.aload_n 0, 1) := by decide +kernel
theorem dX6_solveExactly_224 : decode cX6_solveExactly 224 = .ok (.getfield 57, 3) := by decide +kernel
theorem dX6_solveExactly_227 : decode cX6_solveExactly 227 = .ok (.if_icmp .ge 23, 3) := by decide +kernel
theorem dX6_solveExactly_230 : decode cX6_solveExactly 230 = .ok (.aload_n 0, 1) := by decide +kernel
theorem dX6_solveExactly_231 : decode cX6_solveExactly 231 = .ok (.getfield 45, 3) := by decide +kernel
theorem dX6_solveExactly_234 : decode cX6_solveExactly 234 = .ok (.iload 6, 2) := by decide +kernel
theorem dX6_solveExactly_236 : decode cX6_solveExactly 236 = .ok (.aload_n 0, 1) := by decide +kernel
theorem dX6_solveExactly_237 : decode cX6_solveExactly 237 = .ok (.getfield 42, 3) := by decide +kernel
theorem dX6_solveExactly_240 : decode cX6_solveExactly 240 = .ok (.iload 6, 2) := by decide +kernel
theorem dX6_solveExactly_242 : decode cX6_solveExactly 242 = .ok (.iaload, 1) := by decide +kernel
theorem dX6_solveExactly_243 : decode cX6_solveExactly 243 = .ok (.iastore, 1) := by decide +kernel
theorem dX6_solveExactly_244 : decode cX6_solveExactly 244 = .ok (.iinc 6 1, 3) := by decide +kernel
theorem dX6_solveExactly_247 : decode cX6_solveExactly 247 = .ok (.goto (-26), 3) := by decide +kernel
theorem dX6_solveExactly_250 : decode cX6_solveExactly 250 = .ok (.aload_n 0, 1) := by decide +kernel
theorem dX6_solveExactly_251 : decode cX6_solveExactly 251 = .ok (.getfield 42, 3) := by decide +kernel
theorem dX6_solveExactly_254 : decode cX6_solveExactly 254 = .ok (.iload_n 3, 1) := by decide +kernel
theorem dX6_solveExactly_255 : decode cX6_solveExactly 255 = .ok (.aload_n 0, 1) := by decide +kernel
theorem dX6_solveExactly_256 : decode cX6_solveExactly 256 = .ok (.aload_n 0, 1) := by decide +kernel
theorem dX6_solveExactly_257 : decode cX6_solveExactly 257 = .ok (.getfield 42, 3) := by decide +kernel
theorem dX6_solveExactly_260 : decode cX6_solveExactly 260 = .ok (.iload_n 3, 1) := by decide +kernel
theorem dX6_solveExactly_261 : decode cX6_solveExactly 261 = .ok (.iaload, 1) := by decide +kernel
theorem dX6_solveExactly_262 : decode cX6_solveExactly 262 = .ok (.invokevirtual 89, 3) := by decide +kernel
theorem dX6_solveExactly_265 : decode cX6_solveExactly 265 = .ok (.iastore, 1) := by decide +kernel
theorem dX6_solveExactly_266 : decode cX6_solveExactly 266 = .ok (.goto (-200), 3) := by decide +kernel
theorem dX6_solveExactly_269 : decode cX6_solveExactly 269 = .ok (.iconst 0, 1) := by decide +kernel
theorem dX6_solveExactly_270 : decode cX6_solveExactly 270 = .ok (.istore 4, 2) := by decide +kernel
theorem dX6_solveExactly_272 : decode cX6_solveExactly 272 = .ok (.iload 4, 2) := by decide +kernel
theorem dX6_solveExactly_274 : decode cX6_solveExactly 274 = .ok (.aload_n 0, 1) := by decide +kernel
theorem dX6_solveExactly_275 : decode cX6_solveExactly 275 = .ok (.getfield 57, 3) := by decide +kernel
theorem dX6_solveExactly_278 : decode cX6_solveExactly 278 = .ok (.if_icmp .ge 23, 3) := by decide +kernel
theorem dX6_solveExactly_281 : decode cX6_solveExactly 281 = .ok (.aload_n 0, 1) := by decide +kernel
theorem dX6_solveExactly_282 : decode cX6_solveExactly 282 = .ok (.getfield 42, 3) := by decide +kernel
theorem dX6_solveExactly_285 : decode cX6_solveExactly 285 = .ok (.iload 4, 2) := by decide +kernel
theorem dX6_solveExactly_287 : decode cX6_solveExactly 287 = .ok (.aload_n 0, 1) := by decide +kernel
theorem dX6_solveExactly_288 : decode cX6_solveExactly 288 = .ok (.getfield 45, 3) := by decide +kernel
theorem dX6_solveExactly_291 : decode cX6_solveExactly 291 = .ok (.iload 4, 2) := by decide +kernel
theorem dX6_solveExactly_293 : decode cX6_solveExactly 293 = .ok (.iaload, 1) := by decide +kernel
theorem dX6_solveExactly_294 : decode cX6_solveExactly 294 = .ok (.iastore, 1) := by decide +kernel
theorem dX6_solveExactly_295 : decode cX6_solveExactly 295 = .ok (.iinc 4 1, 3) := by decide +kernel
theorem dX6_solveExactly_298 : decode cX6_solveExactly 298 = .ok (.goto (-26), 3) := by decide +kernel
theorem dX6_solveExactly_301 : decode cX6_solveExactly 301 = .ok (.return_, 1) := by decide +kernel
theorem dX6_solveByRule_0 : decode cX6_solveByRule 0 = .ok (.iconst 0, 1) := by decide +kernel
theorem dX6_solveByRule_1 : decode cX6_solveByRule 1 = .ok (.istore_n 1, 1) := by decide +kernel
theorem dX6_solveByRule_2 : decode cX6_solveByRule 2 = .ok (.iload_n 1, 1) := by decide +kernel
theorem dX6_solveByRule_3 : decode cX6_solveByRule 3 = .ok (.aload_n 0, 1) := by decide +kernel
theorem dX6_solveByRule_4 : decode cX6_solveByRule 4 = .ok (.getfield 57, 3) := by decide +kernel
theorem dX6_solveByRule_7 : decode cX6_solveByRule 7 = .ok (.if_icmp .ge 16, 3) := by decide +kernel
theorem dX6_solveByRule_10 : decode cX6_solveByRule 10 = .ok (.aload_n 0, 1) := by decide +kernel
theorem dX6_solveByRule_11 : decode cX6_solveByRule 11 = .ok (.getfield 42, 3) := by decide +kernel
theorem dX6_solveByRule_14 : decode cX6_solveByRule 14 = .ok (.iload_n 1, 1) := by decide +kernel
theorem dX6_solveByRule_15 : decode cX6_solveByRule 15 = .ok (.iconst (-1), 1) := by decide +kernel
theorem dX6_solveByRule_16 : decode cX6_solveByRule 16 = .ok (.iastore, 1) := by decide +kernel
theorem dX6_solveByRule_17 : decode cX6_solveByRule 17 = .ok (.iinc 1 1, 3) := by decide +kernel
theorem dX6_solveByRule_20 : decode cX6_solveByRule 20 = .ok (.goto (-18), 3) := by decide +kernel
theorem dX6_solveByRule_23 : decode cX6_solveByRule 23 = .ok (.iconst (-1), 1) := by decide +kernel
theorem dX6_solveByRule_24 : decode cX6_solveByRule 24 = .ok (.istore_n 1, 1) := by decide +kernel
theorem dX6_solveByRule_25 : decode cX6_solveByRule 25 = .ok (.bipush 9, 2) := by decide +kernel
theorem dX6_solveByRule_27 : decode cX6_solveByRule 27 = .ok (.istore_n 2, 1) := by decide +kernel
theorem dX6_solveByRule_28 : decode cX6_solveByRule 28 = .ok (.iload_n 2, 1) := by decide +kernel
theorem dX6_solveByRule_29 : decode cX6_solveByRule 29 = .ok (.ifCond .le 119, 3) := by decide +kernel
theorem dX6_solveByRule_32 : decode cX6_solveByRule 32 = .ok (.iconst 0, 1) := by decide +kernel
theorem dX6_solveByRule_33 : decode cX6_solveByRule 33 = .ok (.istore_n 3, 1) := by decide +kernel
theorem dX6_solveByRule_34 : decode cX6_solveByRule 34 = .ok (.iload_n 3, 1) := by decide +kernel
theorem dX6_solveByRule_35 : decode cX6_solveByRule 35 = .ok (.aload_n 0, 1) := by decide +kernel
theorem dX6_solveByRule_36 : decode cX6_solveByRule 36 = .ok (.getfield 57, 3) := by decide +kernel
theorem dX6_solveByRule_39 : decode cX6_solveByRule 39 = .ok (.if_icmp .ge 103, 3) := by decide +kernel
theorem dX6_solveByRule_42 : decode cX6_solveByRule 42 = .ok (.aload_n 0, 1) := by decide +kernel
theorem dX6_solveByRule_43 : decode cX6_solveByRule 43 = .ok (.getfield 36, 3) := by decide +kernel
theorem dX6_solveByRule_46 : decode cX6_solveByRule 46 = .ok (.iload_n 3, 1) := by decide +kernel
theorem dX6_solveByRule_47 : decode cX6_solveByRule 47 = .ok (.iaload, 1) := by decide +kernel
theorem dX6_solveByRule_48 : decode cX6_solveByRule 48 = .ok (.iload_n 2, 1) := by decide +kernel
theorem dX6_solveByRule_49 : decode cX6_solveByRule 49 = .ok (.if_icmp .ne 87, 3) := by decide +kernel
theorem dX6_solveByRule_52 : decode cX6_solveByRule 52 = .ok (.iload_n 1, 1) := by decide +kernel
theorem dX6_solveByRule_53 : decode cX6_solveByRule 53 = .ok (.iconst 1, 1) := by decide +kernel
theorem dX6_solveByRule_54 : decode cX6_solveByRule 54 = .ok (.iadd, 1) := by decide +kernel
theorem dX6_solveByRule_55 : decode cX6_solveByRule 55 = .ok (.istore 4, 2) := by decide +kernel
theorem dX6_solveByRule_57 : decode cX6_solveByRule 57 = .ok (.iload 4, 2) := by decide +kernel
theorem dX6_solveByRule_59 : decode cX6_solveByRule 59 = .ok (.aload_n 0, 1) := by decide +kernel
theorem dX6_solveByRule_60 : decode cX6_solveByRule 60 = .ok (.getfield 51, 3) := by decide +kernel
theorem dX6_solveByRule_63 : decode cX6_solveByRule 63 = .ok (.if_icmp .ge 53, 3) := by decide +kernel
theorem dX6_solveByRule_66 : decode cX6_solveByRule 66 = .ok (.aload_n 0, 1) := by decide +kernel
theorem dX6_solveByRule_67 : decode cX6_solveByRule 67 = .ok (.iconst 2, 1) := by decide +kernel
theorem dX6_solveByRule_68 : decode cX6_solveByRule 68 = .ok (.iload_n 3, 1) := by decide +kernel
theorem dX6_solveByRule_69 : decode cX6_solveByRule 69 = .ok (.iload 4, 2) := by decide +kernel
theorem dX6_solveByRule_71 : decode cX6_solveByRule 71 = .ok (.invokevirtual 78, 3) := by decide +kernel
theorem dX6_solveByRule_74 : decode cX6_solveByRule 74 = .ok (.ifCond .ne 36, 3) := by decide +kernel
theorem dX6_solveByRule_77 : decode cX6_solveByRule 77 = .ok (.aload_n 0, 1) := by decide +kernel
theorem dX6_solveByRule_78 : decode cX6_solveByRule 78 = .ok (.iconst 3, 1) := by decide +kernel
theorem dX6_solveByRule_79 : decode cX6_solveByRule 79 = .ok (.iload_n 3, 1) := by decide +kernel
theorem dX6_solveByRule_80 : decode cX6_solveByRule 80 = .ok (.iload 4, 2) := by decide +kernel
theorem dX6_solveByRule_82 : decode cX6_solveByRule 82 = .ok (.invokevirtual 78, 3) := by decide +kernel
theorem dX6_solveByRule_85 : decode cX6_solveByRule 85 = .ok (.ifCond .ne 25, 3) := by decide +kernel
theorem dX6_solveByRule_88 : decode cX6_solveByRule 88 = .ok (.aload_n 0, 1) := by decide +kernel
theorem dX6_solveByRule_89 : decode cX6_solveByRule 89 = .ok (.iconst 4, 1) := by decide +kernel
theorem dX6_solveByRule_90 : decode cX6_solveByRule 90 = .ok (.iload_n 3, 1) := by decide +kernel
theorem dX6_solveByRule_91 : decode cX6_solveByRule 91 = .ok (.iload 4, 2) := by decide +kernel
theorem dX6_solveByRule_93 : decode cX6_solveByRule 93 = .ok (.invokevirtual 78, 3) := by decide +kernel
theorem dX6_solveByRule_96 : decode cX6_solveByRule 96 = .ok (.ifCond .ne 14, 3) := by decide +kernel
theorem dX6_solveByRule_99 : decode cX6_solveByRule 99 = .ok (.aload_n 0, 1) := by decide +kernel
theorem dX6_solveByRule_100 : decode cX6_solveByRule 100 = .ok (.iconst 5, 1) := by decide +kernel
theorem dX6_solveByRule_101 : decode cX6_solveByRule 101 = .ok (.iload_n 3, 1) := by decide +kernel
theorem dX6_solveByRule_102 : decode cX6_solveByRule 102 = .ok (.iload 4, 2) := by decide +kernel
theorem dX6_solveByRule_104 : decode cX6_solveByRule 104 = .ok (.invokevirtual 78, 3) := by decide +kernel
theorem dX6_solveByRule_107 : decode cX6_solveByRule 107 = .ok (.ifCond .eq 9, 3) := by decide +kernel
theorem dX6_solveByRule_110 : decode cX6_solveByRule 110 = .ok (.iinc 4 1, 3) := by decide +kernel
theorem dX6_solveByRule_113 : decode cX6_solveByRule 113 = .ok (.goto (-56), 3) := by decide +kernel
theorem dX6_solveByRule_116 : decode cX6_solveByRule 116 = .ok (.iload 4, 2) := by decide +kernel
theorem dX6_solveByRule_118 : decode cX6_solveByRule 118 = .ok (.aload_n 0, 1) := by decide +kernel
theorem dX6_solveByRule_119 : decode cX6_solveByRule 119 = .ok (.getfield 51, 3) := by decide +kernel
theorem dX6_solveByRule_122 : decode cX6_solveByRule 122 = .ok (.if_icmp .ge 14, 3) := by decide +kernel
theorem dX6_solveByRule_125 : decode cX6_solveByRule 125 = .ok (.aload_n 0, 1) := by decide +kernel
theorem dX6_solveByRule_126 : decode cX6_solveByRule 126 = .ok (.getfield 42, 3) := by decide +kernel
theorem dX6_solveByRule_129 : decode cX6_solveByRule 129 = .ok (.iload_n 3, 1) := by decide +kernel
theorem dX6_solveByRule_130 : decode cX6_solveByRule 130 = .ok (.iload 4, 2) := by decide +kernel
theorem dX6_solveByRule_132 : decode cX6_solveByRule 132 = .ok (.iastore, 1) := by decide +kernel
theorem dX6_solveByRule_133 : decode cX6_solveByRule 133 = .ok (.iload 4, 2) := by decide +kernel
theorem dX6_solveByRule_135 : decode cX6_solveByRule 135 = .ok (.istore_n 1, 1) := by decide +kernel
theorem dX6_solveByRule_136 : decode cX6_solveByRule 136 = .ok (.iinc 3 1, 3) := by decide +kernel
theorem dX6_solveByRule_139 : decode cX6_solveByRule 139 = .ok (.goto (-105), 3) := by decide +kernel
theorem dX6_solveByRule_142 : decode cX6_solveByRule 142 = .ok (.iinc 2 (-1), 3) := by decide +kernel
theorem dX6_solveByRule_145 : decode cX6_solveByRule 145 = .ok (.goto (-117), 3) := by decide +kernel
theorem dX6_solveByRule_148 : decode cX6_solveByRule 148 = .ok (.return_, 1) := by decide +kernel
theorem dX6_solve_0 : decode cX6_solve 0 = .ok (.aload_n 0, 1) := by decide +kernel
theorem dX6_solve_1 : decode cX6_solve 1 = .ok (.iload_n 1, 1) := by decide +kernel
theorem dX6_solve_2 : decode cX6_solve 2 = .ok (.iconst 0, 1) := by decide +kernel
theorem dX6_solve_3 : decode cX6_solve 3 = .ok (.iconst 5, 1) := by decide +kernel
theorem dX6_solve_4 : decode cX6_solve 4 = .ok (.invokestatic 60, 3) := by decide +kernel
theorem dX6_solve_7 : decode cX6_solve 7 = .ok (.ifCond .ne 7, 3) := by decide +kernel
theorem dX6_solve_10 : decode cX6_solve 10 = .ok (.iconst 1, 1) := by decide +kernel
theorem dX6_solve_11 : decode cX6_solve 11 = .ok (.goto 22, 3) := by decide +kernel
theorem dX6_solve_14 : decode cX6_solve 14 = .ok (.aload_n 0, 1) := by decide +kernel
theorem dX6_solve_15 : decode cX6_solve 15 = .ok (.getfield 71, 3) := by decide +kernel
theorem dX6_solve_18 : decode cX6_solve 18 = .ok (.ifCond .ne 10, 3) := by decide +kernel
theorem dX6_solve_21 : decode cX6_solve 21 = .ok (.aload_n 0, 1) := by decide +kernel
theorem dX6_solve_22 : decode cX6_solve 22 = .ok (.getfield 103, 3) := by decide +kernel
theorem dX6_solve_25 : decode cX6_solve 25 = .ok (.ifCond .eq 7, 3) := by decide +kernel
theorem dX6_solve_28 : decode cX6_solve 28 = .ok (.iconst 2, 1) := by decide +kernel
theorem dX6_solve_29 : decode cX6_solve 29 = .ok (.goto 4, 3) := by decide +kernel
theorem dX6_solve_32 : decode cX6_solve 32 = .ok (.iconst 0, 1) := by decide +kernel
theorem dX6_solve_33 : decode cX6_solve 33 = .ok (.putfield 54, 3) := by decide +kernel
theorem dX6_solve_36 : decode cX6_solve 36 = .ok (.aload_n 0, 1) := by decide +kernel
theorem dX6_solve_37 : decode cX6_solve 37 = .ok (.getfield 54, 3) := by decide +kernel
theorem dX6_solve_40 : decode cX6_solve 40 = .ok (.ifCond .eq 5, 3) := by decide +kernel
theorem dX6_solve_43 : decode cX6_solve 43 = .ok (.iconst 0, 1) := by decide +kernel
theorem dX6_solve_44 : decode cX6_solve 44 = .ok (.ireturn, 1) := by decide +kernel
theorem dX6_solve_45 : decode cX6_solve 45 = .ok (.aload_n 0, 1) := by decide +kernel
theorem dX6_solve_46 : decode cX6_solve 46 = .ok (.aload_n 0, 1) := by decide +kernel
theorem dX6_solve_47 : decode cX6_solve 47 = .ok (.getfield 57, 3) := by decide +kernel
theorem dX6_solve_50 : decode cX6_solve 50 = .ok (.iload_n 1, 1) := by decide +kernel
theorem dX6_solve_51 : decode cX6_solve 51 = .ok (.if_icmp .gt 7, 3) := by decide +kernel
theorem dX6_solve_54 : decode cX6_solve 54 = .ok (.iconst 1, 1) := by decide +kernel
theorem dX6_solve_55 : decode cX6_solve 55 = .ok (.goto 4, 3) := by decide +kernel
theorem dX6_solve_58 : decode cX6_solve 58 = .ok (.iconst 0, 1) := by decide +kernel
theorem dX6_solve_59 : decode cX6_solve 59 = .ok (.putfield 106, 3) := by decide +kernel
theorem dX6_solve_62 : decode cX6_solve 62 = .ok (.aload_n 0, 1) := by decide +kernel
theorem dX6_solve_63 : decode cX6_solve 63 = .ok (.getfield 106, 3) := by decide +kernel
theorem dX6_solve_66 : decode cX6_solve 66 = .ok (.ifCond .eq 10, 3) := by decide +kernel
theorem dX6_solve_69 : decode cX6_solve 69 = .ok (.aload_n 0, 1) := by decide +kernel
theorem dX6_solve_70 : decode cX6_solve 70 = .ok (.invokevirtual 109, 3) := by decide +kernel
theorem dX6_solve_73 : decode cX6_solve 73 = .ok (.goto 7, 3) := by decide +kernel
theorem dX6_solve_76 : decode cX6_solve 76 = .ok (.aload_n 0, 1) := by decide +kernel
theorem dX6_solve_77 : decode cX6_solve 77 = .ok (.invokevirtual 112, 3) := by decide +kernel
theorem dX6_solve_80 : decode cX6_solve 80 = .ok (.aload_n 0, 1) := by decide +kernel
theorem dX6_solve_81 : decode cX6_solve 81 = .ok (.invokevirtual 96, 3) := by decide +kernel
theorem dX6_solve_84 : decode cX6_solve 84 = .ok (.ireturn, 1) := by decide +kernel
theorem dX6_exact_0 : decode cX6_exact 0 = .ok (.aload_n 0, 1) := by decide +kernel
theorem dX6_exact_1 : decode cX6_exact 1 = .ok (.iconst 0, 1) := by decide +kernel
theorem dX6_exact_2 : decode cX6_exact 2 = .ok (.putfield 54, 3) := by decide +kernel
theorem dX6_exact_5 : decode cX6_exact 5 = .ok (.aload_n 0, 1) := by decide +kernel
theorem dX6_exact_6 : decode cX6_exact 6 = .ok (.getfield 106, 3) := by decide +kernel
theorem dX6_exact_9 : decode cX6_exact 9 = .ok (.ireturn, 1) := by decide +kernel
theorem dX6_bound_0 : decode cX6_bound 0 = .ok (.aload_n 0, 1) := by decide +kernel
theorem dX6_bound_1 : decode cX6_bound 1 = .ok (.iconst 0, 1) := by decide +kernel
theorem dX6_bound_2 : decode cX6_bound 2 = .ok (.putfield 54, 3) := by decide +kernel
theorem dX6_bound_5 : decode cX6_bound 5 = .ok (.iconst 0, 1) := by decide +kernel
theorem dX6_bound_6 : decode cX6_bound 6 = .ok (.istore_n 1, 1) := by decide +kernel
theorem dX6_bound_7 : decode cX6_bound 7 = .ok (.iconst 0, 1) := by decide +kernel
theorem dX6_bound_8 : decode cX6_bound 8 = .ok (.istore_n 2, 1) := by decide +kernel
theorem dX6_bound_9 : decode cX6_bound 9 = .ok (.iload_n 2, 1) := by decide +kernel
theorem dX6_bound_10 : decode cX6_bound 10 = .ok (.aload_n 0, 1) := by decide +kernel
theorem dX6_bound_11 : decode cX6_bound 11 = .ok (.getfield 57, 3) := by decide +kernel
theorem dX6_bound_14 : decode cX6_bound 14 = .ok (.if_icmp .ge 60, 3) := by decide +kernel
theorem dX6_bound_17 : decode cX6_bound 17 = .ok (.iconst 0, 1) := by decide +kernel
theorem dX6_bound_18 : decode cX6_bound 18 = .ok (.istore_n 3, 1) := by decide +kernel
theorem dX6_bound_19 : decode cX6_bound 19 = .ok (.iconst 0, 1) := by decide +kernel
theorem dX6_bound_20 : decode cX6_bound 20 = .ok (.istore 4, 2) := by decide +kernel
theorem dX6_bound_22 : decode cX6_bound 22 = .ok (.iload 4, 2) := by decide +kernel
theorem dX6_bound_24 : decode cX6_bound 24 = .ok (.aload_n 0, 1) := by decide +kernel
theorem dX6_bound_25 : decode cX6_bound 25 = .ok (.getfield 51, 3) := by decide +kernel
theorem dX6_bound_28 : decode cX6_bound 28 = .ok (.if_icmp .ge 33, 3) := by decide +kernel
theorem dX6_bound_31 : decode cX6_bound 31 = .ok (.aload_n 0, 1) := by decide +kernel
theorem dX6_bound_32 : decode cX6_bound 32 = .ok (.iconst 2, 1) := by decide +kernel
theorem dX6_bound_33 : decode cX6_bound 33 = .ok (.iload_n 2, 1) := by decide +kernel
theorem dX6_bound_34 : decode cX6_bound 34 = .ok (.iload 4, 2) := by decide +kernel
theorem dX6_bound_36 : decode cX6_bound 36 = .ok (.invokevirtual 78, 3) := by decide +kernel
theorem dX6_bound_39 : decode cX6_bound 39 = .ok (.ifCond .ne 16, 3) := by decide +kernel
theorem dX6_bound_42 : decode cX6_bound 42 = .ok (.aload_n 0, 1) := by decide +kernel
theorem dX6_bound_43 : decode cX6_bound 43 = .ok (.iconst 3, 1) := by decide +kernel
theorem dX6_bound_44 : decode cX6_bound 44 = .ok (.iload_n 2, 1) := by decide +kernel
theorem dX6_bound_45 : decode cX6_bound 45 = .ok (.iload 4, 2) := by decide +kernel
theorem dX6_bound_47 : decode cX6_bound 47 = .ok (.invokevirtual 78, 3) := by decide +kernel
theorem dX6_bound_50 : decode cX6_bound 50 = .ok (.ifCond .ne 5, 3) := by decide +kernel
theorem dX6_bound_53 : decode cX6_bound 53 = .ok (.iconst 1, 1) := by decide +kernel
theorem dX6_bound_54 : decode cX6_bound 54 = .ok (.istore_n 3, 1) := by decide +kernel
theorem dX6_bound_55 : decode cX6_bound 55 = .ok (.iinc 4 1, 3) := by decide +kernel
theorem dX6_bound_58 : decode cX6_bound 58 = .ok (.goto (-36), 3) := by decide +kernel
theorem dX6_bound_61 : decode cX6_bound 61 = .ok (.iload_n 3, 1) := by decide +kernel
theorem dX6_bound_62 : decode cX6_bound 62 = .ok (.ifCond .eq 6, 3) := by decide +kernel
theorem dX6_bound_65 : decode cX6_bound 65 = .ok (.iinc 1 1, 3) := by decide +kernel
theorem dX6_bound_68 : decode cX6_bound 68 = .ok (.iinc 2 1, 3) := by decide +kernel
theorem dX6_bound_71 : decode cX6_bound 71 = .ok (.goto (-62), 3) := by decide +kernel
theorem dX6_bound_74 : decode cX6_bound 74 = .ok (.iload_n 1, 1) := by decide +kernel
theorem dX6_bound_75 : decode cX6_bound 75 = .ok (.aload_n 0, 1) := by decide +kernel
theorem dX6_bound_76 : decode cX6_bound 76 = .ok (.getfield 51, 3) := by decide +kernel
theorem dX6_bound_79 : decode cX6_bound 79 = .ok (.if_icmp .ge 7, 3) := by decide +kernel
theorem dX6_bound_82 : decode cX6_bound 82 = .ok (.iload_n 1, 1) := by decide +kernel
theorem dX6_bound_83 : decode cX6_bound 83 = .ok (.goto 7, 3) := by decide +kernel
theorem dX6_bound_86 : decode cX6_bound 86 = .ok (.aload_n 0, 1) := by decide +kernel
theorem dX6_bound_87 : decode cX6_bound 87 = .ok (.getfield 51, 3) := by decide +kernel
theorem dX6_bound_90 : decode cX6_bound 90 = .ok (.ireturn, 1) := by decide +kernel
theorem dX6_place_0 : decode cX6_place 0 = .ok (.aload_n 0, 1) := by decide +kernel
theorem dX6_place_1 : decode cX6_place 1 = .ok (.aload_n 0, 1) := by decide +kernel
theorem dX6_place_2 : decode cX6_place 2 = .ok (.iload_n 1, 1) := by decide +kernel
theorem dX6_place_3 : decode cX6_place 3 = .ok (.invokevirtual 115, 3) := by decide +kernel
theorem dX6_place_6 : decode cX6_place 6 = .ok (.ifCond .ne 7, 3) := by decide +kernel
theorem dX6_place_9 : decode cX6_place 9 = .ok (.iconst 1, 1) := by decide +kernel
theorem dX6_place_10 : decode cX6_place 10 = .ok (.goto 40, 3) := by decide +kernel
theorem dX6_place_13 : decode cX6_place 13 = .ok (.iload_n 2, 1) := by decide +kernel
theorem dX6_place_14 : decode cX6_place 14 = .ok (.iconst (-1), 1) := by decide +kernel
theorem dX6_place_15 : decode cX6_place 15 = .ok (.aload_n 0, 1) := by decide +kernel
theorem dX6_place_16 : decode cX6_place 16 = .ok (.getfield 51, 3) := by decide +kernel
theorem dX6_place_19 : decode cX6_place 19 = .ok (.iconst 1, 1) := by decide +kernel
theorem dX6_place_20 : decode cX6_place 20 = .ok (.isub, 1) := by decide +kernel
theorem dX6_place_21 : decode cX6_place 21 = .ok (.invokestatic 60, 3) := by decide +kernel
theorem dX6_place_24 : decode cX6_place 24 = .ok (.ifCond .ne 7, 3) := by decide +kernel
theorem dX6_place_27 : decode cX6_place 27 = .ok (.iconst 2, 1) := by decide +kernel
theorem dX6_place_28 : decode cX6_place 28 = .ok (.goto 22, 3) := by decide +kernel
theorem dX6_place_31 : decode cX6_place 31 = .ok (.aload_n 0, 1) := by decide +kernel
theorem dX6_place_32 : decode cX6_place 32 = .ok (.getfield 71, 3) := by decide +kernel
theorem dX6_place_35 : decode cX6_place 35 = .ok (.ifCond .eq 10, 3) := by decide +kernel
theorem dX6_place_38 : decode cX6_place 38 = .ok (.aload_n 0, 1) := by decide +kernel
theorem dX6_place_39 : decode cX6_place 39 = .ok (.getfield 103, 3) := by decide +kernel
theorem dX6_place_42 : decode cX6_place 42 = .ok (.ifCond .eq 7, 3) := by decide +kernel
theorem dX6_place_45 : decode cX6_place 45 = .ok (.iconst 3, 1) := by decide +kernel
theorem dX6_place_46 : decode cX6_place 46 = .ok (.goto 4, 3) := by decide +kernel
theorem dX6_place_49 : decode cX6_place 49 = .ok (.iconst 0, 1) := by decide +kernel
theorem dX6_place_50 : decode cX6_place 50 = .ok (.putfield 54, 3) := by decide +kernel
theorem dX6_place_53 : decode cX6_place 53 = .ok (.aload_n 0, 1) := by decide +kernel
theorem dX6_place_54 : decode cX6_place 54 = .ok (.getfield 54, 3) := by decide +kernel
theorem dX6_place_57 : decode cX6_place 57 = .ok (.ifCond .eq 5, 3) := by decide +kernel
theorem dX6_place_60 : decode cX6_place 60 = .ok (.iconst 0, 1) := by decide +kernel
theorem dX6_place_61 : decode cX6_place 61 = .ok (.ireturn, 1) := by decide +kernel
theorem dX6_place_62 : decode cX6_place 62 = .ok (.iload_n 2, 1) := by decide +kernel
theorem dX6_place_63 : decode cX6_place 63 = .ok (.iconst (-1), 1) := by decide +kernel
theorem dX6_place_64 : decode cX6_place 64 = .ok (.if_icmp .ne 7, 3) := by decide +kernel
theorem dX6_place_67 : decode cX6_place 67 = .ok (.iconst 0, 1) := by decide +kernel
theorem dX6_place_68 : decode cX6_place 68 = .ok (.goto 9, 3) := by decide +kernel
theorem dX6_place_71 : decode cX6_place 71 = .ok (.aload_n 0, 1) := by decide +kernel
theorem dX6_place_72 : decode cX6_place 72 = .ok (.iload_n 1, 1) := by decide +kernel
theorem dX6_place_73 : decode cX6_place 73 = .ok (.iload_n 2, 1) := by decide +kernel
theorem dX6_place_74 : decode cX6_place 74 = .ok (.invokevirtual 118, 3) := by decide +kernel
theorem dX6_place_77 : decode cX6_place 77 = .ok (.istore_n 3, 1) := by decide +kernel
theorem dX6_place_78 : decode cX6_place 78 = .ok (.iload_n 3, 1) := by decide +kernel
theorem dX6_place_79 : decode cX6_place 79 = .ok (.ifCond .ne 10, 3) := by decide +kernel
theorem dX6_place_82 : decode cX6_place 82 = .ok (.aload_n 0, 1) := by decide +kernel
theorem dX6_place_83 : decode cX6_place 83 = .ok (.getfield 42, 3) := by decide +kernel
theorem dX6_place_86 : decode cX6_place 86 = .ok (.iload_n 1, 1) := by decide +kernel
theorem dX6_place_87 : decode cX6_place 87 = .ok (.iload_n 2, 1) := by decide +kernel
theorem dX6_place_88 : decode cX6_place 88 = .ok (.iastore, 1) := by decide +kernel
theorem dX6_place_89 : decode cX6_place 89 = .ok (.iload_n 3, 1) := by decide +kernel
theorem dX6_place_90 : decode cX6_place 90 = .ok (.ireturn, 1) := by decide +kernel
theorem dX6_at_0 : decode cX6_at 0 = .ok (.aload_n 0, 1) := by decide +kernel
theorem dX6_at_1 : decode cX6_at 1 = .ok (.aload_n 0, 1) := by decide +kernel
theorem dX6_at_2 : decode cX6_at 2 = .ok (.iload_n 1, 1) := by decide +kernel
theorem dX6_at_3 : decode cX6_at 3 = .ok (.invokevirtual 115, 3) := by decide +kernel
theorem dX6_at_6 : decode cX6_at 6 = .ok (.ifCond .eq 7, 3) := by decide +kernel
theorem dX6_at_9 : decode cX6_at 9 = .ok (.iconst 0, 1) := by decide +kernel
theorem dX6_at_10 : decode cX6_at 10 = .ok (.goto 4, 3) := by decide +kernel
theorem dX6_at_13 : decode cX6_at 13 = .ok (.iconst 1, 1) := by decide +kernel
theorem dX6_at_14 : decode cX6_at 14 = .ok (.putfield 54, 3) := by decide +kernel
theorem dX6_at_17 : decode cX6_at 17 = .ok (.aload_n 0, 1) := by decide +kernel
theorem dX6_at_18 : decode cX6_at 18 = .ok (.getfield 54, 3) := by decide +kernel
theorem dX6_at_21 : decode cX6_at 21 = .ok (.ifCond .eq 7, 3) := by decide +kernel
theorem dX6_at_24 : decode cX6_at 24 = .ok (.iconst 0, 1) := by decide +kernel
theorem dX6_at_25 : decode cX6_at 25 = .ok (.goto 9, 3) := by decide +kernel
theorem dX6_at_28 : decode cX6_at 28 = .ok (.aload_n 0, 1) := by decide +kernel
theorem dX6_at_29 : decode cX6_at 29 = .ok (.getfield 42, 3) := by decide +kernel
theorem dX6_at_32 : decode cX6_at 32 = .ok (.iload_n 1, 1) := by decide +kernel
theorem dX6_at_33 : decode cX6_at 33 = .ok (.iaload, 1) := by decide +kernel
theorem dX6_at_34 : decode cX6_at 34 = .ok (.ireturn, 1) := by decide +kernel
theorem dX6_common_0 : decode cX6_common 0 = .ok (.iload_n 0, 1) := by decide +kernel
theorem dX6_common_1 : decode cX6_common 1 = .ok (.ifCond .ge 8, 3) := by decide +kernel
theorem dX6_common_4 : decode cX6_common 4 = .ok (.iload_n 0, 1) := by decide +kernel
theorem dX6_common_5 : decode cX6_common 5 = .ok (.ineg, 1) := by decide +kernel
theorem dX6_common_6 : decode cX6_common 6 = .ok (.goto 4, 3) := by decide +kernel
theorem dX6_common_9 : decode cX6_common 9 = .ok (.iload_n 0, 1) := by decide +kernel
theorem dX6_common_10 : decode cX6_common 10 = .ok (.istore_n 2, 1) := by decide +kernel
theorem dX6_common_11 : decode cX6_common 11 = .ok (.iload_n 1, 1) := by decide +kernel
theorem dX6_common_12 : decode cX6_common 12 = .ok (.istore_n 3, 1) := by decide +kernel
theorem dX6_common_13 : decode cX6_common 13 = .ok (.iload_n 3, 1) := by decide +kernel
theorem dX6_common_14 : decode cX6_common 14 = .ok (.ifCond .eq 16, 3) := by decide +kernel
theorem dX6_common_17 : decode cX6_common 17 = .ok (.iload_n 2, 1) := by decide +kernel
theorem dX6_common_18 : decode cX6_common 18 = .ok (.iload_n 3, 1) := by decide +kernel
theorem dX6_common_19 : decode cX6_common 19 = .ok (.irem, 1) := by decide +kernel
theorem dX6_common_20 : decode cX6_common 20 = .ok (.istore 4, 2) := by decide +kernel
theorem dX6_common_22 : decode cX6_common 22 = .ok (.iload_n 3, 1) := by decide +kernel
theorem dX6_common_23 : decode cX6_common 23 = .ok (.istore_n 2, 1) := by decide +kernel
theorem dX6_common_24 : decode cX6_common 24 = .ok (.iload 4, 2) := by decide +kernel
theorem dX6_common_26 : decode cX6_common 26 = .ok (.istore_n 3, 1) := by decide +kernel
theorem dX6_common_27 : decode cX6_common 27 = .ok (.goto (-14), 3) := by decide +kernel
theorem dX6_common_30 : decode cX6_common 30 = .ok (.iload_n 2, 1) := by decide +kernel
theorem dX6_common_31 : decode cX6_common 31 = .ok (.ireturn, 1) := by decide +kernel
theorem dX6_axle_0 : decode cX6_axle 0 = .ok (.aload_n 0, 1) := by decide +kernel
theorem dX6_axle_1 : decode cX6_axle 1 = .ok (.iload_n 1, 1) := by decide +kernel
theorem dX6_axle_2 : decode cX6_axle 2 = .ok (.iconst 0, 1) := by decide +kernel
theorem dX6_axle_3 : decode cX6_axle 3 = .ok (.iconst 1, 1) := by decide +kernel
theorem dX6_axle_4 : decode cX6_axle 4 = .ok (.invokestatic 60, 3) := by decide +kernel
theorem dX6_axle_7 : decode cX6_axle 7 = .ok (.ifCond .eq 12, 3) := by decide +kernel
theorem dX6_axle_10 : decode cX6_axle 10 = .ok (.iload_n 2, 1) := by decide +kernel
theorem dX6_axle_11 : decode cX6_axle 11 = .ok (.iconst 0, 1) := by decide +kernel
theorem dX6_axle_12 : decode cX6_axle 12 = .ok (.iconst 1, 1) := by decide +kernel
theorem dX6_axle_13 : decode cX6_axle 13 = .ok (.invokestatic 60, 3) := by decide +kernel
theorem dX6_axle_16 : decode cX6_axle 16 = .ok (.ifCond .ne 7, 3) := by decide +kernel
theorem dX6_axle_19 : decode cX6_axle 19 = .ok (.iconst 1, 1) := by decide +kernel
theorem dX6_axle_20 : decode cX6_axle 20 = .ok (.goto 15, 3) := by decide +kernel
theorem dX6_axle_23 : decode cX6_axle 23 = .ok (.aload_n 0, 1) := by decide +kernel
theorem dX6_axle_24 : decode cX6_axle 24 = .ok (.invokevirtual 96, 3) := by decide +kernel
theorem dX6_axle_27 : decode cX6_axle 27 = .ok (.ifCond .ne 7, 3) := by decide +kernel
theorem dX6_axle_30 : decode cX6_axle 30 = .ok (.iconst 2, 1) := by decide +kernel
theorem dX6_axle_31 : decode cX6_axle 31 = .ok (.goto 4, 3) := by decide +kernel
theorem dX6_axle_34 : decode cX6_axle 34 = .ok (.iconst 0, 1) := by decide +kernel
theorem dX6_axle_35 : decode cX6_axle 35 = .ok (.putfield 54, 3) := by decide +kernel
theorem dX6_axle_38 : decode cX6_axle 38 = .ok (.aload_n 0, 1) := by decide +kernel
theorem dX6_axle_39 : decode cX6_axle 39 = .ok (.getfield 54, 3) := by decide +kernel
theorem dX6_axle_42 : decode cX6_axle 42 = .ok (.ifCond .eq 5, 3) := by decide +kernel
theorem dX6_axle_45 : decode cX6_axle 45 = .ok (.iconst 0, 1) := by decide +kernel
theorem dX6_axle_46 : decode cX6_axle 46 = .ok (.ireturn, 1) := by decide +kernel
theorem dX6_axle_47 : decode cX6_axle 47 = .ok (.aload_n 0, 1) := by decide +kernel
theorem dX6_axle_48 : decode cX6_axle 48 = .ok (.iload_n 1, 1) := by decide +kernel
theorem dX6_axle_49 : decode cX6_axle 49 = .ok (.invokevirtual 75, 3) := by decide +kernel
theorem dX6_axle_52 : decode cX6_axle 52 = .ok (.istore_n 3, 1) := by decide +kernel
theorem dX6_axle_53 : decode cX6_axle 53 = .ok (.aload_n 0, 1) := by decide +kernel
theorem dX6_axle_54 : decode cX6_axle 54 = .ok (.getfield 17, 3) := by decide +kernel
theorem dX6_axle_57 : decode cX6_axle 57 = .ok (.aload_n 0, 1) := by decide +kernel
theorem dX6_axle_58 : decode cX6_axle 58 = .ok (.getfield 68, 3) := by decide +kernel
theorem dX6_axle_61 : decode cX6_axle 61 = .ok (.isub, 1) := by decide +kernel
theorem dX6_axle_62 : decode cX6_axle 62 = .ok (.istore 4, 2) := by decide +kernel
theorem dX6_axle_64 : decode cX6_axle 64 = .ok (.iload_n 3, 1) := by decide +kernel
theorem dX6_axle_65 : decode cX6_axle 65 = .ok (.iload 4, 2) := by decide +kernel
theorem dX6_axle_67 : decode cX6_axle 67 = .ok (.invokestatic 122, 3) := by decide +kernel
theorem dX6_axle_70 : decode cX6_axle 70 = .ok (.istore 5, 2) := by decide +kernel
theorem dX6_axle_72 : decode cX6_axle 72 = .ok (.iload_n 2, 1) := by decide +kernel
theorem dX6_axle_73 : decode cX6_axle 73 = .ok (.ifCond .ne 10, 3) := by decide +kernel
theorem dX6_axle_76 : decode cX6_axle 76 = .ok (.iload_n 3, 1) := by decide +kernel
theorem dX6_axle_77 : decode cX6_axle 77 = .ok (.iload 5, 2) := by decide +kernel
theorem dX6_axle_79 : decode cX6_axle 79 = .ok (.idiv, 1) := by decide +kernel
theorem dX6_axle_80 : decode cX6_axle 80 = .ok (.goto 8, 3) := by decide +kernel
theorem dX6_axle_83 : decode cX6_axle 83 = .ok (.iload 4, 2) := by decide +kernel
theorem dX6_axle_85 : decode cX6_axle 85 = .ok (.iload 5, 2) := by decide +kernel
theorem dX6_axle_87 : decode cX6_axle 87 = .ok (.idiv, 1) := by decide +kernel
theorem dX6_axle_88 : decode cX6_axle 88 = .ok (.ireturn, 1) := by decide +kernel
theorem dX6_isLeft_0 : decode cX6_isLeft 0 = .ok (.iload_n 1, 1) := by decide +kernel
theorem dX6_isLeft_1 : decode cX6_isLeft 1 = .ok (.bipush 6, 2) := by decide +kernel
theorem dX6_isLeft_3 : decode cX6_isLeft 3 = .ok (.if_icmp .ne 12, 3) := by decide +kernel
theorem dX6_isLeft_6 : decode cX6_isLeft 6 = .ok (.aload_n 0, 1) := by decide +kernel
theorem dX6_isLeft_7 : decode cX6_isLeft 7 = .ok (.iload_n 2, 1) := by decide +kernel
theorem dX6_isLeft_8 : decode cX6_isLeft 8 = .ok (.iload_n 3, 1) := by decide +kernel
theorem dX6_isLeft_9 : decode cX6_isLeft 9 = .ok (.invokevirtual 81, 3) := by decide +kernel
theorem dX6_isLeft_12 : decode cX6_isLeft 12 = .ok (.goto 18, 3) := by decide +kernel
theorem dX6_isLeft_15 : decode cX6_isLeft 15 = .ok (.aload_n 0, 1) := by decide +kernel
theorem dX6_isLeft_16 : decode cX6_isLeft 16 = .ok (.iload_n 1, 1) := by decide +kernel
theorem dX6_isLeft_17 : decode cX6_isLeft 17 = .ok (.iload_n 2, 1) := by decide +kernel
theorem dX6_isLeft_18 : decode cX6_isLeft 18 = .ok (.iload_n 3, 1) := by decide +kernel
theorem dX6_isLeft_19 : decode cX6_isLeft 19 = .ok (.invokevirtual 78, 3) := by decide +kernel
theorem dX6_isLeft_22 : decode cX6_isLeft 22 = .ok (.ifCond .ne 7, 3) := by decide +kernel
theorem dX6_isLeft_25 : decode cX6_isLeft 25 = .ok (.iconst 1, 1) := by decide +kernel
theorem dX6_isLeft_26 : decode cX6_isLeft 26 = .ok (.goto 4, 3) := by decide +kernel
theorem dX6_isLeft_29 : decode cX6_isLeft 29 = .ok (.iconst 0, 1) := by decide +kernel
theorem dX6_isLeft_30 : decode cX6_isLeft 30 = .ok (.ireturn, 1) := by decide +kernel
theorem dX6_bar_0 : decode cX6_bar 0 = .ok (.aload_n 0, 1) := by decide +kernel
theorem dX6_bar_1 : decode cX6_bar 1 = .ok (.aload_n 0, 1) := by decide +kernel
theorem dX6_bar_2 : decode cX6_bar 2 = .ok (.iload_n 1, 1) := by decide +kernel
theorem dX6_bar_3 : decode cX6_bar 3 = .ok (.invokevirtual 115, 3) := by decide +kernel
theorem dX6_bar_6 : decode cX6_bar 6 = .ok (.ifCond .ne 7, 3) := by decide +kernel
theorem dX6_bar_9 : decode cX6_bar 9 = .ok (.iconst 1, 1) := by decide +kernel
theorem dX6_bar_10 : decode cX6_bar 10 = .ok (.goto 18, 3) := by decide +kernel
theorem dX6_bar_13 : decode cX6_bar 13 = .ok (.aload_n 0, 1) := by decide +kernel
theorem dX6_bar_14 : decode cX6_bar 14 = .ok (.getfield 42, 3) := by decide +kernel
theorem dX6_bar_17 : decode cX6_bar 17 = .ok (.iload_n 1, 1) := by decide +kernel
theorem dX6_bar_18 : decode cX6_bar 18 = .ok (.iaload, 1) := by decide +kernel
theorem dX6_bar_19 : decode cX6_bar 19 = .ok (.iconst (-1), 1) := by decide +kernel
theorem dX6_bar_20 : decode cX6_bar 20 = .ok (.if_icmp .eq 7, 3) := by decide +kernel
theorem dX6_bar_23 : decode cX6_bar 23 = .ok (.iconst 2, 1) := by decide +kernel
theorem dX6_bar_24 : decode cX6_bar 24 = .ok (.goto 4, 3) := by decide +kernel
theorem dX6_bar_27 : decode cX6_bar 27 = .ok (.iconst 0, 1) := by decide +kernel
theorem dX6_bar_28 : decode cX6_bar 28 = .ok (.putfield 54, 3) := by decide +kernel
theorem dX6_bar_31 : decode cX6_bar 31 = .ok (.aload_n 0, 1) := by decide +kernel
theorem dX6_bar_32 : decode cX6_bar 32 = .ok (.getfield 54, 3) := by decide +kernel
theorem dX6_bar_35 : decode cX6_bar 35 = .ok (.ifCond .eq 5, 3) := by decide +kernel
theorem dX6_bar_38 : decode cX6_bar 38 = .ok (.iconst 0, 1) := by decide +kernel
theorem dX6_bar_39 : decode cX6_bar 39 = .ok (.ireturn, 1) := by decide +kernel
theorem dX6_bar_40 : decode cX6_bar 40 = .ok (.iconst 1, 1) := by decide +kernel
theorem dX6_bar_41 : decode cX6_bar 41 = .ok (.istore_n 2, 1) := by decide +kernel
theorem dX6_bar_42 : decode cX6_bar 42 = .ok (.iload_n 2, 1) := by decide +kernel
theorem dX6_bar_43 : decode cX6_bar 43 = .ok (.bipush 6, 2) := by decide +kernel
theorem dX6_bar_45 : decode cX6_bar 45 = .ok (.if_icmp .gt 84, 3) := by decide +kernel
theorem dX6_bar_48 : decode cX6_bar 48 = .ok (.iconst 0, 1) := by decide +kernel
theorem dX6_bar_49 : decode cX6_bar 49 = .ok (.istore_n 3, 1) := by decide +kernel
theorem dX6_bar_50 : decode cX6_bar 50 = .ok (.iconst 0, 1) := by decide +kernel
theorem dX6_bar_51 : decode cX6_bar 51 = .ok (.istore 4, 2) := by decide +kernel
theorem dX6_bar_53 : decode cX6_bar 53 = .ok (.iload 4, 2) := by decide +kernel
theorem dX6_bar_55 : decode cX6_bar 55 = .ok (.aload_n 0, 1) := by decide +kernel
theorem dX6_bar_56 : decode cX6_bar 56 = .ok (.getfield 51, 3) := by decide +kernel
theorem dX6_bar_59 : decode cX6_bar 59 = .ok (.if_icmp .ge 58, 3) := by decide +kernel
theorem dX6_bar_62 : decode cX6_bar 62 = .ok (.iconst 1, 1) := by decide +kernel
theorem dX6_bar_63 : decode cX6_bar 63 = .ok (.istore 5, 2) := by decide +kernel
theorem dX6_bar_65 : decode cX6_bar 65 = .ok (.iconst 1, 1) := by decide +kernel
theorem dX6_bar_66 : decode cX6_bar 66 = .ok (.istore 6, 2) := by decide +kernel
theorem dX6_bar_68 : decode cX6_bar 68 = .ok (.iload 6, 2) := by decide +kernel
theorem dX6_bar_70 : decode cX6_bar 70 = .ok (.iload_n 2, 1) := by decide +kernel
theorem dX6_bar_71 : decode cX6_bar 71 = .ok (.if_icmp .gt 25, 3) := by decide +kernel
theorem dX6_bar_74 : decode cX6_bar 74 = .ok (.iload 5, 2) := by decide +kernel
theorem dX6_bar_76 : decode cX6_bar 76 = .ok (.ifCond .eq 20, 3) := by decide +kernel
theorem dX6_bar_79 : decode cX6_bar 79 = .ok (.aload_n 0, 1) := by decide +kernel
theorem dX6_bar_80 : decode cX6_bar 80 = .ok (.iload 6, 2) := by decide +kernel
theorem dX6_bar_82 : decode cX6_bar 82 = .ok (.iload_n 1, 1) := by decide +kernel
theorem dX6_bar_83 : decode cX6_bar 83 = .ok (.iload 4, 2) := by decide +kernel
theorem dX6_bar_85 : decode cX6_bar 85 = .ok (.invokevirtual 125, 3) := by decide +kernel
theorem dX6_bar_88 : decode cX6_bar 88 = .ok (.istore 5, 2) := by decide +kernel
theorem dX6_bar_90 : decode cX6_bar 90 = .ok (.iinc 6 1, 3) := by decide +kernel
theorem dX6_bar_93 : decode cX6_bar 93 = .ok (.goto (-25), 3) := by decide +kernel
theorem dX6_bar_96 : decode cX6_bar 96 = .ok (.iload_n 3, 1) := by decide +kernel
theorem dX6_bar_97 : decode cX6_bar 97 = .ok (.ifCond .ne 8, 3) := by decide +kernel
theorem dX6_bar_100 : decode cX6_bar 100 = .ok (.iload 5, 2) := by decide +kernel
theorem dX6_bar_102 : decode cX6_bar 102 = .ok (.ifCond .eq 7, 3) := by decide +kernel
theorem dX6_bar_105 : decode cX6_bar 105 = .ok (.iconst 1, 1) := by decide +kernel
theorem dX6_bar_106 : decode cX6_bar 106 = .ok (.goto 4, 3) := by decide +kernel
theorem dX6_bar_109 : decode cX6_bar 109 = .ok (.iconst 0, 1) := by decide +kernel
theorem dX6_bar_110 : decode cX6_bar 110 = .ok (.istore_n 3, 1) := by decide +kernel
theorem dX6_bar_111 : decode cX6_bar 111 = .ok (.iinc 4 1, 3) := by decide +kernel
theorem dX6_bar_114 : decode cX6_bar 114 = .ok (.goto (-61), 3) := by decide +kernel
theorem dX6_bar_117 : decode cX6_bar 117 = .ok (.iload_n 3, 1) := by decide +kernel
theorem dX6_bar_118 : decode cX6_bar 118 = .ok (.ifCond .ne 5, 3) := by decide +kernel
theorem dX6_bar_121 : decode cX6_bar 121 = .ok (.iload_n 2, 1) := by decide +kernel
theorem dX6_bar_122 : decode cX6_bar 122 = .ok (.ireturn, 1) := by decide +kernel
theorem dX6_bar_123 : decode cX6_bar 123 = .ok (.iinc 2 1, 3) := by decide +kernel
theorem dX6_bar_126 : decode cX6_bar 126 = .ok (.goto (-84), 3) := by decide +kernel
theorem dX6_bar_129 : decode cX6_bar 129 = .ok (.iconst 0, 1) := by decide +kernel
theorem dX6_bar_130 : decode cX6_bar 130 = .ok (.ireturn, 1) := by decide +kernel
theorem dX6_change_0 : decode cX6_change 0 = .ok (.aload_n 0, 1) := by decide +kernel
theorem dX6_change_1 : decode cX6_change 1 = .ok (.aload_n 0, 1) := by decide +kernel
theorem dX6_change_2 : decode cX6_change 2 = .ok (.iload_n 1, 1) := by decide +kernel
theorem dX6_change_3 : decode cX6_change 3 = .ok (.invokevirtual 115, 3) := by decide +kernel
theorem dX6_change_6 : decode cX6_change 6 = .ok (.ifCond .ne 7, 3) := by decide +kernel
theorem dX6_change_9 : decode cX6_change 9 = .ok (.iconst 1, 1) := by decide +kernel
theorem dX6_change_10 : decode cX6_change 10 = .ok (.goto 29, 3) := by decide +kernel
theorem dX6_change_13 : decode cX6_change 13 = .ok (.iload_n 2, 1) := by decide +kernel
theorem dX6_change_14 : decode cX6_change 14 = .ok (.iconst 1, 1) := by decide +kernel
theorem dX6_change_15 : decode cX6_change 15 = .ok (.bipush 9, 2) := by decide +kernel
theorem dX6_change_17 : decode cX6_change 17 = .ok (.invokestatic 60, 3) := by decide +kernel
theorem dX6_change_20 : decode cX6_change 20 = .ok (.ifCond .ne 7, 3) := by decide +kernel
theorem dX6_change_23 : decode cX6_change 23 = .ok (.iconst 2, 1) := by decide +kernel
theorem dX6_change_24 : decode cX6_change 24 = .ok (.goto 15, 3) := by decide +kernel
theorem dX6_change_27 : decode cX6_change 27 = .ok (.aload_n 0, 1) := by decide +kernel
theorem dX6_change_28 : decode cX6_change 28 = .ok (.getfield 71, 3) := by decide +kernel
theorem dX6_change_31 : decode cX6_change 31 = .ok (.ifCond .eq 7, 3) := by decide +kernel
theorem dX6_change_34 : decode cX6_change 34 = .ok (.iconst 3, 1) := by decide +kernel
theorem dX6_change_35 : decode cX6_change 35 = .ok (.goto 4, 3) := by decide +kernel
theorem dX6_change_38 : decode cX6_change 38 = .ok (.iconst 0, 1) := by decide +kernel
theorem dX6_change_39 : decode cX6_change 39 = .ok (.putfield 54, 3) := by decide +kernel
theorem dX6_change_42 : decode cX6_change 42 = .ok (.aload_n 0, 1) := by decide +kernel
theorem dX6_change_43 : decode cX6_change 43 = .ok (.getfield 54, 3) := by decide +kernel
theorem dX6_change_46 : decode cX6_change 46 = .ok (.ifCond .eq 5, 3) := by decide +kernel
theorem dX6_change_49 : decode cX6_change 49 = .ok (.iconst 0, 1) := by decide +kernel
theorem dX6_change_50 : decode cX6_change 50 = .ok (.ireturn, 1) := by decide +kernel
theorem dX6_change_51 : decode cX6_change 51 = .ok (.aload_n 0, 1) := by decide +kernel
theorem dX6_change_52 : decode cX6_change 52 = .ok (.getfield 36, 3) := by decide +kernel
theorem dX6_change_55 : decode cX6_change 55 = .ok (.iload_n 1, 1) := by decide +kernel
theorem dX6_change_56 : decode cX6_change 56 = .ok (.iaload, 1) := by decide +kernel
theorem dX6_change_57 : decode cX6_change 57 = .ok (.istore_n 3, 1) := by decide +kernel
theorem dX6_change_58 : decode cX6_change 58 = .ok (.aload_n 0, 1) := by decide +kernel
theorem dX6_change_59 : decode cX6_change 59 = .ok (.getfield 36, 3) := by decide +kernel
theorem dX6_change_62 : decode cX6_change 62 = .ok (.iload_n 1, 1) := by decide +kernel
theorem dX6_change_63 : decode cX6_change 63 = .ok (.iload_n 2, 1) := by decide +kernel
theorem dX6_change_64 : decode cX6_change 64 = .ok (.iastore, 1) := by decide +kernel
theorem dX6_change_65 : decode cX6_change 65 = .ok (.aload_n 0, 1) := by decide +kernel
theorem dX6_change_66 : decode cX6_change 66 = .ok (.getfield 42, 3) := by decide +kernel
theorem dX6_change_69 : decode cX6_change 69 = .ok (.iload_n 1, 1) := by decide +kernel
theorem dX6_change_70 : decode cX6_change 70 = .ok (.iaload, 1) := by decide +kernel
theorem dX6_change_71 : decode cX6_change 71 = .ok (.iconst (-1), 1) := by decide +kernel
theorem dX6_change_72 : decode cX6_change 72 = .ok (.if_icmp .eq 27, 3) := by decide +kernel
theorem dX6_change_75 : decode cX6_change 75 = .ok (.aload_n 0, 1) := by decide +kernel
theorem dX6_change_76 : decode cX6_change 76 = .ok (.iconst 5, 1) := by decide +kernel
theorem dX6_change_77 : decode cX6_change 77 = .ok (.iload_n 1, 1) := by decide +kernel
theorem dX6_change_78 : decode cX6_change 78 = .ok (.aload_n 0, 1) := by decide +kernel
theorem dX6_change_79 : decode cX6_change 79 = .ok (.getfield 42, 3) := by decide +kernel
theorem dX6_change_82 : decode cX6_change 82 = .ok (.iload_n 1, 1) := by decide +kernel
theorem dX6_change_83 : decode cX6_change 83 = .ok (.iaload, 1) := by decide +kernel
theorem dX6_change_84 : decode cX6_change 84 = .ok (.invokevirtual 78, 3) := by decide +kernel
theorem dX6_change_87 : decode cX6_change 87 = .ok (.ifCond .eq 12, 3) := by decide +kernel
theorem dX6_change_90 : decode cX6_change 90 = .ok (.aload_n 0, 1) := by decide +kernel
theorem dX6_change_91 : decode cX6_change 91 = .ok (.getfield 36, 3) := by decide +kernel
theorem dX6_change_94 : decode cX6_change 94 = .ok (.iload_n 1, 1) := by decide +kernel
theorem dX6_change_95 : decode cX6_change 95 = .ok (.iload_n 3, 1) := by decide +kernel
theorem dX6_change_96 : decode cX6_change 96 = .ok (.iastore, 1) := by decide +kernel
theorem dX6_change_97 : decode cX6_change 97 = .ok (.iconst 0, 1) := by decide +kernel
theorem dX6_change_98 : decode cX6_change 98 = .ok (.ireturn, 1) := by decide +kernel
theorem dX6_change_99 : decode cX6_change 99 = .ok (.iconst 1, 1) := by decide +kernel
theorem dX6_change_100 : decode cX6_change 100 = .ok (.ireturn, 1) := by decide +kernel
theorem dX6_doors_0 : decode cX6_doors 0 = .ok (.aload_n 0, 1) := by decide +kernel
theorem dX6_doors_1 : decode cX6_doors 1 = .ok (.iload_n 1, 1) := by decide +kernel
theorem dX6_doors_2 : decode cX6_doors 2 = .ok (.ifCond .eq 14, 3) := by decide +kernel
theorem dX6_doors_5 : decode cX6_doors 5 = .ok (.aload_n 0, 1) := by decide +kernel
theorem dX6_doors_6 : decode cX6_doors 6 = .ok (.getfield 103, 3) := by decide +kernel
theorem dX6_doors_9 : decode cX6_doors 9 = .ok (.ifCond .eq 7, 3) := by decide +kernel
theorem dX6_doors_12 : decode cX6_doors 12 = .ok (.iconst 1, 1) := by decide +kernel
theorem dX6_doors_13 : decode cX6_doors 13 = .ok (.goto 4, 3) := by decide +kernel
theorem dX6_doors_16 : decode cX6_doors 16 = .ok (.iconst 0, 1) := by decide +kernel
theorem dX6_doors_17 : decode cX6_doors 17 = .ok (.putfield 54, 3) := by decide +kernel
theorem dX6_doors_20 : decode cX6_doors 20 = .ok (.aload_n 0, 1) := by decide +kernel
theorem dX6_doors_21 : decode cX6_doors 21 = .ok (.getfield 54, 3) := by decide +kernel
theorem dX6_doors_24 : decode cX6_doors 24 = .ok (.ifCond .eq 5, 3) := by decide +kernel
theorem dX6_doors_27 : decode cX6_doors 27 = .ok (.iconst 0, 1) := by decide +kernel
theorem dX6_doors_28 : decode cX6_doors 28 = .ok (.ireturn, 1) := by decide +kernel
theorem dX6_doors_29 : decode cX6_doors 29 = .ok (.aload_n 0, 1) := by decide +kernel
theorem dX6_doors_30 : decode cX6_doors 30 = .ok (.getfield 71, 3) := by decide +kernel
theorem dX6_doors_33 : decode cX6_doors 33 = .ok (.istore_n 2, 1) := by decide +kernel
theorem dX6_doors_34 : decode cX6_doors 34 = .ok (.aload_n 0, 1) := by decide +kernel
theorem dX6_doors_35 : decode cX6_doors 35 = .ok (.iload_n 1, 1) := by decide +kernel
theorem dX6_doors_36 : decode cX6_doors 36 = .ok (.putfield 71, 3) := by decide +kernel
theorem dX6_doors_39 : decode cX6_doors 39 = .ok (.iload_n 2, 1) := by decide +kernel
theorem dX6_doors_40 : decode cX6_doors 40 = .ok (.ireturn, 1) := by decide +kernel
theorem dX6_seal_0 : decode cX6_seal 0 = .ok (.aload_n 0, 1) := by decide +kernel
theorem dX6_seal_1 : decode cX6_seal 1 = .ok (.iload_n 1, 1) := by decide +kernel
theorem dX6_seal_2 : decode cX6_seal 2 = .ok (.iconst 1, 1) := by decide +kernel
theorem dX6_seal_3 : decode cX6_seal 3 = .ok (.ldc 128, 2) := by decide +kernel
theorem dX6_seal_5 : decode cX6_seal 5 = .ok (.invokestatic 60, 3) := by decide +kernel
theorem dX6_seal_8 : decode cX6_seal 8 = .ok (.ifCond .ne 7, 3) := by decide +kernel
theorem dX6_seal_11 : decode cX6_seal 11 = .ok (.iconst 1, 1) := by decide +kernel
theorem dX6_seal_12 : decode cX6_seal 12 = .ok (.goto 35, 3) := by decide +kernel
theorem dX6_seal_15 : decode cX6_seal 15 = .ok (.aload_n 0, 1) := by decide +kernel
theorem dX6_seal_16 : decode cX6_seal 16 = .ok (.getfield 71, 3) := by decide +kernel
theorem dX6_seal_19 : decode cX6_seal 19 = .ok (.ifCond .ne 10, 3) := by decide +kernel
theorem dX6_seal_22 : decode cX6_seal 22 = .ok (.aload_n 0, 1) := by decide +kernel
theorem dX6_seal_23 : decode cX6_seal 23 = .ok (.getfield 103, 3) := by decide +kernel
theorem dX6_seal_26 : decode cX6_seal 26 = .ok (.ifCond .eq 7, 3) := by decide +kernel
theorem dX6_seal_29 : decode cX6_seal 29 = .ok (.iconst 2, 1) := by decide +kernel
theorem dX6_seal_30 : decode cX6_seal 30 = .ok (.goto 17, 3) := by decide +kernel
theorem dX6_seal_33 : decode cX6_seal 33 = .ok (.aload_n 0, 1) := by decide +kernel
theorem dX6_seal_34 : decode cX6_seal 34 = .ok (.getfield 129, 3) := by decide +kernel
theorem dX6_seal_37 : decode cX6_seal 37 = .ok (.bipush 10, 2) := by decide +kernel
theorem dX6_seal_39 : decode cX6_seal 39 = .ok (.if_icmp .ne 7, 3) := by decide +kernel
theorem dX6_seal_42 : decode cX6_seal 42 = .ok (.iconst 3, 1) := by decide +kernel
theorem dX6_seal_43 : decode cX6_seal 43 = .ok (.goto 4, 3) := by decide +kernel
theorem dX6_seal_46 : decode cX6_seal 46 = .ok (.iconst 0, 1) := by decide +kernel
theorem dX6_seal_47 : decode cX6_seal 47 = .ok (.putfield 54, 3) := by decide +kernel
theorem dX6_seal_50 : decode cX6_seal 50 = .ok (.aload_n 0, 1) := by decide +kernel
theorem dX6_seal_51 : decode cX6_seal 51 = .ok (.getfield 54, 3) := by decide +kernel
theorem dX6_seal_54 : decode cX6_seal 54 = .ok (.ifCond .eq 5, 3) := by decide +kernel
theorem dX6_seal_57 : decode cX6_seal 57 = .ok (.iconst 0, 1) := by decide +kernel
theorem dX6_seal_58 : decode cX6_seal 58 = .ok (.ireturn, 1) := by decide +kernel
theorem dX6_seal_59 : decode cX6_seal 59 = .ok (.iconst 0, 1) := by decide +kernel
theorem dX6_seal_60 : decode cX6_seal 60 = .ok (.istore_n 2, 1) := by decide +kernel
theorem dX6_seal_61 : decode cX6_seal 61 = .ok (.iload_n 2, 1) := by decide +kernel
theorem dX6_seal_62 : decode cX6_seal 62 = .ok (.aload_n 0, 1) := by decide +kernel
theorem dX6_seal_63 : decode cX6_seal 63 = .ok (.getfield 129, 3) := by decide +kernel
theorem dX6_seal_66 : decode cX6_seal 66 = .ok (.if_icmp .ge 21, 3) := by decide +kernel
theorem dX6_seal_69 : decode cX6_seal 69 = .ok (.aload_n 0, 1) := by decide +kernel
theorem dX6_seal_70 : decode cX6_seal 70 = .ok (.getfield 48, 3) := by decide +kernel
theorem dX6_seal_73 : decode cX6_seal 73 = .ok (.iload_n 2, 1) := by decide +kernel
theorem dX6_seal_74 : decode cX6_seal 74 = .ok (.iaload, 1) := by decide +kernel
theorem dX6_seal_75 : decode cX6_seal 75 = .ok (.iload_n 1, 1) := by decide +kernel
theorem dX6_seal_76 : decode cX6_seal 76 = .ok (.if_icmp .ne 5, 3) := by decide +kernel
theorem dX6_seal_79 : decode cX6_seal 79 = .ok (.iconst 0, 1) := by decide +kernel
theorem dX6_seal_80 : decode cX6_seal 80 = .ok (.ireturn, 1) := by decide +kernel
theorem dX6_seal_81 : decode cX6_seal 81 = .ok (.iinc 2 1, 3) := by decide +kernel
theorem dX6_seal_84 : decode cX6_seal 84 = .ok (.goto (-23), 3) := by decide +kernel
theorem dX6_seal_87 : decode cX6_seal 87 = .ok (.aload_n 0, 1) := by decide +kernel
theorem dX6_seal_88 : decode cX6_seal 88 = .ok (.getfield 48, 3) := by decide +kernel
theorem dX6_seal_91 : decode cX6_seal 91 = .ok (.aload_n 0, 1) := by decide +kernel
theorem dX6_seal_92 : decode cX6_seal 92 = .ok (.getfield 129, 3) := by decide +kernel
theorem dX6_seal_95 : decode cX6_seal 95 = .ok (.iload_n 1, 1) := by decide +kernel
theorem dX6_seal_96 : decode cX6_seal 96 = .ok (.iastore, 1) := by decide +kernel
theorem dX6_seal_97 : decode cX6_seal 97 = .ok (.aload_n 0, 1) := by decide +kernel
theorem dX6_seal_98 : decode cX6_seal 98 = .ok (.dup, 1) := by decide +kernel
theorem dX6_seal_99 : decode cX6_seal 99 = .ok (.getfield 129, 3) := by decide +kernel
theorem dX6_seal_102 : decode cX6_seal 102 = .ok (.iconst 1, 1) := by decide +kernel
theorem dX6_seal_103 : decode cX6_seal 103 = .ok (.iadd, 1) := by decide +kernel
theorem dX6_seal_104 : decode cX6_seal 104 = .ok (.putfield 129, 3) := by decide +kernel
theorem dX6_seal_107 : decode cX6_seal 107 = .ok (.aload_n 0, 1) := by decide +kernel
theorem dX6_seal_108 : decode cX6_seal 108 = .ok (.iload_n 1, 1) := by decide +kernel
theorem dX6_seal_109 : decode cX6_seal 109 = .ok (.putfield 103, 3) := by decide +kernel
theorem dX6_seal_112 : decode cX6_seal 112 = .ok (.iconst 1, 1) := by decide +kernel
theorem dX6_seal_113 : decode cX6_seal 113 = .ok (.ireturn, 1) := by decide +kernel
theorem dX6_broken_0 : decode cX6_broken 0 = .ok (.aload_n 0, 1) := by decide +kernel
theorem dX6_broken_1 : decode cX6_broken 1 = .ok (.aload_n 0, 1) := by decide +kernel
theorem dX6_broken_2 : decode cX6_broken 2 = .ok (.getfield 103, 3) := by decide +kernel
theorem dX6_broken_5 : decode cX6_broken 5 = .ok (.ifCond .ne 7, 3) := by decide +kernel
theorem dX6_broken_8 : decode cX6_broken 8 = .ok (.iconst 1, 1) := by decide +kernel
theorem dX6_broken_9 : decode cX6_broken 9 = .ok (.goto 4, 3) := by decide +kernel
theorem dX6_broken_12 : decode cX6_broken 12 = .ok (.iconst 0, 1) := by decide +kernel
theorem dX6_broken_13 : decode cX6_broken 13 = .ok (.putfield 54, 3) := by decide +kernel
theorem dX6_broken_16 : decode cX6_broken 16 = .ok (.aload_n 0, 1) := by decide +kernel
theorem dX6_broken_17 : decode cX6_broken 17 = .ok (.getfield 103, 3) := by decide +kernel
theorem dX6_broken_20 : decode cX6_broken 20 = .ok (.istore_n 1, 1) := by decide +kernel
theorem dX6_broken_21 : decode cX6_broken 21 = .ok (.aload_n 0, 1) := by decide +kernel
theorem dX6_broken_22 : decode cX6_broken 22 = .ok (.iconst 0, 1) := by decide +kernel
theorem dX6_broken_23 : decode cX6_broken 23 = .ok (.putfield 103, 3) := by decide +kernel
theorem dX6_broken_26 : decode cX6_broken 26 = .ok (.iload_n 1, 1) := by decide +kernel
theorem dX6_broken_27 : decode cX6_broken 27 = .ok (.ireturn, 1) := by decide +kernel
theorem dX6_order_0 : decode cX6_order 0 = .ok (.aload_n 0, 1) := by decide +kernel
theorem dX6_order_1 : decode cX6_order 1 = .ok (.iload_n 1, 1) := by decide +kernel
theorem dX6_order_2 : decode cX6_order 2 = .ok (.iconst 1, 1) := by decide +kernel
theorem dX6_order_3 : decode cX6_order 3 = .ok (.bipush 9, 2) := by decide +kernel
theorem dX6_order_5 : decode cX6_order 5 = .ok (.invokestatic 60, 3) := by decide +kernel
theorem dX6_order_8 : decode cX6_order 8 = .ok (.ifCond .eq 11, 3) := by decide +kernel
theorem dX6_order_11 : decode cX6_order 11 = .ok (.iload_n 2, 1) := by decide +kernel
theorem dX6_order_12 : decode cX6_order 12 = .ok (.ifCond .lt 7, 3) := by decide +kernel
theorem dX6_order_15 : decode cX6_order 15 = .ok (.iconst 0, 1) := by decide +kernel
theorem dX6_order_16 : decode cX6_order 16 = .ok (.goto 4, 3) := by decide +kernel
theorem dX6_order_19 : decode cX6_order 19 = .ok (.iconst 1, 1) := by decide +kernel
theorem dX6_order_20 : decode cX6_order 20 = .ok (.putfield 54, 3) := by decide +kernel
theorem dX6_order_23 : decode cX6_order 23 = .ok (.aload_n 0, 1) := by decide +kernel
theorem dX6_order_24 : decode cX6_order 24 = .ok (.getfield 54, 3) := by decide +kernel
theorem dX6_order_27 : decode cX6_order 27 = .ok (.ifCond .eq 5, 3) := by decide +kernel
theorem dX6_order_30 : decode cX6_order 30 = .ok (.iconst 0, 1) := by decide +kernel
theorem dX6_order_31 : decode cX6_order 31 = .ok (.ireturn, 1) := by decide +kernel
theorem dX6_order_32 : decode cX6_order 32 = .ok (.iconst 0, 1) := by decide +kernel
theorem dX6_order_33 : decode cX6_order 33 = .ok (.istore_n 3, 1) := by decide +kernel
theorem dX6_order_34 : decode cX6_order 34 = .ok (.aload_n 0, 1) := by decide +kernel
theorem dX6_order_35 : decode cX6_order 35 = .ok (.getfield 51, 3) := by decide +kernel
theorem dX6_order_38 : decode cX6_order 38 = .ok (.iconst 1, 1) := by decide +kernel
theorem dX6_order_39 : decode cX6_order 39 = .ok (.isub, 1) := by decide +kernel
theorem dX6_order_40 : decode cX6_order 40 = .ok (.istore 4, 2) := by decide +kernel
theorem dX6_order_42 : decode cX6_order 42 = .ok (.iload 4, 2) := by decide +kernel
theorem dX6_order_44 : decode cX6_order 44 = .ok (.ifCond .lt 45, 3) := by decide +kernel
theorem dX6_order_47 : decode cX6_order 47 = .ok (.aload_n 0, 1) := by decide +kernel
theorem dX6_order_48 : decode cX6_order 48 = .ok (.iload 4, 2) := by decide +kernel
theorem dX6_order_50 : decode cX6_order 50 = .ok (.invokevirtual 64, 3) := by decide +kernel
theorem dX6_order_53 : decode cX6_order 53 = .ok (.istore 5, 2) := by decide +kernel
theorem dX6_order_55 : decode cX6_order 55 = .ok (.iload 5, 2) := by decide +kernel
theorem dX6_order_57 : decode cX6_order 57 = .ok (.iconst (-1), 1) := by decide +kernel
theorem dX6_order_58 : decode cX6_order 58 = .ok (.if_icmp .eq 25, 3) := by decide +kernel
theorem dX6_order_61 : decode cX6_order 61 = .ok (.aload_n 0, 1) := by decide +kernel
theorem dX6_order_62 : decode cX6_order 62 = .ok (.getfield 36, 3) := by decide +kernel
theorem dX6_order_65 : decode cX6_order 65 = .ok (.iload 5, 2) := by decide +kernel
theorem dX6_order_67 : decode cX6_order 67 = .ok (.iaload, 1) := by decide +kernel
theorem dX6_order_68 : decode cX6_order 68 = .ok (.iload_n 1, 1) := by decide +kernel
theorem dX6_order_69 : decode cX6_order 69 = .ok (.if_icmp .ne 14, 3) := by decide +kernel
theorem dX6_order_72 : decode cX6_order 72 = .ok (.iload_n 3, 1) := by decide +kernel
theorem dX6_order_73 : decode cX6_order 73 = .ok (.iload_n 2, 1) := by decide +kernel
theorem dX6_order_74 : decode cX6_order 74 = .ok (.if_icmp .ne 6, 3) := by decide +kernel
theorem dX6_order_77 : decode cX6_order 77 = .ok (.iload 5, 2) := by decide +kernel
theorem dX6_order_79 : decode cX6_order 79 = .ok (.ireturn, 1) := by decide +kernel
theorem dX6_order_80 : decode cX6_order 80 = .ok (.iinc 3 1, 3) := by decide +kernel
theorem dX6_order_83 : decode cX6_order 83 = .ok (.iinc 4 (-1), 3) := by decide +kernel
theorem dX6_order_86 : decode cX6_order 86 = .ok (.goto (-44), 3) := by decide +kernel
theorem dX6_order_89 : decode cX6_order 89 = .ok (.iconst (-1), 1) := by decide +kernel
theorem dX6_order_90 : decode cX6_order 90 = .ok (.ireturn, 1) := by decide +kernel
theorem dX6_manifest_0 : decode cX6_manifest 0 = .ok (.aload_n 0, 1) := by decide +kernel
theorem dX6_manifest_1 : decode cX6_manifest 1 = .ok (.iload_n 1, 1) := by decide +kernel
theorem dX6_manifest_2 : decode cX6_manifest 2 = .ok (.iconst 0, 1) := by decide +kernel
theorem dX6_manifest_3 : decode cX6_manifest 3 = .ok (.sipush 10000, 3) := by decide +kernel
theorem dX6_manifest_6 : decode cX6_manifest 6 = .ok (.invokestatic 60, 3) := by decide +kernel
theorem dX6_manifest_9 : decode cX6_manifest 9 = .ok (.ifCond .eq 7, 3) := by decide +kernel
theorem dX6_manifest_12 : decode cX6_manifest 12 = .ok (.iconst 0, 1) := by decide +kernel
theorem dX6_manifest_13 : decode cX6_manifest 13 = .ok (.goto 4, 3) := by decide +kernel
theorem dX6_manifest_16 : decode cX6_manifest 16 = .ok (.iconst 1, 1) := by decide +kernel
theorem dX6_manifest_17 : decode cX6_manifest 17 = .ok (.putfield 54, 3) := by decide +kernel
theorem dX6_manifest_20 : decode cX6_manifest 20 = .ok (.aload_n 0, 1) := by decide +kernel
theorem dX6_manifest_21 : decode cX6_manifest 21 = .ok (.getfield 54, 3) := by decide +kernel
theorem dX6_manifest_24 : decode cX6_manifest 24 = .ok (.ifCond .eq 7, 3) := by decide +kernel
theorem dX6_manifest_27 : decode cX6_manifest 27 = .ok (.iconst 0, 1) := by decide +kernel
theorem dX6_manifest_28 : decode cX6_manifest 28 = .ok (.goto 9, 3) := by decide +kernel
theorem dX6_manifest_31 : decode cX6_manifest 31 = .ok (.iload_n 1, 1) := by decide +kernel
theorem dX6_manifest_32 : decode cX6_manifest 32 = .ok (.aload_n 0, 1) := by decide +kernel
theorem dX6_manifest_33 : decode cX6_manifest 33 = .ok (.invokevirtual 100, 3) := by decide +kernel
theorem dX6_manifest_36 : decode cX6_manifest 36 = .ok (.isub, 1) := by decide +kernel
theorem dX6_manifest_37 : decode cX6_manifest 37 = .ok (.ireturn, 1) := by decide +kernel
theorem dX6_count_0 : decode cX6_count 0 = .ok (.aload_n 0, 1) := by decide +kernel
theorem dX6_count_1 : decode cX6_count 1 = .ok (.iconst 0, 1) := by decide +kernel
theorem dX6_count_2 : decode cX6_count 2 = .ok (.putfield 54, 3) := by decide +kernel
theorem dX6_count_5 : decode cX6_count 5 = .ok (.iload_n 1, 1) := by decide +kernel
theorem dX6_count_6 : decode cX6_count 6 = .ok (.tableswitch 76 0 5 #[38, 43, 48, 53, 66, 71], 38) := by decide +kernel
theorem dX6_count_44 : decode cX6_count 44 = .ok (.aload_n 0, 1) := by decide +kernel
theorem dX6_count_45 : decode cX6_count 45 = .ok (.getfield 51, 3) := by decide +kernel
theorem dX6_count_48 : decode cX6_count 48 = .ok (.ireturn, 1) := by decide +kernel
theorem dX6_count_49 : decode cX6_count 49 = .ok (.aload_n 0, 1) := by decide +kernel
theorem dX6_count_50 : decode cX6_count 50 = .ok (.getfield 57, 3) := by decide +kernel
theorem dX6_count_53 : decode cX6_count 53 = .ok (.ireturn, 1) := by decide +kernel
theorem dX6_count_54 : decode cX6_count 54 = .ok (.aload_n 0, 1) := by decide +kernel
theorem dX6_count_55 : decode cX6_count 55 = .ok (.invokevirtual 96, 3) := by decide +kernel
theorem dX6_count_58 : decode cX6_count 58 = .ok (.ireturn, 1) := by decide +kernel
theorem dX6_count_59 : decode cX6_count 59 = .ok (.aload_n 0, 1) := by decide +kernel
theorem dX6_count_60 : decode cX6_count 60 = .ok (.getfield 71, 3) := by decide +kernel
theorem dX6_count_63 : decode cX6_count 63 = .ok (.ifCond .eq 7, 3) := by decide +kernel
theorem dX6_count_66 : decode cX6_count 66 = .ok (.iconst 1, 1) := by decide +kernel
theorem dX6_count_67 : decode cX6_count 67 = .ok (.goto 4, 3) := by decide +kernel
theorem dX6_count_70 : decode cX6_count 70 = .ok (.iconst 0, 1) := by decide +kernel
theorem dX6_count_71 : decode cX6_count 71 = .ok (.ireturn, 1) := by decide +kernel
theorem dX6_count_72 : decode cX6_count 72 = .ok (.aload_n 0, 1) := by decide +kernel
theorem dX6_count_73 : decode cX6_count 73 = .ok (.getfield 103, 3) := by decide +kernel
theorem dX6_count_76 : decode cX6_count 76 = .ok (.ireturn, 1) := by decide +kernel
theorem dX6_count_77 : decode cX6_count 77 = .ok (.aload_n 0, 1) := by decide +kernel
theorem dX6_count_78 : decode cX6_count 78 = .ok (.getfield 129, 3) := by decide +kernel
theorem dX6_count_81 : decode cX6_count 81 = .ok (.ireturn, 1) := by decide +kernel
theorem dX6_count_82 : decode cX6_count 82 = .ok (.iconst (-1), 1) := by decide +kernel
theorem dX6_count_83 : decode cX6_count 83 = .ok (.ireturn, 1) := by decide +kernel
