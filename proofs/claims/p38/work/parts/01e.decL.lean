theorem dL_cell_0 : decode cL_cell 0 = .ok (.iload_n 1, 1) := by decide +kernel
theorem dL_cell_1 : decode cL_cell 1 = .ok (.aload_n 0, 1) := by decide +kernel
theorem dL_cell_2 : decode cL_cell 2 = .ok (.arraylength, 1) := by decide +kernel
theorem dL_cell_3 : decode cL_cell 3 = .ok (.if_icmp .ge 9, 3) := by decide +kernel
theorem dL_cell_6 : decode cL_cell 6 = .ok (.aload_n 0, 1) := by decide +kernel
theorem dL_cell_7 : decode cL_cell 7 = .ok (.iload_n 1, 1) := by decide +kernel
theorem dL_cell_8 : decode cL_cell 8 = .ok (.iaload, 1) := by decide +kernel
theorem dL_cell_9 : decode cL_cell 9 = .ok (.goto 11, 3) := by decide +kernel
theorem dL_cell_12 : decode cL_cell 12 = .ok (.sipush 7919, 3) := by decide +kernel
theorem dL_cell_15 : decode cL_cell 15 = .ok (.iload_n 1, 1) := by decide +kernel
theorem dL_cell_16 : decode cL_cell 16 = .ok (.imul, 1) := by decide +kernel
theorem dL_cell_17 : decode cL_cell 17 = .ok (.bipush 12, 2) := by decide +kernel
theorem dL_cell_19 : decode cL_cell 19 = .ok (.iadd, 1) := by decide +kernel
theorem dL_cell_20 : decode cL_cell 20 = .ok (.ireturn, 1) := by decide +kernel
theorem dL_some_0 : decode cL_some 0 = .ok (.aload_n 0, 1) := by decide +kernel
theorem dL_some_1 : decode cL_some 1 = .ok (.iload_n 1, 1) := by decide +kernel
theorem dL_some_2 : decode cL_some 2 = .ok (.invokestatic 7, 3) := by decide +kernel
theorem dL_some_5 : decode cL_some 5 = .ok (.iconst 3, 1) := by decide +kernel
theorem dL_some_6 : decode cL_some 6 = .ok (.iushr, 1) := by decide +kernel
theorem dL_some_7 : decode cL_some 7 = .ok (.iload_n 2, 1) := by decide +kernel
theorem dL_some_8 : decode cL_some 8 = .ok (.irem, 1) := by decide +kernel
theorem dL_some_9 : decode cL_some 9 = .ok (.ireturn, 1) := by decide +kernel
theorem dL_build_0 : decode cL_build 0 = .ok (.iconst 3, 1) := by decide +kernel
theorem dL_build_1 : decode cL_build 1 = .ok (.aload_n 1, 1) := by decide +kernel
theorem dL_build_2 : decode cL_build 2 = .ok (.iconst 0, 1) := by decide +kernel
theorem dL_build_3 : decode cL_build 3 = .ok (.iconst 4, 1) := by decide +kernel
theorem dL_build_4 : decode cL_build 4 = .ok (.invokestatic 13, 3) := by decide +kernel
theorem dL_build_7 : decode cL_build 7 = .ok (.iadd, 1) := by decide +kernel
theorem dL_build_8 : decode cL_build 8 = .ok (.istore_n 3, 1) := by decide +kernel
theorem dL_build_9 : decode cL_build 9 = .ok (.iconst 0, 1) := by decide +kernel
theorem dL_build_10 : decode cL_build 10 = .ok (.istore 4, 2) := by decide +kernel
theorem dL_build_12 : decode cL_build 12 = .ok (.iload 4, 2) := by decide +kernel
theorem dL_build_14 : decode cL_build 14 = .ok (.bipush 9, 2) := by decide +kernel
theorem dL_build_16 : decode cL_build 16 = .ok (.if_icmp .ge 41, 3) := by decide +kernel
theorem dL_build_19 : decode cL_build 19 = .ok (.aload_n 0, 1) := by decide +kernel
theorem dL_build_20 : decode cL_build 20 = .ok (.aload_n 1, 1) := by decide +kernel
theorem dL_build_21 : decode cL_build 21 = .ok (.iconst 1, 1) := by decide +kernel
theorem dL_build_22 : decode cL_build 22 = .ok (.iload 4, 2) := by decide +kernel
theorem dL_build_24 : decode cL_build 24 = .ok (.iadd, 1) := by decide +kernel
theorem dL_build_25 : decode cL_build 25 = .ok (.iconst 4, 1) := by decide +kernel
theorem dL_build_26 : decode cL_build 26 = .ok (.invokestatic 13, 3) := by decide +kernel
theorem dL_build_29 : decode cL_build 29 = .ok (.iconst 1, 1) := by decide +kernel
theorem dL_build_30 : decode cL_build 30 = .ok (.aload_n 1, 1) := by decide +kernel
theorem dL_build_31 : decode cL_build 31 = .ok (.bipush 11, 2) := by decide +kernel
theorem dL_build_33 : decode cL_build 33 = .ok (.bipush 12, 2) := by decide +kernel
theorem dL_build_35 : decode cL_build 35 = .ok (.invokestatic 13, 3) := by decide +kernel
theorem dL_build_38 : decode cL_build 38 = .ok (.iconst 5, 1) := by decide +kernel
theorem dL_build_39 : decode cL_build 39 = .ok (.iload 4, 2) := by decide +kernel
theorem dL_build_41 : decode cL_build 41 = .ok (.imul, 1) := by decide +kernel
theorem dL_build_42 : decode cL_build 42 = .ok (.iadd, 1) := by decide +kernel
theorem dL_build_43 : decode cL_build 43 = .ok (.bipush 12, 2) := by decide +kernel
theorem dL_build_45 : decode cL_build 45 = .ok (.irem, 1) := by decide +kernel
theorem dL_build_46 : decode cL_build 46 = .ok (.iadd, 1) := by decide +kernel
theorem dL_build_47 : decode cL_build 47 = .ok (.invokevirtual 17, 3) := by decide +kernel
theorem dL_build_50 : decode cL_build 50 = .ok (.istore_n 2, 1) := by decide +kernel
theorem dL_build_51 : decode cL_build 51 = .ok (.iinc 4 1, 3) := by decide +kernel
theorem dL_build_54 : decode cL_build 54 = .ok (.goto (-42), 3) := by decide +kernel
theorem dL_build_57 : decode cL_build 57 = .ok (.iconst 0, 1) := by decide +kernel
theorem dL_build_58 : decode cL_build 58 = .ok (.istore 4, 2) := by decide +kernel
theorem dL_build_60 : decode cL_build 60 = .ok (.iload 4, 2) := by decide +kernel
theorem dL_build_62 : decode cL_build 62 = .ok (.iload_n 3, 1) := by decide +kernel
theorem dL_build_63 : decode cL_build 63 = .ok (.if_icmp .ge 36, 3) := by decide +kernel
theorem dL_build_66 : decode cL_build 66 = .ok (.aload_n 0, 1) := by decide +kernel
theorem dL_build_67 : decode cL_build 67 = .ok (.aload_n 1, 1) := by decide +kernel
theorem dL_build_68 : decode cL_build 68 = .ok (.bipush 13, 2) := by decide +kernel
theorem dL_build_70 : decode cL_build 70 = .ok (.iload 4, 2) := by decide +kernel
theorem dL_build_72 : decode cL_build 72 = .ok (.iadd, 1) := by decide +kernel
theorem dL_build_73 : decode cL_build 73 = .ok (.bipush 12, 2) := by decide +kernel
theorem dL_build_75 : decode cL_build 75 = .ok (.invokestatic 13, 3) := by decide +kernel
theorem dL_build_78 : decode cL_build 78 = .ok (.aload_n 1, 1) := by decide +kernel
theorem dL_build_79 : decode cL_build 79 = .ok (.bipush 20, 2) := by decide +kernel
theorem dL_build_81 : decode cL_build 81 = .ok (.iload 4, 2) := by decide +kernel
theorem dL_build_83 : decode cL_build 83 = .ok (.iadd, 1) := by decide +kernel
theorem dL_build_84 : decode cL_build 84 = .ok (.bipush 21, 2) := by decide +kernel
theorem dL_build_86 : decode cL_build 86 = .ok (.invokestatic 13, 3) := by decide +kernel
theorem dL_build_89 : decode cL_build 89 = .ok (.invokestatic 23, 3) := by decide +kernel
theorem dL_build_92 : decode cL_build 92 = .ok (.istore_n 2, 1) := by decide +kernel
theorem dL_build_93 : decode cL_build 93 = .ok (.iinc 4 1, 3) := by decide +kernel
theorem dL_build_96 : decode cL_build 96 = .ok (.goto (-36), 3) := by decide +kernel
theorem dL_build_99 : decode cL_build 99 = .ok (.iconst 0, 1) := by decide +kernel
theorem dL_build_100 : decode cL_build 100 = .ok (.istore 4, 2) := by decide +kernel
theorem dL_build_102 : decode cL_build 102 = .ok (.iload 4, 2) := by decide +kernel
theorem dL_build_104 : decode cL_build 104 = .ok (.bipush 6, 2) := by decide +kernel
theorem dL_build_106 : decode cL_build 106 = .ok (.if_icmp .ge 27, 3) := by decide +kernel
theorem dL_build_109 : decode cL_build 109 = .ok (.aload_n 0, 1) := by decide +kernel
theorem dL_build_110 : decode cL_build 110 = .ok (.iload 4, 2) := by decide +kernel
theorem dL_build_112 : decode cL_build 112 = .ok (.aload_n 1, 1) := by decide +kernel
theorem dL_build_113 : decode cL_build 113 = .ok (.bipush 28, 2) := by decide +kernel
theorem dL_build_115 : decode cL_build 115 = .ok (.iload 4, 2) := by decide +kernel
theorem dL_build_117 : decode cL_build 117 = .ok (.iadd, 1) := by decide +kernel
theorem dL_build_118 : decode cL_build 118 = .ok (.bipush 6, 2) := by decide +kernel
theorem dL_build_120 : decode cL_build 120 = .ok (.invokestatic 13, 3) := by decide +kernel
theorem dL_build_123 : decode cL_build 123 = .ok (.invokevirtual 27, 3) := by decide +kernel
theorem dL_build_126 : decode cL_build 126 = .ok (.istore_n 2, 1) := by decide +kernel
theorem dL_build_127 : decode cL_build 127 = .ok (.iinc 4 1, 3) := by decide +kernel
theorem dL_build_130 : decode cL_build 130 = .ok (.goto (-28), 3) := by decide +kernel
theorem dL_build_133 : decode cL_build 133 = .ok (.iconst 0, 1) := by decide +kernel
theorem dL_build_134 : decode cL_build 134 = .ok (.istore 4, 2) := by decide +kernel
theorem dL_build_136 : decode cL_build 136 = .ok (.iload 4, 2) := by decide +kernel
theorem dL_build_138 : decode cL_build 138 = .ok (.iload_n 3, 1) := by decide +kernel
theorem dL_build_139 : decode cL_build 139 = .ok (.if_icmp .ge 27, 3) := by decide +kernel
theorem dL_build_142 : decode cL_build 142 = .ok (.aload_n 0, 1) := by decide +kernel
theorem dL_build_143 : decode cL_build 143 = .ok (.iload 4, 2) := by decide +kernel
theorem dL_build_145 : decode cL_build 145 = .ok (.aload_n 1, 1) := by decide +kernel
theorem dL_build_146 : decode cL_build 146 = .ok (.bipush 35, 2) := by decide +kernel
theorem dL_build_148 : decode cL_build 148 = .ok (.iload 4, 2) := by decide +kernel
theorem dL_build_150 : decode cL_build 150 = .ok (.iadd, 1) := by decide +kernel
theorem dL_build_151 : decode cL_build 151 = .ok (.bipush 6, 2) := by decide +kernel
theorem dL_build_153 : decode cL_build 153 = .ok (.invokestatic 13, 3) := by decide +kernel
theorem dL_build_156 : decode cL_build 156 = .ok (.invokevirtual 30, 3) := by decide +kernel
theorem dL_build_159 : decode cL_build 159 = .ok (.istore_n 2, 1) := by decide +kernel
theorem dL_build_160 : decode cL_build 160 = .ok (.iinc 4 1, 3) := by decide +kernel
theorem dL_build_163 : decode cL_build 163 = .ok (.goto (-27), 3) := by decide +kernel
theorem dL_build_166 : decode cL_build 166 = .ok (.iconst 0, 1) := by decide +kernel
theorem dL_build_167 : decode cL_build 167 = .ok (.istore 4, 2) := by decide +kernel
theorem dL_build_169 : decode cL_build 169 = .ok (.iload 4, 2) := by decide +kernel
theorem dL_build_171 : decode cL_build 171 = .ok (.bipush 10, 2) := by decide +kernel
theorem dL_build_173 : decode cL_build 173 = .ok (.if_icmp .ge 21, 3) := by decide +kernel
theorem dL_build_176 : decode cL_build 176 = .ok (.aload_n 0, 1) := by decide +kernel
theorem dL_build_177 : decode cL_build 177 = .ok (.aload_n 1, 1) := by decide +kernel
theorem dL_build_178 : decode cL_build 178 = .ok (.bipush 43, 2) := by decide +kernel
theorem dL_build_180 : decode cL_build 180 = .ok (.iconst 4, 1) := by decide +kernel
theorem dL_build_181 : decode cL_build 181 = .ok (.iload 4, 2) := by decide +kernel
theorem dL_build_183 : decode cL_build 183 = .ok (.imul, 1) := by decide +kernel
theorem dL_build_184 : decode cL_build 184 = .ok (.iadd, 1) := by decide +kernel
theorem dL_build_185 : decode cL_build 185 = .ok (.invokestatic 33, 3) := by decide +kernel
theorem dL_build_188 : decode cL_build 188 = .ok (.iinc 4 1, 3) := by decide +kernel
theorem dL_build_191 : decode cL_build 191 = .ok (.goto (-22), 3) := by decide +kernel
theorem dL_build_194 : decode cL_build 194 = .ok (.return_, 1) := by decide +kernel
theorem dL_brings_0 : decode cL_brings 0 = .ok (.iconst 0, 1) := by decide +kernel
theorem dL_brings_1 : decode cL_brings 1 = .ok (.istore_n 3, 1) := by decide +kernel
theorem dL_brings_2 : decode cL_brings 2 = .ok (.iload_n 3, 1) := by decide +kernel
theorem dL_brings_3 : decode cL_brings 3 = .ok (.bipush 12, 2) := by decide +kernel
theorem dL_brings_5 : decode cL_brings 5 = .ok (.if_icmp .ge 42, 3) := by decide +kernel
theorem dL_brings_8 : decode cL_brings 8 = .ok (.iconst 1, 1) := by decide +kernel
theorem dL_brings_9 : decode cL_brings 9 = .ok (.iload_n 1, 1) := by decide +kernel
theorem dL_brings_10 : decode cL_brings 10 = .ok (.iload_n 3, 1) := by decide +kernel
theorem dL_brings_11 : decode cL_brings 11 = .ok (.iadd, 1) := by decide +kernel
theorem dL_brings_12 : decode cL_brings 12 = .ok (.bipush 12, 2) := by decide +kernel
theorem dL_brings_14 : decode cL_brings 14 = .ok (.irem, 1) := by decide +kernel
theorem dL_brings_15 : decode cL_brings 15 = .ok (.iadd, 1) := by decide +kernel
theorem dL_brings_16 : decode cL_brings 16 = .ok (.istore 4, 2) := by decide +kernel
theorem dL_brings_18 : decode cL_brings 18 = .ok (.aload_n 0, 1) := by decide +kernel
theorem dL_brings_19 : decode cL_brings 19 = .ok (.iload 4, 2) := by decide +kernel
theorem dL_brings_21 : decode cL_brings 21 = .ok (.invokevirtual 37, 3) := by decide +kernel
theorem dL_brings_24 : decode cL_brings 24 = .ok (.ifCond .lt 17, 3) := by decide +kernel
theorem dL_brings_27 : decode cL_brings 27 = .ok (.aload_n 0, 1) := by decide +kernel
theorem dL_brings_28 : decode cL_brings 28 = .ok (.aload_n 0, 1) := by decide +kernel
theorem dL_brings_29 : decode cL_brings 29 = .ok (.iload 4, 2) := by decide +kernel
theorem dL_brings_31 : decode cL_brings 31 = .ok (.invokevirtual 37, 3) := by decide +kernel
theorem dL_brings_34 : decode cL_brings 34 = .ok (.iload 4, 2) := by decide +kernel
theorem dL_brings_36 : decode cL_brings 36 = .ok (.iload_n 2, 1) := by decide +kernel
theorem dL_brings_37 : decode cL_brings 37 = .ok (.invokevirtual 41, 3) := by decide +kernel
theorem dL_brings_40 : decode cL_brings 40 = .ok (.ireturn, 1) := by decide +kernel
theorem dL_brings_41 : decode cL_brings 41 = .ok (.iinc 3 1, 3) := by decide +kernel
theorem dL_brings_44 : decode cL_brings 44 = .ok (.goto (-42), 3) := by decide +kernel
theorem dL_brings_47 : decode cL_brings 47 = .ok (.sipush (-1011), 3) := by decide +kernel
theorem dL_brings_50 : decode cL_brings 50 = .ok (.ireturn, 1) := by decide +kernel
theorem dL_acts_0 : decode cL_acts 0 = .ok (.aload_n 0, 1) := by decide +kernel
theorem dL_acts_1 : decode cL_acts 1 = .ok (.iconst 0, 1) := by decide +kernel
theorem dL_acts_2 : decode cL_acts 2 = .ok (.invokevirtual 45, 3) := by decide +kernel
theorem dL_acts_5 : decode cL_acts 5 = .ok (.istore_n 3, 1) := by decide +kernel
theorem dL_acts_6 : decode cL_acts 6 = .ok (.aload_n 1, 1) := by decide +kernel
theorem dL_acts_7 : decode cL_acts 7 = .ok (.iload_n 2, 1) := by decide +kernel
theorem dL_acts_8 : decode cL_acts 8 = .ok (.iconst 1, 1) := by decide +kernel
theorem dL_acts_9 : decode cL_acts 9 = .ok (.iadd, 1) := by decide +kernel
theorem dL_acts_10 : decode cL_acts 10 = .ok (.iload_n 3, 1) := by decide +kernel
theorem dL_acts_11 : decode cL_acts 11 = .ok (.invokestatic 13, 3) := by decide +kernel
theorem dL_acts_14 : decode cL_acts 14 = .ok (.istore 4, 2) := by decide +kernel
theorem dL_acts_16 : decode cL_acts 16 = .ok (.aload_n 1, 1) := by decide +kernel
theorem dL_acts_17 : decode cL_acts 17 = .ok (.iload_n 2, 1) := by decide +kernel
theorem dL_acts_18 : decode cL_acts 18 = .ok (.iconst 2, 1) := by decide +kernel
theorem dL_acts_19 : decode cL_acts 19 = .ok (.iadd, 1) := by decide +kernel
theorem dL_acts_20 : decode cL_acts 20 = .ok (.bipush 6, 2) := by decide +kernel
theorem dL_acts_22 : decode cL_acts 22 = .ok (.invokestatic 13, 3) := by decide +kernel
theorem dL_acts_25 : decode cL_acts 25 = .ok (.istore 5, 2) := by decide +kernel
theorem dL_acts_27 : decode cL_acts 27 = .ok (.aload_n 1, 1) := by decide +kernel
theorem dL_acts_28 : decode cL_acts 28 = .ok (.iload_n 2, 1) := by decide +kernel
theorem dL_acts_29 : decode cL_acts 29 = .ok (.iconst 3, 1) := by decide +kernel
theorem dL_acts_30 : decode cL_acts 30 = .ok (.iadd, 1) := by decide +kernel
theorem dL_acts_31 : decode cL_acts 31 = .ok (.bipush 40, 2) := by decide +kernel
theorem dL_acts_33 : decode cL_acts 33 = .ok (.invokestatic 13, 3) := by decide +kernel
theorem dL_acts_36 : decode cL_acts 36 = .ok (.istore 6, 2) := by decide +kernel
theorem dL_acts_38 : decode cL_acts 38 = .ok (.aload_n 1, 1) := by decide +kernel
theorem dL_acts_39 : decode cL_acts 39 = .ok (.iload_n 2, 1) := by decide +kernel
theorem dL_acts_40 : decode cL_acts 40 = .ok (.bipush 14, 2) := by decide +kernel
theorem dL_acts_42 : decode cL_acts 42 = .ok (.invokestatic 13, 3) := by decide +kernel
theorem dL_acts_45 : decode cL_acts 45 = .ok (.tableswitch 199 0 10 #[59, 88, 111, 111, 111, 124, 135, 151, 169, 184, 184], 59) := by decide +kernel
theorem dL_acts_104 : decode cL_acts 104 = .ok (.iload_n 3, 1) := by decide +kernel
theorem dL_acts_105 : decode cL_acts 105 = .ok (.bipush 8, 2) := by decide +kernel
theorem dL_acts_107 : decode cL_acts 107 = .ok (.if_icmp .ge 20, 3) := by decide +kernel
theorem dL_acts_110 : decode cL_acts 110 = .ok (.aload_n 0, 1) := by decide +kernel
theorem dL_acts_111 : decode cL_acts 111 = .ok (.iload 6, 2) := by decide +kernel
theorem dL_acts_113 : decode cL_acts 113 = .ok (.bipush 12, 2) := by decide +kernel
theorem dL_acts_115 : decode cL_acts 115 = .ok (.irem, 1) := by decide +kernel
theorem dL_acts_116 : decode cL_acts 116 = .ok (.iload 6, 2) := by decide +kernel
theorem dL_acts_118 : decode cL_acts 118 = .ok (.bipush 21, 2) := by decide +kernel
theorem dL_acts_120 : decode cL_acts 120 = .ok (.irem, 1) := by decide +kernel
theorem dL_acts_121 : decode cL_acts 121 = .ok (.invokestatic 23, 3) := by decide +kernel
theorem dL_acts_124 : decode cL_acts 124 = .ok (.goto 4, 3) := by decide +kernel
theorem dL_acts_127 : decode cL_acts 127 = .ok (.iconst 0, 1) := by decide +kernel
theorem dL_acts_128 : decode cL_acts 128 = .ok (.istore 7, 2) := by decide +kernel
theorem dL_acts_130 : decode cL_acts 130 = .ok (.goto 127, 3) := by decide +kernel
theorem dL_acts_133 : decode cL_acts 133 = .ok (.aload_n 0, 1) := by decide +kernel
theorem dL_acts_134 : decode cL_acts 134 = .ok (.iload 6, 2) := by decide +kernel
theorem dL_acts_136 : decode cL_acts 136 = .ok (.iconst 4, 1) := by decide +kernel
theorem dL_acts_137 : decode cL_acts 137 = .ok (.irem, 1) := by decide +kernel
theorem dL_acts_138 : decode cL_acts 138 = .ok (.iconst 1, 1) := by decide +kernel
theorem dL_acts_139 : decode cL_acts 139 = .ok (.iload 4, 2) := by decide +kernel
theorem dL_acts_141 : decode cL_acts 141 = .ok (.iload 5, 2) := by decide +kernel
theorem dL_acts_143 : decode cL_acts 143 = .ok (.iadd, 1) := by decide +kernel
theorem dL_acts_144 : decode cL_acts 144 = .ok (.bipush 12, 2) := by decide +kernel
theorem dL_acts_146 : decode cL_acts 146 = .ok (.irem, 1) := by decide +kernel
theorem dL_acts_147 : decode cL_acts 147 = .ok (.iadd, 1) := by decide +kernel
theorem dL_acts_148 : decode cL_acts 148 = .ok (.invokevirtual 17, 3) := by decide +kernel
theorem dL_acts_151 : decode cL_acts 151 = .ok (.istore 7, 2) := by decide +kernel
theorem dL_acts_153 : decode cL_acts 153 = .ok (.goto 104, 3) := by decide +kernel
theorem dL_acts_156 : decode cL_acts 156 = .ok (.aload_n 0, 1) := by decide +kernel
theorem dL_acts_157 : decode cL_acts 157 = .ok (.iload 4, 2) := by decide +kernel
theorem dL_acts_159 : decode cL_acts 159 = .ok (.iload 5, 2) := by decide +kernel
theorem dL_acts_161 : decode cL_acts 161 = .ok (.invokevirtual 30, 3) := by decide +kernel
theorem dL_acts_164 : decode cL_acts 164 = .ok (.istore 7, 2) := by decide +kernel
theorem dL_acts_166 : decode cL_acts 166 = .ok (.goto 91, 3) := by decide +kernel
theorem dL_acts_169 : decode cL_acts 169 = .ok (.aload_n 0, 1) := by decide +kernel
theorem dL_acts_170 : decode cL_acts 170 = .ok (.iload 4, 2) := by decide +kernel
theorem dL_acts_172 : decode cL_acts 172 = .ok (.invokevirtual 48, 3) := by decide +kernel
theorem dL_acts_175 : decode cL_acts 175 = .ok (.istore 7, 2) := by decide +kernel
theorem dL_acts_177 : decode cL_acts 177 = .ok (.goto 80, 3) := by decide +kernel
theorem dL_acts_180 : decode cL_acts 180 = .ok (.aload_n 0, 1) := by decide +kernel
theorem dL_acts_181 : decode cL_acts 181 = .ok (.iload 5, 2) := by decide +kernel
theorem dL_acts_183 : decode cL_acts 183 = .ok (.iload 6, 2) := by decide +kernel
theorem dL_acts_185 : decode cL_acts 185 = .ok (.bipush 6, 2) := by decide +kernel
theorem dL_acts_187 : decode cL_acts 187 = .ok (.irem, 1) := by decide +kernel
theorem dL_acts_188 : decode cL_acts 188 = .ok (.invokevirtual 27, 3) := by decide +kernel
theorem dL_acts_191 : decode cL_acts 191 = .ok (.istore 7, 2) := by decide +kernel
theorem dL_acts_193 : decode cL_acts 193 = .ok (.goto 64, 3) := by decide +kernel
theorem dL_acts_196 : decode cL_acts 196 = .ok (.aload_n 0, 1) := by decide +kernel
theorem dL_acts_197 : decode cL_acts 197 = .ok (.iload 4, 2) := by decide +kernel
theorem dL_acts_199 : decode cL_acts 199 = .ok (.iconst 1, 1) := by decide +kernel
theorem dL_acts_200 : decode cL_acts 200 = .ok (.iload 6, 2) := by decide +kernel
theorem dL_acts_202 : decode cL_acts 202 = .ok (.bipush 20, 2) := by decide +kernel
theorem dL_acts_204 : decode cL_acts 204 = .ok (.irem, 1) := by decide +kernel
theorem dL_acts_205 : decode cL_acts 205 = .ok (.iadd, 1) := by decide +kernel
theorem dL_acts_206 : decode cL_acts 206 = .ok (.invokevirtual 51, 3) := by decide +kernel
theorem dL_acts_209 : decode cL_acts 209 = .ok (.istore 7, 2) := by decide +kernel
theorem dL_acts_211 : decode cL_acts 211 = .ok (.goto 46, 3) := by decide +kernel
theorem dL_acts_214 : decode cL_acts 214 = .ok (.aload_n 0, 1) := by decide +kernel
theorem dL_acts_215 : decode cL_acts 215 = .ok (.iload 4, 2) := by decide +kernel
theorem dL_acts_217 : decode cL_acts 217 = .ok (.iload 6, 2) := by decide +kernel
theorem dL_acts_219 : decode cL_acts 219 = .ok (.iconst 2, 1) := by decide +kernel
theorem dL_acts_220 : decode cL_acts 220 = .ok (.irem, 1) := by decide +kernel
theorem dL_acts_221 : decode cL_acts 221 = .ok (.invokevirtual 54, 3) := by decide +kernel
theorem dL_acts_224 : decode cL_acts 224 = .ok (.istore 7, 2) := by decide +kernel
theorem dL_acts_226 : decode cL_acts 226 = .ok (.goto 31, 3) := by decide +kernel
theorem dL_acts_229 : decode cL_acts 229 = .ok (.aload_n 0, 1) := by decide +kernel
theorem dL_acts_230 : decode cL_acts 230 = .ok (.iload 6, 2) := by decide +kernel
theorem dL_acts_232 : decode cL_acts 232 = .ok (.iconst 4, 1) := by decide +kernel
theorem dL_acts_233 : decode cL_acts 233 = .ok (.irem, 1) := by decide +kernel
theorem dL_acts_234 : decode cL_acts 234 = .ok (.iload 4, 2) := by decide +kernel
theorem dL_acts_236 : decode cL_acts 236 = .ok (.invokevirtual 57, 3) := by decide +kernel
theorem dL_acts_239 : decode cL_acts 239 = .ok (.istore 7, 2) := by decide +kernel
theorem dL_acts_241 : decode cL_acts 241 = .ok (.goto 16, 3) := by decide +kernel
theorem dL_acts_244 : decode cL_acts 244 = .ok (.aload_n 0, 1) := by decide +kernel
theorem dL_acts_245 : decode cL_acts 245 = .ok (.iconst 1, 1) := by decide +kernel
theorem dL_acts_246 : decode cL_acts 246 = .ok (.iload 6, 2) := by decide +kernel
theorem dL_acts_248 : decode cL_acts 248 = .ok (.bipush 6, 2) := by decide +kernel
theorem dL_acts_250 : decode cL_acts 250 = .ok (.irem, 1) := by decide +kernel
theorem dL_acts_251 : decode cL_acts 251 = .ok (.iadd, 1) := by decide +kernel
theorem dL_acts_252 : decode cL_acts 252 = .ok (.invokevirtual 60, 3) := by decide +kernel
theorem dL_acts_255 : decode cL_acts 255 = .ok (.istore 7, 2) := by decide +kernel
theorem dL_acts_257 : decode cL_acts 257 = .ok (.return_, 1) := by decide +kernel
theorem dL_heatUnder_0 : decode cL_heatUnder 0 = .ok (.aload_n 0, 1) := by decide +kernel
theorem dL_heatUnder_1 : decode cL_heatUnder 1 = .ok (.iload_n 1, 1) := by decide +kernel
theorem dL_heatUnder_2 : decode cL_heatUnder 2 = .ok (.iconst 5, 1) := by decide +kernel
theorem dL_heatUnder_3 : decode cL_heatUnder 3 = .ok (.invokevirtual 63, 3) := by decide +kernel
theorem dL_heatUnder_6 : decode cL_heatUnder 6 = .ok (.istore_n 2, 1) := by decide +kernel
theorem dL_heatUnder_7 : decode cL_heatUnder 7 = .ok (.iload_n 2, 1) := by decide +kernel
theorem dL_heatUnder_8 : decode cL_heatUnder 8 = .ok (.ifCond .ge 7, 3) := by decide +kernel
theorem dL_heatUnder_11 : decode cL_heatUnder 11 = .ok (.iconst 0, 1) := by decide +kernel
theorem dL_heatUnder_12 : decode cL_heatUnder 12 = .ok (.goto 9, 3) := by decide +kernel
theorem dL_heatUnder_15 : decode cL_heatUnder 15 = .ok (.aload_n 0, 1) := by decide +kernel
theorem dL_heatUnder_16 : decode cL_heatUnder 16 = .ok (.iload_n 2, 1) := by decide +kernel
theorem dL_heatUnder_17 : decode cL_heatUnder 17 = .ok (.iconst 1, 1) := by decide +kernel
theorem dL_heatUnder_18 : decode cL_heatUnder 18 = .ok (.invokevirtual 66, 3) := by decide +kernel
theorem dL_heatUnder_21 : decode cL_heatUnder 21 = .ok (.ireturn, 1) := by decide +kernel
theorem dL_sound_0 : decode cL_sound 0 = .ok (.iload_n 0, 1) := by decide +kernel
theorem dL_sound_1 : decode cL_sound 1 = .ok (.iload_n 1, 1) := by decide +kernel
theorem dL_sound_2 : decode cL_sound 2 = .ok (.isub, 1) := by decide +kernel
theorem dL_sound_3 : decode cL_sound 3 = .ok (.invokestatic 70, 3) := by decide +kernel
theorem dL_sound_6 : decode cL_sound 6 = .ok (.istore_n 2, 1) := by decide +kernel
theorem dL_sound_7 : decode cL_sound 7 = .ok (.iload_n 2, 1) := by decide +kernel
theorem dL_sound_8 : decode cL_sound 8 = .ok (.iconst 2, 1) := by decide +kernel
theorem dL_sound_9 : decode cL_sound 9 = .ok (.if_icmp .le 9, 3) := by decide +kernel
theorem dL_sound_12 : decode cL_sound 12 = .ok (.iload_n 2, 1) := by decide +kernel
theorem dL_sound_13 : decode cL_sound 13 = .ok (.bipush 6, 2) := by decide +kernel
theorem dL_sound_15 : decode cL_sound 15 = .ok (.if_icmp .lt 15, 3) := by decide +kernel
theorem dL_sound_18 : decode cL_sound 18 = .ok (.iload_n 2, 1) := by decide +kernel
theorem dL_sound_19 : decode cL_sound 19 = .ok (.bipush 6, 2) := by decide +kernel
theorem dL_sound_21 : decode cL_sound 21 = .ok (.if_icmp .le 13, 3) := by decide +kernel
theorem dL_sound_24 : decode cL_sound 24 = .ok (.iload_n 2, 1) := by decide +kernel
theorem dL_sound_25 : decode cL_sound 25 = .ok (.bipush 10, 2) := by decide +kernel
theorem dL_sound_27 : decode cL_sound 27 = .ok (.if_icmp .ge 7, 3) := by decide +kernel
theorem dL_sound_30 : decode cL_sound 30 = .ok (.iconst 1, 1) := by decide +kernel
theorem dL_sound_31 : decode cL_sound 31 = .ok (.goto 4, 3) := by decide +kernel
theorem dL_sound_34 : decode cL_sound 34 = .ok (.iconst (-1), 1) := by decide +kernel
theorem dL_sound_35 : decode cL_sound 35 = .ok (.ireturn, 1) := by decide +kernel
theorem dL_has_0 : decode cL_has 0 = .ok (.iconst 0, 1) := by decide +kernel
theorem dL_has_1 : decode cL_has 1 = .ok (.istore_n 3, 1) := by decide +kernel
theorem dL_has_2 : decode cL_has 2 = .ok (.iload_n 3, 1) := by decide +kernel
theorem dL_has_3 : decode cL_has 3 = .ok (.iload_n 1, 1) := by decide +kernel
theorem dL_has_4 : decode cL_has 4 = .ok (.if_icmp .ge 20, 3) := by decide +kernel
theorem dL_has_7 : decode cL_has 7 = .ok (.aload_n 0, 1) := by decide +kernel
theorem dL_has_8 : decode cL_has 8 = .ok (.iload_n 3, 1) := by decide +kernel
theorem dL_has_9 : decode cL_has 9 = .ok (.invokevirtual 75, 3) := by decide +kernel
theorem dL_has_12 : decode cL_has 12 = .ok (.iload_n 2, 1) := by decide +kernel
theorem dL_has_13 : decode cL_has 13 = .ok (.if_icmp .ne 5, 3) := by decide +kernel
theorem dL_has_16 : decode cL_has 16 = .ok (.iconst 1, 1) := by decide +kernel
theorem dL_has_17 : decode cL_has 17 = .ok (.ireturn, 1) := by decide +kernel
theorem dL_has_18 : decode cL_has 18 = .ok (.iinc 3 1, 3) := by decide +kernel
theorem dL_has_21 : decode cL_has 21 = .ok (.goto (-19), 3) := by decide +kernel
theorem dL_has_24 : decode cL_has 24 = .ok (.iconst 0, 1) := by decide +kernel
theorem dL_has_25 : decode cL_has 25 = .ok (.ireturn, 1) := by decide +kernel
theorem dL_isLine_0 : decode cL_isLine 0 = .ok (.iload_n 1, 1) := by decide +kernel
theorem dL_isLine_1 : decode cL_isLine 1 = .ok (.aload_n 2, 1) := by decide +kernel
theorem dL_isLine_2 : decode cL_isLine 2 = .ok (.invokevirtual 78, 3) := by decide +kernel
theorem dL_isLine_5 : decode cL_isLine 5 = .ok (.if_icmp .eq 5, 3) := by decide +kernel
theorem dL_isLine_8 : decode cL_isLine 8 = .ok (.iconst 0, 1) := by decide +kernel
theorem dL_isLine_9 : decode cL_isLine 9 = .ok (.ireturn, 1) := by decide +kernel
theorem dL_isLine_10 : decode cL_isLine 10 = .ok (.iconst 0, 1) := by decide +kernel
theorem dL_isLine_11 : decode cL_isLine 11 = .ok (.istore_n 3, 1) := by decide +kernel
theorem dL_isLine_12 : decode cL_isLine 12 = .ok (.iload_n 3, 1) := by decide +kernel
theorem dL_isLine_13 : decode cL_isLine 13 = .ok (.iload_n 1, 1) := by decide +kernel
theorem dL_isLine_14 : decode cL_isLine 14 = .ok (.if_icmp .ge 24, 3) := by decide +kernel
theorem dL_isLine_17 : decode cL_isLine 17 = .ok (.aload_n 0, 1) := by decide +kernel
theorem dL_isLine_18 : decode cL_isLine 18 = .ok (.iload_n 3, 1) := by decide +kernel
theorem dL_isLine_19 : decode cL_isLine 19 = .ok (.invokevirtual 75, 3) := by decide +kernel
theorem dL_isLine_22 : decode cL_isLine 22 = .ok (.aload_n 2, 1) := by decide +kernel
theorem dL_isLine_23 : decode cL_isLine 23 = .ok (.iload_n 3, 1) := by decide +kernel
theorem dL_isLine_24 : decode cL_isLine 24 = .ok (.invokevirtual 84, 3) := by decide +kernel
theorem dL_isLine_27 : decode cL_isLine 27 = .ok (.if_icmp .eq 5, 3) := by decide +kernel
theorem dL_isLine_30 : decode cL_isLine 30 = .ok (.iconst 0, 1) := by decide +kernel
theorem dL_isLine_31 : decode cL_isLine 31 = .ok (.ireturn, 1) := by decide +kernel
theorem dL_isLine_32 : decode cL_isLine 32 = .ok (.iinc 3 1, 3) := by decide +kernel
theorem dL_isLine_35 : decode cL_isLine 35 = .ok (.goto (-23), 3) := by decide +kernel
theorem dL_isLine_38 : decode cL_isLine 38 = .ok (.iconst 1, 1) := by decide +kernel
theorem dL_isLine_39 : decode cL_isLine 39 = .ok (.ireturn, 1) := by decide +kernel
theorem dL_law_0 : decode cL_law 0 = .ok (.new 18, 3) := by decide +kernel
theorem dL_law_3 : decode cL_law 3 = .ok (.dup, 1) := by decide +kernel
theorem dL_law_4 : decode cL_law 4 = .ok (.invokespecial 88, 3) := by decide +kernel
theorem dL_law_7 : decode cL_law 7 = .ok (.astore_n 1, 1) := by decide +kernel
theorem dL_law_8 : decode cL_law 8 = .ok (.aload_n 1, 1) := by decide +kernel
theorem dL_law_9 : decode cL_law 9 = .ok (.aload_n 0, 1) := by decide +kernel
theorem dL_law_10 : decode cL_law 10 = .ok (.invokestatic 89, 3) := by decide +kernel
theorem dL_law_13 : decode cL_law 13 = .ok (.iconst 0, 1) := by decide +kernel
theorem dL_law_14 : decode cL_law 14 = .ok (.istore_n 2, 1) := by decide +kernel
theorem dL_law_15 : decode cL_law 15 = .ok (.iload_n 2, 1) := by decide +kernel
theorem dL_law_16 : decode cL_law 16 = .ok (.iconst 4, 1) := by decide +kernel
theorem dL_law_17 : decode cL_law 17 = .ok (.if_icmp .ge 1606, 3) := by decide +kernel
theorem dL_law_20 : decode cL_law 20 = .ok (.aload_n 1, 1) := by decide +kernel
theorem dL_law_21 : decode cL_law 21 = .ok (.iconst 0, 1) := by decide +kernel
theorem dL_law_22 : decode cL_law 22 = .ok (.invokevirtual 45, 3) := by decide +kernel
theorem dL_law_25 : decode cL_law 25 = .ok (.istore_n 3, 1) := by decide +kernel
theorem dL_law_26 : decode cL_law 26 = .ok (.iconst 0, 1) := by decide +kernel
theorem dL_law_27 : decode cL_law 27 = .ok (.istore 4, 2) := by decide +kernel
theorem dL_law_29 : decode cL_law 29 = .ok (.iconst 0, 1) := by decide +kernel
theorem dL_law_30 : decode cL_law 30 = .ok (.istore 5, 2) := by decide +kernel
theorem dL_law_32 : decode cL_law 32 = .ok (.iconst 0, 1) := by decide +kernel
theorem dL_law_33 : decode cL_law 33 = .ok (.istore 6, 2) := by decide +kernel
theorem dL_law_35 : decode cL_law 35 = .ok (.iconst 0, 1) := by decide +kernel
theorem dL_law_36 : decode cL_law 36 = .ok (.istore 7, 2) := by decide +kernel
theorem dL_law_38 : decode cL_law 38 = .ok (.iconst 0, 1) := by decide +kernel
theorem dL_law_39 : decode cL_law 39 = .ok (.istore 8, 2) := by decide +kernel
theorem dL_law_41 : decode cL_law 41 = .ok (.iconst 0, 1) := by decide +kernel
theorem dL_law_42 : decode cL_law 42 = .ok (.istore 9, 2) := by decide +kernel
theorem dL_law_44 : decode cL_law 44 = .ok (.iconst 0, 1) := by decide +kernel
theorem dL_law_45 : decode cL_law 45 = .ok (.istore 10, 2) := by decide +kernel
theorem dL_law_47 : decode cL_law 47 = .ok (.iconst 0, 1) := by decide +kernel
theorem dL_law_48 : decode cL_law 48 = .ok (.istore 11, 2) := by decide +kernel
theorem dL_law_50 : decode cL_law 50 = .ok (.iconst 0, 1) := by decide +kernel
theorem dL_law_51 : decode cL_law 51 = .ok (.istore 12, 2) := by decide +kernel
theorem dL_law_53 : decode cL_law 53 = .ok (.iconst 4, 1) := by decide +kernel
theorem dL_law_54 : decode cL_law 54 = .ok (.newarray .int, 2) := by decide +kernel
theorem dL_law_56 : decode cL_law 56 = .ok (.astore 13, 2) := by decide +kernel
theorem dL_law_58 : decode cL_law 58 = .ok (.iconst 4, 1) := by decide +kernel
theorem dL_law_59 : decode cL_law 59 = .ok (.newarray .int, 2) := by decide +kernel
theorem dL_law_61 : decode cL_law 61 = .ok (.astore 14, 2) := by decide +kernel
theorem dL_law_63 : decode cL_law 63 = .ok (.iconst 4, 1) := by decide +kernel
theorem dL_law_64 : decode cL_law 64 = .ok (.newarray .int, 2) := by decide +kernel
theorem dL_law_66 : decode cL_law 66 = .ok (.astore 15, 2) := by decide +kernel
theorem dL_law_68 : decode cL_law 68 = .ok (.iconst 1, 1) := by decide +kernel
theorem dL_law_69 : decode cL_law 69 = .ok (.istore 16, 2) := by decide +kernel
theorem dL_law_71 : decode cL_law 71 = .ok (.iload 16, 2) := by decide +kernel
theorem dL_law_73 : decode cL_law 73 = .ok (.bipush 13, 2) := by decide +kernel
theorem dL_law_75 : decode cL_law 75 = .ok (.if_icmp .ge 31, 3) := by decide +kernel
theorem dL_law_78 : decode cL_law 78 = .ok (.aload_n 1, 1) := by decide +kernel
theorem dL_law_79 : decode cL_law 79 = .ok (.iload 16, 2) := by decide +kernel
theorem dL_law_81 : decode cL_law 81 = .ok (.invokevirtual 37, 3) := by decide +kernel
theorem dL_law_84 : decode cL_law 84 = .ok (.ifCond .lt 16, 3) := by decide +kernel
theorem dL_law_87 : decode cL_law 87 = .ok (.aload 13, 2) := by decide +kernel
theorem dL_law_89 : decode cL_law 89 = .ok (.aload_n 1, 1) := by decide +kernel
theorem dL_law_90 : decode cL_law 90 = .ok (.iload 16, 2) := by decide +kernel
theorem dL_law_92 : decode cL_law 92 = .ok (.invokevirtual 37, 3) := by decide +kernel
theorem dL_law_95 : decode cL_law 95 = .ok (.dup2, 1) := by decide +kernel
theorem dL_law_96 : decode cL_law 96 = .ok (.iaload, 1) := by decide +kernel
theorem dL_law_97 : decode cL_law 97 = .ok (.iconst 1, 1) := by decide +kernel
theorem dL_law_98 : decode cL_law 98 = .ok (.iadd, 1) := by decide +kernel
theorem dL_law_99 : decode cL_law 99 = .ok (.iastore, 1) := by decide +kernel
theorem dL_law_100 : decode cL_law 100 = .ok (.iinc 16 1, 3) := by decide +kernel
theorem dL_law_103 : decode cL_law 103 = .ok (.goto (-32), 3) := by decide +kernel
theorem dL_law_106 : decode cL_law 106 = .ok (.iconst 0, 1) := by decide +kernel
theorem dL_law_107 : decode cL_law 107 = .ok (.istore 16, 2) := by decide +kernel
theorem dL_law_109 : decode cL_law 109 = .ok (.iload 16, 2) := by decide +kernel
theorem dL_law_111 : decode cL_law 111 = .ok (.iload_n 3, 1) := by decide +kernel
theorem dL_law_112 : decode cL_law 112 = .ok (.if_icmp .ge 766, 3) := by decide +kernel
theorem dL_law_115 : decode cL_law 115 = .ok (.aload_n 1, 1) := by decide +kernel
theorem dL_law_116 : decode cL_law 116 = .ok (.iload 16, 2) := by decide +kernel
theorem dL_law_118 : decode cL_law 118 = .ok (.iconst 0, 1) := by decide +kernel
theorem dL_law_119 : decode cL_law 119 = .ok (.invokevirtual 63, 3) := by decide +kernel
theorem dL_law_122 : decode cL_law 122 = .ok (.istore 17, 2) := by decide +kernel
theorem dL_law_124 : decode cL_law 124 = .ok (.aload_n 1, 1) := by decide +kernel
theorem dL_law_125 : decode cL_law 125 = .ok (.iload 16, 2) := by decide +kernel
theorem dL_law_127 : decode cL_law 127 = .ok (.iconst 1, 1) := by decide +kernel
theorem dL_law_128 : decode cL_law 128 = .ok (.invokevirtual 63, 3) := by decide +kernel
theorem dL_law_131 : decode cL_law 131 = .ok (.istore 18, 2) := by decide +kernel
theorem dL_law_133 : decode cL_law 133 = .ok (.aload_n 1, 1) := by decide +kernel
theorem dL_law_134 : decode cL_law 134 = .ok (.iload 16, 2) := by decide +kernel
theorem dL_law_136 : decode cL_law 136 = .ok (.iconst 2, 1) := by decide +kernel
theorem dL_law_137 : decode cL_law 137 = .ok (.invokevirtual 63, 3) := by decide +kernel
theorem dL_law_140 : decode cL_law 140 = .ok (.istore 19, 2) := by decide +kernel
theorem dL_law_142 : decode cL_law 142 = .ok (.aload_n 1, 1) := by decide +kernel
theorem dL_law_143 : decode cL_law 143 = .ok (.iload 16, 2) := by decide +kernel
theorem dL_law_145 : decode cL_law 145 = .ok (.iconst 3, 1) := by decide +kernel
theorem dL_law_146 : decode cL_law 146 = .ok (.invokevirtual 63, 3) := by decide +kernel
theorem dL_law_149 : decode cL_law 149 = .ok (.istore 20, 2) := by decide +kernel
theorem dL_law_151 : decode cL_law 151 = .ok (.aload_n 1, 1) := by decide +kernel
theorem dL_law_152 : decode cL_law 152 = .ok (.iload 16, 2) := by decide +kernel
theorem dL_law_154 : decode cL_law 154 = .ok (.iconst 5, 1) := by decide +kernel
theorem dL_law_155 : decode cL_law 155 = .ok (.invokevirtual 63, 3) := by decide +kernel
theorem dL_law_158 : decode cL_law 158 = .ok (.istore 21, 2) := by decide +kernel
theorem dL_law_160 : decode cL_law 160 = .ok (.aload_n 1, 1) := by decide +kernel
theorem dL_law_161 : decode cL_law 161 = .ok (.iload 16, 2) := by decide +kernel
theorem dL_law_163 : decode cL_law 163 = .ok (.invokestatic 93, 3) := by decide +kernel
theorem dL_law_166 : decode cL_law 166 = .ok (.istore 22, 2) := by decide +kernel
theorem dL_law_168 : decode cL_law 168 = .ok (.aload_n 1, 1) := by decide +kernel
theorem dL_law_169 : decode cL_law 169 = .ok (.iload 16, 2) := by decide +kernel
theorem dL_law_171 : decode cL_law 171 = .ok (.bipush 8, 2) := by decide +kernel
theorem dL_law_173 : decode cL_law 173 = .ok (.invokevirtual 63, 3) := by decide +kernel
theorem dL_law_176 : decode cL_law 176 = .ok (.istore 23, 2) := by decide +kernel
theorem dL_law_178 : decode cL_law 178 = .ok (.iload 22, 2) := by decide +kernel
theorem dL_law_180 : decode cL_law 180 = .ok (.ifCond .le 14, 3) := by decide +kernel
theorem dL_law_183 : decode cL_law 183 = .ok (.iload 20, 2) := by decide +kernel
theorem dL_law_185 : decode cL_law 185 = .ok (.bipush 100, 2) := by decide +kernel
theorem dL_law_187 : decode cL_law 187 = .ok (.if_icmp .ne 7, 3) := by decide +kernel
theorem dL_law_190 : decode cL_law 190 = .ok (.iconst 1, 1) := by decide +kernel
theorem dL_law_191 : decode cL_law 191 = .ok (.goto 4, 3) := by decide +kernel
theorem dL_law_194 : decode cL_law 194 = .ok (.iconst 0, 1) := by decide +kernel
theorem dL_law_195 : decode cL_law 195 = .ok (.istore 24, 2) := by decide +kernel
theorem dL_law_197 : decode cL_law 197 = .ok (.iload 24, 2) := by decide +kernel
theorem dL_law_199 : decode cL_law 199 = .ok (.ifCond .eq 23, 3) := by decide +kernel
theorem dL_law_202 : decode cL_law 202 = .ok (.iload 19, 2) := by decide +kernel
theorem dL_law_204 : decode cL_law 204 = .ok (.ifCond .le 18, 3) := by decide +kernel
theorem dL_law_207 : decode cL_law 207 = .ok (.aload_n 1, 1) := by decide +kernel
theorem dL_law_208 : decode cL_law 208 = .ok (.iload 16, 2) := by decide +kernel
theorem dL_law_210 : decode cL_law 210 = .ok (.iconst 4, 1) := by decide +kernel
theorem dL_law_211 : decode cL_law 211 = .ok (.invokevirtual 63, 3) := by decide +kernel
theorem dL_law_214 : decode cL_law 214 = .ok (.iconst 1, 1) := by decide +kernel
theorem dL_law_215 : decode cL_law 215 = .ok (.if_icmp .ne 7, 3) := by decide +kernel
theorem dL_law_218 : decode cL_law 218 = .ok (.iconst 1, 1) := by decide +kernel
theorem dL_law_219 : decode cL_law 219 = .ok (.goto 4, 3) := by decide +kernel
theorem dL_law_222 : decode cL_law 222 = .ok (.iconst 0, 1) := by decide +kernel
theorem dL_law_223 : decode cL_law 223 = .ok (.istore 25, 2) := by decide +kernel
theorem dL_law_225 : decode cL_law 225 = .ok (.iload 4, 2) := by decide +kernel
theorem dL_law_227 : decode cL_law 227 = .ok (.iload 21, 2) := by decide +kernel
theorem dL_law_229 : decode cL_law 229 = .ok (.ifCond .lt 7, 3) := by decide +kernel
theorem dL_law_232 : decode cL_law 232 = .ok (.iconst 1, 1) := by decide +kernel
theorem dL_law_233 : decode cL_law 233 = .ok (.goto 4, 3) := by decide +kernel
theorem dL_law_236 : decode cL_law 236 = .ok (.iconst 0, 1) := by decide +kernel
theorem dL_law_237 : decode cL_law 237 = .ok (.iadd, 1) := by decide +kernel
theorem dL_law_238 : decode cL_law 238 = .ok (.istore 4, 2) := by decide +kernel
theorem dL_law_240 : decode cL_law 240 = .ok (.iload 5, 2) := by decide +kernel
theorem dL_law_242 : decode cL_law 242 = .ok (.iload 24, 2) := by decide +kernel
theorem dL_law_244 : decode cL_law 244 = .ok (.ifCond .eq 7, 3) := by decide +kernel
theorem dL_law_247 : decode cL_law 247 = .ok (.iconst 1, 1) := by decide +kernel
theorem dL_law_248 : decode cL_law 248 = .ok (.goto 4, 3) := by decide +kernel
theorem dL_law_251 : decode cL_law 251 = .ok (.iconst 0, 1) := by decide +kernel
theorem dL_law_252 : decode cL_law 252 = .ok (.iadd, 1) := by decide +kernel
theorem dL_law_253 : decode cL_law 253 = .ok (.istore 5, 2) := by decide +kernel
theorem dL_law_255 : decode cL_law 255 = .ok (.iload 6, 2) := by decide +kernel
theorem dL_law_257 : decode cL_law 257 = .ok (.aload_n 1, 1) := by decide +kernel
theorem dL_law_258 : decode cL_law 258 = .ok (.iload 16, 2) := by decide +kernel
theorem dL_law_260 : decode cL_law 260 = .ok (.iconst 4, 1) := by decide +kernel
theorem dL_law_261 : decode cL_law 261 = .ok (.invokevirtual 63, 3) := by decide +kernel
theorem dL_law_264 : decode cL_law 264 = .ok (.iadd, 1) := by decide +kernel
theorem dL_law_265 : decode cL_law 265 = .ok (.istore 6, 2) := by decide +kernel
theorem dL_law_267 : decode cL_law 267 = .ok (.iload 8, 2) := by decide +kernel
theorem dL_law_269 : decode cL_law 269 = .ok (.iload 19, 2) := by decide +kernel
theorem dL_law_271 : decode cL_law 271 = .ok (.iadd, 1) := by decide +kernel
theorem dL_law_272 : decode cL_law 272 = .ok (.istore 8, 2) := by decide +kernel
theorem dL_law_274 : decode cL_law 274 = .ok (.aload 14, 2) := by decide +kernel
theorem dL_law_276 : decode cL_law 276 = .ok (.iload 17, 2) := by decide +kernel
theorem dL_law_278 : decode cL_law 278 = .ok (.dup2, 1) := by decide +kernel
theorem dL_law_279 : decode cL_law 279 = .ok (.iaload, 1) := by decide +kernel
theorem dL_law_280 : decode cL_law 280 = .ok (.iconst 1, 1) := by decide +kernel
theorem dL_law_281 : decode cL_law 281 = .ok (.iadd, 1) := by decide +kernel
theorem dL_law_282 : decode cL_law 282 = .ok (.iastore, 1) := by decide +kernel
theorem dL_law_283 : decode cL_law 283 = .ok (.aload 15, 2) := by decide +kernel
theorem dL_law_285 : decode cL_law 285 = .ok (.iload 17, 2) := by decide +kernel
theorem dL_law_287 : decode cL_law 287 = .ok (.dup2, 1) := by decide +kernel
theorem dL_law_288 : decode cL_law 288 = .ok (.iaload, 1) := by decide +kernel
theorem dL_law_289 : decode cL_law 289 = .ok (.iload 25, 2) := by decide +kernel
theorem dL_law_291 : decode cL_law 291 = .ok (.ifCond .eq 7, 3) := by decide +kernel
theorem dL_law_294 : decode cL_law 294 = .ok (.iconst 1, 1) := by decide +kernel
theorem dL_law_295 : decode cL_law 295 = .ok (.goto 4, 3) := by decide +kernel
theorem dL_law_298 : decode cL_law 298 = .ok (.iconst 0, 1) := by decide +kernel
theorem dL_law_299 : decode cL_law 299 = .ok (.iadd, 1) := by decide +kernel
theorem dL_law_300 : decode cL_law 300 = .ok (.iastore, 1) := by decide +kernel
theorem dL_law_301 : decode cL_law 301 = .ok (.iload 9, 2) := by decide +kernel
theorem dL_law_303 : decode cL_law 303 = .ok (.iload 25, 2) := by decide +kernel
theorem dL_law_305 : decode cL_law 305 = .ok (.ifCond .eq 10, 3) := by decide +kernel
theorem dL_law_308 : decode cL_law 308 = .ok (.iconst 1, 1) := by decide +kernel
theorem dL_law_309 : decode cL_law 309 = .ok (.iload 16, 2) := by decide +kernel
theorem dL_law_311 : decode cL_law 311 = .ok (.ishl, 1) := by decide +kernel
theorem dL_law_312 : decode cL_law 312 = .ok (.goto 4, 3) := by decide +kernel
theorem dL_law_315 : decode cL_law 315 = .ok (.iconst 0, 1) := by decide +kernel
theorem dL_law_316 : decode cL_law 316 = .ok (.ior, 1) := by decide +kernel
theorem dL_law_317 : decode cL_law 317 = .ok (.istore 9, 2) := by decide +kernel
theorem dL_law_319 : decode cL_law 319 = .ok (.iload 22, 2) := by decide +kernel
theorem dL_law_321 : decode cL_law 321 = .ok (.ifCond .ne 9, 3) := by decide +kernel
theorem dL_law_324 : decode cL_law 324 = .ok (.sipush (-1015), 3) := by decide +kernel
theorem dL_law_327 : decode cL_law 327 = .ok (.goto 20, 3) := by decide +kernel
theorem dL_law_330 : decode cL_law 330 = .ok (.bipush 100, 2) := by decide +kernel
theorem dL_law_332 : decode cL_law 332 = .ok (.iload 20, 2) := by decide +kernel
theorem dL_law_334 : decode cL_law 334 = .ok (.isub, 1) := by decide +kernel
theorem dL_law_335 : decode cL_law 335 = .ok (.iconst 5, 1) := by decide +kernel
theorem dL_law_336 : decode cL_law 336 = .ok (.iload 22, 2) := by decide +kernel
theorem dL_law_338 : decode cL_law 338 = .ok (.imul, 1) := by decide +kernel
theorem dL_law_339 : decode cL_law 339 = .ok (.iadd, 1) := by decide +kernel
theorem dL_law_340 : decode cL_law 340 = .ok (.iconst 1, 1) := by decide +kernel
theorem dL_law_341 : decode cL_law 341 = .ok (.isub, 1) := by decide +kernel
theorem dL_law_342 : decode cL_law 342 = .ok (.iconst 5, 1) := by decide +kernel
theorem dL_law_343 : decode cL_law 343 = .ok (.iload 22, 2) := by decide +kernel
theorem dL_law_345 : decode cL_law 345 = .ok (.imul, 1) := by decide +kernel
theorem dL_law_346 : decode cL_law 346 = .ok (.idiv, 1) := by decide +kernel
theorem dL_law_347 : decode cL_law 347 = .ok (.istore 26, 2) := by decide +kernel
theorem dL_law_349 : decode cL_law 349 = .ok (.aload_n 1, 1) := by decide +kernel
theorem dL_law_350 : decode cL_law 350 = .ok (.iload 16, 2) := by decide +kernel
theorem dL_law_352 : decode cL_law 352 = .ok (.invokevirtual 97, 3) := by decide +kernel
theorem dL_law_355 : decode cL_law 355 = .ok (.istore 27, 2) := by decide +kernel
theorem dL_law_357 : decode cL_law 357 = .ok (.iload 27, 2) := by decide +kernel
theorem dL_law_359 : decode cL_law 359 = .ok (.ifCond .le 18, 3) := by decide +kernel
theorem dL_law_362 : decode cL_law 362 = .ok (.aload_n 1, 1) := by decide +kernel
theorem dL_law_363 : decode cL_law 363 = .ok (.iload 27, 2) := by decide +kernel
theorem dL_law_365 : decode cL_law 365 = .ok (.bipush 35, 2) := by decide +kernel
theorem dL_law_367 : decode cL_law 367 = .ok (.invokestatic 100, 3) := by decide +kernel
theorem dL_law_370 : decode cL_law 370 = .ok (.ifCond .eq 7, 3) := by decide +kernel
theorem dL_law_373 : decode cL_law 373 = .ok (.iconst 1, 1) := by decide +kernel
theorem dL_law_374 : decode cL_law 374 = .ok (.goto 4, 3) := by decide +kernel
theorem dL_law_377 : decode cL_law 377 = .ok (.iconst 0, 1) := by decide +kernel
theorem dL_law_378 : decode cL_law 378 = .ok (.istore 28, 2) := by decide +kernel
theorem dL_law_380 : decode cL_law 380 = .ok (.iload 7, 2) := by decide +kernel
theorem dL_law_382 : decode cL_law 382 = .ok (.iload 28, 2) := by decide +kernel
theorem dL_law_384 : decode cL_law 384 = .ok (.ifCond .eq 7, 3) := by decide +kernel
theorem dL_law_387 : decode cL_law 387 = .ok (.iconst 1, 1) := by decide +kernel
theorem dL_law_388 : decode cL_law 388 = .ok (.goto 4, 3) := by decide +kernel
theorem dL_law_391 : decode cL_law 391 = .ok (.iconst 0, 1) := by decide +kernel
theorem dL_law_392 : decode cL_law 392 = .ok (.iadd, 1) := by decide +kernel
theorem dL_law_393 : decode cL_law 393 = .ok (.istore 7, 2) := by decide +kernel
theorem dL_law_395 : decode cL_law 395 = .ok (.new 104, 3) := by decide +kernel
theorem dL_law_398 : decode cL_law 398 = .ok (.dup, 1) := by decide +kernel
theorem dL_law_399 : decode cL_law 399 = .ok (.invokespecial 106, 3) := by decide +kernel
theorem dL_law_402 : decode cL_law 402 = .ok (.iload 16, 2) := by decide +kernel
theorem dL_law_404 : decode cL_law 404 = .ok (.invokevirtual 107, 3) := by decide +kernel
theorem dL_law_407 : decode cL_law 407 = .ok (.ldc 111, 2) := by decide +kernel
theorem dL_law_409 : decode cL_law 409 = .ok (.invokevirtual 113, 3) := by decide +kernel
theorem dL_law_412 : decode cL_law 412 = .ok (.iload 17, 2) := by decide +kernel
theorem dL_law_414 : decode cL_law 414 = .ok (.invokevirtual 107, 3) := by decide +kernel
theorem dL_law_417 : decode cL_law 417 = .ok (.ldc 116, 2) := by decide +kernel
theorem dL_law_419 : decode cL_law 419 = .ok (.invokevirtual 113, 3) := by decide +kernel
theorem dL_law_422 : decode cL_law 422 = .ok (.iload 18, 2) := by decide +kernel
theorem dL_law_424 : decode cL_law 424 = .ok (.invokevirtual 107, 3) := by decide +kernel
theorem dL_law_427 : decode cL_law 427 = .ok (.ldc 118, 2) := by decide +kernel
theorem dL_law_429 : decode cL_law 429 = .ok (.invokevirtual 113, 3) := by decide +kernel
theorem dL_law_432 : decode cL_law 432 = .ok (.iload 19, 2) := by decide +kernel
theorem dL_law_434 : decode cL_law 434 = .ok (.invokevirtual 107, 3) := by decide +kernel
theorem dL_law_437 : decode cL_law 437 = .ok (.ldc 120, 2) := by decide +kernel
theorem dL_law_439 : decode cL_law 439 = .ok (.invokevirtual 113, 3) := by decide +kernel
theorem dL_law_442 : decode cL_law 442 = .ok (.iload 20, 2) := by decide +kernel
theorem dL_law_444 : decode cL_law 444 = .ok (.invokevirtual 107, 3) := by decide +kernel
theorem dL_law_447 : decode cL_law 447 = .ok (.aload_n 1, 1) := by decide +kernel
theorem dL_law_448 : decode cL_law 448 = .ok (.iload 16, 2) := by decide +kernel
theorem dL_law_450 : decode cL_law 450 = .ok (.iconst 4, 1) := by decide +kernel
theorem dL_law_451 : decode cL_law 451 = .ok (.invokevirtual 63, 3) := by decide +kernel
theorem dL_law_454 : decode cL_law 454 = .ok (.ifCond .ne 8, 3) := by decide +kernel
theorem dL_law_457 : decode cL_law 457 = .ok (.ldc 122, 2) := by decide +kernel
theorem dL_law_459 : decode cL_law 459 = .ok (.goto 5, 3) := by decide +kernel
theorem dL_law_462 : decode cL_law 462 = .ok (.ldc 124, 2) := by decide +kernel
theorem dL_law_464 : decode cL_law 464 = .ok (.invokevirtual 113, 3) := by decide +kernel
theorem dL_law_467 : decode cL_law 467 = .ok (.iload 28, 2) := by decide +kernel
theorem dL_law_469 : decode cL_law 469 = .ok (.ifCond .eq 8, 3) := by decide +kernel
theorem dL_law_472 : decode cL_law 472 = .ok (.ldc 126, 2) := by decide +kernel
theorem dL_law_474 : decode cL_law 474 = .ok (.goto 5, 3) := by decide +kernel
theorem dL_law_477 : decode cL_law 477 = .ok (.ldc 124, 2) := by decide +kernel
theorem dL_law_479 : decode cL_law 479 = .ok (.invokevirtual 113, 3) := by decide +kernel
theorem dL_law_482 : decode cL_law 482 = .ok (.iload 21, 2) := by decide +kernel
theorem dL_law_484 : decode cL_law 484 = .ok (.ifCond .lt 26, 3) := by decide +kernel
theorem dL_law_487 : decode cL_law 487 = .ok (.new 104, 3) := by decide +kernel
theorem dL_law_490 : decode cL_law 490 = .ok (.dup, 1) := by decide +kernel
theorem dL_law_491 : decode cL_law 491 = .ok (.invokespecial 106, 3) := by decide +kernel
theorem dL_law_494 : decode cL_law 494 = .ok (.ldc 128, 2) := by decide +kernel
theorem dL_law_496 : decode cL_law 496 = .ok (.invokevirtual 113, 3) := by decide +kernel
theorem dL_law_499 : decode cL_law 499 = .ok (.iload 21, 2) := by decide +kernel
theorem dL_law_501 : decode cL_law 501 = .ok (.invokevirtual 107, 3) := by decide +kernel
theorem dL_law_504 : decode cL_law 504 = .ok (.invokevirtual 130, 3) := by decide +kernel
theorem dL_law_507 : decode cL_law 507 = .ok (.goto 5, 3) := by decide +kernel
theorem dL_law_510 : decode cL_law 510 = .ok (.ldc 124, 2) := by decide +kernel
theorem dL_law_512 : decode cL_law 512 = .ok (.invokevirtual 113, 3) := by decide +kernel
theorem dL_law_515 : decode cL_law 515 = .ok (.iload 25, 2) := by decide +kernel
theorem dL_law_517 : decode cL_law 517 = .ok (.ifCond .eq 8, 3) := by decide +kernel
theorem dL_law_520 : decode cL_law 520 = .ok (.ldc 134, 2) := by decide +kernel
theorem dL_law_522 : decode cL_law 522 = .ok (.goto 5, 3) := by decide +kernel
theorem dL_law_525 : decode cL_law 525 = .ok (.ldc 124, 2) := by decide +kernel
theorem dL_law_527 : decode cL_law 527 = .ok (.invokevirtual 113, 3) := by decide +kernel
theorem dL_law_530 : decode cL_law 530 = .ok (.iload 23, 2) := by decide +kernel
theorem dL_law_532 : decode cL_law 532 = .ok (.ifCond .le 26, 3) := by decide +kernel
theorem dL_law_535 : decode cL_law 535 = .ok (.new 104, 3) := by decide +kernel
theorem dL_law_538 : decode cL_law 538 = .ok (.dup, 1) := by decide +kernel
theorem dL_law_539 : decode cL_law 539 = .ok (.invokespecial 106, 3) := by decide +kernel
theorem dL_law_542 : decode cL_law 542 = .ok (.ldc 136, 2) := by decide +kernel
theorem dL_law_544 : decode cL_law 544 = .ok (.invokevirtual 113, 3) := by decide +kernel
theorem dL_law_547 : decode cL_law 547 = .ok (.iload 23, 2) := by decide +kernel
theorem dL_law_549 : decode cL_law 549 = .ok (.invokevirtual 107, 3) := by decide +kernel
theorem dL_law_552 : decode cL_law 552 = .ok (.invokevirtual 130, 3) := by decide +kernel
theorem dL_law_555 : decode cL_law 555 = .ok (.goto 5, 3) := by decide +kernel
theorem dL_law_558 : decode cL_law 558 = .ok (.ldc 124, 2) := by decide +kernel
theorem dL_law_560 : decode cL_law 560 = .ok (.invokevirtual 113, 3) := by decide +kernel
theorem dL_law_563 : decode cL_law 563 = .ok (.invokevirtual 130, 3) := by decide +kernel
theorem dL_law_566 : decode cL_law 566 = .ok (.astore 29, 2) := by decide +kernel
theorem dL_law_568 : decode cL_law 568 = .ok (.aload_n 1, 1) := by decide +kernel
theorem dL_law_569 : decode cL_law 569 = .ok (.iload 27, 2) := by decide +kernel
theorem dL_law_571 : decode cL_law 571 = .ok (.aload 29, 2) := by decide +kernel
theorem dL_law_573 : decode cL_law 573 = .ok (.invokestatic 138, 3) := by decide +kernel
theorem dL_law_576 : decode cL_law 576 = .ok (.ifCond .eq 200, 3) := by decide +kernel
theorem dL_law_579 : decode cL_law 579 = .ok (.iload 28, 2) := by decide +kernel
theorem dL_law_581 : decode cL_law 581 = .ok (.ifCond .eq 14, 3) := by decide +kernel
theorem dL_law_584 : decode cL_law 584 = .ok (.aload_n 1, 1) := by decide +kernel
theorem dL_law_585 : decode cL_law 585 = .ok (.iload 16, 2) := by decide +kernel
theorem dL_law_587 : decode cL_law 587 = .ok (.iconst 4, 1) := by decide +kernel
theorem dL_law_588 : decode cL_law 588 = .ok (.invokevirtual 63, 3) := by decide +kernel
theorem dL_law_591 : decode cL_law 591 = .ok (.iconst 1, 1) := by decide +kernel
theorem dL_law_592 : decode cL_law 592 = .ok (.if_icmp .eq 184, 3) := by decide +kernel
theorem dL_law_595 : decode cL_law 595 = .ok (.aload_n 1, 1) := by decide +kernel
theorem dL_law_596 : decode cL_law 596 = .ok (.iload 18, 2) := by decide +kernel
theorem dL_law_598 : decode cL_law 598 = .ok (.invokevirtual 37, 3) := by decide +kernel
theorem dL_law_601 : decode cL_law 601 = .ok (.iload 17, 2) := by decide +kernel
theorem dL_law_603 : decode cL_law 603 = .ok (.if_icmp .ne 173, 3) := by decide +kernel
theorem dL_law_606 : decode cL_law 606 = .ok (.iload 20, 2) := by decide +kernel
theorem dL_law_608 : decode cL_law 608 = .ok (.bipush 20, 2) := by decide +kernel
theorem dL_law_610 : decode cL_law 610 = .ok (.if_icmp .lt 166, 3) := by decide +kernel
theorem dL_law_613 : decode cL_law 613 = .ok (.iload 20, 2) := by decide +kernel
theorem dL_law_615 : decode cL_law 615 = .ok (.bipush 100, 2) := by decide +kernel
theorem dL_law_617 : decode cL_law 617 = .ok (.if_icmp .gt 159, 3) := by decide +kernel
theorem dL_law_620 : decode cL_law 620 = .ok (.iload 19, 2) := by decide +kernel
theorem dL_law_622 : decode cL_law 622 = .ok (.ifCond .lt 154, 3) := by decide +kernel
theorem dL_law_625 : decode cL_law 625 = .ok (.iload 19, 2) := by decide +kernel
theorem dL_law_627 : decode cL_law 627 = .ok (.bipush 20, 2) := by decide +kernel
theorem dL_law_629 : decode cL_law 629 = .ok (.if_icmp .gt 147, 3) := by decide +kernel
theorem dL_law_632 : decode cL_law 632 = .ok (.iload 23, 2) := by decide +kernel
theorem dL_law_634 : decode cL_law 634 = .ok (.ifCond .le 8, 3) := by decide +kernel
theorem dL_law_637 : decode cL_law 637 = .ok (.iload 21, 2) := by decide +kernel
theorem dL_law_639 : decode cL_law 639 = .ok (.ifCond .ge 137, 3) := by decide +kernel
theorem dL_law_642 : decode cL_law 642 = .ok (.iload 23, 2) := by decide +kernel
theorem dL_law_644 : decode cL_law 644 = .ok (.bipush 6, 2) := by decide +kernel
theorem dL_law_646 : decode cL_law 646 = .ok (.if_icmp .gt 130, 3) := by decide +kernel
theorem dL_law_649 : decode cL_law 649 = .ok (.aload_n 1, 1) := by decide +kernel
theorem dL_law_650 : decode cL_law 650 = .ok (.iload 16, 2) := by decide +kernel
theorem dL_law_652 : decode cL_law 652 = .ok (.bipush 9, 2) := by decide +kernel
theorem dL_law_654 : decode cL_law 654 = .ok (.invokevirtual 63, 3) := by decide +kernel
theorem dL_law_657 : decode cL_law 657 = .ok (.iconst 1, 1) := by decide +kernel
theorem dL_law_658 : decode cL_law 658 = .ok (.if_icmp .gt 118, 3) := by decide +kernel
theorem dL_law_661 : decode cL_law 661 = .ok (.aload_n 1, 1) := by decide +kernel
theorem dL_law_662 : decode cL_law 662 = .ok (.iload 16, 2) := by decide +kernel
theorem dL_law_664 : decode cL_law 664 = .ok (.bipush 6, 2) := by decide +kernel
theorem dL_law_666 : decode cL_law 666 = .ok (.invokevirtual 63, 3) := by decide +kernel
theorem dL_law_669 : decode cL_law 669 = .ok (.iconst 1, 1) := by decide +kernel
theorem dL_law_670 : decode cL_law 670 = .ok (.if_icmp .ne 7, 3) := by decide +kernel
theorem dL_law_673 : decode cL_law 673 = .ok (.iconst 1, 1) := by decide +kernel
theorem dL_law_674 : decode cL_law 674 = .ok (.goto 4, 3) := by decide +kernel
theorem dL_law_677 : decode cL_law 677 = .ok (.iconst 0, 1) := by decide +kernel
theorem dL_law_678 : decode cL_law 678 = .ok (.iload 24, 2) := by decide +kernel
theorem dL_law_680 : decode cL_law 680 = .ok (.if_icmp .ne 96, 3) := by decide +kernel
theorem dL_law_683 : decode cL_law 683 = .ok (.aload_n 1, 1) := by decide +kernel
theorem dL_law_684 : decode cL_law 684 = .ok (.iload 16, 2) := by decide +kernel
theorem dL_law_686 : decode cL_law 686 = .ok (.bipush 7, 2) := by decide +kernel
theorem dL_law_688 : decode cL_law 688 = .ok (.invokevirtual 63, 3) := by decide +kernel
theorem dL_law_691 : decode cL_law 691 = .ok (.iconst 1, 1) := by decide +kernel
theorem dL_law_692 : decode cL_law 692 = .ok (.if_icmp .ne 7, 3) := by decide +kernel
theorem dL_law_695 : decode cL_law 695 = .ok (.iconst 1, 1) := by decide +kernel
theorem dL_law_696 : decode cL_law 696 = .ok (.goto 4, 3) := by decide +kernel
theorem dL_law_699 : decode cL_law 699 = .ok (.iconst 0, 1) := by decide +kernel
theorem dL_law_700 : decode cL_law 700 = .ok (.iload 25, 2) := by decide +kernel
theorem dL_law_702 : decode cL_law 702 = .ok (.if_icmp .ne 74, 3) := by decide +kernel
theorem dL_law_705 : decode cL_law 705 = .ok (.aload_n 1, 1) := by decide +kernel
theorem dL_law_706 : decode cL_law 706 = .ok (.iload 16, 2) := by decide +kernel
theorem dL_law_708 : decode cL_law 708 = .ok (.invokevirtual 142, 3) := by decide +kernel
theorem dL_law_711 : decode cL_law 711 = .ok (.iload 26, 2) := by decide +kernel
theorem dL_law_713 : decode cL_law 713 = .ok (.if_icmp .ne 63, 3) := by decide +kernel
theorem dL_law_716 : decode cL_law 716 = .ok (.aload_n 1, 1) := by decide +kernel
theorem dL_law_717 : decode cL_law 717 = .ok (.iload 16, 2) := by decide +kernel
theorem dL_law_719 : decode cL_law 719 = .ok (.invokevirtual 145, 3) := by decide +kernel
theorem dL_law_722 : decode cL_law 722 = .ok (.iload 26, 2) := by decide +kernel
theorem dL_law_724 : decode cL_law 724 = .ok (.if_icmp .ne 52, 3) := by decide +kernel
theorem dL_law_727 : decode cL_law 727 = .ok (.aload_n 1, 1) := by decide +kernel
theorem dL_law_728 : decode cL_law 728 = .ok (.iload 16, 2) := by decide +kernel
theorem dL_law_730 : decode cL_law 730 = .ok (.invokevirtual 148, 3) := by decide +kernel
theorem dL_law_733 : decode cL_law 733 = .ok (.iload 26, 2) := by decide +kernel
theorem dL_law_735 : decode cL_law 735 = .ok (.sipush (-1015), 3) := by decide +kernel
theorem dL_law_738 : decode cL_law 738 = .ok (.if_icmp .ne 9, 3) := by decide +kernel
theorem dL_law_741 : decode cL_law 741 = .ok (.sipush (-1015), 3) := by decide +kernel
theorem dL_law_744 : decode cL_law 744 = .ok (.goto 12, 3) := by decide +kernel
theorem dL_law_747 : decode cL_law 747 = .ok (.iload 26, 2) := by decide +kernel
theorem dL_law_749 : decode cL_law 749 = .ok (.iconst 1, 1) := by decide +kernel
theorem dL_law_750 : decode cL_law 750 = .ok (.iload 19, 2) := by decide +kernel
theorem dL_law_752 : decode cL_law 752 = .ok (.invokestatic 151, 3) := by decide +kernel
theorem dL_law_755 : decode cL_law 755 = .ok (.iadd, 1) := by decide +kernel
theorem dL_law_756 : decode cL_law 756 = .ok (.if_icmp .ne 20, 3) := by decide +kernel
theorem dL_law_759 : decode cL_law 759 = .ok (.iload 21, 2) := by decide +kernel
theorem dL_law_761 : decode cL_law 761 = .ok (.ifCond .lt 17, 3) := by decide +kernel
theorem dL_law_764 : decode cL_law 764 = .ok (.aload_n 1, 1) := by decide +kernel
theorem dL_law_765 : decode cL_law 765 = .ok (.iload 21, 2) := by decide +kernel
theorem dL_law_767 : decode cL_law 767 = .ok (.iconst 0, 1) := by decide +kernel
theorem dL_law_768 : decode cL_law 768 = .ok (.invokevirtual 66, 3) := by decide +kernel
theorem dL_law_771 : decode cL_law 771 = .ok (.iload 16, 2) := by decide +kernel
theorem dL_law_773 : decode cL_law 773 = .ok (.if_icmp .eq 5, 3) := by decide +kernel
theorem dL_law_776 : decode cL_law 776 = .ok (.iconst 0, 1) := by decide +kernel
theorem dL_law_777 : decode cL_law 777 = .ok (.ireturn, 1) := by decide +kernel
theorem dL_law_778 : decode cL_law 778 = .ok (.iconst 0, 1) := by decide +kernel
theorem dL_law_779 : decode cL_law 779 = .ok (.istore 30, 2) := by decide +kernel
theorem dL_law_781 : decode cL_law 781 = .ok (.iload 30, 2) := by decide +kernel
theorem dL_law_783 : decode cL_law 783 = .ok (.iload 16, 2) := by decide +kernel
theorem dL_law_785 : decode cL_law 785 = .ok (.if_icmp .ge 87, 3) := by decide +kernel
theorem dL_law_788 : decode cL_law 788 = .ok (.iload 21, 2) := by decide +kernel
theorem dL_law_790 : decode cL_law 790 = .ok (.ifCond .lt 39, 3) := by decide +kernel
theorem dL_law_793 : decode cL_law 793 = .ok (.aload_n 1, 1) := by decide +kernel
theorem dL_law_794 : decode cL_law 794 = .ok (.iload 30, 2) := by decide +kernel
theorem dL_law_796 : decode cL_law 796 = .ok (.iconst 5, 1) := by decide +kernel
theorem dL_law_797 : decode cL_law 797 = .ok (.invokevirtual 63, 3) := by decide +kernel
theorem dL_law_800 : decode cL_law 800 = .ok (.iload 21, 2) := by decide +kernel
theorem dL_law_802 : decode cL_law 802 = .ok (.if_icmp .eq 25, 3) := by decide +kernel
theorem dL_law_805 : decode cL_law 805 = .ok (.aload_n 1, 1) := by decide +kernel
theorem dL_law_806 : decode cL_law 806 = .ok (.iload 30, 2) := by decide +kernel
theorem dL_law_808 : decode cL_law 808 = .ok (.iconst 5, 1) := by decide +kernel
theorem dL_law_809 : decode cL_law 809 = .ok (.invokevirtual 63, 3) := by decide +kernel
theorem dL_law_812 : decode cL_law 812 = .ok (.ifCond .lt 17, 3) := by decide +kernel
theorem dL_law_815 : decode cL_law 815 = .ok (.aload_n 1, 1) := by decide +kernel
theorem dL_law_816 : decode cL_law 816 = .ok (.iload 30, 2) := by decide +kernel
theorem dL_law_818 : decode cL_law 818 = .ok (.iconst 1, 1) := by decide +kernel
theorem dL_law_819 : decode cL_law 819 = .ok (.invokevirtual 63, 3) := by decide +kernel
theorem dL_law_822 : decode cL_law 822 = .ok (.iload 18, 2) := by decide +kernel
theorem dL_law_824 : decode cL_law 824 = .ok (.if_icmp .ne 5, 3) := by decide +kernel
theorem dL_law_827 : decode cL_law 827 = .ok (.iconst 0, 1) := by decide +kernel
theorem dL_law_828 : decode cL_law 828 = .ok (.ireturn, 1) := by decide +kernel
theorem dL_law_829 : decode cL_law 829 = .ok (.iload 10, 2) := by decide +kernel
theorem dL_law_831 : decode cL_law 831 = .ok (.iload 25, 2) := by decide +kernel
theorem dL_law_833 : decode cL_law 833 = .ok (.ifCond .eq 29, 3) := by decide +kernel
theorem dL_law_836 : decode cL_law 836 = .ok (.iload 9, 2) := by decide +kernel
theorem dL_law_838 : decode cL_law 838 = .ok (.iload 30, 2) := by decide +kernel
theorem dL_law_840 : decode cL_law 840 = .ok (.ishr, 1) := by decide +kernel
theorem dL_law_841 : decode cL_law 841 = .ok (.iconst 1, 1) := by decide +kernel
theorem dL_law_842 : decode cL_law 842 = .ok (.iand, 1) := by decide +kernel
theorem dL_law_843 : decode cL_law 843 = .ok (.iconst 1, 1) := by decide +kernel
theorem dL_law_844 : decode cL_law 844 = .ok (.if_icmp .ne 18, 3) := by decide +kernel
theorem dL_law_847 : decode cL_law 847 = .ok (.iload 18, 2) := by decide +kernel
theorem dL_law_849 : decode cL_law 849 = .ok (.aload_n 1, 1) := by decide +kernel
theorem dL_law_850 : decode cL_law 850 = .ok (.iload 30, 2) := by decide +kernel
theorem dL_law_852 : decode cL_law 852 = .ok (.iconst 1, 1) := by decide +kernel
theorem dL_law_853 : decode cL_law 853 = .ok (.invokevirtual 63, 3) := by decide +kernel
theorem dL_law_856 : decode cL_law 856 = .ok (.invokestatic 154, 3) := by decide +kernel
theorem dL_law_859 : decode cL_law 859 = .ok (.goto 4, 3) := by decide +kernel
theorem dL_law_862 : decode cL_law 862 = .ok (.iconst 0, 1) := by decide +kernel
theorem dL_law_863 : decode cL_law 863 = .ok (.iadd, 1) := by decide +kernel
theorem dL_law_864 : decode cL_law 864 = .ok (.istore 10, 2) := by decide +kernel
theorem dL_law_866 : decode cL_law 866 = .ok (.iinc 30 1, 3) := by decide +kernel
theorem dL_law_869 : decode cL_law 869 = .ok (.goto (-88), 3) := by decide +kernel
theorem dL_law_872 : decode cL_law 872 = .ok (.iinc 16 1, 3) := by decide +kernel
theorem dL_law_875 : decode cL_law 875 = .ok (.goto (-766), 3) := by decide +kernel
theorem dL_law_878 : decode cL_law 878 = .ok (.iconst 0, 1) := by decide +kernel
theorem dL_law_879 : decode cL_law 879 = .ok (.istore 16, 2) := by decide +kernel
theorem dL_law_881 : decode cL_law 881 = .ok (.bipush (-100), 2) := by decide +kernel
theorem dL_law_883 : decode cL_law 883 = .ok (.istore 17, 2) := by decide +kernel
theorem dL_law_885 : decode cL_law 885 = .ok (.iconst 1, 1) := by decide +kernel
theorem dL_law_886 : decode cL_law 886 = .ok (.istore 18, 2) := by decide +kernel
theorem dL_law_888 : decode cL_law 888 = .ok (.iload 18, 2) := by decide +kernel
theorem dL_law_890 : decode cL_law 890 = .ok (.bipush 13, 2) := by decide +kernel
theorem dL_law_892 : decode cL_law 892 = .ok (.if_icmp .ge 105, 3) := by decide +kernel
theorem dL_law_895 : decode cL_law 895 = .ok (.iconst 0, 1) := by decide +kernel
theorem dL_law_896 : decode cL_law 896 = .ok (.istore 19, 2) := by decide +kernel
theorem dL_law_898 : decode cL_law 898 = .ok (.iconst 1, 1) := by decide +kernel
theorem dL_law_899 : decode cL_law 899 = .ok (.istore 20, 2) := by decide +kernel
theorem dL_law_901 : decode cL_law 901 = .ok (.iconst 0, 1) := by decide +kernel
theorem dL_law_902 : decode cL_law 902 = .ok (.istore 21, 2) := by decide +kernel
theorem dL_law_904 : decode cL_law 904 = .ok (.iload 21, 2) := by decide +kernel
theorem dL_law_906 : decode cL_law 906 = .ok (.iload_n 3, 1) := by decide +kernel
theorem dL_law_907 : decode cL_law 907 = .ok (.if_icmp .ge 61, 3) := by decide +kernel
theorem dL_law_910 : decode cL_law 910 = .ok (.iload 9, 2) := by decide +kernel
theorem dL_law_912 : decode cL_law 912 = .ok (.iload 21, 2) := by decide +kernel
theorem dL_law_914 : decode cL_law 914 = .ok (.ishr, 1) := by decide +kernel
theorem dL_law_915 : decode cL_law 915 = .ok (.iconst 1, 1) := by decide +kernel
theorem dL_law_916 : decode cL_law 916 = .ok (.iand, 1) := by decide +kernel
theorem dL_law_917 : decode cL_law 917 = .ok (.ifCond .ne 6, 3) := by decide +kernel
theorem dL_law_920 : decode cL_law 920 = .ok (.goto 42, 3) := by decide +kernel
theorem dL_law_923 : decode cL_law 923 = .ok (.iload 20, 2) := by decide +kernel
theorem dL_law_925 : decode cL_law 925 = .ok (.aload_n 1, 1) := by decide +kernel
theorem dL_law_926 : decode cL_law 926 = .ok (.iload 21, 2) := by decide +kernel
theorem dL_law_928 : decode cL_law 928 = .ok (.iconst 1, 1) := by decide +kernel
theorem dL_law_929 : decode cL_law 929 = .ok (.invokevirtual 63, 3) := by decide +kernel
theorem dL_law_932 : decode cL_law 932 = .ok (.iload 18, 2) := by decide +kernel
theorem dL_law_934 : decode cL_law 934 = .ok (.if_icmp .eq 7, 3) := by decide +kernel
theorem dL_law_937 : decode cL_law 937 = .ok (.iconst 1, 1) := by decide +kernel
theorem dL_law_938 : decode cL_law 938 = .ok (.goto 4, 3) := by decide +kernel
theorem dL_law_941 : decode cL_law 941 = .ok (.iconst 0, 1) := by decide +kernel
theorem dL_law_942 : decode cL_law 942 = .ok (.iand, 1) := by decide +kernel
theorem dL_law_943 : decode cL_law 943 = .ok (.istore 20, 2) := by decide +kernel
theorem dL_law_945 : decode cL_law 945 = .ok (.iload 19, 2) := by decide +kernel
theorem dL_law_947 : decode cL_law 947 = .ok (.iload 18, 2) := by decide +kernel
theorem dL_law_949 : decode cL_law 949 = .ok (.aload_n 1, 1) := by decide +kernel
theorem dL_law_950 : decode cL_law 950 = .ok (.iload 21, 2) := by decide +kernel
theorem dL_law_952 : decode cL_law 952 = .ok (.iconst 1, 1) := by decide +kernel
theorem dL_law_953 : decode cL_law 953 = .ok (.invokevirtual 63, 3) := by decide +kernel
theorem dL_law_956 : decode cL_law 956 = .ok (.invokestatic 154, 3) := by decide +kernel
theorem dL_law_959 : decode cL_law 959 = .ok (.iadd, 1) := by decide +kernel
theorem dL_law_960 : decode cL_law 960 = .ok (.istore 19, 2) := by decide +kernel
theorem dL_law_962 : decode cL_law 962 = .ok (.iinc 21 1, 3) := by decide +kernel
theorem dL_law_965 : decode cL_law 965 = .ok (.goto (-61), 3) := by decide +kernel
theorem dL_law_968 : decode cL_law 968 = .ok (.iload 20, 2) := by decide +kernel
theorem dL_law_970 : decode cL_law 970 = .ok (.ifCond .eq 21, 3) := by decide +kernel
theorem dL_law_973 : decode cL_law 973 = .ok (.iload 19, 2) := by decide +kernel
theorem dL_law_975 : decode cL_law 975 = .ok (.iload 17, 2) := by decide +kernel
theorem dL_law_977 : decode cL_law 977 = .ok (.if_icmp .gt 6, 3) := by decide +kernel
theorem dL_law_980 : decode cL_law 980 = .ok (.goto 11, 3) := by decide +kernel
theorem dL_law_983 : decode cL_law 983 = .ok (.iload 18, 2) := by decide +kernel
theorem dL_law_985 : decode cL_law 985 = .ok (.istore 16, 2) := by decide +kernel
theorem dL_law_987 : decode cL_law 987 = .ok (.iload 19, 2) := by decide +kernel
theorem dL_law_989 : decode cL_law 989 = .ok (.istore 17, 2) := by decide +kernel
theorem dL_law_991 : decode cL_law 991 = .ok (.iinc 18 1, 3) := by decide +kernel
theorem dL_law_994 : decode cL_law 994 = .ok (.goto (-106), 3) := by decide +kernel
theorem dL_law_997 : decode cL_law 997 = .ok (.ldc 124, 2) := by decide +kernel
theorem dL_law_999 : decode cL_law 999 = .ok (.astore 18, 2) := by decide +kernel
theorem dL_law_1001 : decode cL_law 1001 = .ok (.iconst 0, 1) := by decide +kernel
theorem dL_law_1002 : decode cL_law 1002 = .ok (.istore 19, 2) := by decide +kernel
theorem dL_law_1004 : decode cL_law 1004 = .ok (.iload 19, 2) := by decide +kernel
theorem dL_law_1006 : decode cL_law 1006 = .ok (.bipush 6, 2) := by decide +kernel
theorem dL_law_1008 : decode cL_law 1008 = .ok (.if_icmp .ge 102, 3) := by decide +kernel
theorem dL_law_1011 : decode cL_law 1011 = .ok (.aload_n 1, 1) := by decide +kernel
theorem dL_law_1012 : decode cL_law 1012 = .ok (.iload 19, 2) := by decide +kernel
theorem dL_law_1014 : decode cL_law 1014 = .ok (.iconst 0, 1) := by decide +kernel
theorem dL_law_1015 : decode cL_law 1015 = .ok (.invokevirtual 66, 3) := by decide +kernel
theorem dL_law_1018 : decode cL_law 1018 = .ok (.istore 20, 2) := by decide +kernel
theorem dL_law_1020 : decode cL_law 1020 = .ok (.new 104, 3) := by decide +kernel
theorem dL_law_1023 : decode cL_law 1023 = .ok (.dup, 1) := by decide +kernel
theorem dL_law_1024 : decode cL_law 1024 = .ok (.invokespecial 106, 3) := by decide +kernel
theorem dL_law_1027 : decode cL_law 1027 = .ok (.aload 18, 2) := by decide +kernel
theorem dL_law_1029 : decode cL_law 1029 = .ok (.invokevirtual 113, 3) := by decide +kernel
theorem dL_law_1032 : decode cL_law 1032 = .ok (.aload_n 1, 1) := by decide +kernel
theorem dL_law_1033 : decode cL_law 1033 = .ok (.iload 19, 2) := by decide +kernel
theorem dL_law_1035 : decode cL_law 1035 = .ok (.iconst 1, 1) := by decide +kernel
theorem dL_law_1036 : decode cL_law 1036 = .ok (.invokevirtual 66, 3) := by decide +kernel
theorem dL_law_1039 : decode cL_law 1039 = .ok (.invokevirtual 107, 3) := by decide +kernel
theorem dL_law_1042 : decode cL_law 1042 = .ok (.iload 20, 2) := by decide +kernel
theorem dL_law_1044 : decode cL_law 1044 = .ok (.ifCond .ge 8, 3) := by decide +kernel
theorem dL_law_1047 : decode cL_law 1047 = .ok (.ldc 124, 2) := by decide +kernel
theorem dL_law_1049 : decode cL_law 1049 = .ok (.goto 28, 3) := by decide +kernel
theorem dL_law_1052 : decode cL_law 1052 = .ok (.new 104, 3) := by decide +kernel
theorem dL_law_1055 : decode cL_law 1055 = .ok (.dup, 1) := by decide +kernel
theorem dL_law_1056 : decode cL_law 1056 = .ok (.invokespecial 106, 3) := by decide +kernel
theorem dL_law_1059 : decode cL_law 1059 = .ok (.ldc 157, 2) := by decide +kernel
theorem dL_law_1061 : decode cL_law 1061 = .ok (.invokevirtual 113, 3) := by decide +kernel
theorem dL_law_1064 : decode cL_law 1064 = .ok (.iload 20, 2) := by decide +kernel
theorem dL_law_1066 : decode cL_law 1066 = .ok (.invokevirtual 107, 3) := by decide +kernel
theorem dL_law_1069 : decode cL_law 1069 = .ok (.ldc 159, 2) := by decide +kernel
theorem dL_law_1071 : decode cL_law 1071 = .ok (.invokevirtual 113, 3) := by decide +kernel
theorem dL_law_1074 : decode cL_law 1074 = .ok (.invokevirtual 130, 3) := by decide +kernel
theorem dL_law_1077 : decode cL_law 1077 = .ok (.invokevirtual 113, 3) := by decide +kernel
theorem dL_law_1080 : decode cL_law 1080 = .ok (.invokevirtual 130, 3) := by decide +kernel
theorem dL_law_1083 : decode cL_law 1083 = .ok (.astore 18, 2) := by decide +kernel
theorem dL_law_1085 : decode cL_law 1085 = .ok (.iload 20, 2) := by decide +kernel
theorem dL_law_1087 : decode cL_law 1087 = .ok (.ifCond .lt 17, 3) := by decide +kernel
theorem dL_law_1090 : decode cL_law 1090 = .ok (.aload_n 1, 1) := by decide +kernel
theorem dL_law_1091 : decode cL_law 1091 = .ok (.iload 20, 2) := by decide +kernel
theorem dL_law_1093 : decode cL_law 1093 = .ok (.iconst 5, 1) := by decide +kernel
theorem dL_law_1094 : decode cL_law 1094 = .ok (.invokevirtual 63, 3) := by decide +kernel
theorem dL_law_1097 : decode cL_law 1097 = .ok (.iload 19, 2) := by decide +kernel
theorem dL_law_1099 : decode cL_law 1099 = .ok (.if_icmp .eq 5, 3) := by decide +kernel
theorem dL_law_1102 : decode cL_law 1102 = .ok (.iconst 0, 1) := by decide +kernel
theorem dL_law_1103 : decode cL_law 1103 = .ok (.ireturn, 1) := by decide +kernel
theorem dL_law_1104 : decode cL_law 1104 = .ok (.iinc 19 1, 3) := by decide +kernel
theorem dL_law_1107 : decode cL_law 1107 = .ok (.goto (-103), 3) := by decide +kernel
theorem dL_law_1110 : decode cL_law 1110 = .ok (.iconst 0, 1) := by decide +kernel
theorem dL_law_1111 : decode cL_law 1111 = .ok (.istore 19, 2) := by decide +kernel
theorem dL_law_1113 : decode cL_law 1113 = .ok (.iload 19, 2) := by decide +kernel
theorem dL_law_1115 : decode cL_law 1115 = .ok (.iconst 4, 1) := by decide +kernel
theorem dL_law_1116 : decode cL_law 1116 = .ok (.if_icmp .ge 89, 3) := by decide +kernel
theorem dL_law_1119 : decode cL_law 1119 = .ok (.iload 11, 2) := by decide +kernel
theorem dL_law_1121 : decode cL_law 1121 = .ok (.aload_n 1, 1) := by decide +kernel
theorem dL_law_1122 : decode cL_law 1122 = .ok (.iload 19, 2) := by decide +kernel
theorem dL_law_1124 : decode cL_law 1124 = .ok (.iconst 0, 1) := by decide +kernel
theorem dL_law_1125 : decode cL_law 1125 = .ok (.invokevirtual 161, 3) := by decide +kernel
theorem dL_law_1128 : decode cL_law 1128 = .ok (.iadd, 1) := by decide +kernel
theorem dL_law_1129 : decode cL_law 1129 = .ok (.istore 11, 2) := by decide +kernel
theorem dL_law_1131 : decode cL_law 1131 = .ok (.iload 12, 2) := by decide +kernel
theorem dL_law_1133 : decode cL_law 1133 = .ok (.aload_n 1, 1) := by decide +kernel
theorem dL_law_1134 : decode cL_law 1134 = .ok (.iload 19, 2) := by decide +kernel
theorem dL_law_1136 : decode cL_law 1136 = .ok (.iconst 4, 1) := by decide +kernel
theorem dL_law_1137 : decode cL_law 1137 = .ok (.invokevirtual 161, 3) := by decide +kernel
theorem dL_law_1140 : decode cL_law 1140 = .ok (.iadd, 1) := by decide +kernel
theorem dL_law_1141 : decode cL_law 1141 = .ok (.istore 12, 2) := by decide +kernel
theorem dL_law_1143 : decode cL_law 1143 = .ok (.aload_n 1, 1) := by decide +kernel
theorem dL_law_1144 : decode cL_law 1144 = .ok (.iload 19, 2) := by decide +kernel
theorem dL_law_1146 : decode cL_law 1146 = .ok (.iconst 1, 1) := by decide +kernel
theorem dL_law_1147 : decode cL_law 1147 = .ok (.invokevirtual 161, 3) := by decide +kernel
theorem dL_law_1150 : decode cL_law 1150 = .ok (.aload 13, 2) := by decide +kernel
theorem dL_law_1152 : decode cL_law 1152 = .ok (.iload 19, 2) := by decide +kernel
theorem dL_law_1154 : decode cL_law 1154 = .ok (.iaload, 1) := by decide +kernel
theorem dL_law_1155 : decode cL_law 1155 = .ok (.if_icmp .ne 42, 3) := by decide +kernel
theorem dL_law_1158 : decode cL_law 1158 = .ok (.aload 13, 2) := by decide +kernel
theorem dL_law_1160 : decode cL_law 1160 = .ok (.iload 19, 2) := by decide +kernel
theorem dL_law_1162 : decode cL_law 1162 = .ok (.iaload, 1) := by decide +kernel
theorem dL_law_1163 : decode cL_law 1163 = .ok (.iconst 4, 1) := by decide +kernel
theorem dL_law_1164 : decode cL_law 1164 = .ok (.if_icmp .gt 33, 3) := by decide +kernel
theorem dL_law_1167 : decode cL_law 1167 = .ok (.aload_n 1, 1) := by decide +kernel
theorem dL_law_1168 : decode cL_law 1168 = .ok (.iload 19, 2) := by decide +kernel
theorem dL_law_1170 : decode cL_law 1170 = .ok (.iconst 2, 1) := by decide +kernel
theorem dL_law_1171 : decode cL_law 1171 = .ok (.invokevirtual 161, 3) := by decide +kernel
theorem dL_law_1174 : decode cL_law 1174 = .ok (.aload 14, 2) := by decide +kernel
theorem dL_law_1176 : decode cL_law 1176 = .ok (.iload 19, 2) := by decide +kernel
theorem dL_law_1178 : decode cL_law 1178 = .ok (.iaload, 1) := by decide +kernel
theorem dL_law_1179 : decode cL_law 1179 = .ok (.if_icmp .ne 18, 3) := by decide +kernel
theorem dL_law_1182 : decode cL_law 1182 = .ok (.aload_n 1, 1) := by decide +kernel
theorem dL_law_1183 : decode cL_law 1183 = .ok (.iload 19, 2) := by decide +kernel
theorem dL_law_1185 : decode cL_law 1185 = .ok (.iconst 3, 1) := by decide +kernel
theorem dL_law_1186 : decode cL_law 1186 = .ok (.invokevirtual 161, 3) := by decide +kernel
theorem dL_law_1189 : decode cL_law 1189 = .ok (.aload 15, 2) := by decide +kernel
theorem dL_law_1191 : decode cL_law 1191 = .ok (.iload 19, 2) := by decide +kernel
theorem dL_law_1193 : decode cL_law 1193 = .ok (.iaload, 1) := by decide +kernel
theorem dL_law_1194 : decode cL_law 1194 = .ok (.if_icmp .eq 5, 3) := by decide +kernel
theorem dL_law_1197 : decode cL_law 1197 = .ok (.iconst 0, 1) := by decide +kernel
theorem dL_law_1198 : decode cL_law 1198 = .ok (.ireturn, 1) := by decide +kernel
theorem dL_law_1199 : decode cL_law 1199 = .ok (.iinc 19 1, 3) := by decide +kernel
theorem dL_law_1202 : decode cL_law 1202 = .ok (.goto (-89), 3) := by decide +kernel
theorem dL_law_1205 : decode cL_law 1205 = .ok (.aload_n 1, 1) := by decide +kernel
theorem dL_law_1206 : decode cL_law 1206 = .ok (.aload_n 1, 1) := by decide +kernel
theorem dL_law_1207 : decode cL_law 1207 = .ok (.invokevirtual 164, 3) := by decide +kernel
theorem dL_law_1210 : decode cL_law 1210 = .ok (.aload 18, 2) := by decide +kernel
theorem dL_law_1212 : decode cL_law 1212 = .ok (.invokestatic 138, 3) := by decide +kernel
theorem dL_law_1215 : decode cL_law 1215 = .ok (.ifCond .eq 201, 3) := by decide +kernel
theorem dL_law_1218 : decode cL_law 1218 = .ok (.aload_n 1, 1) := by decide +kernel
theorem dL_law_1219 : decode cL_law 1219 = .ok (.invokevirtual 167, 3) := by decide +kernel
theorem dL_law_1222 : decode cL_law 1222 = .ok (.iload 9, 2) := by decide +kernel
theorem dL_law_1224 : decode cL_law 1224 = .ok (.if_icmp .ne 192, 3) := by decide +kernel
theorem dL_law_1227 : decode cL_law 1227 = .ok (.aload_n 1, 1) := by decide +kernel
theorem dL_law_1228 : decode cL_law 1228 = .ok (.invokevirtual 170, 3) := by decide +kernel
theorem dL_law_1231 : decode cL_law 1231 = .ok (.iload 10, 2) := by decide +kernel
theorem dL_law_1233 : decode cL_law 1233 = .ok (.if_icmp .ne 183, 3) := by decide +kernel
theorem dL_law_1236 : decode cL_law 1236 = .ok (.aload_n 1, 1) := by decide +kernel
theorem dL_law_1237 : decode cL_law 1237 = .ok (.invokevirtual 173, 3) := by decide +kernel
theorem dL_law_1240 : decode cL_law 1240 = .ok (.iload 10, 2) := by decide +kernel
theorem dL_law_1242 : decode cL_law 1242 = .ok (.if_icmp .ne 174, 3) := by decide +kernel
theorem dL_law_1245 : decode cL_law 1245 = .ok (.aload_n 1, 1) := by decide +kernel
theorem dL_law_1246 : decode cL_law 1246 = .ok (.invokevirtual 176, 3) := by decide +kernel
theorem dL_law_1249 : decode cL_law 1249 = .ok (.iload 16, 2) := by decide +kernel
theorem dL_law_1251 : decode cL_law 1251 = .ok (.if_icmp .ne 165, 3) := by decide +kernel
theorem dL_law_1254 : decode cL_law 1254 = .ok (.aload_n 1, 1) := by decide +kernel
theorem dL_law_1255 : decode cL_law 1255 = .ok (.invokevirtual 179, 3) := by decide +kernel
theorem dL_law_1258 : decode cL_law 1258 = .ok (.iconst 1, 1) := by decide +kernel
theorem dL_law_1259 : decode cL_law 1259 = .ok (.if_icmp .ne 157, 3) := by decide +kernel
theorem dL_law_1262 : decode cL_law 1262 = .ok (.aload_n 1, 1) := by decide +kernel
theorem dL_law_1263 : decode cL_law 1263 = .ok (.iconst 4, 1) := by decide +kernel
theorem dL_law_1264 : decode cL_law 1264 = .ok (.invokevirtual 182, 3) := by decide +kernel
theorem dL_law_1267 : decode cL_law 1267 = .ok (.sipush (-1011), 3) := by decide +kernel
theorem dL_law_1270 : decode cL_law 1270 = .ok (.if_icmp .ne 146, 3) := by decide +kernel
theorem dL_law_1273 : decode cL_law 1273 = .ok (.aload_n 1, 1) := by decide +kernel
theorem dL_law_1274 : decode cL_law 1274 = .ok (.iload_n 3, 1) := by decide +kernel
theorem dL_law_1275 : decode cL_law 1275 = .ok (.invokevirtual 185, 3) := by decide +kernel
theorem dL_law_1278 : decode cL_law 1278 = .ok (.sipush (-1011), 3) := by decide +kernel
theorem dL_law_1281 : decode cL_law 1281 = .ok (.if_icmp .ne 135, 3) := by decide +kernel
theorem dL_law_1284 : decode cL_law 1284 = .ok (.aload_n 1, 1) := by decide +kernel
theorem dL_law_1285 : decode cL_law 1285 = .ok (.iconst 1, 1) := by decide +kernel
theorem dL_law_1286 : decode cL_law 1286 = .ok (.invokevirtual 45, 3) := by decide +kernel
theorem dL_law_1289 : decode cL_law 1289 = .ok (.iload 4, 2) := by decide +kernel
theorem dL_law_1291 : decode cL_law 1291 = .ok (.if_icmp .ne 125, 3) := by decide +kernel
theorem dL_law_1294 : decode cL_law 1294 = .ok (.aload_n 1, 1) := by decide +kernel
theorem dL_law_1295 : decode cL_law 1295 = .ok (.iconst 2, 1) := by decide +kernel
theorem dL_law_1296 : decode cL_law 1296 = .ok (.invokevirtual 45, 3) := by decide +kernel
theorem dL_law_1299 : decode cL_law 1299 = .ok (.iload 5, 2) := by decide +kernel
theorem dL_law_1301 : decode cL_law 1301 = .ok (.if_icmp .ne 115, 3) := by decide +kernel
theorem dL_law_1304 : decode cL_law 1304 = .ok (.aload_n 1, 1) := by decide +kernel
theorem dL_law_1305 : decode cL_law 1305 = .ok (.iconst 3, 1) := by decide +kernel
theorem dL_law_1306 : decode cL_law 1306 = .ok (.invokevirtual 45, 3) := by decide +kernel
theorem dL_law_1309 : decode cL_law 1309 = .ok (.iload 6, 2) := by decide +kernel
theorem dL_law_1311 : decode cL_law 1311 = .ok (.if_icmp .ne 105, 3) := by decide +kernel
theorem dL_law_1314 : decode cL_law 1314 = .ok (.aload_n 1, 1) := by decide +kernel
theorem dL_law_1315 : decode cL_law 1315 = .ok (.iconst 4, 1) := by decide +kernel
theorem dL_law_1316 : decode cL_law 1316 = .ok (.invokevirtual 45, 3) := by decide +kernel
theorem dL_law_1319 : decode cL_law 1319 = .ok (.iload 7, 2) := by decide +kernel
theorem dL_law_1321 : decode cL_law 1321 = .ok (.if_icmp .ne 95, 3) := by decide +kernel
theorem dL_law_1324 : decode cL_law 1324 = .ok (.aload_n 1, 1) := by decide +kernel
theorem dL_law_1325 : decode cL_law 1325 = .ok (.bipush 6, 2) := by decide +kernel
theorem dL_law_1327 : decode cL_law 1327 = .ok (.invokevirtual 45, 3) := by decide +kernel
theorem dL_law_1330 : decode cL_law 1330 = .ok (.iload 8, 2) := by decide +kernel
theorem dL_law_1332 : decode cL_law 1332 = .ok (.if_icmp .ne 84, 3) := by decide +kernel
theorem dL_law_1335 : decode cL_law 1335 = .ok (.aload_n 1, 1) := by decide +kernel
theorem dL_law_1336 : decode cL_law 1336 = .ok (.bipush 7, 2) := by decide +kernel
theorem dL_law_1338 : decode cL_law 1338 = .ok (.invokevirtual 45, 3) := by decide +kernel
theorem dL_law_1341 : decode cL_law 1341 = .ok (.iload 8, 2) := by decide +kernel
theorem dL_law_1343 : decode cL_law 1343 = .ok (.aload_n 1, 1) := by decide +kernel
theorem dL_law_1344 : decode cL_law 1344 = .ok (.bipush 8, 2) := by decide +kernel
theorem dL_law_1346 : decode cL_law 1346 = .ok (.invokevirtual 45, 3) := by decide +kernel
theorem dL_law_1349 : decode cL_law 1349 = .ok (.iadd, 1) := by decide +kernel
theorem dL_law_1350 : decode cL_law 1350 = .ok (.if_icmp .ne 66, 3) := by decide +kernel
theorem dL_law_1353 : decode cL_law 1353 = .ok (.aload_n 1, 1) := by decide +kernel
theorem dL_law_1354 : decode cL_law 1354 = .ok (.bipush 9, 2) := by decide +kernel
theorem dL_law_1356 : decode cL_law 1356 = .ok (.invokevirtual 45, 3) := by decide +kernel
theorem dL_law_1359 : decode cL_law 1359 = .ok (.iload 12, 2) := by decide +kernel
theorem dL_law_1361 : decode cL_law 1361 = .ok (.if_icmp .ne 55, 3) := by decide +kernel
theorem dL_law_1364 : decode cL_law 1364 = .ok (.aload_n 1, 1) := by decide +kernel
theorem dL_law_1365 : decode cL_law 1365 = .ok (.bipush 10, 2) := by decide +kernel
theorem dL_law_1367 : decode cL_law 1367 = .ok (.invokevirtual 45, 3) := by decide +kernel
theorem dL_law_1370 : decode cL_law 1370 = .ok (.iload 11, 2) := by decide +kernel
theorem dL_law_1372 : decode cL_law 1372 = .ok (.if_icmp .ne 44, 3) := by decide +kernel
theorem dL_law_1375 : decode cL_law 1375 = .ok (.aload_n 1, 1) := by decide +kernel
theorem dL_law_1376 : decode cL_law 1376 = .ok (.invokevirtual 188, 3) := by decide +kernel
theorem dL_law_1379 : decode cL_law 1379 = .ok (.iload 8, 2) := by decide +kernel
theorem dL_law_1381 : decode cL_law 1381 = .ok (.i2d, 1) := by decide +kernel
theorem dL_law_1382 : decode cL_law 1382 = .ok (.iload_n 3, 1) := by decide +kernel
theorem dL_law_1383 : decode cL_law 1383 = .ok (.i2d, 1) := by decide +kernel
theorem dL_law_1384 : decode cL_law 1384 = .ok (.ddiv, 1) := by decide +kernel
theorem dL_law_1385 : decode cL_law 1385 = .ok (.dcmp .l, 1) := by decide +kernel
theorem dL_law_1386 : decode cL_law 1386 = .ok (.ifCond .ne 30, 3) := by decide +kernel
theorem dL_law_1389 : decode cL_law 1389 = .ok (.aload_n 1, 1) := by decide +kernel
theorem dL_law_1390 : decode cL_law 1390 = .ok (.invokevirtual 192, 3) := by decide +kernel
theorem dL_law_1393 : decode cL_law 1393 = .ok (.iload 4, 2) := by decide +kernel
theorem dL_law_1395 : decode cL_law 1395 = .ok (.ifCond .ne 7, 3) := by decide +kernel
theorem dL_law_1398 : decode cL_law 1398 = .ok (.fconst 0, 1) := by decide +kernel
theorem dL_law_1399 : decode cL_law 1399 = .ok (.goto 13, 3) := by decide +kernel
theorem dL_law_1402 : decode cL_law 1402 = .ok (.iload 9, 2) := by decide +kernel
theorem dL_law_1404 : decode cL_law 1404 = .ok (.invokestatic 196, 3) := by decide +kernel
theorem dL_law_1407 : decode cL_law 1407 = .ok (.i2f, 1) := by decide +kernel
theorem dL_law_1408 : decode cL_law 1408 = .ok (.iload 4, 2) := by decide +kernel
theorem dL_law_1410 : decode cL_law 1410 = .ok (.i2f, 1) := by decide +kernel
theorem dL_law_1411 : decode cL_law 1411 = .ok (.fdiv, 1) := by decide +kernel
theorem dL_law_1412 : decode cL_law 1412 = .ok (.fcmp .l, 1) := by decide +kernel
theorem dL_law_1413 : decode cL_law 1413 = .ok (.ifCond .eq 5, 3) := by decide +kernel
theorem dL_law_1416 : decode cL_law 1416 = .ok (.iconst 0, 1) := by decide +kernel
theorem dL_law_1417 : decode cL_law 1417 = .ok (.ireturn, 1) := by decide +kernel
theorem dL_law_1418 : decode cL_law 1418 = .ok (.iconst 1, 1) := by decide +kernel
theorem dL_law_1419 : decode cL_law 1419 = .ok (.istore 19, 2) := by decide +kernel
theorem dL_law_1421 : decode cL_law 1421 = .ok (.iload 19, 2) := by decide +kernel
theorem dL_law_1423 : decode cL_law 1423 = .ok (.iconst 4, 1) := by decide +kernel
theorem dL_law_1424 : decode cL_law 1424 = .ok (.if_icmp .ge 86, 3) := by decide +kernel
theorem dL_law_1427 : decode cL_law 1427 = .ok (.aload_n 1, 1) := by decide +kernel
theorem dL_law_1428 : decode cL_law 1428 = .ok (.iload 19, 2) := by decide +kernel
theorem dL_law_1430 : decode cL_law 1430 = .ok (.iconst 1, 1) := by decide +kernel
theorem dL_law_1431 : decode cL_law 1431 = .ok (.isub, 1) := by decide +kernel
theorem dL_law_1432 : decode cL_law 1432 = .ok (.invokevirtual 182, 3) := by decide +kernel
theorem dL_law_1435 : decode cL_law 1435 = .ok (.istore 20, 2) := by decide +kernel
theorem dL_law_1437 : decode cL_law 1437 = .ok (.aload_n 1, 1) := by decide +kernel
theorem dL_law_1438 : decode cL_law 1438 = .ok (.iload 19, 2) := by decide +kernel
theorem dL_law_1440 : decode cL_law 1440 = .ok (.invokevirtual 182, 3) := by decide +kernel
theorem dL_law_1443 : decode cL_law 1443 = .ok (.istore 21, 2) := by decide +kernel
theorem dL_law_1445 : decode cL_law 1445 = .ok (.aload_n 1, 1) := by decide +kernel
theorem dL_law_1446 : decode cL_law 1446 = .ok (.iload 20, 2) := by decide +kernel
theorem dL_law_1448 : decode cL_law 1448 = .ok (.iconst 0, 1) := by decide +kernel
theorem dL_law_1449 : decode cL_law 1449 = .ok (.invokevirtual 161, 3) := by decide +kernel
theorem dL_law_1452 : decode cL_law 1452 = .ok (.aload_n 1, 1) := by decide +kernel
theorem dL_law_1453 : decode cL_law 1453 = .ok (.iload 21, 2) := by decide +kernel
theorem dL_law_1455 : decode cL_law 1455 = .ok (.iconst 0, 1) := by decide +kernel
theorem dL_law_1456 : decode cL_law 1456 = .ok (.invokevirtual 161, 3) := by decide +kernel
theorem dL_law_1459 : decode cL_law 1459 = .ok (.isub, 1) := by decide +kernel
theorem dL_law_1460 : decode cL_law 1460 = .ok (.istore 22, 2) := by decide +kernel
theorem dL_law_1462 : decode cL_law 1462 = .ok (.aload 13, 2) := by decide +kernel
theorem dL_law_1464 : decode cL_law 1464 = .ok (.iload 20, 2) := by decide +kernel
theorem dL_law_1466 : decode cL_law 1466 = .ok (.iaload, 1) := by decide +kernel
theorem dL_law_1467 : decode cL_law 1467 = .ok (.aload 13, 2) := by decide +kernel
theorem dL_law_1469 : decode cL_law 1469 = .ok (.iload 21, 2) := by decide +kernel
theorem dL_law_1471 : decode cL_law 1471 = .ok (.iaload, 1) := by decide +kernel
theorem dL_law_1472 : decode cL_law 1472 = .ok (.isub, 1) := by decide +kernel
theorem dL_law_1473 : decode cL_law 1473 = .ok (.istore 23, 2) := by decide +kernel
theorem dL_law_1475 : decode cL_law 1475 = .ok (.iload 22, 2) := by decide +kernel
theorem dL_law_1477 : decode cL_law 1477 = .ok (.ifCond .lt 25, 3) := by decide +kernel
theorem dL_law_1480 : decode cL_law 1480 = .ok (.iload 22, 2) := by decide +kernel
theorem dL_law_1482 : decode cL_law 1482 = .ok (.ifCond .ne 22, 3) := by decide +kernel
theorem dL_law_1485 : decode cL_law 1485 = .ok (.iload 23, 2) := by decide +kernel
theorem dL_law_1487 : decode cL_law 1487 = .ok (.ifCond .lt 15, 3) := by decide +kernel
theorem dL_law_1490 : decode cL_law 1490 = .ok (.iload 23, 2) := by decide +kernel
theorem dL_law_1492 : decode cL_law 1492 = .ok (.ifCond .ne 12, 3) := by decide +kernel
theorem dL_law_1495 : decode cL_law 1495 = .ok (.iload 20, 2) := by decide +kernel
theorem dL_law_1497 : decode cL_law 1497 = .ok (.iload 21, 2) := by decide +kernel
theorem dL_law_1499 : decode cL_law 1499 = .ok (.if_icmp .le 5, 3) := by decide +kernel
theorem dL_law_1502 : decode cL_law 1502 = .ok (.iconst 0, 1) := by decide +kernel
theorem dL_law_1503 : decode cL_law 1503 = .ok (.ireturn, 1) := by decide +kernel
theorem dL_law_1504 : decode cL_law 1504 = .ok (.iinc 19 1, 3) := by decide +kernel
theorem dL_law_1507 : decode cL_law 1507 = .ok (.goto (-86), 3) := by decide +kernel
theorem dL_law_1510 : decode cL_law 1510 = .ok (.iconst 1, 1) := by decide +kernel
theorem dL_law_1511 : decode cL_law 1511 = .ok (.istore 19, 2) := by decide +kernel
theorem dL_law_1513 : decode cL_law 1513 = .ok (.iload 19, 2) := by decide +kernel
theorem dL_law_1515 : decode cL_law 1515 = .ok (.iload_n 3, 1) := by decide +kernel
theorem dL_law_1516 : decode cL_law 1516 = .ok (.if_icmp .ge 90, 3) := by decide +kernel
theorem dL_law_1519 : decode cL_law 1519 = .ok (.aload_n 1, 1) := by decide +kernel
theorem dL_law_1520 : decode cL_law 1520 = .ok (.iload 19, 2) := by decide +kernel
theorem dL_law_1522 : decode cL_law 1522 = .ok (.iconst 1, 1) := by decide +kernel
theorem dL_law_1523 : decode cL_law 1523 = .ok (.isub, 1) := by decide +kernel
theorem dL_law_1524 : decode cL_law 1524 = .ok (.invokevirtual 185, 3) := by decide +kernel
theorem dL_law_1527 : decode cL_law 1527 = .ok (.istore 20, 2) := by decide +kernel
theorem dL_law_1529 : decode cL_law 1529 = .ok (.aload_n 1, 1) := by decide +kernel
theorem dL_law_1530 : decode cL_law 1530 = .ok (.iload 19, 2) := by decide +kernel
theorem dL_law_1532 : decode cL_law 1532 = .ok (.invokevirtual 185, 3) := by decide +kernel
theorem dL_law_1535 : decode cL_law 1535 = .ok (.istore 21, 2) := by decide +kernel
theorem dL_law_1537 : decode cL_law 1537 = .ok (.aload_n 1, 1) := by decide +kernel
theorem dL_law_1538 : decode cL_law 1538 = .ok (.iload 20, 2) := by decide +kernel
theorem dL_law_1540 : decode cL_law 1540 = .ok (.iconst 3, 1) := by decide +kernel
theorem dL_law_1541 : decode cL_law 1541 = .ok (.invokevirtual 63, 3) := by decide +kernel
theorem dL_law_1544 : decode cL_law 1544 = .ok (.aload_n 1, 1) := by decide +kernel
theorem dL_law_1545 : decode cL_law 1545 = .ok (.iload 21, 2) := by decide +kernel
theorem dL_law_1547 : decode cL_law 1547 = .ok (.iconst 3, 1) := by decide +kernel
theorem dL_law_1548 : decode cL_law 1548 = .ok (.invokevirtual 63, 3) := by decide +kernel
theorem dL_law_1551 : decode cL_law 1551 = .ok (.isub, 1) := by decide +kernel
theorem dL_law_1552 : decode cL_law 1552 = .ok (.istore 22, 2) := by decide +kernel
theorem dL_law_1554 : decode cL_law 1554 = .ok (.aload_n 1, 1) := by decide +kernel
theorem dL_law_1555 : decode cL_law 1555 = .ok (.iload 21, 2) := by decide +kernel
theorem dL_law_1557 : decode cL_law 1557 = .ok (.iconst 2, 1) := by decide +kernel
theorem dL_law_1558 : decode cL_law 1558 = .ok (.invokevirtual 63, 3) := by decide +kernel
theorem dL_law_1561 : decode cL_law 1561 = .ok (.aload_n 1, 1) := by decide +kernel
theorem dL_law_1562 : decode cL_law 1562 = .ok (.iload 20, 2) := by decide +kernel
theorem dL_law_1564 : decode cL_law 1564 = .ok (.iconst 2, 1) := by decide +kernel
theorem dL_law_1565 : decode cL_law 1565 = .ok (.invokevirtual 63, 3) := by decide +kernel
theorem dL_law_1568 : decode cL_law 1568 = .ok (.isub, 1) := by decide +kernel
theorem dL_law_1569 : decode cL_law 1569 = .ok (.istore 23, 2) := by decide +kernel
theorem dL_law_1571 : decode cL_law 1571 = .ok (.iload 22, 2) := by decide +kernel
theorem dL_law_1573 : decode cL_law 1573 = .ok (.ifCond .lt 25, 3) := by decide +kernel
theorem dL_law_1576 : decode cL_law 1576 = .ok (.iload 22, 2) := by decide +kernel
theorem dL_law_1578 : decode cL_law 1578 = .ok (.ifCond .ne 22, 3) := by decide +kernel
theorem dL_law_1581 : decode cL_law 1581 = .ok (.iload 23, 2) := by decide +kernel
theorem dL_law_1583 : decode cL_law 1583 = .ok (.ifCond .lt 15, 3) := by decide +kernel
theorem dL_law_1586 : decode cL_law 1586 = .ok (.iload 23, 2) := by decide +kernel
theorem dL_law_1588 : decode cL_law 1588 = .ok (.ifCond .ne 12, 3) := by decide +kernel
theorem dL_law_1591 : decode cL_law 1591 = .ok (.iload 20, 2) := by decide +kernel
theorem dL_law_1593 : decode cL_law 1593 = .ok (.iload 21, 2) := by decide +kernel
theorem dL_law_1595 : decode cL_law 1595 = .ok (.if_icmp .le 5, 3) := by decide +kernel
theorem dL_law_1598 : decode cL_law 1598 = .ok (.iconst 0, 1) := by decide +kernel
theorem dL_law_1599 : decode cL_law 1599 = .ok (.ireturn, 1) := by decide +kernel
theorem dL_law_1600 : decode cL_law 1600 = .ok (.iinc 19 1, 3) := by decide +kernel
theorem dL_law_1603 : decode cL_law 1603 = .ok (.goto (-90), 3) := by decide +kernel
theorem dL_law_1606 : decode cL_law 1606 = .ok (.aload_n 1, 1) := by decide +kernel
theorem dL_law_1607 : decode cL_law 1607 = .ok (.aload_n 0, 1) := by decide +kernel
theorem dL_law_1608 : decode cL_law 1608 = .ok (.bipush 90, 2) := by decide +kernel
theorem dL_law_1610 : decode cL_law 1610 = .ok (.iconst 4, 1) := by decide +kernel
theorem dL_law_1611 : decode cL_law 1611 = .ok (.iload_n 2, 1) := by decide +kernel
theorem dL_law_1612 : decode cL_law 1612 = .ok (.imul, 1) := by decide +kernel
theorem dL_law_1613 : decode cL_law 1613 = .ok (.iadd, 1) := by decide +kernel
theorem dL_law_1614 : decode cL_law 1614 = .ok (.invokestatic 33, 3) := by decide +kernel
theorem dL_law_1617 : decode cL_law 1617 = .ok (.iinc 2 1, 3) := by decide +kernel
theorem dL_law_1620 : decode cL_law 1620 = .ok (.goto (-1605), 3) := by decide +kernel
theorem dL_law_1623 : decode cL_law 1623 = .ok (.iconst 1, 1) := by decide +kernel
theorem dL_law_1624 : decode cL_law 1624 = .ok (.ireturn, 1) := by decide +kernel
