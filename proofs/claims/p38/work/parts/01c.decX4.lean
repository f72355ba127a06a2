theorem dX4_init_0 : decode cX4_init 0 = .ok (.aload_n 0, 1) := by decide +kernel
theorem dX4_init_1 : decode cX4_init 1 = .ok (.invokespecial 1, 3) := by decide +kernel
theorem dX4_init_4 : decode cX4_init 4 = .ok (.aload_n 0, 1) := by decide +kernel
theorem dX4_init_5 : decode cX4_init 5 = .ok (.new 7, 3) := by decide +kernel
theorem dX4_init_8 : decode cX4_init 8 = .ok (.dup, 1) := by decide +kernel
theorem dX4_init_9 : decode cX4_init 9 = .ok (.invokespecial 9, 3) := by decide +kernel
theorem dX4_init_12 : decode cX4_init 12 = .ok (.putfield 10, 3) := by decide +kernel
theorem dX4_init_15 : decode cX4_init 15 = .ok (.aload_n 0, 1) := by decide +kernel
theorem dX4_init_16 : decode cX4_init 16 = .ok (.new 7, 3) := by decide +kernel
theorem dX4_init_19 : decode cX4_init 19 = .ok (.dup, 1) := by decide +kernel
theorem dX4_init_20 : decode cX4_init 20 = .ok (.invokespecial 9, 3) := by decide +kernel
theorem dX4_init_23 : decode cX4_init 23 = .ok (.putfield 16, 3) := by decide +kernel
theorem dX4_init_26 : decode cX4_init 26 = .ok (.aload_n 0, 1) := by decide +kernel
theorem dX4_init_27 : decode cX4_init 27 = .ok (.new 19, 3) := by decide +kernel
theorem dX4_init_30 : decode cX4_init 30 = .ok (.dup, 1) := by decide +kernel
theorem dX4_init_31 : decode cX4_init 31 = .ok (.invokespecial 21, 3) := by decide +kernel
theorem dX4_init_34 : decode cX4_init 34 = .ok (.putfield 22, 3) := by decide +kernel
theorem dX4_init_37 : decode cX4_init 37 = .ok (.aload_n 0, 1) := by decide +kernel
theorem dX4_init_38 : decode cX4_init 38 = .ok (.new 26, 3) := by decide +kernel
theorem dX4_init_41 : decode cX4_init 41 = .ok (.dup, 1) := by decide +kernel
theorem dX4_init_42 : decode cX4_init 42 = .ok (.invokespecial 28, 3) := by decide +kernel
theorem dX4_init_45 : decode cX4_init 45 = .ok (.putfield 29, 3) := by decide +kernel
theorem dX4_init_48 : decode cX4_init 48 = .ok (.aload_n 0, 1) := by decide +kernel
theorem dX4_init_49 : decode cX4_init 49 = .ok (.new 33, 3) := by decide +kernel
theorem dX4_init_52 : decode cX4_init 52 = .ok (.dup, 1) := by decide +kernel
theorem dX4_init_53 : decode cX4_init 53 = .ok (.invokespecial 35, 3) := by decide +kernel
theorem dX4_init_56 : decode cX4_init 56 = .ok (.putfield 36, 3) := by decide +kernel
theorem dX4_init_59 : decode cX4_init 59 = .ok (.aload_n 0, 1) := by decide +kernel
theorem dX4_init_60 : decode cX4_init 60 = .ok (.new 40, 3) := by decide +kernel
theorem dX4_init_63 : decode cX4_init 63 = .ok (.dup, 1) := by decide +kernel
theorem dX4_init_64 : decode cX4_init 64 = .ok (.invokespecial 42, 3) := by decide +kernel
theorem dX4_init_67 : decode cX4_init 67 = .ok (.putfield 43, 3) := by decide +kernel
theorem dX4_init_70 : decode cX4_init 70 = .ok (.return_, 1) := by decide +kernel
theorem dX4_own_0 : decode cX4_own 0 = .ok (.aload_n 0, 1) := by decide +kernel
theorem dX4_own_1 : decode cX4_own 1 = .ok (.getfield 22, 3) := by decide +kernel
theorem dX4_own_4 : decode cX4_own 4 = .ok (.aload_n 0, 1) := by decide +kernel
theorem dX4_own_5 : decode cX4_own 5 = .ok (.getfield 10, 3) := by decide +kernel
theorem dX4_own_8 : decode cX4_own 8 = .ok (.invokevirtual 47, 3) := by decide +kernel
theorem dX4_own_11 : decode cX4_own 11 = .ok (.aload_n 0, 1) := by decide +kernel
theorem dX4_own_12 : decode cX4_own 12 = .ok (.aload_n 0, 1) := by decide +kernel
theorem dX4_own_13 : decode cX4_own 13 = .ok (.iload_n 1, 1) := by decide +kernel
theorem dX4_own_14 : decode cX4_own 14 = .ok (.iload_n 2, 1) := by decide +kernel
theorem dX4_own_15 : decode cX4_own 15 = .ok (.invokevirtual 51, 3) := by decide +kernel
theorem dX4_own_18 : decode cX4_own 18 = .ok (.invokevirtual 55, 3) := by decide +kernel
theorem dX4_own_21 : decode cX4_own 21 = .ok (.ireturn, 1) := by decide +kernel
theorem dX4_owner_0 : decode cX4_owner 0 = .ok (.iload_n 1, 1) := by decide +kernel
theorem dX4_owner_1 : decode cX4_owner 1 = .ok (.invokestatic 59, 3) := by decide +kernel
theorem dX4_owner_4 : decode cX4_owner 4 = .ok (.ifCond .ne 7, 3) := by decide +kernel
theorem dX4_owner_7 : decode cX4_owner 7 = .ok (.sipush (-1012), 3) := by decide +kernel
theorem dX4_owner_10 : decode cX4_owner 10 = .ok (.ireturn, 1) := by decide +kernel
theorem dX4_owner_11 : decode cX4_owner 11 = .ok (.aload_n 0, 1) := by decide +kernel
theorem dX4_owner_12 : decode cX4_owner 12 = .ok (.getfield 10, 3) := by decide +kernel
theorem dX4_owner_15 : decode cX4_owner 15 = .ok (.getfield 63, 3) := by decide +kernel
theorem dX4_owner_18 : decode cX4_owner 18 = .ok (.iload_n 1, 1) := by decide +kernel
theorem dX4_owner_19 : decode cX4_owner 19 = .ok (.iaload, 1) := by decide +kernel
theorem dX4_owner_20 : decode cX4_owner 20 = .ok (.invokestatic 67, 3) := by decide +kernel
theorem dX4_owner_23 : decode cX4_owner 23 = .ok (.ireturn, 1) := by decide +kernel
theorem dX4_kettle_0 : decode cX4_kettle 0 = .ok (.aload_n 0, 1) := by decide +kernel
theorem dX4_kettle_1 : decode cX4_kettle 1 = .ok (.getfield 22, 3) := by decide +kernel
theorem dX4_kettle_4 : decode cX4_kettle 4 = .ok (.aload_n 0, 1) := by decide +kernel
theorem dX4_kettle_5 : decode cX4_kettle 5 = .ok (.getfield 10, 3) := by decide +kernel
theorem dX4_kettle_8 : decode cX4_kettle 8 = .ok (.invokevirtual 47, 3) := by decide +kernel
theorem dX4_kettle_11 : decode cX4_kettle 11 = .ok (.aload_n 0, 1) := by decide +kernel
theorem dX4_kettle_12 : decode cX4_kettle 12 = .ok (.aload_n 0, 1) := by decide +kernel
theorem dX4_kettle_13 : decode cX4_kettle 13 = .ok (.iload_n 1, 1) := by decide +kernel
theorem dX4_kettle_14 : decode cX4_kettle 14 = .ok (.iload_n 2, 1) := by decide +kernel
theorem dX4_kettle_15 : decode cX4_kettle 15 = .ok (.iload_n 3, 1) := by decide +kernel
theorem dX4_kettle_16 : decode cX4_kettle 16 = .ok (.invokevirtual 70, 3) := by decide +kernel
theorem dX4_kettle_19 : decode cX4_kettle 19 = .ok (.invokevirtual 55, 3) := by decide +kernel
theorem dX4_kettle_22 : decode cX4_kettle 22 = .ok (.ireturn, 1) := by decide +kernel
theorem dX4_fill_0 : decode cX4_fill 0 = .ok (.aload_n 0, 1) := by decide +kernel
theorem dX4_fill_1 : decode cX4_fill 1 = .ok (.getfield 22, 3) := by decide +kernel
theorem dX4_fill_4 : decode cX4_fill 4 = .ok (.aload_n 0, 1) := by decide +kernel
theorem dX4_fill_5 : decode cX4_fill 5 = .ok (.getfield 10, 3) := by decide +kernel
theorem dX4_fill_8 : decode cX4_fill 8 = .ok (.invokevirtual 47, 3) := by decide +kernel
theorem dX4_fill_11 : decode cX4_fill 11 = .ok (.aload_n 0, 1) := by decide +kernel
theorem dX4_fill_12 : decode cX4_fill 12 = .ok (.aload_n 0, 1) := by decide +kernel
theorem dX4_fill_13 : decode cX4_fill 13 = .ok (.iload_n 1, 1) := by decide +kernel
theorem dX4_fill_14 : decode cX4_fill 14 = .ok (.iload_n 2, 1) := by decide +kernel
theorem dX4_fill_15 : decode cX4_fill 15 = .ok (.invokevirtual 74, 3) := by decide +kernel
theorem dX4_fill_18 : decode cX4_fill 18 = .ok (.invokevirtual 55, 3) := by decide +kernel
theorem dX4_fill_21 : decode cX4_fill 21 = .ok (.ireturn, 1) := by decide +kernel
theorem dX4_kettleOf_0 : decode cX4_kettleOf 0 = .ok (.aload_n 0, 1) := by decide +kernel
theorem dX4_kettleOf_1 : decode cX4_kettleOf 1 = .ok (.iload_n 1, 1) := by decide +kernel
theorem dX4_kettleOf_2 : decode cX4_kettleOf 2 = .ok (.invokevirtual 77, 3) := by decide +kernel
theorem dX4_kettleOf_5 : decode cX4_kettleOf 5 = .ok (.ifCond .ne 7, 3) := by decide +kernel
theorem dX4_kettleOf_8 : decode cX4_kettleOf 8 = .ok (.sipush (-1011), 3) := by decide +kernel
theorem dX4_kettleOf_11 : decode cX4_kettleOf 11 = .ok (.ireturn, 1) := by decide +kernel
theorem dX4_kettleOf_12 : decode cX4_kettleOf 12 = .ok (.iload_n 2, 1) := by decide +kernel
theorem dX4_kettleOf_13 : decode cX4_kettleOf 13 = .ok (.tableswitch 175 0 9 #[55, 65, 75, 85, 95, 105, 118, 135, 152, 162], 55) := by decide +kernel
theorem dX4_kettleOf_68 : decode cX4_kettleOf 68 = .ok (.aload_n 0, 1) := by decide +kernel
theorem dX4_kettleOf_69 : decode cX4_kettleOf 69 = .ok (.getfield 10, 3) := by decide +kernel
theorem dX4_kettleOf_72 : decode cX4_kettleOf 72 = .ok (.getfield 80, 3) := by decide +kernel
theorem dX4_kettleOf_75 : decode cX4_kettleOf 75 = .ok (.iload_n 1, 1) := by decide +kernel
theorem dX4_kettleOf_76 : decode cX4_kettleOf 76 = .ok (.iaload, 1) := by decide +kernel
theorem dX4_kettleOf_77 : decode cX4_kettleOf 77 = .ok (.ireturn, 1) := by decide +kernel
theorem dX4_kettleOf_78 : decode cX4_kettleOf 78 = .ok (.aload_n 0, 1) := by decide +kernel
theorem dX4_kettleOf_79 : decode cX4_kettleOf 79 = .ok (.getfield 10, 3) := by decide +kernel
theorem dX4_kettleOf_82 : decode cX4_kettleOf 82 = .ok (.getfield 83, 3) := by decide +kernel
theorem dX4_kettleOf_85 : decode cX4_kettleOf 85 = .ok (.iload_n 1, 1) := by decide +kernel
theorem dX4_kettleOf_86 : decode cX4_kettleOf 86 = .ok (.iaload, 1) := by decide +kernel
theorem dX4_kettleOf_87 : decode cX4_kettleOf 87 = .ok (.ireturn, 1) := by decide +kernel
theorem dX4_kettleOf_88 : decode cX4_kettleOf 88 = .ok (.aload_n 0, 1) := by decide +kernel
theorem dX4_kettleOf_89 : decode cX4_kettleOf 89 = .ok (.getfield 10, 3) := by decide +kernel
theorem dX4_kettleOf_92 : decode cX4_kettleOf 92 = .ok (.getfield 86, 3) := by decide +kernel
theorem dX4_kettleOf_95 : decode cX4_kettleOf 95 = .ok (.iload_n 1, 1) := by decide +kernel
theorem dX4_kettleOf_96 : decode cX4_kettleOf 96 = .ok (.iaload, 1) := by decide +kernel
theorem dX4_kettleOf_97 : decode cX4_kettleOf 97 = .ok (.ireturn, 1) := by decide +kernel
theorem dX4_kettleOf_98 : decode cX4_kettleOf 98 = .ok (.aload_n 0, 1) := by decide +kernel
theorem dX4_kettleOf_99 : decode cX4_kettleOf 99 = .ok (.getfield 10, 3) := by decide +kernel
theorem dX4_kettleOf_102 : decode cX4_kettleOf 102 = .ok (.getfield 89, 3) := by decide +kernel
theorem dX4_kettleOf_105 : decode cX4_kettleOf 105 = .ok (.iload_n 1, 1) := by decide +kernel
theorem dX4_kettleOf_106 : decode cX4_kettleOf 106 = .ok (.iaload, 1) := by decide +kernel
theorem dX4_kettleOf_107 : decode cX4_kettleOf 107 = .ok (.ireturn, 1) := by decide +kernel
theorem dX4_kettleOf_108 : decode cX4_kettleOf 108 = .ok (.aload_n 0, 1) := by decide +kernel
theorem dX4_kettleOf_109 : decode cX4_kettleOf 109 = .ok (.getfield 10, 3) := by decide +kernel
theorem dX4_kettleOf_112 : decode cX4_kettleOf 112 = .ok (.getfield 92, 3) := by decide +kernel
theorem dX4_kettleOf_115 : decode cX4_kettleOf 115 = .ok (.iload_n 1, 1) := by decide +kernel
theorem dX4_kettleOf_116 : decode cX4_kettleOf 116 = .ok (.iaload, 1) := by decide +kernel
theorem dX4_kettleOf_117 : decode cX4_kettleOf 117 = .ok (.ireturn, 1) := by decide +kernel
theorem dX4_kettleOf_118 : decode cX4_kettleOf 118 = .ok (.aload_n 0, 1) := by decide +kernel
theorem dX4_kettleOf_119 : decode cX4_kettleOf 119 = .ok (.getfield 10, 3) := by decide +kernel
theorem dX4_kettleOf_122 : decode cX4_kettleOf 122 = .ok (.getfield 95, 3) := by decide +kernel
theorem dX4_kettleOf_125 : decode cX4_kettleOf 125 = .ok (.iload_n 1, 1) := by decide +kernel
theorem dX4_kettleOf_126 : decode cX4_kettleOf 126 = .ok (.iaload, 1) := by decide +kernel
theorem dX4_kettleOf_127 : decode cX4_kettleOf 127 = .ok (.invokestatic 67, 3) := by decide +kernel
theorem dX4_kettleOf_130 : decode cX4_kettleOf 130 = .ok (.ireturn, 1) := by decide +kernel
theorem dX4_kettleOf_131 : decode cX4_kettleOf 131 = .ok (.aload_n 0, 1) := by decide +kernel
theorem dX4_kettleOf_132 : decode cX4_kettleOf 132 = .ok (.getfield 10, 3) := by decide +kernel
theorem dX4_kettleOf_135 : decode cX4_kettleOf 135 = .ok (.iload_n 1, 1) := by decide +kernel
theorem dX4_kettleOf_136 : decode cX4_kettleOf 136 = .ok (.invokevirtual 98, 3) := by decide +kernel
theorem dX4_kettleOf_139 : decode cX4_kettleOf 139 = .ok (.ifCond .eq 7, 3) := by decide +kernel
theorem dX4_kettleOf_142 : decode cX4_kettleOf 142 = .ok (.iconst 1, 1) := by decide +kernel
theorem dX4_kettleOf_143 : decode cX4_kettleOf 143 = .ok (.goto 4, 3) := by decide +kernel
theorem dX4_kettleOf_146 : decode cX4_kettleOf 146 = .ok (.iconst 0, 1) := by decide +kernel
theorem dX4_kettleOf_147 : decode cX4_kettleOf 147 = .ok (.ireturn, 1) := by decide +kernel
theorem dX4_kettleOf_148 : decode cX4_kettleOf 148 = .ok (.aload_n 0, 1) := by decide +kernel
theorem dX4_kettleOf_149 : decode cX4_kettleOf 149 = .ok (.getfield 10, 3) := by decide +kernel
theorem dX4_kettleOf_152 : decode cX4_kettleOf 152 = .ok (.iload_n 1, 1) := by decide +kernel
theorem dX4_kettleOf_153 : decode cX4_kettleOf 153 = .ok (.invokevirtual 101, 3) := by decide +kernel
theorem dX4_kettleOf_156 : decode cX4_kettleOf 156 = .ok (.ifCond .eq 7, 3) := by decide +kernel
theorem dX4_kettleOf_159 : decode cX4_kettleOf 159 = .ok (.iconst 1, 1) := by decide +kernel
theorem dX4_kettleOf_160 : decode cX4_kettleOf 160 = .ok (.goto 4, 3) := by decide +kernel
theorem dX4_kettleOf_163 : decode cX4_kettleOf 163 = .ok (.iconst 0, 1) := by decide +kernel
theorem dX4_kettleOf_164 : decode cX4_kettleOf 164 = .ok (.ireturn, 1) := by decide +kernel
theorem dX4_kettleOf_165 : decode cX4_kettleOf 165 = .ok (.aload_n 0, 1) := by decide +kernel
theorem dX4_kettleOf_166 : decode cX4_kettleOf 166 = .ok (.getfield 10, 3) := by decide +kernel
theorem dX4_kettleOf_169 : decode cX4_kettleOf 169 = .ok (.getfield 104, 3) := by decide +kernel
theorem dX4_kettleOf_172 : decode cX4_kettleOf 172 = .ok (.iload_n 1, 1) := by decide +kernel
theorem dX4_kettleOf_173 : decode cX4_kettleOf 173 = .ok (.iaload, 1) := by decide +kernel
theorem dX4_kettleOf_174 : decode cX4_kettleOf 174 = .ok (.ireturn, 1) := by decide +kernel
theorem dX4_kettleOf_175 : decode cX4_kettleOf 175 = .ok (.aload_n 0, 1) := by decide +kernel
theorem dX4_kettleOf_176 : decode cX4_kettleOf 176 = .ok (.getfield 10, 3) := by decide +kernel
theorem dX4_kettleOf_179 : decode cX4_kettleOf 179 = .ok (.getfield 107, 3) := by decide +kernel
theorem dX4_kettleOf_182 : decode cX4_kettleOf 182 = .ok (.iload_n 1, 1) := by decide +kernel
theorem dX4_kettleOf_183 : decode cX4_kettleOf 183 = .ok (.iaload, 1) := by decide +kernel
theorem dX4_kettleOf_184 : decode cX4_kettleOf 184 = .ok (.invokestatic 110, 3) := by decide +kernel
theorem dX4_kettleOf_187 : decode cX4_kettleOf 187 = .ok (.ireturn, 1) := by decide +kernel
theorem dX4_kettleOf_188 : decode cX4_kettleOf 188 = .ok (.sipush (-1012), 3) := by decide +kernel
theorem dX4_kettleOf_191 : decode cX4_kettleOf 191 = .ok (.ireturn, 1) := by decide +kernel
theorem dX4_set_0 : decode cX4_set 0 = .ok (.aload_n 0, 1) := by decide +kernel
theorem dX4_set_1 : decode cX4_set 1 = .ok (.getfield 22, 3) := by decide +kernel
theorem dX4_set_4 : decode cX4_set 4 = .ok (.aload_n 0, 1) := by decide +kernel
theorem dX4_set_5 : decode cX4_set 5 = .ok (.getfield 10, 3) := by decide +kernel
theorem dX4_set_8 : decode cX4_set 8 = .ok (.invokevirtual 47, 3) := by decide +kernel
theorem dX4_set_11 : decode cX4_set 11 = .ok (.aload_n 0, 1) := by decide +kernel
theorem dX4_set_12 : decode cX4_set 12 = .ok (.aload_n 0, 1) := by decide +kernel
theorem dX4_set_13 : decode cX4_set 13 = .ok (.iload_n 1, 1) := by decide +kernel
theorem dX4_set_14 : decode cX4_set 14 = .ok (.iload_n 2, 1) := by decide +kernel
theorem dX4_set_15 : decode cX4_set 15 = .ok (.invokevirtual 115, 3) := by decide +kernel
theorem dX4_set_18 : decode cX4_set 18 = .ok (.invokevirtual 55, 3) := by decide +kernel
theorem dX4_set_21 : decode cX4_set 21 = .ok (.ireturn, 1) := by decide +kernel
theorem dX4_off_0 : decode cX4_off 0 = .ok (.aload_n 0, 1) := by decide +kernel
theorem dX4_off_1 : decode cX4_off 1 = .ok (.getfield 22, 3) := by decide +kernel
theorem dX4_off_4 : decode cX4_off 4 = .ok (.aload_n 0, 1) := by decide +kernel
theorem dX4_off_5 : decode cX4_off 5 = .ok (.getfield 10, 3) := by decide +kernel
theorem dX4_off_8 : decode cX4_off 8 = .ok (.invokevirtual 47, 3) := by decide +kernel
theorem dX4_off_11 : decode cX4_off 11 = .ok (.aload_n 0, 1) := by decide +kernel
theorem dX4_off_12 : decode cX4_off 12 = .ok (.aload_n 0, 1) := by decide +kernel
theorem dX4_off_13 : decode cX4_off 13 = .ok (.iload_n 1, 1) := by decide +kernel
theorem dX4_off_14 : decode cX4_off 14 = .ok (.invokevirtual 118, 3) := by decide +kernel
theorem dX4_off_17 : decode cX4_off 17 = .ok (.invokevirtual 55, 3) := by decide +kernel
theorem dX4_off_20 : decode cX4_off 20 = .ok (.ireturn, 1) := by decide +kernel
theorem dX4_heat_0 : decode cX4_heat 0 = .ok (.aload_n 0, 1) := by decide +kernel
theorem dX4_heat_1 : decode cX4_heat 1 = .ok (.getfield 22, 3) := by decide +kernel
theorem dX4_heat_4 : decode cX4_heat 4 = .ok (.aload_n 0, 1) := by decide +kernel
theorem dX4_heat_5 : decode cX4_heat 5 = .ok (.getfield 10, 3) := by decide +kernel
theorem dX4_heat_8 : decode cX4_heat 8 = .ok (.invokevirtual 47, 3) := by decide +kernel
theorem dX4_heat_11 : decode cX4_heat 11 = .ok (.aload_n 0, 1) := by decide +kernel
theorem dX4_heat_12 : decode cX4_heat 12 = .ok (.aload_n 0, 1) := by decide +kernel
theorem dX4_heat_13 : decode cX4_heat 13 = .ok (.iload_n 1, 1) := by decide +kernel
theorem dX4_heat_14 : decode cX4_heat 14 = .ok (.iload_n 2, 1) := by decide +kernel
theorem dX4_heat_15 : decode cX4_heat 15 = .ok (.invokevirtual 121, 3) := by decide +kernel
theorem dX4_heat_18 : decode cX4_heat 18 = .ok (.invokevirtual 55, 3) := by decide +kernel
theorem dX4_heat_21 : decode cX4_heat 21 = .ok (.ireturn, 1) := by decide +kernel
theorem dX4_lid_0 : decode cX4_lid 0 = .ok (.aload_n 0, 1) := by decide +kernel
theorem dX4_lid_1 : decode cX4_lid 1 = .ok (.getfield 22, 3) := by decide +kernel
theorem dX4_lid_4 : decode cX4_lid 4 = .ok (.aload_n 0, 1) := by decide +kernel
theorem dX4_lid_5 : decode cX4_lid 5 = .ok (.getfield 10, 3) := by decide +kernel
theorem dX4_lid_8 : decode cX4_lid 8 = .ok (.invokevirtual 47, 3) := by decide +kernel
theorem dX4_lid_11 : decode cX4_lid 11 = .ok (.aload_n 0, 1) := by decide +kernel
theorem dX4_lid_12 : decode cX4_lid 12 = .ok (.aload_n 0, 1) := by decide +kernel
theorem dX4_lid_13 : decode cX4_lid 13 = .ok (.iload_n 1, 1) := by decide +kernel
theorem dX4_lid_14 : decode cX4_lid 14 = .ok (.iload_n 2, 1) := by decide +kernel
theorem dX4_lid_15 : decode cX4_lid 15 = .ok (.invokevirtual 124, 3) := by decide +kernel
theorem dX4_lid_18 : decode cX4_lid 18 = .ok (.invokevirtual 55, 3) := by decide +kernel
theorem dX4_lid_21 : decode cX4_lid 21 = .ok (.ireturn, 1) := by decide +kernel
theorem dX4_appeal_0 : decode cX4_appeal 0 = .ok (.aload_n 0, 1) := by decide +kernel
theorem dX4_appeal_1 : decode cX4_appeal 1 = .ok (.getfield 22, 3) := by decide +kernel
theorem dX4_appeal_4 : decode cX4_appeal 4 = .ok (.aload_n 0, 1) := by decide +kernel
theorem dX4_appeal_5 : decode cX4_appeal 5 = .ok (.getfield 10, 3) := by decide +kernel
theorem dX4_appeal_8 : decode cX4_appeal 8 = .ok (.invokevirtual 47, 3) := by decide +kernel
theorem dX4_appeal_11 : decode cX4_appeal 11 = .ok (.aload_n 0, 1) := by decide +kernel
theorem dX4_appeal_12 : decode cX4_appeal 12 = .ok (.aload_n 0, 1) := by decide +kernel
theorem dX4_appeal_13 : decode cX4_appeal 13 = .ok (.iload_n 1, 1) := by decide +kernel
theorem dX4_appeal_14 : decode cX4_appeal 14 = .ok (.iload_n 2, 1) := by decide +kernel
theorem dX4_appeal_15 : decode cX4_appeal 15 = .ok (.invokevirtual 127, 3) := by decide +kernel
theorem dX4_appeal_18 : decode cX4_appeal 18 = .ok (.invokevirtual 55, 3) := by decide +kernel
theorem dX4_appeal_21 : decode cX4_appeal 21 = .ok (.ireturn, 1) := by decide +kernel
theorem dX4_stoveOf_0 : decode cX4_stoveOf 0 = .ok (.iload_n 1, 1) := by decide +kernel
theorem dX4_stoveOf_1 : decode cX4_stoveOf 1 = .ok (.invokestatic 130, 3) := by decide +kernel
theorem dX4_stoveOf_4 : decode cX4_stoveOf 4 = .ok (.ifCond .ne 7, 3) := by decide +kernel
theorem dX4_stoveOf_7 : decode cX4_stoveOf 7 = .ok (.sipush (-1011), 3) := by decide +kernel
theorem dX4_stoveOf_10 : decode cX4_stoveOf 10 = .ok (.ireturn, 1) := by decide +kernel
theorem dX4_stoveOf_11 : decode cX4_stoveOf 11 = .ok (.iload_n 2, 1) := by decide +kernel
theorem dX4_stoveOf_12 : decode cX4_stoveOf 12 = .ok (.ifCond .eq 15, 3) := by decide +kernel
theorem dX4_stoveOf_15 : decode cX4_stoveOf 15 = .ok (.aload_n 0, 1) := by decide +kernel
theorem dX4_stoveOf_16 : decode cX4_stoveOf 16 = .ok (.getfield 10, 3) := by decide +kernel
theorem dX4_stoveOf_19 : decode cX4_stoveOf 19 = .ok (.getfield 133, 3) := by decide +kernel
theorem dX4_stoveOf_22 : decode cX4_stoveOf 22 = .ok (.iload_n 1, 1) := by decide +kernel
theorem dX4_stoveOf_23 : decode cX4_stoveOf 23 = .ok (.iaload, 1) := by decide +kernel
theorem dX4_stoveOf_24 : decode cX4_stoveOf 24 = .ok (.goto 14, 3) := by decide +kernel
theorem dX4_stoveOf_27 : decode cX4_stoveOf 27 = .ok (.aload_n 0, 1) := by decide +kernel
theorem dX4_stoveOf_28 : decode cX4_stoveOf 28 = .ok (.getfield 10, 3) := by decide +kernel
theorem dX4_stoveOf_31 : decode cX4_stoveOf 31 = .ok (.iload_n 1, 1) := by decide +kernel
theorem dX4_stoveOf_32 : decode cX4_stoveOf 32 = .ok (.invokevirtual 136, 3) := by decide +kernel
theorem dX4_stoveOf_35 : decode cX4_stoveOf 35 = .ok (.invokestatic 67, 3) := by decide +kernel
theorem dX4_stoveOf_38 : decode cX4_stoveOf 38 = .ok (.ireturn, 1) := by decide +kernel
theorem dX4_minute_0 : decode cX4_minute 0 = .ok (.aload_n 0, 1) := by decide +kernel
theorem dX4_minute_1 : decode cX4_minute 1 = .ok (.getfield 22, 3) := by decide +kernel
theorem dX4_minute_4 : decode cX4_minute 4 = .ok (.aload_n 0, 1) := by decide +kernel
theorem dX4_minute_5 : decode cX4_minute 5 = .ok (.getfield 10, 3) := by decide +kernel
theorem dX4_minute_8 : decode cX4_minute 8 = .ok (.invokevirtual 47, 3) := by decide +kernel
theorem dX4_minute_11 : decode cX4_minute 11 = .ok (.aload_n 0, 1) := by decide +kernel
theorem dX4_minute_12 : decode cX4_minute 12 = .ok (.aload_n 0, 1) := by decide +kernel
theorem dX4_minute_13 : decode cX4_minute 13 = .ok (.iload_n 1, 1) := by decide +kernel
theorem dX4_minute_14 : decode cX4_minute 14 = .ok (.invokevirtual 139, 3) := by decide +kernel
theorem dX4_minute_17 : decode cX4_minute 17 = .ok (.invokevirtual 55, 3) := by decide +kernel
theorem dX4_minute_20 : decode cX4_minute 20 = .ok (.ireturn, 1) := by decide +kernel
theorem dX4_whistling_0 : decode cX4_whistling 0 = .ok (.aload_n 0, 1) := by decide +kernel
theorem dX4_whistling_1 : decode cX4_whistling 1 = .ok (.getfield 10, 3) := by decide +kernel
theorem dX4_whistling_4 : decode cX4_whistling 4 = .ok (.invokevirtual 142, 3) := by decide +kernel
theorem dX4_whistling_7 : decode cX4_whistling 7 = .ok (.ireturn, 1) := by decide +kernel
theorem dX4_harmony_0 : decode cX4_harmony 0 = .ok (.aload_n 0, 1) := by decide +kernel
theorem dX4_harmony_1 : decode cX4_harmony 1 = .ok (.getfield 10, 3) := by decide +kernel
theorem dX4_harmony_4 : decode cX4_harmony 4 = .ok (.invokevirtual 142, 3) := by decide +kernel
theorem dX4_harmony_7 : decode cX4_harmony 7 = .ok (.istore_n 1, 1) := by decide +kernel
theorem dX4_harmony_8 : decode cX4_harmony 8 = .ok (.iconst 0, 1) := by decide +kernel
theorem dX4_harmony_9 : decode cX4_harmony 9 = .ok (.istore_n 2, 1) := by decide +kernel
theorem dX4_harmony_10 : decode cX4_harmony 10 = .ok (.iconst 0, 1) := by decide +kernel
theorem dX4_harmony_11 : decode cX4_harmony 11 = .ok (.istore_n 3, 1) := by decide +kernel
theorem dX4_harmony_12 : decode cX4_harmony 12 = .ok (.iload_n 3, 1) := by decide +kernel
theorem dX4_harmony_13 : decode cX4_harmony 13 = .ok (.aload_n 0, 1) := by decide +kernel
theorem dX4_harmony_14 : decode cX4_harmony 14 = .ok (.getfield 10, 3) := by decide +kernel
theorem dX4_harmony_17 : decode cX4_harmony 17 = .ok (.getfield 146, 3) := by decide +kernel
theorem dX4_harmony_20 : decode cX4_harmony 20 = .ok (.if_icmp .ge 74, 3) := by decide +kernel
theorem dX4_harmony_23 : decode cX4_harmony 23 = .ok (.iload_n 3, 1) := by decide +kernel
theorem dX4_harmony_24 : decode cX4_harmony 24 = .ok (.iconst 1, 1) := by decide +kernel
theorem dX4_harmony_25 : decode cX4_harmony 25 = .ok (.iadd, 1) := by decide +kernel
theorem dX4_harmony_26 : decode cX4_harmony 26 = .ok (.istore 4, 2) := by decide +kernel
theorem dX4_harmony_28 : decode cX4_harmony 28 = .ok (.iload 4, 2) := by decide +kernel
theorem dX4_harmony_30 : decode cX4_harmony 30 = .ok (.aload_n 0, 1) := by decide +kernel
theorem dX4_harmony_31 : decode cX4_harmony 31 = .ok (.getfield 10, 3) := by decide +kernel
theorem dX4_harmony_34 : decode cX4_harmony 34 = .ok (.getfield 146, 3) := by decide +kernel
theorem dX4_harmony_37 : decode cX4_harmony 37 = .ok (.if_icmp .ge 51, 3) := by decide +kernel
theorem dX4_harmony_40 : decode cX4_harmony 40 = .ok (.iload_n 1, 1) := by decide +kernel
theorem dX4_harmony_41 : decode cX4_harmony 41 = .ok (.iload_n 3, 1) := by decide +kernel
theorem dX4_harmony_42 : decode cX4_harmony 42 = .ok (.invokestatic 150, 3) := by decide +kernel
theorem dX4_harmony_45 : decode cX4_harmony 45 = .ok (.ifCond .eq 37, 3) := by decide +kernel
theorem dX4_harmony_48 : decode cX4_harmony 48 = .ok (.iload_n 1, 1) := by decide +kernel
theorem dX4_harmony_49 : decode cX4_harmony 49 = .ok (.iload 4, 2) := by decide +kernel
theorem dX4_harmony_51 : decode cX4_harmony 51 = .ok (.invokestatic 150, 3) := by decide +kernel
theorem dX4_harmony_54 : decode cX4_harmony 54 = .ok (.ifCond .eq 28, 3) := by decide +kernel
theorem dX4_harmony_57 : decode cX4_harmony 57 = .ok (.iload_n 2, 1) := by decide +kernel
theorem dX4_harmony_58 : decode cX4_harmony 58 = .ok (.aload_n 0, 1) := by decide +kernel
theorem dX4_harmony_59 : decode cX4_harmony 59 = .ok (.getfield 10, 3) := by decide +kernel
theorem dX4_harmony_62 : decode cX4_harmony 62 = .ok (.getfield 83, 3) := by decide +kernel
theorem dX4_harmony_65 : decode cX4_harmony 65 = .ok (.iload_n 3, 1) := by decide +kernel
theorem dX4_harmony_66 : decode cX4_harmony 66 = .ok (.iaload, 1) := by decide +kernel
theorem dX4_harmony_67 : decode cX4_harmony 67 = .ok (.aload_n 0, 1) := by decide +kernel
theorem dX4_harmony_68 : decode cX4_harmony 68 = .ok (.getfield 10, 3) := by decide +kernel
theorem dX4_harmony_71 : decode cX4_harmony 71 = .ok (.getfield 83, 3) := by decide +kernel
theorem dX4_harmony_74 : decode cX4_harmony 74 = .ok (.iload 4, 2) := by decide +kernel
theorem dX4_harmony_76 : decode cX4_harmony 76 = .ok (.iaload, 1) := by decide +kernel
theorem dX4_harmony_77 : decode cX4_harmony 77 = .ok (.invokestatic 154, 3) := by decide +kernel
theorem dX4_harmony_80 : decode cX4_harmony 80 = .ok (.iadd, 1) := by decide +kernel
theorem dX4_harmony_81 : decode cX4_harmony 81 = .ok (.istore_n 2, 1) := by decide +kernel
theorem dX4_harmony_82 : decode cX4_harmony 82 = .ok (.iinc 4 1, 3) := by decide +kernel
theorem dX4_harmony_85 : decode cX4_harmony 85 = .ok (.goto (-57), 3) := by decide +kernel
theorem dX4_harmony_88 : decode cX4_harmony 88 = .ok (.iinc 3 1, 3) := by decide +kernel
theorem dX4_harmony_91 : decode cX4_harmony 91 = .ok (.goto (-79), 3) := by decide +kernel
theorem dX4_harmony_94 : decode cX4_harmony 94 = .ok (.iload_n 2, 1) := by decide +kernel
theorem dX4_harmony_95 : decode cX4_harmony 95 = .ok (.ireturn, 1) := by decide +kernel
theorem dX4_harmonyAgain_0 : decode cX4_harmonyAgain 0 = .ok (.aload_n 0, 1) := by decide +kernel
theorem dX4_harmonyAgain_1 : decode cX4_harmonyAgain 1 = .ok (.getfield 10, 3) := by decide +kernel
theorem dX4_harmonyAgain_4 : decode cX4_harmonyAgain 4 = .ok (.invokevirtual 157, 3) := by decide +kernel
theorem dX4_harmonyAgain_7 : decode cX4_harmonyAgain 7 = .ok (.istore_n 1, 1) := by decide +kernel
theorem dX4_harmonyAgain_8 : decode cX4_harmonyAgain 8 = .ok (.iconst 0, 1) := by decide +kernel
theorem dX4_harmonyAgain_9 : decode cX4_harmonyAgain 9 = .ok (.istore_n 2, 1) := by decide +kernel
theorem dX4_harmonyAgain_10 : decode cX4_harmonyAgain 10 = .ok (.iconst 1, 1) := by decide +kernel
theorem dX4_harmonyAgain_11 : decode cX4_harmonyAgain 11 = .ok (.istore_n 3, 1) := by decide +kernel
theorem dX4_harmonyAgain_12 : decode cX4_harmonyAgain 12 = .ok (.iload_n 3, 1) := by decide +kernel
theorem dX4_harmonyAgain_13 : decode cX4_harmonyAgain 13 = .ok (.getstatic 160, 3) := by decide +kernel
theorem dX4_harmonyAgain_16 : decode cX4_harmonyAgain 16 = .ok (.arraylength, 1) := by decide +kernel
theorem dX4_harmonyAgain_17 : decode cX4_harmonyAgain 17 = .ok (.if_icmp .ge 30, 3) := by decide +kernel
theorem dX4_harmonyAgain_20 : decode cX4_harmonyAgain 20 = .ok (.iload_n 1, 1) := by decide +kernel
theorem dX4_harmonyAgain_21 : decode cX4_harmonyAgain 21 = .ok (.iload_n 1, 1) := by decide +kernel
theorem dX4_harmonyAgain_22 : decode cX4_harmonyAgain 22 = .ok (.iload_n 3, 1) := by decide +kernel
theorem dX4_harmonyAgain_23 : decode cX4_harmonyAgain 23 = .ok (.ishr, 1) := by decide +kernel
theorem dX4_harmonyAgain_24 : decode cX4_harmonyAgain 24 = .ok (.iand, 1) := by decide +kernel
theorem dX4_harmonyAgain_25 : decode cX4_harmonyAgain 25 = .ok (.invokestatic 110, 3) := by decide +kernel
theorem dX4_harmonyAgain_28 : decode cX4_harmonyAgain 28 = .ok (.istore 4, 2) := by decide +kernel
theorem dX4_harmonyAgain_30 : decode cX4_harmonyAgain 30 = .ok (.iload_n 2, 1) := by decide +kernel
theorem dX4_harmonyAgain_31 : decode cX4_harmonyAgain 31 = .ok (.getstatic 160, 3) := by decide +kernel
theorem dX4_harmonyAgain_34 : decode cX4_harmonyAgain 34 = .ok (.iload_n 3, 1) := by decide +kernel
theorem dX4_harmonyAgain_35 : decode cX4_harmonyAgain 35 = .ok (.iaload, 1) := by decide +kernel
theorem dX4_harmonyAgain_36 : decode cX4_harmonyAgain 36 = .ok (.iload 4, 2) := by decide +kernel
theorem dX4_harmonyAgain_38 : decode cX4_harmonyAgain 38 = .ok (.imul, 1) := by decide +kernel
theorem dX4_harmonyAgain_39 : decode cX4_harmonyAgain 39 = .ok (.iadd, 1) := by decide +kernel
theorem dX4_harmonyAgain_40 : decode cX4_harmonyAgain 40 = .ok (.istore_n 2, 1) := by decide +kernel
theorem dX4_harmonyAgain_41 : decode cX4_harmonyAgain 41 = .ok (.iinc 3 1, 3) := by decide +kernel
theorem dX4_harmonyAgain_44 : decode cX4_harmonyAgain 44 = .ok (.goto (-32), 3) := by decide +kernel
theorem dX4_harmonyAgain_47 : decode cX4_harmonyAgain 47 = .ok (.iload_n 2, 1) := by decide +kernel
theorem dX4_harmonyAgain_48 : decode cX4_harmonyAgain 48 = .ok (.ireturn, 1) := by decide +kernel
theorem dX4_boilsIn_0 : decode cX4_boilsIn 0 = .ok (.aload_n 0, 1) := by decide +kernel
theorem dX4_boilsIn_1 : decode cX4_boilsIn 1 = .ok (.iload_n 1, 1) := by decide +kernel
theorem dX4_boilsIn_2 : decode cX4_boilsIn 2 = .ok (.invokevirtual 77, 3) := by decide +kernel
theorem dX4_boilsIn_5 : decode cX4_boilsIn 5 = .ok (.ifCond .ne 7, 3) := by decide +kernel
theorem dX4_boilsIn_8 : decode cX4_boilsIn 8 = .ok (.sipush (-1011), 3) := by decide +kernel
theorem dX4_boilsIn_11 : decode cX4_boilsIn 11 = .ok (.ireturn, 1) := by decide +kernel
theorem dX4_boilsIn_12 : decode cX4_boilsIn 12 = .ok (.aload_n 0, 1) := by decide +kernel
theorem dX4_boilsIn_13 : decode cX4_boilsIn 13 = .ok (.getfield 10, 3) := by decide +kernel
theorem dX4_boilsIn_16 : decode cX4_boilsIn 16 = .ok (.iload_n 1, 1) := by decide +kernel
theorem dX4_boilsIn_17 : decode cX4_boilsIn 17 = .ok (.invokevirtual 163, 3) := by decide +kernel
theorem dX4_boilsIn_20 : decode cX4_boilsIn 20 = .ok (.istore_n 2, 1) := by decide +kernel
theorem dX4_boilsIn_21 : decode cX4_boilsIn 21 = .ok (.aload_n 0, 1) := by decide +kernel
theorem dX4_boilsIn_22 : decode cX4_boilsIn 22 = .ok (.getfield 10, 3) := by decide +kernel
theorem dX4_boilsIn_25 : decode cX4_boilsIn 25 = .ok (.getfield 89, 3) := by decide +kernel
theorem dX4_boilsIn_28 : decode cX4_boilsIn 28 = .ok (.iload_n 1, 1) := by decide +kernel
theorem dX4_boilsIn_29 : decode cX4_boilsIn 29 = .ok (.iaload, 1) := by decide +kernel
theorem dX4_boilsIn_30 : decode cX4_boilsIn 30 = .ok (.istore_n 3, 1) := by decide +kernel
theorem dX4_boilsIn_31 : decode cX4_boilsIn 31 = .ok (.iconst 0, 1) := by decide +kernel
theorem dX4_boilsIn_32 : decode cX4_boilsIn 32 = .ok (.istore 4, 2) := by decide +kernel
theorem dX4_boilsIn_34 : decode cX4_boilsIn 34 = .ok (.iload 4, 2) := by decide +kernel
theorem dX4_boilsIn_36 : decode cX4_boilsIn 36 = .ok (.bipush 100, 2) := by decide +kernel
theorem dX4_boilsIn_38 : decode cX4_boilsIn 38 = .ok (.if_icmp .gt 33, 3) := by decide +kernel
theorem dX4_boilsIn_41 : decode cX4_boilsIn 41 = .ok (.iload_n 2, 1) := by decide +kernel
theorem dX4_boilsIn_42 : decode cX4_boilsIn 42 = .ok (.ifCond .le 12, 3) := by decide +kernel
theorem dX4_boilsIn_45 : decode cX4_boilsIn 45 = .ok (.iload_n 3, 1) := by decide +kernel
theorem dX4_boilsIn_46 : decode cX4_boilsIn 46 = .ok (.bipush 100, 2) := by decide +kernel
theorem dX4_boilsIn_48 : decode cX4_boilsIn 48 = .ok (.if_icmp .ne 6, 3) := by decide +kernel
theorem dX4_boilsIn_51 : decode cX4_boilsIn 51 = .ok (.iload 4, 2) := by decide +kernel
theorem dX4_boilsIn_53 : decode cX4_boilsIn 53 = .ok (.ireturn, 1) := by decide +kernel
theorem dX4_boilsIn_54 : decode cX4_boilsIn 54 = .ok (.bipush 100, 2) := by decide +kernel
theorem dX4_boilsIn_56 : decode cX4_boilsIn 56 = .ok (.iload_n 3, 1) := by decide +kernel
theorem dX4_boilsIn_57 : decode cX4_boilsIn 57 = .ok (.iconst 5, 1) := by decide +kernel
theorem dX4_boilsIn_58 : decode cX4_boilsIn 58 = .ok (.iload_n 2, 1) := by decide +kernel
theorem dX4_boilsIn_59 : decode cX4_boilsIn 59 = .ok (.imul, 1) := by decide +kernel
theorem dX4_boilsIn_60 : decode cX4_boilsIn 60 = .ok (.iadd, 1) := by decide +kernel
theorem dX4_boilsIn_61 : decode cX4_boilsIn 61 = .ok (.invokestatic 166, 3) := by decide +kernel
theorem dX4_boilsIn_64 : decode cX4_boilsIn 64 = .ok (.istore_n 3, 1) := by decide +kernel
theorem dX4_boilsIn_65 : decode cX4_boilsIn 65 = .ok (.iinc 4 1, 3) := by decide +kernel
theorem dX4_boilsIn_68 : decode cX4_boilsIn 68 = .ok (.goto (-34), 3) := by decide +kernel
theorem dX4_boilsIn_71 : decode cX4_boilsIn 71 = .ok (.sipush (-1015), 3) := by decide +kernel
theorem dX4_boilsIn_74 : decode cX4_boilsIn 74 = .ok (.ireturn, 1) := by decide +kernel
theorem dX4_boilsInAgain_0 : decode cX4_boilsInAgain 0 = .ok (.aload_n 0, 1) := by decide +kernel
theorem dX4_boilsInAgain_1 : decode cX4_boilsInAgain 1 = .ok (.iload_n 1, 1) := by decide +kernel
theorem dX4_boilsInAgain_2 : decode cX4_boilsInAgain 2 = .ok (.invokevirtual 77, 3) := by decide +kernel
theorem dX4_boilsInAgain_5 : decode cX4_boilsInAgain 5 = .ok (.ifCond .ne 7, 3) := by decide +kernel
theorem dX4_boilsInAgain_8 : decode cX4_boilsInAgain 8 = .ok (.sipush (-1011), 3) := by decide +kernel
theorem dX4_boilsInAgain_11 : decode cX4_boilsInAgain 11 = .ok (.ireturn, 1) := by decide +kernel
theorem dX4_boilsInAgain_12 : decode cX4_boilsInAgain 12 = .ok (.iconst 5, 1) := by decide +kernel
theorem dX4_boilsInAgain_13 : decode cX4_boilsInAgain 13 = .ok (.aload_n 0, 1) := by decide +kernel
theorem dX4_boilsInAgain_14 : decode cX4_boilsInAgain 14 = .ok (.getfield 10, 3) := by decide +kernel
theorem dX4_boilsInAgain_17 : decode cX4_boilsInAgain 17 = .ok (.iload_n 1, 1) := by decide +kernel
theorem dX4_boilsInAgain_18 : decode cX4_boilsInAgain 18 = .ok (.invokevirtual 163, 3) := by decide +kernel
theorem dX4_boilsInAgain_21 : decode cX4_boilsInAgain 21 = .ok (.imul, 1) := by decide +kernel
theorem dX4_boilsInAgain_22 : decode cX4_boilsInAgain 22 = .ok (.istore_n 2, 1) := by decide +kernel
theorem dX4_boilsInAgain_23 : decode cX4_boilsInAgain 23 = .ok (.iload_n 2, 1) := by decide +kernel
theorem dX4_boilsInAgain_24 : decode cX4_boilsInAgain 24 = .ok (.ifCond .gt 7, 3) := by decide +kernel
theorem dX4_boilsInAgain_27 : decode cX4_boilsInAgain 27 = .ok (.sipush (-1015), 3) := by decide +kernel
theorem dX4_boilsInAgain_30 : decode cX4_boilsInAgain 30 = .ok (.ireturn, 1) := by decide +kernel
theorem dX4_boilsInAgain_31 : decode cX4_boilsInAgain 31 = .ok (.bipush 100, 2) := by decide +kernel
theorem dX4_boilsInAgain_33 : decode cX4_boilsInAgain 33 = .ok (.aload_n 0, 1) := by decide +kernel
theorem dX4_boilsInAgain_34 : decode cX4_boilsInAgain 34 = .ok (.getfield 10, 3) := by decide +kernel
theorem dX4_boilsInAgain_37 : decode cX4_boilsInAgain 37 = .ok (.getfield 89, 3) := by decide +kernel
theorem dX4_boilsInAgain_40 : decode cX4_boilsInAgain 40 = .ok (.iload_n 1, 1) := by decide +kernel
theorem dX4_boilsInAgain_41 : decode cX4_boilsInAgain 41 = .ok (.iaload, 1) := by decide +kernel
theorem dX4_boilsInAgain_42 : decode cX4_boilsInAgain 42 = .ok (.isub, 1) := by decide +kernel
theorem dX4_boilsInAgain_43 : decode cX4_boilsInAgain 43 = .ok (.istore_n 3, 1) := by decide +kernel
theorem dX4_boilsInAgain_44 : decode cX4_boilsInAgain 44 = .ok (.iload_n 3, 1) := by decide +kernel
theorem dX4_boilsInAgain_45 : decode cX4_boilsInAgain 45 = .ok (.iload_n 2, 1) := by decide +kernel
theorem dX4_boilsInAgain_46 : decode cX4_boilsInAgain 46 = .ok (.iadd, 1) := by decide +kernel
theorem dX4_boilsInAgain_47 : decode cX4_boilsInAgain 47 = .ok (.iconst 1, 1) := by decide +kernel
theorem dX4_boilsInAgain_48 : decode cX4_boilsInAgain 48 = .ok (.isub, 1) := by decide +kernel
theorem dX4_boilsInAgain_49 : decode cX4_boilsInAgain 49 = .ok (.iload_n 2, 1) := by decide +kernel
theorem dX4_boilsInAgain_50 : decode cX4_boilsInAgain 50 = .ok (.idiv, 1) := by decide +kernel
theorem dX4_boilsInAgain_51 : decode cX4_boilsInAgain 51 = .ok (.ireturn, 1) := by decide +kernel
theorem dX4_dryIn_0 : decode cX4_dryIn 0 = .ok (.aload_n 0, 1) := by decide +kernel
theorem dX4_dryIn_1 : decode cX4_dryIn 1 = .ok (.iload_n 1, 1) := by decide +kernel
theorem dX4_dryIn_2 : decode cX4_dryIn 2 = .ok (.invokevirtual 171, 3) := by decide +kernel
theorem dX4_dryIn_5 : decode cX4_dryIn 5 = .ok (.istore_n 2, 1) := by decide +kernel
theorem dX4_dryIn_6 : decode cX4_dryIn 6 = .ok (.iload_n 2, 1) := by decide +kernel
theorem dX4_dryIn_7 : decode cX4_dryIn 7 = .ok (.ifCond .lt 11, 3) := by decide +kernel
theorem dX4_dryIn_10 : decode cX4_dryIn 10 = .ok (.aload_n 0, 1) := by decide +kernel
theorem dX4_dryIn_11 : decode cX4_dryIn 11 = .ok (.iload_n 1, 1) := by decide +kernel
theorem dX4_dryIn_12 : decode cX4_dryIn 12 = .ok (.invokevirtual 77, 3) := by decide +kernel
theorem dX4_dryIn_15 : decode cX4_dryIn 15 = .ok (.ifCond .ne 5, 3) := by decide +kernel
theorem dX4_dryIn_18 : decode cX4_dryIn 18 = .ok (.iload_n 2, 1) := by decide +kernel
theorem dX4_dryIn_19 : decode cX4_dryIn 19 = .ok (.ireturn, 1) := by decide +kernel
theorem dX4_dryIn_20 : decode cX4_dryIn 20 = .ok (.iload_n 2, 1) := by decide +kernel
theorem dX4_dryIn_21 : decode cX4_dryIn 21 = .ok (.iconst 1, 1) := by decide +kernel
theorem dX4_dryIn_22 : decode cX4_dryIn 22 = .ok (.aload_n 0, 1) := by decide +kernel
theorem dX4_dryIn_23 : decode cX4_dryIn 23 = .ok (.getfield 10, 3) := by decide +kernel
theorem dX4_dryIn_26 : decode cX4_dryIn 26 = .ok (.getfield 86, 3) := by decide +kernel
theorem dX4_dryIn_29 : decode cX4_dryIn 29 = .ok (.iload_n 1, 1) := by decide +kernel
theorem dX4_dryIn_30 : decode cX4_dryIn 30 = .ok (.iaload, 1) := by decide +kernel
theorem dX4_dryIn_31 : decode cX4_dryIn 31 = .ok (.invokestatic 174, 3) := by decide +kernel
theorem dX4_dryIn_34 : decode cX4_dryIn 34 = .ok (.iadd, 1) := by decide +kernel
theorem dX4_dryIn_35 : decode cX4_dryIn 35 = .ok (.ireturn, 1) := by decide +kernel
theorem dX4_bestPitch_0 : decode cX4_bestPitch 0 = .ok (.aload_n 0, 1) := by decide +kernel
theorem dX4_bestPitch_1 : decode cX4_bestPitch 1 = .ok (.getfield 10, 3) := by decide +kernel
theorem dX4_bestPitch_4 : decode cX4_bestPitch 4 = .ok (.invokevirtual 157, 3) := by decide +kernel
theorem dX4_bestPitch_7 : decode cX4_bestPitch 7 = .ok (.istore_n 1, 1) := by decide +kernel
theorem dX4_bestPitch_8 : decode cX4_bestPitch 8 = .ok (.iconst (-1), 1) := by decide +kernel
theorem dX4_bestPitch_9 : decode cX4_bestPitch 9 = .ok (.istore_n 2, 1) := by decide +kernel
theorem dX4_bestPitch_10 : decode cX4_bestPitch 10 = .ok (.iconst 0, 1) := by decide +kernel
theorem dX4_bestPitch_11 : decode cX4_bestPitch 11 = .ok (.istore_n 3, 1) := by decide +kernel
theorem dX4_bestPitch_12 : decode cX4_bestPitch 12 = .ok (.iconst 1, 1) := by decide +kernel
theorem dX4_bestPitch_13 : decode cX4_bestPitch 13 = .ok (.istore 4, 2) := by decide +kernel
theorem dX4_bestPitch_15 : decode cX4_bestPitch 15 = .ok (.iload 4, 2) := by decide +kernel
theorem dX4_bestPitch_17 : decode cX4_bestPitch 17 = .ok (.bipush 12, 2) := by decide +kernel
theorem dX4_bestPitch_19 : decode cX4_bestPitch 19 = .ok (.if_icmp .gt 43, 3) := by decide +kernel
theorem dX4_bestPitch_22 : decode cX4_bestPitch 22 = .ok (.iload 4, 2) := by decide +kernel
theorem dX4_bestPitch_24 : decode cX4_bestPitch 24 = .ok (.iload_n 1, 1) := by decide +kernel
theorem dX4_bestPitch_25 : decode cX4_bestPitch 25 = .ok (.invokestatic 177, 3) := by decide +kernel
theorem dX4_bestPitch_28 : decode cX4_bestPitch 28 = .ok (.istore 5, 2) := by decide +kernel
theorem dX4_bestPitch_30 : decode cX4_bestPitch 30 = .ok (.iload_n 1, 1) := by decide +kernel
theorem dX4_bestPitch_31 : decode cX4_bestPitch 31 = .ok (.iload 4, 2) := by decide +kernel
theorem dX4_bestPitch_33 : decode cX4_bestPitch 33 = .ok (.invokestatic 150, 3) := by decide +kernel
theorem dX4_bestPitch_36 : decode cX4_bestPitch 36 = .ok (.ifCond .ne 20, 3) := by decide +kernel
theorem dX4_bestPitch_39 : decode cX4_bestPitch 39 = .ok (.iload_n 2, 1) := by decide +kernel
theorem dX4_bestPitch_40 : decode cX4_bestPitch 40 = .ok (.iconst (-1), 1) := by decide +kernel
theorem dX4_bestPitch_41 : decode cX4_bestPitch 41 = .ok (.if_icmp .eq 9, 3) := by decide +kernel
theorem dX4_bestPitch_44 : decode cX4_bestPitch 44 = .ok (.iload 5, 2) := by decide +kernel
theorem dX4_bestPitch_46 : decode cX4_bestPitch 46 = .ok (.iload_n 3, 1) := by decide +kernel
theorem dX4_bestPitch_47 : decode cX4_bestPitch 47 = .ok (.if_icmp .le 9, 3) := by decide +kernel
theorem dX4_bestPitch_50 : decode cX4_bestPitch 50 = .ok (.iload 4, 2) := by decide +kernel
theorem dX4_bestPitch_52 : decode cX4_bestPitch 52 = .ok (.istore_n 2, 1) := by decide +kernel
theorem dX4_bestPitch_53 : decode cX4_bestPitch 53 = .ok (.iload 5, 2) := by decide +kernel
theorem dX4_bestPitch_55 : decode cX4_bestPitch 55 = .ok (.istore_n 3, 1) := by decide +kernel
theorem dX4_bestPitch_56 : decode cX4_bestPitch 56 = .ok (.iinc 4 1, 3) := by decide +kernel
theorem dX4_bestPitch_59 : decode cX4_bestPitch 59 = .ok (.goto (-44), 3) := by decide +kernel
theorem dX4_bestPitch_62 : decode cX4_bestPitch 62 = .ok (.iload_n 2, 1) := by decide +kernel
theorem dX4_bestPitch_63 : decode cX4_bestPitch 63 = .ok (.ireturn, 1) := by decide +kernel
theorem dX4_memberOf_0 : decode cX4_memberOf 0 = .ok (.iload_n 1, 1) := by decide +kernel
theorem dX4_memberOf_1 : decode cX4_memberOf 1 = .ok (.invokestatic 180, 3) := by decide +kernel
theorem dX4_memberOf_4 : decode cX4_memberOf 4 = .ok (.ifCond .ne 7, 3) := by decide +kernel
theorem dX4_memberOf_7 : decode cX4_memberOf 7 = .ok (.sipush (-1011), 3) := by decide +kernel
theorem dX4_memberOf_10 : decode cX4_memberOf 10 = .ok (.ireturn, 1) := by decide +kernel
theorem dX4_memberOf_11 : decode cX4_memberOf 11 = .ok (.iload_n 2, 1) := by decide +kernel
theorem dX4_memberOf_12 : decode cX4_memberOf 12 = .ok (.tableswitch 97 0 5 #[40, 50, 59, 68, 77, 87], 40) := by decide +kernel
theorem dX4_memberOf_52 : decode cX4_memberOf 52 = .ok (.aload_n 0, 1) := by decide +kernel
theorem dX4_memberOf_53 : decode cX4_memberOf 53 = .ok (.getfield 10, 3) := by decide +kernel
theorem dX4_memberOf_56 : decode cX4_memberOf 56 = .ok (.getfield 183, 3) := by decide +kernel
theorem dX4_memberOf_59 : decode cX4_memberOf 59 = .ok (.iload_n 1, 1) := by decide +kernel
theorem dX4_memberOf_60 : decode cX4_memberOf 60 = .ok (.iaload, 1) := by decide +kernel
theorem dX4_memberOf_61 : decode cX4_memberOf 61 = .ok (.ireturn, 1) := by decide +kernel
theorem dX4_memberOf_62 : decode cX4_memberOf 62 = .ok (.aload_n 0, 1) := by decide +kernel
theorem dX4_memberOf_63 : decode cX4_memberOf 63 = .ok (.getfield 10, 3) := by decide +kernel
theorem dX4_memberOf_66 : decode cX4_memberOf 66 = .ok (.iload_n 1, 1) := by decide +kernel
theorem dX4_memberOf_67 : decode cX4_memberOf 67 = .ok (.invokevirtual 186, 3) := by decide +kernel
theorem dX4_memberOf_70 : decode cX4_memberOf 70 = .ok (.ireturn, 1) := by decide +kernel
theorem dX4_memberOf_71 : decode cX4_memberOf 71 = .ok (.aload_n 0, 1) := by decide +kernel
theorem dX4_memberOf_72 : decode cX4_memberOf 72 = .ok (.getfield 10, 3) := by decide +kernel
theorem dX4_memberOf_75 : decode cX4_memberOf 75 = .ok (.iload_n 1, 1) := by decide +kernel
theorem dX4_memberOf_76 : decode cX4_memberOf 76 = .ok (.invokevirtual 189, 3) := by decide +kernel
theorem dX4_memberOf_79 : decode cX4_memberOf 79 = .ok (.ireturn, 1) := by decide +kernel
theorem dX4_memberOf_80 : decode cX4_memberOf 80 = .ok (.aload_n 0, 1) := by decide +kernel
theorem dX4_memberOf_81 : decode cX4_memberOf 81 = .ok (.getfield 10, 3) := by decide +kernel
theorem dX4_memberOf_84 : decode cX4_memberOf 84 = .ok (.iload_n 1, 1) := by decide +kernel
theorem dX4_memberOf_85 : decode cX4_memberOf 85 = .ok (.invokevirtual 192, 3) := by decide +kernel
theorem dX4_memberOf_88 : decode cX4_memberOf 88 = .ok (.ireturn, 1) := by decide +kernel
theorem dX4_memberOf_89 : decode cX4_memberOf 89 = .ok (.aload_n 0, 1) := by decide +kernel
theorem dX4_memberOf_90 : decode cX4_memberOf 90 = .ok (.getfield 10, 3) := by decide +kernel
theorem dX4_memberOf_93 : decode cX4_memberOf 93 = .ok (.getfield 195, 3) := by decide +kernel
theorem dX4_memberOf_96 : decode cX4_memberOf 96 = .ok (.iload_n 1, 1) := by decide +kernel
theorem dX4_memberOf_97 : decode cX4_memberOf 97 = .ok (.iaload, 1) := by decide +kernel
theorem dX4_memberOf_98 : decode cX4_memberOf 98 = .ok (.ireturn, 1) := by decide +kernel
theorem dX4_memberOf_99 : decode cX4_memberOf 99 = .ok (.aload_n 0, 1) := by decide +kernel
theorem dX4_memberOf_100 : decode cX4_memberOf 100 = .ok (.getfield 10, 3) := by decide +kernel
theorem dX4_memberOf_103 : decode cX4_memberOf 103 = .ok (.getfield 198, 3) := by decide +kernel
theorem dX4_memberOf_106 : decode cX4_memberOf 106 = .ok (.iload_n 1, 1) := by decide +kernel
theorem dX4_memberOf_107 : decode cX4_memberOf 107 = .ok (.iaload, 1) := by decide +kernel
theorem dX4_memberOf_108 : decode cX4_memberOf 108 = .ok (.ireturn, 1) := by decide +kernel
theorem dX4_memberOf_109 : decode cX4_memberOf 109 = .ok (.sipush (-1012), 3) := by decide +kernel
theorem dX4_memberOf_112 : decode cX4_memberOf 112 = .ok (.ireturn, 1) := by decide +kernel
theorem dX4_ranked_0 : decode cX4_ranked 0 = .ok (.iconst 0, 1) := by decide +kernel
theorem dX4_ranked_1 : decode cX4_ranked 1 = .ok (.istore_n 2, 1) := by decide +kernel
theorem dX4_ranked_2 : decode cX4_ranked 2 = .ok (.iload_n 2, 1) := by decide +kernel
theorem dX4_ranked_3 : decode cX4_ranked 3 = .ok (.iconst 4, 1) := by decide +kernel
theorem dX4_ranked_4 : decode cX4_ranked 4 = .ok (.if_icmp .ge 20, 3) := by decide +kernel
theorem dX4_ranked_7 : decode cX4_ranked 7 = .ok (.aload_n 0, 1) := by decide +kernel
theorem dX4_ranked_8 : decode cX4_ranked 8 = .ok (.iload_n 2, 1) := by decide +kernel
theorem dX4_ranked_9 : decode cX4_ranked 9 = .ok (.invokevirtual 201, 3) := by decide +kernel
theorem dX4_ranked_12 : decode cX4_ranked 12 = .ok (.iload_n 1, 1) := by decide +kernel
theorem dX4_ranked_13 : decode cX4_ranked 13 = .ok (.if_icmp .ne 5, 3) := by decide +kernel
theorem dX4_ranked_16 : decode cX4_ranked 16 = .ok (.iload_n 2, 1) := by decide +kernel
theorem dX4_ranked_17 : decode cX4_ranked 17 = .ok (.ireturn, 1) := by decide +kernel
theorem dX4_ranked_18 : decode cX4_ranked 18 = .ok (.iinc 2 1, 3) := by decide +kernel
theorem dX4_ranked_21 : decode cX4_ranked 21 = .ok (.goto (-19), 3) := by decide +kernel
theorem dX4_ranked_24 : decode cX4_ranked 24 = .ok (.sipush (-1011), 3) := by decide +kernel
theorem dX4_ranked_27 : decode cX4_ranked 27 = .ok (.ireturn, 1) := by decide +kernel
theorem dX4_hottest_0 : decode cX4_hottest 0 = .ok (.iconst 0, 1) := by decide +kernel
theorem dX4_hottest_1 : decode cX4_hottest 1 = .ok (.istore_n 2, 1) := by decide +kernel
theorem dX4_hottest_2 : decode cX4_hottest 2 = .ok (.iload_n 2, 1) := by decide +kernel
theorem dX4_hottest_3 : decode cX4_hottest 3 = .ok (.aload_n 0, 1) := by decide +kernel
theorem dX4_hottest_4 : decode cX4_hottest 4 = .ok (.getfield 10, 3) := by decide +kernel
theorem dX4_hottest_7 : decode cX4_hottest 7 = .ok (.getfield 146, 3) := by decide +kernel
theorem dX4_hottest_10 : decode cX4_hottest 10 = .ok (.if_icmp .ge 20, 3) := by decide +kernel
theorem dX4_hottest_13 : decode cX4_hottest 13 = .ok (.aload_n 0, 1) := by decide +kernel
theorem dX4_hottest_14 : decode cX4_hottest 14 = .ok (.iload_n 2, 1) := by decide +kernel
theorem dX4_hottest_15 : decode cX4_hottest 15 = .ok (.invokevirtual 204, 3) := by decide +kernel
theorem dX4_hottest_18 : decode cX4_hottest 18 = .ok (.iload_n 1, 1) := by decide +kernel
theorem dX4_hottest_19 : decode cX4_hottest 19 = .ok (.if_icmp .ne 5, 3) := by decide +kernel
theorem dX4_hottest_22 : decode cX4_hottest 22 = .ok (.iload_n 2, 1) := by decide +kernel
theorem dX4_hottest_23 : decode cX4_hottest 23 = .ok (.ireturn, 1) := by decide +kernel
theorem dX4_hottest_24 : decode cX4_hottest 24 = .ok (.iinc 2 1, 3) := by decide +kernel
theorem dX4_hottest_27 : decode cX4_hottest 27 = .ok (.goto (-25), 3) := by decide +kernel
theorem dX4_hottest_30 : decode cX4_hottest 30 = .ok (.sipush (-1011), 3) := by decide +kernel
theorem dX4_hottest_33 : decode cX4_hottest 33 = .ok (.ireturn, 1) := by decide +kernel
theorem dX4_tell_0 : decode cX4_tell 0 = .ok (.aload_n 0, 1) := by decide +kernel
theorem dX4_tell_1 : decode cX4_tell 1 = .ok (.iload_n 1, 1) := by decide +kernel
theorem dX4_tell_2 : decode cX4_tell 2 = .ok (.invokevirtual 77, 3) := by decide +kernel
theorem dX4_tell_5 : decode cX4_tell 5 = .ok (.ifCond .ne 7, 3) := by decide +kernel
theorem dX4_tell_8 : decode cX4_tell 8 = .ok (.sipush (-1011), 3) := by decide +kernel
theorem dX4_tell_11 : decode cX4_tell 11 = .ok (.ireturn, 1) := by decide +kernel
theorem dX4_tell_12 : decode cX4_tell 12 = .ok (.aload_n 0, 1) := by decide +kernel
theorem dX4_tell_13 : decode cX4_tell 13 = .ok (.getfield 43, 3) := by decide +kernel
theorem dX4_tell_16 : decode cX4_tell 16 = .ok (.iconst 0, 1) := by decide +kernel
theorem dX4_tell_17 : decode cX4_tell 17 = .ok (.invokevirtual 232, 3) := by decide +kernel
theorem dX4_tell_20 : decode cX4_tell 20 = .ok (.aload_n 0, 1) := by decide +kernel
theorem dX4_tell_21 : decode cX4_tell 21 = .ok (.getfield 43, 3) := by decide +kernel
theorem dX4_tell_24 : decode cX4_tell 24 = .ok (.iload_n 1, 1) := by decide +kernel
theorem dX4_tell_25 : decode cX4_tell 25 = .ok (.invokevirtual 236, 3) := by decide +kernel
theorem dX4_tell_28 : decode cX4_tell 28 = .ok (.bipush 58, 2) := by decide +kernel
theorem dX4_tell_30 : decode cX4_tell 30 = .ok (.invokevirtual 240, 3) := by decide +kernel
theorem dX4_tell_33 : decode cX4_tell 33 = .ok (.aload_n 0, 1) := by decide +kernel
theorem dX4_tell_34 : decode cX4_tell 34 = .ok (.getfield 10, 3) := by decide +kernel
theorem dX4_tell_37 : decode cX4_tell 37 = .ok (.getfield 80, 3) := by decide +kernel
theorem dX4_tell_40 : decode cX4_tell 40 = .ok (.iload_n 1, 1) := by decide +kernel
theorem dX4_tell_41 : decode cX4_tell 41 = .ok (.iaload, 1) := by decide +kernel
theorem dX4_tell_42 : decode cX4_tell 42 = .ok (.invokevirtual 236, 3) := by decide +kernel
theorem dX4_tell_45 : decode cX4_tell 45 = .ok (.pop, 1) := by decide +kernel
theorem dX4_tell_46 : decode cX4_tell 46 = .ok (.aload_n 0, 1) := by decide +kernel
theorem dX4_tell_47 : decode cX4_tell 47 = .ok (.getfield 43, 3) := by decide +kernel
theorem dX4_tell_50 : decode cX4_tell 50 = .ok (.bipush 112, 2) := by decide +kernel
theorem dX4_tell_52 : decode cX4_tell 52 = .ok (.invokevirtual 240, 3) := by decide +kernel
theorem dX4_tell_55 : decode cX4_tell 55 = .ok (.aload_n 0, 1) := by decide +kernel
theorem dX4_tell_56 : decode cX4_tell 56 = .ok (.getfield 10, 3) := by decide +kernel
theorem dX4_tell_59 : decode cX4_tell 59 = .ok (.getfield 83, 3) := by decide +kernel
theorem dX4_tell_62 : decode cX4_tell 62 = .ok (.iload_n 1, 1) := by decide +kernel
theorem dX4_tell_63 : decode cX4_tell 63 = .ok (.iaload, 1) := by decide +kernel
theorem dX4_tell_64 : decode cX4_tell 64 = .ok (.invokevirtual 236, 3) := by decide +kernel
theorem dX4_tell_67 : decode cX4_tell 67 = .ok (.pop, 1) := by decide +kernel
theorem dX4_tell_68 : decode cX4_tell 68 = .ok (.aload_n 0, 1) := by decide +kernel
theorem dX4_tell_69 : decode cX4_tell 69 = .ok (.getfield 43, 3) := by decide +kernel
theorem dX4_tell_72 : decode cX4_tell 72 = .ok (.bipush 119, 2) := by decide +kernel
theorem dX4_tell_74 : decode cX4_tell 74 = .ok (.invokevirtual 240, 3) := by decide +kernel
theorem dX4_tell_77 : decode cX4_tell 77 = .ok (.aload_n 0, 1) := by decide +kernel
theorem dX4_tell_78 : decode cX4_tell 78 = .ok (.getfield 10, 3) := by decide +kernel
theorem dX4_tell_81 : decode cX4_tell 81 = .ok (.getfield 86, 3) := by decide +kernel
theorem dX4_tell_84 : decode cX4_tell 84 = .ok (.iload_n 1, 1) := by decide +kernel
theorem dX4_tell_85 : decode cX4_tell 85 = .ok (.iaload, 1) := by decide +kernel
theorem dX4_tell_86 : decode cX4_tell 86 = .ok (.invokevirtual 236, 3) := by decide +kernel
theorem dX4_tell_89 : decode cX4_tell 89 = .ok (.pop, 1) := by decide +kernel
theorem dX4_tell_90 : decode cX4_tell 90 = .ok (.aload_n 0, 1) := by decide +kernel
theorem dX4_tell_91 : decode cX4_tell 91 = .ok (.getfield 43, 3) := by decide +kernel
theorem dX4_tell_94 : decode cX4_tell 94 = .ok (.bipush 116, 2) := by decide +kernel
theorem dX4_tell_96 : decode cX4_tell 96 = .ok (.invokevirtual 240, 3) := by decide +kernel
theorem dX4_tell_99 : decode cX4_tell 99 = .ok (.aload_n 0, 1) := by decide +kernel
theorem dX4_tell_100 : decode cX4_tell 100 = .ok (.getfield 10, 3) := by decide +kernel
theorem dX4_tell_103 : decode cX4_tell 103 = .ok (.getfield 89, 3) := by decide +kernel
theorem dX4_tell_106 : decode cX4_tell 106 = .ok (.iload_n 1, 1) := by decide +kernel
theorem dX4_tell_107 : decode cX4_tell 107 = .ok (.iaload, 1) := by decide +kernel
theorem dX4_tell_108 : decode cX4_tell 108 = .ok (.invokevirtual 236, 3) := by decide +kernel
theorem dX4_tell_111 : decode cX4_tell 111 = .ok (.pop, 1) := by decide +kernel
theorem dX4_tell_112 : decode cX4_tell 112 = .ok (.aload_n 0, 1) := by decide +kernel
theorem dX4_tell_113 : decode cX4_tell 113 = .ok (.iload_n 1, 1) := by decide +kernel
theorem dX4_tell_114 : decode cX4_tell 114 = .ok (.invokevirtual 243, 3) := by decide +kernel
theorem dX4_tell_117 : decode cX4_tell 117 = .ok (.aload_n 0, 1) := by decide +kernel
theorem dX4_tell_118 : decode cX4_tell 118 = .ok (.getfield 43, 3) := by decide +kernel
theorem dX4_tell_121 : decode cX4_tell 121 = .ok (.invokevirtual 246, 3) := by decide +kernel
theorem dX4_tell_124 : decode cX4_tell 124 = .ok (.ireturn, 1) := by decide +kernel
theorem dX4_tellStoves_0 : decode cX4_tellStoves 0 = .ok (.aload_n 0, 1) := by decide +kernel
theorem dX4_tellStoves_1 : decode cX4_tellStoves 1 = .ok (.getfield 43, 3) := by decide +kernel
theorem dX4_tellStoves_4 : decode cX4_tellStoves 4 = .ok (.iconst 0, 1) := by decide +kernel
theorem dX4_tellStoves_5 : decode cX4_tellStoves 5 = .ok (.invokevirtual 232, 3) := by decide +kernel
theorem dX4_tellStoves_8 : decode cX4_tellStoves 8 = .ok (.iconst 0, 1) := by decide +kernel
theorem dX4_tellStoves_9 : decode cX4_tellStoves 9 = .ok (.istore_n 1, 1) := by decide +kernel
theorem dX4_tellStoves_10 : decode cX4_tellStoves 10 = .ok (.iload_n 1, 1) := by decide +kernel
theorem dX4_tellStoves_11 : decode cX4_tellStoves 11 = .ok (.bipush 6, 2) := by decide +kernel
theorem dX4_tellStoves_13 : decode cX4_tellStoves 13 = .ok (.if_icmp .ge 59, 3) := by decide +kernel
theorem dX4_tellStoves_16 : decode cX4_tellStoves 16 = .ok (.aload_n 0, 1) := by decide +kernel
theorem dX4_tellStoves_17 : decode cX4_tellStoves 17 = .ok (.getfield 43, 3) := by decide +kernel
theorem dX4_tellStoves_20 : decode cX4_tellStoves 20 = .ok (.aload_n 0, 1) := by decide +kernel
theorem dX4_tellStoves_21 : decode cX4_tellStoves 21 = .ok (.getfield 10, 3) := by decide +kernel
theorem dX4_tellStoves_24 : decode cX4_tellStoves 24 = .ok (.getfield 133, 3) := by decide +kernel
theorem dX4_tellStoves_27 : decode cX4_tellStoves 27 = .ok (.iload_n 1, 1) := by decide +kernel
theorem dX4_tellStoves_28 : decode cX4_tellStoves 28 = .ok (.iaload, 1) := by decide +kernel
theorem dX4_tellStoves_29 : decode cX4_tellStoves 29 = .ok (.invokevirtual 236, 3) := by decide +kernel
theorem dX4_tellStoves_32 : decode cX4_tellStoves 32 = .ok (.pop, 1) := by decide +kernel
theorem dX4_tellStoves_33 : decode cX4_tellStoves 33 = .ok (.aload_n 0, 1) := by decide +kernel
theorem dX4_tellStoves_34 : decode cX4_tellStoves 34 = .ok (.getfield 10, 3) := by decide +kernel
theorem dX4_tellStoves_37 : decode cX4_tellStoves 37 = .ok (.iload_n 1, 1) := by decide +kernel
theorem dX4_tellStoves_38 : decode cX4_tellStoves 38 = .ok (.invokevirtual 136, 3) := by decide +kernel
theorem dX4_tellStoves_41 : decode cX4_tellStoves 41 = .ok (.istore_n 2, 1) := by decide +kernel
theorem dX4_tellStoves_42 : decode cX4_tellStoves 42 = .ok (.iload_n 2, 1) := by decide +kernel
theorem dX4_tellStoves_43 : decode cX4_tellStoves 43 = .ok (.iconst (-1), 1) := by decide +kernel
theorem dX4_tellStoves_44 : decode cX4_tellStoves 44 = .ok (.if_icmp .eq 22, 3) := by decide +kernel
theorem dX4_tellStoves_47 : decode cX4_tellStoves 47 = .ok (.aload_n 0, 1) := by decide +kernel
theorem dX4_tellStoves_48 : decode cX4_tellStoves 48 = .ok (.getfield 43, 3) := by decide +kernel
theorem dX4_tellStoves_51 : decode cX4_tellStoves 51 = .ok (.bipush 40, 2) := by decide +kernel
theorem dX4_tellStoves_53 : decode cX4_tellStoves 53 = .ok (.invokevirtual 240, 3) := by decide +kernel
theorem dX4_tellStoves_56 : decode cX4_tellStoves 56 = .ok (.iload_n 2, 1) := by decide +kernel
theorem dX4_tellStoves_57 : decode cX4_tellStoves 57 = .ok (.invokevirtual 236, 3) := by decide +kernel
theorem dX4_tellStoves_60 : decode cX4_tellStoves 60 = .ok (.bipush 41, 2) := by decide +kernel
theorem dX4_tellStoves_62 : decode cX4_tellStoves 62 = .ok (.invokevirtual 240, 3) := by decide +kernel
theorem dX4_tellStoves_65 : decode cX4_tellStoves 65 = .ok (.pop, 1) := by decide +kernel
theorem dX4_tellStoves_66 : decode cX4_tellStoves 66 = .ok (.iinc 1 1, 3) := by decide +kernel
theorem dX4_tellStoves_69 : decode cX4_tellStoves 69 = .ok (.goto (-59), 3) := by decide +kernel
theorem dX4_tellStoves_72 : decode cX4_tellStoves 72 = .ok (.aload_n 0, 1) := by decide +kernel
theorem dX4_tellStoves_73 : decode cX4_tellStoves 73 = .ok (.getfield 43, 3) := by decide +kernel
theorem dX4_tellStoves_76 : decode cX4_tellStoves 76 = .ok (.invokevirtual 246, 3) := by decide +kernel
theorem dX4_tellStoves_79 : decode cX4_tellStoves 79 = .ok (.ireturn, 1) := by decide +kernel
theorem dX4_character_0 : decode cX4_character 0 = .ok (.iload_n 1, 1) := by decide +kernel
theorem dX4_character_1 : decode cX4_character 1 = .ok (.ifCond .lt 25, 3) := by decide +kernel
theorem dX4_character_4 : decode cX4_character 4 = .ok (.iload_n 1, 1) := by decide +kernel
theorem dX4_character_5 : decode cX4_character 5 = .ok (.aload_n 0, 1) := by decide +kernel
theorem dX4_character_6 : decode cX4_character 6 = .ok (.getfield 43, 3) := by decide +kernel
theorem dX4_character_9 : decode cX4_character 9 = .ok (.invokevirtual 246, 3) := by decide +kernel
theorem dX4_character_12 : decode cX4_character 12 = .ok (.if_icmp .ge 14, 3) := by decide +kernel
theorem dX4_character_15 : decode cX4_character 15 = .ok (.aload_n 0, 1) := by decide +kernel
theorem dX4_character_16 : decode cX4_character 16 = .ok (.getfield 43, 3) := by decide +kernel
theorem dX4_character_19 : decode cX4_character 19 = .ok (.iload_n 1, 1) := by decide +kernel
theorem dX4_character_20 : decode cX4_character 20 = .ok (.invokevirtual 248, 3) := by decide +kernel
theorem dX4_character_23 : decode cX4_character 23 = .ok (.goto 6, 3) := by decide +kernel
theorem dX4_character_26 : decode cX4_character 26 = .ok (.sipush (-1011), 3) := by decide +kernel
theorem dX4_character_29 : decode cX4_character 29 = .ok (.ireturn, 1) := by decide +kernel
theorem dX4_account_0 : decode cX4_account 0 = .ok (.iload_n 1, 1) := by decide +kernel
theorem dX4_account_1 : decode cX4_account 1 = .ok (.tableswitch 177 0 12 #[67, 75, 83, 91, 99, 107, 115, 123, 131, 139, 150, 161, 169], 67) := by decide +kernel
theorem dX4_account_68 : decode cX4_account 68 = .ok (.aload_n 0, 1) := by decide +kernel
theorem dX4_account_69 : decode cX4_account 69 = .ok (.getfield 10, 3) := by decide +kernel
theorem dX4_account_72 : decode cX4_account 72 = .ok (.getfield 146, 3) := by decide +kernel
theorem dX4_account_75 : decode cX4_account 75 = .ok (.ireturn, 1) := by decide +kernel
theorem dX4_account_76 : decode cX4_account 76 = .ok (.aload_n 0, 1) := by decide +kernel
theorem dX4_account_77 : decode cX4_account 77 = .ok (.getfield 10, 3) := by decide +kernel
theorem dX4_account_80 : decode cX4_account 80 = .ok (.invokevirtual 259, 3) := by decide +kernel
theorem dX4_account_83 : decode cX4_account 83 = .ok (.ireturn, 1) := by decide +kernel
theorem dX4_account_84 : decode cX4_account 84 = .ok (.aload_n 0, 1) := by decide +kernel
theorem dX4_account_85 : decode cX4_account 85 = .ok (.getfield 10, 3) := by decide +kernel
theorem dX4_account_88 : decode cX4_account 88 = .ok (.invokevirtual 262, 3) := by decide +kernel
theorem dX4_account_91 : decode cX4_account 91 = .ok (.ireturn, 1) := by decide +kernel
theorem dX4_account_92 : decode cX4_account 92 = .ok (.aload_n 0, 1) := by decide +kernel
theorem dX4_account_93 : decode cX4_account 93 = .ok (.getfield 10, 3) := by decide +kernel
theorem dX4_account_96 : decode cX4_account 96 = .ok (.invokevirtual 265, 3) := by decide +kernel
theorem dX4_account_99 : decode cX4_account 99 = .ok (.ireturn, 1) := by decide +kernel
theorem dX4_account_100 : decode cX4_account 100 = .ok (.aload_n 0, 1) := by decide +kernel
theorem dX4_account_101 : decode cX4_account 101 = .ok (.getfield 10, 3) := by decide +kernel
theorem dX4_account_104 : decode cX4_account 104 = .ok (.invokevirtual 268, 3) := by decide +kernel
theorem dX4_account_107 : decode cX4_account 107 = .ok (.ireturn, 1) := by decide +kernel
theorem dX4_account_108 : decode cX4_account 108 = .ok (.aload_n 0, 1) := by decide +kernel
theorem dX4_account_109 : decode cX4_account 109 = .ok (.getfield 10, 3) := by decide +kernel
theorem dX4_account_112 : decode cX4_account 112 = .ok (.getfield 271, 3) := by decide +kernel
theorem dX4_account_115 : decode cX4_account 115 = .ok (.ireturn, 1) := by decide +kernel
theorem dX4_account_116 : decode cX4_account 116 = .ok (.aload_n 0, 1) := by decide +kernel
theorem dX4_account_117 : decode cX4_account 117 = .ok (.getfield 10, 3) := by decide +kernel
theorem dX4_account_120 : decode cX4_account 120 = .ok (.invokevirtual 274, 3) := by decide +kernel
theorem dX4_account_123 : decode cX4_account 123 = .ok (.ireturn, 1) := by decide +kernel
theorem dX4_account_124 : decode cX4_account 124 = .ok (.aload_n 0, 1) := by decide +kernel
theorem dX4_account_125 : decode cX4_account 125 = .ok (.getfield 10, 3) := by decide +kernel
theorem dX4_account_128 : decode cX4_account 128 = .ok (.getfield 277, 3) := by decide +kernel
theorem dX4_account_131 : decode cX4_account 131 = .ok (.ireturn, 1) := by decide +kernel
theorem dX4_account_132 : decode cX4_account 132 = .ok (.aload_n 0, 1) := by decide +kernel
theorem dX4_account_133 : decode cX4_account 133 = .ok (.getfield 10, 3) := by decide +kernel
theorem dX4_account_136 : decode cX4_account 136 = .ok (.getfield 280, 3) := by decide +kernel
theorem dX4_account_139 : decode cX4_account 139 = .ok (.ireturn, 1) := by decide +kernel
theorem dX4_account_140 : decode cX4_account 140 = .ok (.aload_n 0, 1) := by decide +kernel
theorem dX4_account_141 : decode cX4_account 141 = .ok (.getfield 10, 3) := by decide +kernel
theorem dX4_account_144 : decode cX4_account 144 = .ok (.getfield 195, 3) := by decide +kernel
theorem dX4_account_147 : decode cX4_account 147 = .ok (.invokestatic 283, 3) := by decide +kernel
theorem dX4_account_150 : decode cX4_account 150 = .ok (.ireturn, 1) := by decide +kernel
theorem dX4_account_151 : decode cX4_account 151 = .ok (.aload_n 0, 1) := by decide +kernel
theorem dX4_account_152 : decode cX4_account 152 = .ok (.getfield 10, 3) := by decide +kernel
theorem dX4_account_155 : decode cX4_account 155 = .ok (.getfield 183, 3) := by decide +kernel
theorem dX4_account_158 : decode cX4_account 158 = .ok (.invokestatic 283, 3) := by decide +kernel
theorem dX4_account_161 : decode cX4_account 161 = .ok (.ireturn, 1) := by decide +kernel
theorem dX4_account_162 : decode cX4_account 162 = .ok (.aload_n 0, 1) := by decide +kernel
theorem dX4_account_163 : decode cX4_account 163 = .ok (.getfield 36, 3) := by decide +kernel
theorem dX4_account_166 : decode cX4_account 166 = .ok (.getfield 211, 3) := by decide +kernel
theorem dX4_account_169 : decode cX4_account 169 = .ok (.ireturn, 1) := by decide +kernel
theorem dX4_account_170 : decode cX4_account 170 = .ok (.aload_n 0, 1) := by decide +kernel
theorem dX4_account_171 : decode cX4_account 171 = .ok (.getfield 22, 3) := by decide +kernel
theorem dX4_account_174 : decode cX4_account 174 = .ok (.getfield 287, 3) := by decide +kernel
theorem dX4_account_177 : decode cX4_account 177 = .ok (.ireturn, 1) := by decide +kernel
theorem dX4_account_178 : decode cX4_account 178 = .ok (.sipush (-1012), 3) := by decide +kernel
theorem dX4_account_181 : decode cX4_account 181 = .ok (.ireturn, 1) := by decide +kernel
theorem dX4_isBalanced_0 : decode cX4_isBalanced 0 = .ok (.aload_n 0, 1) := by decide +kernel
theorem dX4_isBalanced_1 : decode cX4_isBalanced 1 = .ok (.getfield 10, 3) := by decide +kernel
theorem dX4_isBalanced_4 : decode cX4_isBalanced 4 = .ok (.getfield 277, 3) := by decide +kernel
theorem dX4_isBalanced_7 : decode cX4_isBalanced 7 = .ok (.aload_n 0, 1) := by decide +kernel
theorem dX4_isBalanced_8 : decode cX4_isBalanced 8 = .ok (.getfield 10, 3) := by decide +kernel
theorem dX4_isBalanced_11 : decode cX4_isBalanced 11 = .ok (.invokevirtual 274, 3) := by decide +kernel
theorem dX4_isBalanced_14 : decode cX4_isBalanced 14 = .ok (.aload_n 0, 1) := by decide +kernel
theorem dX4_isBalanced_15 : decode cX4_isBalanced 15 = .ok (.getfield 10, 3) := by decide +kernel
theorem dX4_isBalanced_18 : decode cX4_isBalanced 18 = .ok (.getfield 280, 3) := by decide +kernel
theorem dX4_isBalanced_21 : decode cX4_isBalanced 21 = .ok (.iadd, 1) := by decide +kernel
theorem dX4_isBalanced_22 : decode cX4_isBalanced 22 = .ok (.if_icmp .ne 7, 3) := by decide +kernel
theorem dX4_isBalanced_25 : decode cX4_isBalanced 25 = .ok (.iconst 1, 1) := by decide +kernel
theorem dX4_isBalanced_26 : decode cX4_isBalanced 26 = .ok (.goto 4, 3) := by decide +kernel
theorem dX4_isBalanced_29 : decode cX4_isBalanced 29 = .ok (.iconst 0, 1) := by decide +kernel
theorem dX4_isBalanced_30 : decode cX4_isBalanced 30 = .ok (.istore_n 1, 1) := by decide +kernel
theorem dX4_isBalanced_31 : decode cX4_isBalanced 31 = .ok (.aload_n 0, 1) := by decide +kernel
theorem dX4_isBalanced_32 : decode cX4_isBalanced 32 = .ok (.invokevirtual 288, 3) := by decide +kernel
theorem dX4_isBalanced_35 : decode cX4_isBalanced 35 = .ok (.aload_n 0, 1) := by decide +kernel
theorem dX4_isBalanced_36 : decode cX4_isBalanced 36 = .ok (.invokevirtual 291, 3) := by decide +kernel
theorem dX4_isBalanced_39 : decode cX4_isBalanced 39 = .ok (.if_icmp .ne 7, 3) := by decide +kernel
theorem dX4_isBalanced_42 : decode cX4_isBalanced 42 = .ok (.iconst 1, 1) := by decide +kernel
theorem dX4_isBalanced_43 : decode cX4_isBalanced 43 = .ok (.goto 4, 3) := by decide +kernel
theorem dX4_isBalanced_46 : decode cX4_isBalanced 46 = .ok (.iconst 0, 1) := by decide +kernel
theorem dX4_isBalanced_47 : decode cX4_isBalanced 47 = .ok (.istore_n 2, 1) := by decide +kernel
theorem dX4_isBalanced_48 : decode cX4_isBalanced 48 = .ok (.iload_n 1, 1) := by decide +kernel
theorem dX4_isBalanced_49 : decode cX4_isBalanced 49 = .ok (.ifCond .eq 28, 3) := by decide +kernel
theorem dX4_isBalanced_52 : decode cX4_isBalanced 52 = .ok (.iload_n 2, 1) := by decide +kernel
theorem dX4_isBalanced_53 : decode cX4_isBalanced 53 = .ok (.ifCond .eq 24, 3) := by decide +kernel
theorem dX4_isBalanced_56 : decode cX4_isBalanced 56 = .ok (.aload_n 0, 1) := by decide +kernel
theorem dX4_isBalanced_57 : decode cX4_isBalanced 57 = .ok (.invokevirtual 294, 3) := by decide +kernel
theorem dX4_isBalanced_60 : decode cX4_isBalanced 60 = .ok (.ifCond .eq 17, 3) := by decide +kernel
theorem dX4_isBalanced_63 : decode cX4_isBalanced 63 = .ok (.aload_n 0, 1) := by decide +kernel
theorem dX4_isBalanced_64 : decode cX4_isBalanced 64 = .ok (.getfield 10, 3) := by decide +kernel
theorem dX4_isBalanced_67 : decode cX4_isBalanced 67 = .ok (.invokevirtual 298, 3) := by decide +kernel
theorem dX4_isBalanced_70 : decode cX4_isBalanced 70 = .ok (.ifCond .ne 7, 3) := by decide +kernel
theorem dX4_isBalanced_73 : decode cX4_isBalanced 73 = .ok (.iconst 1, 1) := by decide +kernel
theorem dX4_isBalanced_74 : decode cX4_isBalanced 74 = .ok (.goto 4, 3) := by decide +kernel
theorem dX4_isBalanced_77 : decode cX4_isBalanced 77 = .ok (.iconst 0, 1) := by decide +kernel
theorem dX4_isBalanced_78 : decode cX4_isBalanced 78 = .ok (.ireturn, 1) := by decide +kernel
theorem dX4_meanWater_0 : decode cX4_meanWater 0 = .ok (.aload_n 0, 1) := by decide +kernel
theorem dX4_meanWater_1 : decode cX4_meanWater 1 = .ok (.getfield 10, 3) := by decide +kernel
theorem dX4_meanWater_4 : decode cX4_meanWater 4 = .ok (.getfield 146, 3) := by decide +kernel
theorem dX4_meanWater_7 : decode cX4_meanWater 7 = .ok (.ifCond .ne 7, 3) := by decide +kernel
theorem dX4_meanWater_10 : decode cX4_meanWater 10 = .ok (.dconst 0, 1) := by decide +kernel
theorem dX4_meanWater_11 : decode cX4_meanWater 11 = .ok (.goto 20, 3) := by decide +kernel
theorem dX4_meanWater_14 : decode cX4_meanWater 14 = .ok (.aload_n 0, 1) := by decide +kernel
theorem dX4_meanWater_15 : decode cX4_meanWater 15 = .ok (.getfield 10, 3) := by decide +kernel
theorem dX4_meanWater_18 : decode cX4_meanWater 18 = .ok (.invokevirtual 274, 3) := by decide +kernel
theorem dX4_meanWater_21 : decode cX4_meanWater 21 = .ok (.i2d, 1) := by decide +kernel
theorem dX4_meanWater_22 : decode cX4_meanWater 22 = .ok (.aload_n 0, 1) := by decide +kernel
theorem dX4_meanWater_23 : decode cX4_meanWater 23 = .ok (.getfield 10, 3) := by decide +kernel
theorem dX4_meanWater_26 : decode cX4_meanWater 26 = .ok (.getfield 146, 3) := by decide +kernel
theorem dX4_meanWater_29 : decode cX4_meanWater 29 = .ok (.i2d, 1) := by decide +kernel
theorem dX4_meanWater_30 : decode cX4_meanWater 30 = .ok (.ddiv, 1) := by decide +kernel
theorem dX4_meanWater_31 : decode cX4_meanWater 31 = .ok (.dreturn, 1) := by decide +kernel
theorem dX4_whistleShare_0 : decode cX4_whistleShare 0 = .ok (.aload_n 0, 1) := by decide +kernel
theorem dX4_whistleShare_1 : decode cX4_whistleShare 1 = .ok (.getfield 10, 3) := by decide +kernel
theorem dX4_whistleShare_4 : decode cX4_whistleShare 4 = .ok (.invokevirtual 259, 3) := by decide +kernel
theorem dX4_whistleShare_7 : decode cX4_whistleShare 7 = .ok (.istore_n 1, 1) := by decide +kernel
theorem dX4_whistleShare_8 : decode cX4_whistleShare 8 = .ok (.iload_n 1, 1) := by decide +kernel
theorem dX4_whistleShare_9 : decode cX4_whistleShare 9 = .ok (.ifCond .ne 7, 3) := by decide +kernel
theorem dX4_whistleShare_12 : decode cX4_whistleShare 12 = .ok (.fconst 0, 1) := by decide +kernel
theorem dX4_whistleShare_13 : decode cX4_whistleShare 13 = .ok (.goto 17, 3) := by decide +kernel
theorem dX4_whistleShare_16 : decode cX4_whistleShare 16 = .ok (.aload_n 0, 1) := by decide +kernel
theorem dX4_whistleShare_17 : decode cX4_whistleShare 17 = .ok (.getfield 10, 3) := by decide +kernel
theorem dX4_whistleShare_20 : decode cX4_whistleShare 20 = .ok (.invokevirtual 142, 3) := by decide +kernel
theorem dX4_whistleShare_23 : decode cX4_whistleShare 23 = .ok (.invokestatic 110, 3) := by decide +kernel
theorem dX4_whistleShare_26 : decode cX4_whistleShare 26 = .ok (.i2f, 1) := by decide +kernel
theorem dX4_whistleShare_27 : decode cX4_whistleShare 27 = .ok (.iload_n 1, 1) := by decide +kernel
theorem dX4_whistleShare_28 : decode cX4_whistleShare 28 = .ok (.i2f, 1) := by decide +kernel
theorem dX4_whistleShare_29 : decode cX4_whistleShare 29 = .ok (.fdiv, 1) := by decide +kernel
theorem dX4_whistleShare_30 : decode cX4_whistleShare 30 = .ok (.freturn, 1) := by decide +kernel
theorem dX4_isMember_0 : decode cX4_isMember 0 = .ok (.iload_n 0, 1) := by decide +kernel
theorem dX4_isMember_1 : decode cX4_isMember 1 = .ok (.ifCond .lt 12, 3) := by decide +kernel
theorem dX4_isMember_4 : decode cX4_isMember 4 = .ok (.iload_n 0, 1) := by decide +kernel
theorem dX4_isMember_5 : decode cX4_isMember 5 = .ok (.iconst 4, 1) := by decide +kernel
theorem dX4_isMember_6 : decode cX4_isMember 6 = .ok (.if_icmp .ge 7, 3) := by decide +kernel
theorem dX4_isMember_9 : decode cX4_isMember 9 = .ok (.iconst 1, 1) := by decide +kernel
theorem dX4_isMember_10 : decode cX4_isMember 10 = .ok (.goto 4, 3) := by decide +kernel
theorem dX4_isMember_13 : decode cX4_isMember 13 = .ok (.iconst 0, 1) := by decide +kernel
theorem dX4_isMember_14 : decode cX4_isMember 14 = .ok (.ireturn, 1) := by decide +kernel
theorem dX4_isPitch_0 : decode cX4_isPitch 0 = .ok (.iload_n 0, 1) := by decide +kernel
theorem dX4_isPitch_1 : decode cX4_isPitch 1 = .ok (.iconst 1, 1) := by decide +kernel
theorem dX4_isPitch_2 : decode cX4_isPitch 2 = .ok (.if_icmp .lt 13, 3) := by decide +kernel
theorem dX4_isPitch_5 : decode cX4_isPitch 5 = .ok (.iload_n 0, 1) := by decide +kernel
theorem dX4_isPitch_6 : decode cX4_isPitch 6 = .ok (.bipush 12, 2) := by decide +kernel
theorem dX4_isPitch_8 : decode cX4_isPitch 8 = .ok (.if_icmp .gt 7, 3) := by decide +kernel
theorem dX4_isPitch_11 : decode cX4_isPitch 11 = .ok (.iconst 1, 1) := by decide +kernel
theorem dX4_isPitch_12 : decode cX4_isPitch 12 = .ok (.goto 4, 3) := by decide +kernel
theorem dX4_isPitch_15 : decode cX4_isPitch 15 = .ok (.iconst 0, 1) := by decide +kernel
theorem dX4_isPitch_16 : decode cX4_isPitch 16 = .ok (.ireturn, 1) := by decide +kernel
theorem dX4_isStove_0 : decode cX4_isStove 0 = .ok (.iload_n 0, 1) := by decide +kernel
theorem dX4_isStove_1 : decode cX4_isStove 1 = .ok (.ifCond .lt 13, 3) := by decide +kernel
theorem dX4_isStove_4 : decode cX4_isStove 4 = .ok (.iload_n 0, 1) := by decide +kernel
theorem dX4_isStove_5 : decode cX4_isStove 5 = .ok (.bipush 6, 2) := by decide +kernel
theorem dX4_isStove_7 : decode cX4_isStove 7 = .ok (.if_icmp .ge 7, 3) := by decide +kernel
theorem dX4_isStove_10 : decode cX4_isStove 10 = .ok (.iconst 1, 1) := by decide +kernel
theorem dX4_isStove_11 : decode cX4_isStove 11 = .ok (.goto 4, 3) := by decide +kernel
theorem dX4_isStove_14 : decode cX4_isStove 14 = .ok (.iconst 0, 1) := by decide +kernel
theorem dX4_isStove_15 : decode cX4_isStove 15 = .ok (.ireturn, 1) := by decide +kernel
theorem dX4_isKettle_0 : decode cX4_isKettle 0 = .ok (.iload_n 1, 1) := by decide +kernel
theorem dX4_isKettle_1 : decode cX4_isKettle 1 = .ok (.ifCond .lt 18, 3) := by decide +kernel
theorem dX4_isKettle_4 : decode cX4_isKettle 4 = .ok (.iload_n 1, 1) := by decide +kernel
theorem dX4_isKettle_5 : decode cX4_isKettle 5 = .ok (.aload_n 0, 1) := by decide +kernel
theorem dX4_isKettle_6 : decode cX4_isKettle 6 = .ok (.getfield 10, 3) := by decide +kernel
theorem dX4_isKettle_9 : decode cX4_isKettle 9 = .ok (.getfield 146, 3) := by decide +kernel
theorem dX4_isKettle_12 : decode cX4_isKettle 12 = .ok (.if_icmp .ge 7, 3) := by decide +kernel
theorem dX4_isKettle_15 : decode cX4_isKettle 15 = .ok (.iconst 1, 1) := by decide +kernel
theorem dX4_isKettle_16 : decode cX4_isKettle 16 = .ok (.goto 4, 3) := by decide +kernel
theorem dX4_isKettle_19 : decode cX4_isKettle 19 = .ok (.iconst 0, 1) := by decide +kernel
theorem dX4_isKettle_20 : decode cX4_isKettle 20 = .ok (.ireturn, 1) := by decide +kernel
theorem dX4_isIn_0 : decode cX4_isIn 0 = .ok (.iload_n 0, 1) := by decide +kernel
theorem dX4_isIn_1 : decode cX4_isIn 1 = .ok (.iload_n 1, 1) := by decide +kernel
theorem dX4_isIn_2 : decode cX4_isIn 2 = .ok (.ishr, 1) := by decide +kernel
theorem dX4_isIn_3 : decode cX4_isIn 3 = .ok (.iconst 1, 1) := by decide +kernel
theorem dX4_isIn_4 : decode cX4_isIn 4 = .ok (.iand, 1) := by decide +kernel
theorem dX4_isIn_5 : decode cX4_isIn 5 = .ok (.iconst 1, 1) := by decide +kernel
theorem dX4_isIn_6 : decode cX4_isIn 6 = .ok (.if_icmp .ne 7, 3) := by decide +kernel
theorem dX4_isIn_9 : decode cX4_isIn 9 = .ok (.iconst 1, 1) := by decide +kernel
theorem dX4_isIn_10 : decode cX4_isIn 10 = .ok (.goto 4, 3) := by decide +kernel
theorem dX4_isIn_13 : decode cX4_isIn 13 = .ok (.iconst 0, 1) := by decide +kernel
theorem dX4_isIn_14 : decode cX4_isIn 14 = .ok (.ireturn, 1) := by decide +kernel
theorem dX4_orNothing_0 : decode cX4_orNothing 0 = .ok (.iload_n 0, 1) := by decide +kernel
theorem dX4_orNothing_1 : decode cX4_orNothing 1 = .ok (.iconst (-1), 1) := by decide +kernel
theorem dX4_orNothing_2 : decode cX4_orNothing 2 = .ok (.if_icmp .ne 9, 3) := by decide +kernel
theorem dX4_orNothing_5 : decode cX4_orNothing 5 = .ok (.sipush (-1015), 3) := by decide +kernel
theorem dX4_orNothing_8 : decode cX4_orNothing 8 = .ok (.goto 4, 3) := by decide +kernel
theorem dX4_orNothing_11 : decode cX4_orNothing 11 = .ok (.iload_n 0, 1) := by decide +kernel
theorem dX4_orNothing_12 : decode cX4_orNothing 12 = .ok (.ireturn, 1) := by decide +kernel
theorem dX4_sumOf_0 : decode cX4_sumOf 0 = .ok (.iconst 0, 1) := by decide +kernel
theorem dX4_sumOf_1 : decode cX4_sumOf 1 = .ok (.istore_n 1, 1) := by decide +kernel
theorem dX4_sumOf_2 : decode cX4_sumOf 2 = .ok (.aload_n 0, 1) := by decide +kernel
theorem dX4_sumOf_3 : decode cX4_sumOf 3 = .ok (.astore_n 2, 1) := by decide +kernel
theorem dX4_sumOf_4 : decode cX4_sumOf 4 = .ok (.aload_n 2, 1) := by decide +kernel
theorem dX4_sumOf_5 : decode cX4_sumOf 5 = .ok (.arraylength, 1) := by decide +kernel
theorem dX4_sumOf_6 : decode cX4_sumOf 6 = .ok (.istore_n 3, 1) := by decide +kernel
theorem dX4_sumOf_7 : decode cX4_sumOf 7 = .ok (.iconst 0, 1) := by decide +kernel
theorem dX4_sumOf_8 : decode cX4_sumOf 8 = .ok (.istore 4, 2) := by decide +kernel
theorem dX4_sumOf_10 : decode cX4_sumOf 10 = .ok (.iload 4, 2) := by decide +kernel
theorem dX4_sumOf_12 : decode cX4_sumOf 12 = .ok (.iload_n 3, 1) := by decide +kernel
theorem dX4_sumOf_13 : decode cX4_sumOf 13 = .ok (.if_icmp .ge 20, 3) := by decide +kernel
theorem dX4_sumOf_16 : decode cX4_sumOf 16 = .ok (.aload_n 2, 1) := by decide +kernel
theorem dX4_sumOf_17 : decode cX4_sumOf 17 = .ok (.iload 4, 2) := by decide +kernel
theorem dX4_sumOf_19 : decode cX4_sumOf 19 = .ok (.iaload, 1) := by decide +kernel
theorem dX4_sumOf_20 : decode cX4_sumOf 20 = .ok (.istore 5, 2) := by decide +kernel
theorem dX4_sumOf_22 : decode cX4_sumOf 22 = .ok (.iload_n 1, 1) := by decide +kernel
theorem dX4_sumOf_23 : decode cX4_sumOf 23 = .ok (.iload 5, 2) := by decide +kernel
theorem dX4_sumOf_25 : decode cX4_sumOf 25 = .ok (.iadd, 1) := by decide +kernel
theorem dX4_sumOf_26 : decode cX4_sumOf 26 = .ok (.istore_n 1, 1) := by decide +kernel
theorem dX4_sumOf_27 : decode cX4_sumOf 27 = .ok (.iinc 4 1, 3) := by decide +kernel
theorem dX4_sumOf_30 : decode cX4_sumOf 30 = .ok (.goto (-20), 3) := by decide +kernel
theorem dX4_sumOf_33 : decode cX4_sumOf 33 = .ok (.iload_n 1, 1) := by decide +kernel
theorem dX4_sumOf_34 : decode cX4_sumOf 34 = .ok (.ireturn, 1) := by decide +kernel
theorem dX4_soundOf_0 : decode cX4_soundOf 0 = .ok (.iload_n 0, 1) := by decide +kernel
theorem dX4_soundOf_1 : decode cX4_soundOf 1 = .ok (.iload_n 1, 1) := by decide +kernel
theorem dX4_soundOf_2 : decode cX4_soundOf 2 = .ok (.isub, 1) := by decide +kernel
theorem dX4_soundOf_3 : decode cX4_soundOf 3 = .ok (.invokestatic 311, 3) := by decide +kernel
theorem dX4_soundOf_6 : decode cX4_soundOf 6 = .ok (.istore_n 2, 1) := by decide +kernel
theorem dX4_soundOf_7 : decode cX4_soundOf 7 = .ok (.iload_n 2, 1) := by decide +kernel
theorem dX4_soundOf_8 : decode cX4_soundOf 8 = .ok (.ifCond .lt 19, 3) := by decide +kernel
theorem dX4_soundOf_11 : decode cX4_soundOf 11 = .ok (.iload_n 2, 1) := by decide +kernel
theorem dX4_soundOf_12 : decode cX4_soundOf 12 = .ok (.getstatic 160, 3) := by decide +kernel
theorem dX4_soundOf_15 : decode cX4_soundOf 15 = .ok (.arraylength, 1) := by decide +kernel
theorem dX4_soundOf_16 : decode cX4_soundOf 16 = .ok (.if_icmp .ge 11, 3) := by decide +kernel
theorem dX4_soundOf_19 : decode cX4_soundOf 19 = .ok (.getstatic 160, 3) := by decide +kernel
theorem dX4_soundOf_22 : decode cX4_soundOf 22 = .ok (.iload_n 2, 1) := by decide +kernel
theorem dX4_soundOf_23 : decode cX4_soundOf 23 = .ok (.iaload, 1) := by decide +kernel
theorem dX4_soundOf_24 : decode cX4_soundOf 24 = .ok (.goto 4, 3) := by decide +kernel
theorem dX4_soundOf_27 : decode cX4_soundOf 27 = .ok (.iconst 0, 1) := by decide +kernel
theorem dX4_soundOf_28 : decode cX4_soundOf 28 = .ok (.ireturn, 1) := by decide +kernel
theorem dX4_fitOf_0 : decode cX4_fitOf 0 = .ok (.iconst 0, 1) := by decide +kernel
theorem dX4_fitOf_1 : decode cX4_fitOf 1 = .ok (.istore_n 2, 1) := by decide +kernel
theorem dX4_fitOf_2 : decode cX4_fitOf 2 = .ok (.iconst 1, 1) := by decide +kernel
theorem dX4_fitOf_3 : decode cX4_fitOf 3 = .ok (.istore_n 3, 1) := by decide +kernel
theorem dX4_fitOf_4 : decode cX4_fitOf 4 = .ok (.iload_n 3, 1) := by decide +kernel
theorem dX4_fitOf_5 : decode cX4_fitOf 5 = .ok (.bipush 12, 2) := by decide +kernel
theorem dX4_fitOf_7 : decode cX4_fitOf 7 = .ok (.if_icmp .gt 25, 3) := by decide +kernel
theorem dX4_fitOf_10 : decode cX4_fitOf 10 = .ok (.iload_n 1, 1) := by decide +kernel
theorem dX4_fitOf_11 : decode cX4_fitOf 11 = .ok (.iload_n 3, 1) := by decide +kernel
theorem dX4_fitOf_12 : decode cX4_fitOf 12 = .ok (.invokestatic 150, 3) := by decide +kernel
theorem dX4_fitOf_15 : decode cX4_fitOf 15 = .ok (.ifCond .eq 11, 3) := by decide +kernel
theorem dX4_fitOf_18 : decode cX4_fitOf 18 = .ok (.iload_n 2, 1) := by decide +kernel
theorem dX4_fitOf_19 : decode cX4_fitOf 19 = .ok (.iload_n 0, 1) := by decide +kernel
theorem dX4_fitOf_20 : decode cX4_fitOf 20 = .ok (.iload_n 3, 1) := by decide +kernel
theorem dX4_fitOf_21 : decode cX4_fitOf 21 = .ok (.invokestatic 154, 3) := by decide +kernel
theorem dX4_fitOf_24 : decode cX4_fitOf 24 = .ok (.iadd, 1) := by decide +kernel
theorem dX4_fitOf_25 : decode cX4_fitOf 25 = .ok (.istore_n 2, 1) := by decide +kernel
theorem dX4_fitOf_26 : decode cX4_fitOf 26 = .ok (.iinc 3 1, 3) := by decide +kernel
theorem dX4_fitOf_29 : decode cX4_fitOf 29 = .ok (.goto (-25), 3) := by decide +kernel
theorem dX4_fitOf_32 : decode cX4_fitOf 32 = .ok (.iload_n 2, 1) := by decide +kernel
theorem dX4_fitOf_33 : decode cX4_fitOf 33 = .ok (.ireturn, 1) := by decide +kernel
theorem dX4_isBoilingSame_0 : decode cX4_isBoilingSame 0 = .ok (.iconst 0, 1) := by decide +kernel
theorem dX4_isBoilingSame_1 : decode cX4_isBoilingSame 1 = .ok (.istore_n 1, 1) := by decide +kernel
theorem dX4_isBoilingSame_2 : decode cX4_isBoilingSame 2 = .ok (.iload_n 1, 1) := by decide +kernel
theorem dX4_isBoilingSame_3 : decode cX4_isBoilingSame 3 = .ok (.aload_n 0, 1) := by decide +kernel
theorem dX4_isBoilingSame_4 : decode cX4_isBoilingSame 4 = .ok (.getfield 10, 3) := by decide +kernel
theorem dX4_isBoilingSame_7 : decode cX4_isBoilingSame 7 = .ok (.getfield 146, 3) := by decide +kernel
theorem dX4_isBoilingSame_10 : decode cX4_isBoilingSame 10 = .ok (.if_icmp .ge 24, 3) := by decide +kernel
theorem dX4_isBoilingSame_13 : decode cX4_isBoilingSame 13 = .ok (.aload_n 0, 1) := by decide +kernel
theorem dX4_isBoilingSame_14 : decode cX4_isBoilingSame 14 = .ok (.iload_n 1, 1) := by decide +kernel
theorem dX4_isBoilingSame_15 : decode cX4_isBoilingSame 15 = .ok (.invokevirtual 171, 3) := by decide +kernel
theorem dX4_isBoilingSame_18 : decode cX4_isBoilingSame 18 = .ok (.aload_n 0, 1) := by decide +kernel
theorem dX4_isBoilingSame_19 : decode cX4_isBoilingSame 19 = .ok (.iload_n 1, 1) := by decide +kernel
theorem dX4_isBoilingSame_20 : decode cX4_isBoilingSame 20 = .ok (.invokevirtual 314, 3) := by decide +kernel
theorem dX4_isBoilingSame_23 : decode cX4_isBoilingSame 23 = .ok (.if_icmp .eq 5, 3) := by decide +kernel
theorem dX4_isBoilingSame_26 : decode cX4_isBoilingSame 26 = .ok (.iconst 0, 1) := by decide +kernel
theorem dX4_isBoilingSame_27 : decode cX4_isBoilingSame 27 = .ok (.ireturn, 1) := by decide +kernel
theorem dX4_isBoilingSame_28 : decode cX4_isBoilingSame 28 = .ok (.iinc 1 1, 3) := by decide +kernel
theorem dX4_isBoilingSame_31 : decode cX4_isBoilingSame 31 = .ok (.goto (-29), 3) := by decide +kernel
theorem dX4_isBoilingSame_34 : decode cX4_isBoilingSame 34 = .ok (.iconst 1, 1) := by decide +kernel
theorem dX4_isBoilingSame_35 : decode cX4_isBoilingSame 35 = .ok (.ireturn, 1) := by decide +kernel
theorem dX4_countAheadOfMember_0 : decode cX4_countAheadOfMember 0 = .ok (.iconst 0, 1) := by decide +kernel
theorem dX4_countAheadOfMember_1 : decode cX4_countAheadOfMember 1 = .ok (.istore_n 2, 1) := by decide +kernel
theorem dX4_countAheadOfMember_2 : decode cX4_countAheadOfMember 2 = .ok (.iconst 0, 1) := by decide +kernel
theorem dX4_countAheadOfMember_3 : decode cX4_countAheadOfMember 3 = .ok (.istore_n 3, 1) := by decide +kernel
theorem dX4_countAheadOfMember_4 : decode cX4_countAheadOfMember 4 = .ok (.iload_n 3, 1) := by decide +kernel
theorem dX4_countAheadOfMember_5 : decode cX4_countAheadOfMember 5 = .ok (.iconst 4, 1) := by decide +kernel
theorem dX4_countAheadOfMember_6 : decode cX4_countAheadOfMember 6 = .ok (.if_icmp .ge 21, 3) := by decide +kernel
theorem dX4_countAheadOfMember_9 : decode cX4_countAheadOfMember 9 = .ok (.aload_n 0, 1) := by decide +kernel
theorem dX4_countAheadOfMember_10 : decode cX4_countAheadOfMember 10 = .ok (.iload_n 3, 1) := by decide +kernel
theorem dX4_countAheadOfMember_11 : decode cX4_countAheadOfMember 11 = .ok (.iload_n 1, 1) := by decide +kernel
theorem dX4_countAheadOfMember_12 : decode cX4_countAheadOfMember 12 = .ok (.invokevirtual 317, 3) := by decide +kernel
theorem dX4_countAheadOfMember_15 : decode cX4_countAheadOfMember 15 = .ok (.ifCond .eq 6, 3) := by decide +kernel
theorem dX4_countAheadOfMember_18 : decode cX4_countAheadOfMember 18 = .ok (.iinc 2 1, 3) := by decide +kernel
theorem dX4_countAheadOfMember_21 : decode cX4_countAheadOfMember 21 = .ok (.iinc 3 1, 3) := by decide +kernel
theorem dX4_countAheadOfMember_24 : decode cX4_countAheadOfMember 24 = .ok (.goto (-20), 3) := by decide +kernel
theorem dX4_countAheadOfMember_27 : decode cX4_countAheadOfMember 27 = .ok (.iload_n 2, 1) := by decide +kernel
theorem dX4_countAheadOfMember_28 : decode cX4_countAheadOfMember 28 = .ok (.ireturn, 1) := by decide +kernel
theorem dX4_isMemberAhead_0 : decode cX4_isMemberAhead 0 = .ok (.aload_n 0, 1) := by decide +kernel
theorem dX4_isMemberAhead_1 : decode cX4_isMemberAhead 1 = .ok (.getfield 10, 3) := by decide +kernel
theorem dX4_isMemberAhead_4 : decode cX4_isMemberAhead 4 = .ok (.getfield 183, 3) := by decide +kernel
theorem dX4_isMemberAhead_7 : decode cX4_isMemberAhead 7 = .ok (.iload_n 1, 1) := by decide +kernel
theorem dX4_isMemberAhead_8 : decode cX4_isMemberAhead 8 = .ok (.iaload, 1) := by decide +kernel
theorem dX4_isMemberAhead_9 : decode cX4_isMemberAhead 9 = .ok (.aload_n 0, 1) := by decide +kernel
theorem dX4_isMemberAhead_10 : decode cX4_isMemberAhead 10 = .ok (.getfield 10, 3) := by decide +kernel
theorem dX4_isMemberAhead_13 : decode cX4_isMemberAhead 13 = .ok (.getfield 183, 3) := by decide +kernel
theorem dX4_isMemberAhead_16 : decode cX4_isMemberAhead 16 = .ok (.iload_n 2, 1) := by decide +kernel
theorem dX4_isMemberAhead_17 : decode cX4_isMemberAhead 17 = .ok (.iaload, 1) := by decide +kernel
theorem dX4_isMemberAhead_18 : decode cX4_isMemberAhead 18 = .ok (.invokestatic 320, 3) := by decide +kernel
theorem dX4_isMemberAhead_21 : decode cX4_isMemberAhead 21 = .ok (.istore_n 3, 1) := by decide +kernel
theorem dX4_isMemberAhead_22 : decode cX4_isMemberAhead 22 = .ok (.iload_n 3, 1) := by decide +kernel
theorem dX4_isMemberAhead_23 : decode cX4_isMemberAhead 23 = .ok (.ifCond .eq 13, 3) := by decide +kernel
theorem dX4_isMemberAhead_26 : decode cX4_isMemberAhead 26 = .ok (.iload_n 3, 1) := by decide +kernel
theorem dX4_isMemberAhead_27 : decode cX4_isMemberAhead 27 = .ok (.ifCond .le 7, 3) := by decide +kernel
theorem dX4_isMemberAhead_30 : decode cX4_isMemberAhead 30 = .ok (.iconst 1, 1) := by decide +kernel
theorem dX4_isMemberAhead_31 : decode cX4_isMemberAhead 31 = .ok (.goto 4, 3) := by decide +kernel
theorem dX4_isMemberAhead_34 : decode cX4_isMemberAhead 34 = .ok (.iconst 0, 1) := by decide +kernel
theorem dX4_isMemberAhead_35 : decode cX4_isMemberAhead 35 = .ok (.ireturn, 1) := by decide +kernel
theorem dX4_isMemberAhead_36 : decode cX4_isMemberAhead 36 = .ok (.aload_n 0, 1) := by decide +kernel
theorem dX4_isMemberAhead_37 : decode cX4_isMemberAhead 37 = .ok (.getfield 10, 3) := by decide +kernel
theorem dX4_isMemberAhead_40 : decode cX4_isMemberAhead 40 = .ok (.iload_n 1, 1) := by decide +kernel
theorem dX4_isMemberAhead_41 : decode cX4_isMemberAhead 41 = .ok (.invokevirtual 186, 3) := by decide +kernel
theorem dX4_isMemberAhead_44 : decode cX4_isMemberAhead 44 = .ok (.aload_n 0, 1) := by decide +kernel
theorem dX4_isMemberAhead_45 : decode cX4_isMemberAhead 45 = .ok (.getfield 10, 3) := by decide +kernel
theorem dX4_isMemberAhead_48 : decode cX4_isMemberAhead 48 = .ok (.iload_n 2, 1) := by decide +kernel
theorem dX4_isMemberAhead_49 : decode cX4_isMemberAhead 49 = .ok (.invokevirtual 186, 3) := by decide +kernel
theorem dX4_isMemberAhead_52 : decode cX4_isMemberAhead 52 = .ok (.invokestatic 320, 3) := by decide +kernel
theorem dX4_isMemberAhead_55 : decode cX4_isMemberAhead 55 = .ok (.istore 4, 2) := by decide +kernel
theorem dX4_isMemberAhead_57 : decode cX4_isMemberAhead 57 = .ok (.iload 4, 2) := by decide +kernel
theorem dX4_isMemberAhead_59 : decode cX4_isMemberAhead 59 = .ok (.ifCond .eq 16, 3) := by decide +kernel
theorem dX4_isMemberAhead_62 : decode cX4_isMemberAhead 62 = .ok (.iload 4, 2) := by decide +kernel
theorem dX4_isMemberAhead_64 : decode cX4_isMemberAhead 64 = .ok (.ifCond .le 7, 3) := by decide +kernel
theorem dX4_isMemberAhead_67 : decode cX4_isMemberAhead 67 = .ok (.iconst 1, 1) := by decide +kernel
theorem dX4_isMemberAhead_68 : decode cX4_isMemberAhead 68 = .ok (.goto 17, 3) := by decide +kernel
theorem dX4_isMemberAhead_71 : decode cX4_isMemberAhead 71 = .ok (.iconst 0, 1) := by decide +kernel
theorem dX4_isMemberAhead_72 : decode cX4_isMemberAhead 72 = .ok (.goto 13, 3) := by decide +kernel
theorem dX4_isMemberAhead_75 : decode cX4_isMemberAhead 75 = .ok (.iload_n 1, 1) := by decide +kernel
theorem dX4_isMemberAhead_76 : decode cX4_isMemberAhead 76 = .ok (.iload_n 2, 1) := by decide +kernel
theorem dX4_isMemberAhead_77 : decode cX4_isMemberAhead 77 = .ok (.if_icmp .ge 7, 3) := by decide +kernel
theorem dX4_isMemberAhead_80 : decode cX4_isMemberAhead 80 = .ok (.iconst 1, 1) := by decide +kernel
theorem dX4_isMemberAhead_81 : decode cX4_isMemberAhead 81 = .ok (.goto 4, 3) := by decide +kernel
theorem dX4_isMemberAhead_84 : decode cX4_isMemberAhead 84 = .ok (.iconst 0, 1) := by decide +kernel
theorem dX4_isMemberAhead_85 : decode cX4_isMemberAhead 85 = .ok (.ireturn, 1) := by decide +kernel
theorem dX4_countAheadOfKettle_0 : decode cX4_countAheadOfKettle 0 = .ok (.iconst 0, 1) := by decide +kernel
theorem dX4_countAheadOfKettle_1 : decode cX4_countAheadOfKettle 1 = .ok (.istore_n 2, 1) := by decide +kernel
theorem dX4_countAheadOfKettle_2 : decode cX4_countAheadOfKettle 2 = .ok (.iconst 0, 1) := by decide +kernel
theorem dX4_countAheadOfKettle_3 : decode cX4_countAheadOfKettle 3 = .ok (.istore_n 3, 1) := by decide +kernel
theorem dX4_countAheadOfKettle_4 : decode cX4_countAheadOfKettle 4 = .ok (.iload_n 3, 1) := by decide +kernel
theorem dX4_countAheadOfKettle_5 : decode cX4_countAheadOfKettle 5 = .ok (.aload_n 0, 1) := by decide +kernel
theorem dX4_countAheadOfKettle_6 : decode cX4_countAheadOfKettle 6 = .ok (.getfield 10, 3) := by decide +kernel
theorem dX4_countAheadOfKettle_9 : decode cX4_countAheadOfKettle 9 = .ok (.getfield 146, 3) := by decide +kernel
theorem dX4_countAheadOfKettle_12 : decode cX4_countAheadOfKettle 12 = .ok (.if_icmp .ge 21, 3) := by decide +kernel
theorem dX4_countAheadOfKettle_15 : decode cX4_countAheadOfKettle 15 = .ok (.aload_n 0, 1) := by decide +kernel
theorem dX4_countAheadOfKettle_16 : decode cX4_countAheadOfKettle 16 = .ok (.iload_n 3, 1) := by decide +kernel
theorem dX4_countAheadOfKettle_17 : decode cX4_countAheadOfKettle 17 = .ok (.iload_n 1, 1) := by decide +kernel
theorem dX4_countAheadOfKettle_18 : decode cX4_countAheadOfKettle 18 = .ok (.invokevirtual 323, 3) := by decide +kernel
theorem dX4_countAheadOfKettle_21 : decode cX4_countAheadOfKettle 21 = .ok (.ifCond .eq 6, 3) := by decide +kernel
theorem dX4_countAheadOfKettle_24 : decode cX4_countAheadOfKettle 24 = .ok (.iinc 2 1, 3) := by decide +kernel
theorem dX4_countAheadOfKettle_27 : decode cX4_countAheadOfKettle 27 = .ok (.iinc 3 1, 3) := by decide +kernel
theorem dX4_countAheadOfKettle_30 : decode cX4_countAheadOfKettle 30 = .ok (.goto (-26), 3) := by decide +kernel
theorem dX4_countAheadOfKettle_33 : decode cX4_countAheadOfKettle 33 = .ok (.iload_n 2, 1) := by decide +kernel
theorem dX4_countAheadOfKettle_34 : decode cX4_countAheadOfKettle 34 = .ok (.ireturn, 1) := by decide +kernel
theorem dX4_isKettleAhead_0 : decode cX4_isKettleAhead 0 = .ok (.aload_n 0, 1) := by decide +kernel
theorem dX4_isKettleAhead_1 : decode cX4_isKettleAhead 1 = .ok (.getfield 10, 3) := by decide +kernel
theorem dX4_isKettleAhead_4 : decode cX4_isKettleAhead 4 = .ok (.getfield 89, 3) := by decide +kernel
theorem dX4_isKettleAhead_7 : decode cX4_isKettleAhead 7 = .ok (.iload_n 1, 1) := by decide +kernel
theorem dX4_isKettleAhead_8 : decode cX4_isKettleAhead 8 = .ok (.iaload, 1) := by decide +kernel
theorem dX4_isKettleAhead_9 : decode cX4_isKettleAhead 9 = .ok (.aload_n 0, 1) := by decide +kernel
theorem dX4_isKettleAhead_10 : decode cX4_isKettleAhead 10 = .ok (.getfield 10, 3) := by decide +kernel
theorem dX4_isKettleAhead_13 : decode cX4_isKettleAhead 13 = .ok (.getfield 89, 3) := by decide +kernel
theorem dX4_isKettleAhead_16 : decode cX4_isKettleAhead 16 = .ok (.iload_n 2, 1) := by decide +kernel
theorem dX4_isKettleAhead_17 : decode cX4_isKettleAhead 17 = .ok (.iaload, 1) := by decide +kernel
theorem dX4_isKettleAhead_18 : decode cX4_isKettleAhead 18 = .ok (.invokestatic 320, 3) := by decide +kernel
theorem dX4_isKettleAhead_21 : decode cX4_isKettleAhead 21 = .ok (.istore_n 3, 1) := by decide +kernel
theorem dX4_isKettleAhead_22 : decode cX4_isKettleAhead 22 = .ok (.iload_n 3, 1) := by decide +kernel
theorem dX4_isKettleAhead_23 : decode cX4_isKettleAhead 23 = .ok (.ifCond .eq 13, 3) := by decide +kernel
theorem dX4_isKettleAhead_26 : decode cX4_isKettleAhead 26 = .ok (.iload_n 3, 1) := by decide +kernel
theorem dX4_isKettleAhead_27 : decode cX4_isKettleAhead 27 = .ok (.ifCond .le 7, 3) := by decide +kernel
theorem dX4_isKettleAhead_30 : decode cX4_isKettleAhead 30 = .ok (.iconst 1, 1) := by decide +kernel
theorem dX4_isKettleAhead_31 : decode cX4_isKettleAhead 31 = .ok (.goto 4, 3) := by decide +kernel
theorem dX4_isKettleAhead_34 : decode cX4_isKettleAhead 34 = .ok (.iconst 0, 1) := by decide +kernel
theorem dX4_isKettleAhead_35 : decode cX4_isKettleAhead 35 = .ok (.ireturn, 1) := by decide +kernel
theorem dX4_isKettleAhead_36 : decode cX4_isKettleAhead 36 = .ok (.aload_n 0, 1) := by decide +kernel
theorem dX4_isKettleAhead_37 : decode cX4_isKettleAhead 37 = .ok (.getfield 10, 3) := by decide +kernel
theorem dX4_isKettleAhead_40 : decode cX4_isKettleAhead 40 = .ok (.getfield 86, 3) := by decide +kernel
theorem dX4_isKettleAhead_43 : decode cX4_isKettleAhead 43 = .ok (.iload_n 1, 1) := by decide +kernel
theorem dX4_isKettleAhead_44 : decode cX4_isKettleAhead 44 = .ok (.iaload, 1) := by decide +kernel
theorem dX4_isKettleAhead_45 : decode cX4_isKettleAhead 45 = .ok (.aload_n 0, 1) := by decide +kernel
theorem dX4_isKettleAhead_46 : decode cX4_isKettleAhead 46 = .ok (.getfield 10, 3) := by decide +kernel
theorem dX4_isKettleAhead_49 : decode cX4_isKettleAhead 49 = .ok (.getfield 86, 3) := by decide +kernel
theorem dX4_isKettleAhead_52 : decode cX4_isKettleAhead 52 = .ok (.iload_n 2, 1) := by decide +kernel
theorem dX4_isKettleAhead_53 : decode cX4_isKettleAhead 53 = .ok (.iaload, 1) := by decide +kernel
theorem dX4_isKettleAhead_54 : decode cX4_isKettleAhead 54 = .ok (.invokestatic 320, 3) := by decide +kernel
theorem dX4_isKettleAhead_57 : decode cX4_isKettleAhead 57 = .ok (.istore 4, 2) := by decide +kernel
theorem dX4_isKettleAhead_59 : decode cX4_isKettleAhead 59 = .ok (.iload 4, 2) := by decide +kernel
theorem dX4_isKettleAhead_61 : decode cX4_isKettleAhead 61 = .ok (.ifCond .eq 16, 3) := by decide +kernel
theorem dX4_isKettleAhead_64 : decode cX4_isKettleAhead 64 = .ok (.iload 4, 2) := by decide +kernel
theorem dX4_isKettleAhead_66 : decode cX4_isKettleAhead 66 = .ok (.ifCond .ge 7, 3) := by decide +kernel
theorem dX4_isKettleAhead_69 : decode cX4_isKettleAhead 69 = .ok (.iconst 1, 1) := by decide +kernel
theorem dX4_isKettleAhead_70 : decode cX4_isKettleAhead 70 = .ok (.goto 17, 3) := by decide +kernel
theorem dX4_isKettleAhead_73 : decode cX4_isKettleAhead 73 = .ok (.iconst 0, 1) := by decide +kernel
theorem dX4_isKettleAhead_74 : decode cX4_isKettleAhead 74 = .ok (.goto 13, 3) := by decide +kernel
theorem dX4_isKettleAhead_77 : decode cX4_isKettleAhead 77 = .ok (.iload_n 1, 1) := by decide +kernel
theorem dX4_isKettleAhead_78 : decode cX4_isKettleAhead 78 = .ok (.iload_n 2, 1) := by decide +kernel
theorem dX4_isKettleAhead_79 : decode cX4_isKettleAhead 79 = .ok (.if_icmp .ge 7, 3) := by decide +kernel
theorem dX4_isKettleAhead_82 : decode cX4_isKettleAhead 82 = .ok (.iconst 1, 1) := by decide +kernel
theorem dX4_isKettleAhead_83 : decode cX4_isKettleAhead 83 = .ok (.goto 4, 3) := by decide +kernel
theorem dX4_isKettleAhead_86 : decode cX4_isKettleAhead 86 = .ok (.iconst 0, 1) := by decide +kernel
theorem dX4_isKettleAhead_87 : decode cX4_isKettleAhead 87 = .ok (.ireturn, 1) := by decide +kernel
theorem dX4_settle_0 : decode cX4_settle 0 = .ok (.iload_n 1, 1) := by decide +kernel
theorem dX4_settle_1 : decode cX4_settle 1 = .ok (.ifCond .lt 10, 3) := by decide +kernel
theorem dX4_settle_4 : decode cX4_settle 4 = .ok (.aload_n 0, 1) := by decide +kernel
theorem dX4_settle_5 : decode cX4_settle 5 = .ok (.getfield 22, 3) := by decide +kernel
theorem dX4_settle_8 : decode cX4_settle 8 = .ok (.invokevirtual 326, 3) := by decide +kernel
theorem dX4_settle_11 : decode cX4_settle 11 = .ok (.iload_n 1, 1) := by decide +kernel
theorem dX4_settle_12 : decode cX4_settle 12 = .ok (.ireturn, 1) := by decide +kernel
theorem dX4_takePitch_0 : decode cX4_takePitch 0 = .ok (.iload_n 1, 1) := by decide +kernel
theorem dX4_takePitch_1 : decode cX4_takePitch 1 = .ok (.invokestatic 180, 3) := by decide +kernel
theorem dX4_takePitch_4 : decode cX4_takePitch 4 = .ok (.ifCond .ne 7, 3) := by decide +kernel
theorem dX4_takePitch_7 : decode cX4_takePitch 7 = .ok (.sipush (-1011), 3) := by decide +kernel
theorem dX4_takePitch_10 : decode cX4_takePitch 10 = .ok (.ireturn, 1) := by decide +kernel
theorem dX4_takePitch_11 : decode cX4_takePitch 11 = .ok (.iload_n 2, 1) := by decide +kernel
theorem dX4_takePitch_12 : decode cX4_takePitch 12 = .ok (.invokestatic 59, 3) := by decide +kernel
theorem dX4_takePitch_15 : decode cX4_takePitch 15 = .ok (.ifCond .ne 7, 3) := by decide +kernel
theorem dX4_takePitch_18 : decode cX4_takePitch 18 = .ok (.sipush (-1012), 3) := by decide +kernel
theorem dX4_takePitch_21 : decode cX4_takePitch 21 = .ok (.ireturn, 1) := by decide +kernel
theorem dX4_takePitch_22 : decode cX4_takePitch 22 = .ok (.aload_n 0, 1) := by decide +kernel
theorem dX4_takePitch_23 : decode cX4_takePitch 23 = .ok (.getfield 10, 3) := by decide +kernel
theorem dX4_takePitch_26 : decode cX4_takePitch 26 = .ok (.getfield 63, 3) := by decide +kernel
theorem dX4_takePitch_29 : decode cX4_takePitch 29 = .ok (.iload_n 2, 1) := by decide +kernel
theorem dX4_takePitch_30 : decode cX4_takePitch 30 = .ok (.iaload, 1) := by decide +kernel
theorem dX4_takePitch_31 : decode cX4_takePitch 31 = .ok (.iconst (-1), 1) := by decide +kernel
theorem dX4_takePitch_32 : decode cX4_takePitch 32 = .ok (.if_icmp .eq 18, 3) := by decide +kernel
theorem dX4_takePitch_35 : decode cX4_takePitch 35 = .ok (.aload_n 0, 1) := by decide +kernel
theorem dX4_takePitch_36 : decode cX4_takePitch 36 = .ok (.iconst 2, 1) := by decide +kernel
theorem dX4_takePitch_37 : decode cX4_takePitch 37 = .ok (.aload_n 0, 1) := by decide +kernel
theorem dX4_takePitch_38 : decode cX4_takePitch 38 = .ok (.getfield 10, 3) := by decide +kernel
theorem dX4_takePitch_41 : decode cX4_takePitch 41 = .ok (.getfield 63, 3) := by decide +kernel
theorem dX4_takePitch_44 : decode cX4_takePitch 44 = .ok (.iload_n 2, 1) := by decide +kernel
theorem dX4_takePitch_45 : decode cX4_takePitch 45 = .ok (.iaload, 1) := by decide +kernel
theorem dX4_takePitch_46 : decode cX4_takePitch 46 = .ok (.invokevirtual 329, 3) := by decide +kernel
theorem dX4_takePitch_49 : decode cX4_takePitch 49 = .ok (.ireturn, 1) := by decide +kernel
theorem dX4_takePitch_50 : decode cX4_takePitch 50 = .ok (.aload_n 0, 1) := by decide +kernel
theorem dX4_takePitch_51 : decode cX4_takePitch 51 = .ok (.getfield 10, 3) := by decide +kernel
theorem dX4_takePitch_54 : decode cX4_takePitch 54 = .ok (.iload_n 1, 1) := by decide +kernel
theorem dX4_takePitch_55 : decode cX4_takePitch 55 = .ok (.invokevirtual 186, 3) := by decide +kernel
theorem dX4_takePitch_58 : decode cX4_takePitch 58 = .ok (.istore_n 3, 1) := by decide +kernel
theorem dX4_takePitch_59 : decode cX4_takePitch 59 = .ok (.iload_n 3, 1) := by decide +kernel
theorem dX4_takePitch_60 : decode cX4_takePitch 60 = .ok (.iconst 4, 1) := by decide +kernel
theorem dX4_takePitch_61 : decode cX4_takePitch 61 = .ok (.if_icmp .lt 10, 3) := by decide +kernel
theorem dX4_takePitch_64 : decode cX4_takePitch 64 = .ok (.aload_n 0, 1) := by decide +kernel
theorem dX4_takePitch_65 : decode cX4_takePitch 65 = .ok (.iconst 1, 1) := by decide +kernel
theorem dX4_takePitch_66 : decode cX4_takePitch 66 = .ok (.iload_n 3, 1) := by decide +kernel
theorem dX4_takePitch_67 : decode cX4_takePitch 67 = .ok (.invokevirtual 329, 3) := by decide +kernel
theorem dX4_takePitch_70 : decode cX4_takePitch 70 = .ok (.ireturn, 1) := by decide +kernel
theorem dX4_takePitch_71 : decode cX4_takePitch 71 = .ok (.aload_n 0, 1) := by decide +kernel
theorem dX4_takePitch_72 : decode cX4_takePitch 72 = .ok (.getfield 10, 3) := by decide +kernel
theorem dX4_takePitch_75 : decode cX4_takePitch 75 = .ok (.getfield 63, 3) := by decide +kernel
theorem dX4_takePitch_78 : decode cX4_takePitch 78 = .ok (.iload_n 2, 1) := by decide +kernel
theorem dX4_takePitch_79 : decode cX4_takePitch 79 = .ok (.iload_n 1, 1) := by decide +kernel
theorem dX4_takePitch_80 : decode cX4_takePitch 80 = .ok (.iastore, 1) := by decide +kernel
theorem dX4_takePitch_81 : decode cX4_takePitch 81 = .ok (.iload_n 3, 1) := by decide +kernel
theorem dX4_takePitch_82 : decode cX4_takePitch 82 = .ok (.iconst 1, 1) := by decide +kernel
theorem dX4_takePitch_83 : decode cX4_takePitch 83 = .ok (.iadd, 1) := by decide +kernel
theorem dX4_takePitch_84 : decode cX4_takePitch 84 = .ok (.ireturn, 1) := by decide +kernel
theorem dX4_bringKettle_0 : decode cX4_bringKettle 0 = .ok (.iload_n 1, 1) := by decide +kernel
theorem dX4_bringKettle_1 : decode cX4_bringKettle 1 = .ok (.invokestatic 180, 3) := by decide +kernel
theorem dX4_bringKettle_4 : decode cX4_bringKettle 4 = .ok (.ifCond .ne 7, 3) := by decide +kernel
theorem dX4_bringKettle_7 : decode cX4_bringKettle 7 = .ok (.sipush (-1011), 3) := by decide +kernel
theorem dX4_bringKettle_10 : decode cX4_bringKettle 10 = .ok (.ireturn, 1) := by decide +kernel
theorem dX4_bringKettle_11 : decode cX4_bringKettle 11 = .ok (.iload_n 2, 1) := by decide +kernel
theorem dX4_bringKettle_12 : decode cX4_bringKettle 12 = .ok (.invokestatic 59, 3) := by decide +kernel
theorem dX4_bringKettle_15 : decode cX4_bringKettle 15 = .ok (.ifCond .eq 13, 3) := by decide +kernel
theorem dX4_bringKettle_18 : decode cX4_bringKettle 18 = .ok (.iload_n 3, 1) := by decide +kernel
theorem dX4_bringKettle_19 : decode cX4_bringKettle 19 = .ok (.ifCond .lt 9, 3) := by decide +kernel
theorem dX4_bringKettle_22 : decode cX4_bringKettle 22 = .ok (.iload_n 3, 1) := by decide +kernel
theorem dX4_bringKettle_23 : decode cX4_bringKettle 23 = .ok (.bipush 20, 2) := by decide +kernel
theorem dX4_bringKettle_25 : decode cX4_bringKettle 25 = .ok (.if_icmp .le 7, 3) := by decide +kernel
theorem dX4_bringKettle_28 : decode cX4_bringKettle 28 = .ok (.sipush (-1012), 3) := by decide +kernel
theorem dX4_bringKettle_31 : decode cX4_bringKettle 31 = .ok (.ireturn, 1) := by decide +kernel
theorem dX4_bringKettle_32 : decode cX4_bringKettle 32 = .ok (.aload_n 0, 1) := by decide +kernel
theorem dX4_bringKettle_33 : decode cX4_bringKettle 33 = .ok (.getfield 10, 3) := by decide +kernel
theorem dX4_bringKettle_36 : decode cX4_bringKettle 36 = .ok (.getfield 63, 3) := by decide +kernel
theorem dX4_bringKettle_39 : decode cX4_bringKettle 39 = .ok (.iload_n 2, 1) := by decide +kernel
theorem dX4_bringKettle_40 : decode cX4_bringKettle 40 = .ok (.iaload, 1) := by decide +kernel
theorem dX4_bringKettle_41 : decode cX4_bringKettle 41 = .ok (.iload_n 1, 1) := by decide +kernel
theorem dX4_bringKettle_42 : decode cX4_bringKettle 42 = .ok (.if_icmp .eq 18, 3) := by decide +kernel
theorem dX4_bringKettle_45 : decode cX4_bringKettle 45 = .ok (.aload_n 0, 1) := by decide +kernel
theorem dX4_bringKettle_46 : decode cX4_bringKettle 46 = .ok (.iconst 3, 1) := by decide +kernel
theorem dX4_bringKettle_47 : decode cX4_bringKettle 47 = .ok (.aload_n 0, 1) := by decide +kernel
theorem dX4_bringKettle_48 : decode cX4_bringKettle 48 = .ok (.getfield 10, 3) := by decide +kernel
theorem dX4_bringKettle_51 : decode cX4_bringKettle 51 = .ok (.getfield 63, 3) := by decide +kernel
theorem dX4_bringKettle_54 : decode cX4_bringKettle 54 = .ok (.iload_n 2, 1) := by decide +kernel
theorem dX4_bringKettle_55 : decode cX4_bringKettle 55 = .ok (.iaload, 1) := by decide +kernel
theorem dX4_bringKettle_56 : decode cX4_bringKettle 56 = .ok (.invokevirtual 329, 3) := by decide +kernel
theorem dX4_bringKettle_59 : decode cX4_bringKettle 59 = .ok (.ireturn, 1) := by decide +kernel
theorem dX4_bringKettle_60 : decode cX4_bringKettle 60 = .ok (.aload_n 0, 1) := by decide +kernel
theorem dX4_bringKettle_61 : decode cX4_bringKettle 61 = .ok (.getfield 10, 3) := by decide +kernel
theorem dX4_bringKettle_64 : decode cX4_bringKettle 64 = .ok (.getfield 146, 3) := by decide +kernel
theorem dX4_bringKettle_67 : decode cX4_bringKettle 67 = .ok (.bipush 10, 2) := by decide +kernel
theorem dX4_bringKettle_69 : decode cX4_bringKettle 69 = .ok (.if_icmp .lt 16, 3) := by decide +kernel
theorem dX4_bringKettle_72 : decode cX4_bringKettle 72 = .ok (.aload_n 0, 1) := by decide +kernel
theorem dX4_bringKettle_73 : decode cX4_bringKettle 73 = .ok (.iconst 1, 1) := by decide +kernel
theorem dX4_bringKettle_74 : decode cX4_bringKettle 74 = .ok (.aload_n 0, 1) := by decide +kernel
theorem dX4_bringKettle_75 : decode cX4_bringKettle 75 = .ok (.getfield 10, 3) := by decide +kernel
theorem dX4_bringKettle_78 : decode cX4_bringKettle 78 = .ok (.getfield 146, 3) := by decide +kernel
theorem dX4_bringKettle_81 : decode cX4_bringKettle 81 = .ok (.invokevirtual 329, 3) := by decide +kernel
theorem dX4_bringKettle_84 : decode cX4_bringKettle 84 = .ok (.ireturn, 1) := by decide +kernel
theorem dX4_bringKettle_85 : decode cX4_bringKettle 85 = .ok (.aload_n 0, 1) := by decide +kernel
theorem dX4_bringKettle_86 : decode cX4_bringKettle 86 = .ok (.getfield 10, 3) := by decide +kernel
theorem dX4_bringKettle_89 : decode cX4_bringKettle 89 = .ok (.iload_n 1, 1) := by decide +kernel
theorem dX4_bringKettle_90 : decode cX4_bringKettle 90 = .ok (.iload_n 2, 1) := by decide +kernel
theorem dX4_bringKettle_91 : decode cX4_bringKettle 91 = .ok (.iload_n 3, 1) := by decide +kernel
theorem dX4_bringKettle_92 : decode cX4_bringKettle 92 = .ok (.invokevirtual 332, 3) := by decide +kernel
theorem dX4_bringKettle_95 : decode cX4_bringKettle 95 = .ok (.ireturn, 1) := by decide +kernel
theorem dX4_pourWater_0 : decode cX4_pourWater 0 = .ok (.aload_n 0, 1) := by decide +kernel
theorem dX4_pourWater_1 : decode cX4_pourWater 1 = .ok (.iload_n 1, 1) := by decide +kernel
theorem dX4_pourWater_2 : decode cX4_pourWater 2 = .ok (.invokevirtual 77, 3) := by decide +kernel
theorem dX4_pourWater_5 : decode cX4_pourWater 5 = .ok (.ifCond .ne 7, 3) := by decide +kernel
theorem dX4_pourWater_8 : decode cX4_pourWater 8 = .ok (.sipush (-1011), 3) := by decide +kernel
theorem dX4_pourWater_11 : decode cX4_pourWater 11 = .ok (.ireturn, 1) := by decide +kernel
theorem dX4_pourWater_12 : decode cX4_pourWater 12 = .ok (.iload_n 2, 1) := by decide +kernel
theorem dX4_pourWater_13 : decode cX4_pourWater 13 = .ok (.iconst 1, 1) := by decide +kernel
theorem dX4_pourWater_14 : decode cX4_pourWater 14 = .ok (.if_icmp .lt 9, 3) := by decide +kernel
theorem dX4_pourWater_17 : decode cX4_pourWater 17 = .ok (.iload_n 2, 1) := by decide +kernel
theorem dX4_pourWater_18 : decode cX4_pourWater 18 = .ok (.bipush 20, 2) := by decide +kernel
theorem dX4_pourWater_20 : decode cX4_pourWater 20 = .ok (.if_icmp .le 7, 3) := by decide +kernel
theorem dX4_pourWater_23 : decode cX4_pourWater 23 = .ok (.sipush (-1012), 3) := by decide +kernel
theorem dX4_pourWater_26 : decode cX4_pourWater 26 = .ok (.ireturn, 1) := by decide +kernel
theorem dX4_pourWater_27 : decode cX4_pourWater 27 = .ok (.aload_n 0, 1) := by decide +kernel
theorem dX4_pourWater_28 : decode cX4_pourWater 28 = .ok (.getfield 10, 3) := by decide +kernel
theorem dX4_pourWater_31 : decode cX4_pourWater 31 = .ok (.getfield 86, 3) := by decide +kernel
theorem dX4_pourWater_34 : decode cX4_pourWater 34 = .ok (.iload_n 1, 1) := by decide +kernel
theorem dX4_pourWater_35 : decode cX4_pourWater 35 = .ok (.iaload, 1) := by decide +kernel
theorem dX4_pourWater_36 : decode cX4_pourWater 36 = .ok (.iload_n 2, 1) := by decide +kernel
theorem dX4_pourWater_37 : decode cX4_pourWater 37 = .ok (.iadd, 1) := by decide +kernel
theorem dX4_pourWater_38 : decode cX4_pourWater 38 = .ok (.istore_n 3, 1) := by decide +kernel
theorem dX4_pourWater_39 : decode cX4_pourWater 39 = .ok (.iload_n 3, 1) := by decide +kernel
theorem dX4_pourWater_40 : decode cX4_pourWater 40 = .ok (.bipush 20, 2) := by decide +kernel
theorem dX4_pourWater_42 : decode cX4_pourWater 42 = .ok (.if_icmp .le 11, 3) := by decide +kernel
theorem dX4_pourWater_45 : decode cX4_pourWater 45 = .ok (.aload_n 0, 1) := by decide +kernel
theorem dX4_pourWater_46 : decode cX4_pourWater 46 = .ok (.bipush 11, 2) := by decide +kernel
theorem dX4_pourWater_48 : decode cX4_pourWater 48 = .ok (.iload_n 3, 1) := by decide +kernel
theorem dX4_pourWater_49 : decode cX4_pourWater 49 = .ok (.invokevirtual 329, 3) := by decide +kernel
theorem dX4_pourWater_52 : decode cX4_pourWater 52 = .ok (.ireturn, 1) := by decide +kernel
theorem dX4_pourWater_53 : decode cX4_pourWater 53 = .ok (.aload_n 0, 1) := by decide +kernel
theorem dX4_pourWater_54 : decode cX4_pourWater 54 = .ok (.getfield 10, 3) := by decide +kernel
theorem dX4_pourWater_57 : decode cX4_pourWater 57 = .ok (.getfield 86, 3) := by decide +kernel
theorem dX4_pourWater_60 : decode cX4_pourWater 60 = .ok (.iload_n 1, 1) := by decide +kernel
theorem dX4_pourWater_61 : decode cX4_pourWater 61 = .ok (.iload_n 3, 1) := by decide +kernel
theorem dX4_pourWater_62 : decode cX4_pourWater 62 = .ok (.iastore, 1) := by decide +kernel
theorem dX4_pourWater_63 : decode cX4_pourWater 63 = .ok (.aload_n 0, 1) := by decide +kernel
theorem dX4_pourWater_64 : decode cX4_pourWater 64 = .ok (.getfield 10, 3) := by decide +kernel
theorem dX4_pourWater_67 : decode cX4_pourWater 67 = .ok (.dup, 1) := by decide +kernel
theorem dX4_pourWater_68 : decode cX4_pourWater 68 = .ok (.getfield 277, 3) := by decide +kernel
theorem dX4_pourWater_71 : decode cX4_pourWater 71 = .ok (.iload_n 2, 1) := by decide +kernel
theorem dX4_pourWater_72 : decode cX4_pourWater 72 = .ok (.iadd, 1) := by decide +kernel
theorem dX4_pourWater_73 : decode cX4_pourWater 73 = .ok (.putfield 277, 3) := by decide +kernel
theorem dX4_pourWater_76 : decode cX4_pourWater 76 = .ok (.iload_n 3, 1) := by decide +kernel
theorem dX4_pourWater_77 : decode cX4_pourWater 77 = .ok (.ireturn, 1) := by decide +kernel
theorem dX4_putOnStove_0 : decode cX4_putOnStove 0 = .ok (.aload_n 0, 1) := by decide +kernel
theorem dX4_putOnStove_1 : decode cX4_putOnStove 1 = .ok (.iload_n 1, 1) := by decide +kernel
theorem dX4_putOnStove_2 : decode cX4_putOnStove 2 = .ok (.invokevirtual 77, 3) := by decide +kernel
theorem dX4_putOnStove_5 : decode cX4_putOnStove 5 = .ok (.ifCond .eq 10, 3) := by decide +kernel
theorem dX4_putOnStove_8 : decode cX4_putOnStove 8 = .ok (.iload_n 2, 1) := by decide +kernel
theorem dX4_putOnStove_9 : decode cX4_putOnStove 9 = .ok (.invokestatic 130, 3) := by decide +kernel
theorem dX4_putOnStove_12 : decode cX4_putOnStove 12 = .ok (.ifCond .ne 7, 3) := by decide +kernel
theorem dX4_putOnStove_15 : decode cX4_putOnStove 15 = .ok (.sipush (-1011), 3) := by decide +kernel
theorem dX4_putOnStove_18 : decode cX4_putOnStove 18 = .ok (.ireturn, 1) := by decide +kernel
theorem dX4_putOnStove_19 : decode cX4_putOnStove 19 = .ok (.aload_n 0, 1) := by decide +kernel
theorem dX4_putOnStove_20 : decode cX4_putOnStove 20 = .ok (.getfield 10, 3) := by decide +kernel
theorem dX4_putOnStove_23 : decode cX4_putOnStove 23 = .ok (.getfield 95, 3) := by decide +kernel
theorem dX4_putOnStove_26 : decode cX4_putOnStove 26 = .ok (.iload_n 1, 1) := by decide +kernel
theorem dX4_putOnStove_27 : decode cX4_putOnStove 27 = .ok (.iaload, 1) := by decide +kernel
theorem dX4_putOnStove_28 : decode cX4_putOnStove 28 = .ok (.iconst (-1), 1) := by decide +kernel
theorem dX4_putOnStove_29 : decode cX4_putOnStove 29 = .ok (.if_icmp .eq 19, 3) := by decide +kernel
theorem dX4_putOnStove_32 : decode cX4_putOnStove 32 = .ok (.aload_n 0, 1) := by decide +kernel
theorem dX4_putOnStove_33 : decode cX4_putOnStove 33 = .ok (.iload_n 1, 1) := by decide +kernel
theorem dX4_putOnStove_34 : decode cX4_putOnStove 34 = .ok (.iconst 5, 1) := by decide +kernel
theorem dX4_putOnStove_35 : decode cX4_putOnStove 35 = .ok (.aload_n 0, 1) := by decide +kernel
theorem dX4_putOnStove_36 : decode cX4_putOnStove 36 = .ok (.getfield 10, 3) := by decide +kernel
theorem dX4_putOnStove_39 : decode cX4_putOnStove 39 = .ok (.getfield 95, 3) := by decide +kernel
theorem dX4_putOnStove_42 : decode cX4_putOnStove 42 = .ok (.iload_n 1, 1) := by decide +kernel
theorem dX4_putOnStove_43 : decode cX4_putOnStove 43 = .ok (.iaload, 1) := by decide +kernel
theorem dX4_putOnStove_44 : decode cX4_putOnStove 44 = .ok (.invokevirtual 335, 3) := by decide +kernel
theorem dX4_putOnStove_47 : decode cX4_putOnStove 47 = .ok (.ireturn, 1) := by decide +kernel
theorem dX4_putOnStove_48 : decode cX4_putOnStove 48 = .ok (.aload_n 0, 1) := by decide +kernel
theorem dX4_putOnStove_49 : decode cX4_putOnStove 49 = .ok (.getfield 10, 3) := by decide +kernel
theorem dX4_putOnStove_52 : decode cX4_putOnStove 52 = .ok (.iload_n 2, 1) := by decide +kernel
theorem dX4_putOnStove_53 : decode cX4_putOnStove 53 = .ok (.invokevirtual 136, 3) := by decide +kernel
theorem dX4_putOnStove_56 : decode cX4_putOnStove 56 = .ok (.istore_n 3, 1) := by decide +kernel
theorem dX4_putOnStove_57 : decode cX4_putOnStove 57 = .ok (.iload_n 3, 1) := by decide +kernel
theorem dX4_putOnStove_58 : decode cX4_putOnStove 58 = .ok (.iconst (-1), 1) := by decide +kernel
theorem dX4_putOnStove_59 : decode cX4_putOnStove 59 = .ok (.if_icmp .eq 12, 3) := by decide +kernel
theorem dX4_putOnStove_62 : decode cX4_putOnStove 62 = .ok (.aload_n 0, 1) := by decide +kernel
theorem dX4_putOnStove_63 : decode cX4_putOnStove 63 = .ok (.iload_n 1, 1) := by decide +kernel
theorem dX4_putOnStove_64 : decode cX4_putOnStove 64 = .ok (.bipush 6, 2) := by decide +kernel
theorem dX4_putOnStove_66 : decode cX4_putOnStove 66 = .ok (.iload_n 3, 1) := by decide +kernel
theorem dX4_putOnStove_67 : decode cX4_putOnStove 67 = .ok (.invokevirtual 335, 3) := by decide +kernel
theorem dX4_putOnStove_70 : decode cX4_putOnStove 70 = .ok (.ireturn, 1) := by decide +kernel
theorem dX4_putOnStove_71 : decode cX4_putOnStove 71 = .ok (.aload_n 0, 1) := by decide +kernel
theorem dX4_putOnStove_72 : decode cX4_putOnStove 72 = .ok (.getfield 10, 3) := by decide +kernel
theorem dX4_putOnStove_75 : decode cX4_putOnStove 75 = .ok (.aload_n 0, 1) := by decide +kernel
theorem dX4_putOnStove_76 : decode cX4_putOnStove 76 = .ok (.getfield 10, 3) := by decide +kernel
theorem dX4_putOnStove_79 : decode cX4_putOnStove 79 = .ok (.getfield 83, 3) := by decide +kernel
theorem dX4_putOnStove_82 : decode cX4_putOnStove 82 = .ok (.iload_n 1, 1) := by decide +kernel
theorem dX4_putOnStove_83 : decode cX4_putOnStove 83 = .ok (.iaload, 1) := by decide +kernel
theorem dX4_putOnStove_84 : decode cX4_putOnStove 84 = .ok (.invokevirtual 338, 3) := by decide +kernel
theorem dX4_putOnStove_87 : decode cX4_putOnStove 87 = .ok (.istore 4, 2) := by decide +kernel
theorem dX4_putOnStove_89 : decode cX4_putOnStove 89 = .ok (.iload 4, 2) := by decide +kernel
theorem dX4_putOnStove_91 : decode cX4_putOnStove 91 = .ok (.iconst (-1), 1) := by decide +kernel
theorem dX4_putOnStove_92 : decode cX4_putOnStove 92 = .ok (.if_icmp .eq 13, 3) := by decide +kernel
theorem dX4_putOnStove_95 : decode cX4_putOnStove 95 = .ok (.aload_n 0, 1) := by decide +kernel
theorem dX4_putOnStove_96 : decode cX4_putOnStove 96 = .ok (.iload_n 1, 1) := by decide +kernel
theorem dX4_putOnStove_97 : decode cX4_putOnStove 97 = .ok (.bipush 7, 2) := by decide +kernel
theorem dX4_putOnStove_99 : decode cX4_putOnStove 99 = .ok (.iload 4, 2) := by decide +kernel
theorem dX4_putOnStove_101 : decode cX4_putOnStove 101 = .ok (.invokevirtual 335, 3) := by decide +kernel
theorem dX4_putOnStove_104 : decode cX4_putOnStove 104 = .ok (.ireturn, 1) := by decide +kernel
theorem dX4_putOnStove_105 : decode cX4_putOnStove 105 = .ok (.aload_n 0, 1) := by decide +kernel
theorem dX4_putOnStove_106 : decode cX4_putOnStove 106 = .ok (.getfield 10, 3) := by decide +kernel
theorem dX4_putOnStove_109 : decode cX4_putOnStove 109 = .ok (.getfield 104, 3) := by decide +kernel
theorem dX4_putOnStove_112 : decode cX4_putOnStove 112 = .ok (.iload_n 1, 1) := by decide +kernel
theorem dX4_putOnStove_113 : decode cX4_putOnStove 113 = .ok (.iaload, 1) := by decide +kernel
theorem dX4_putOnStove_114 : decode cX4_putOnStove 114 = .ok (.ifCond .le 20, 3) := by decide +kernel
theorem dX4_putOnStove_117 : decode cX4_putOnStove 117 = .ok (.aload_n 0, 1) := by decide +kernel
theorem dX4_putOnStove_118 : decode cX4_putOnStove 118 = .ok (.iload_n 1, 1) := by decide +kernel
theorem dX4_putOnStove_119 : decode cX4_putOnStove 119 = .ok (.bipush 8, 2) := by decide +kernel
theorem dX4_putOnStove_121 : decode cX4_putOnStove 121 = .ok (.aload_n 0, 1) := by decide +kernel
theorem dX4_putOnStove_122 : decode cX4_putOnStove 122 = .ok (.getfield 10, 3) := by decide +kernel
theorem dX4_putOnStove_125 : decode cX4_putOnStove 125 = .ok (.getfield 104, 3) := by decide +kernel
theorem dX4_putOnStove_128 : decode cX4_putOnStove 128 = .ok (.iload_n 1, 1) := by decide +kernel
theorem dX4_putOnStove_129 : decode cX4_putOnStove 129 = .ok (.iaload, 1) := by decide +kernel
theorem dX4_putOnStove_130 : decode cX4_putOnStove 130 = .ok (.invokevirtual 335, 3) := by decide +kernel
theorem dX4_putOnStove_133 : decode cX4_putOnStove 133 = .ok (.ireturn, 1) := by decide +kernel
theorem dX4_putOnStove_134 : decode cX4_putOnStove 134 = .ok (.aload_n 0, 1) := by decide +kernel
theorem dX4_putOnStove_135 : decode cX4_putOnStove 135 = .ok (.getfield 10, 3) := by decide +kernel
theorem dX4_putOnStove_138 : decode cX4_putOnStove 138 = .ok (.getfield 95, 3) := by decide +kernel
theorem dX4_putOnStove_141 : decode cX4_putOnStove 141 = .ok (.iload_n 1, 1) := by decide +kernel
theorem dX4_putOnStove_142 : decode cX4_putOnStove 142 = .ok (.iload_n 2, 1) := by decide +kernel
theorem dX4_putOnStove_143 : decode cX4_putOnStove 143 = .ok (.iastore, 1) := by decide +kernel
theorem dX4_putOnStove_144 : decode cX4_putOnStove 144 = .ok (.aload_n 0, 1) := by decide +kernel
theorem dX4_putOnStove_145 : decode cX4_putOnStove 145 = .ok (.getfield 10, 3) := by decide +kernel
theorem dX4_putOnStove_148 : decode cX4_putOnStove 148 = .ok (.invokevirtual 259, 3) := by decide +kernel
theorem dX4_putOnStove_151 : decode cX4_putOnStove 151 = .ok (.ireturn, 1) := by decide +kernel
theorem dX4_takeOffStove_0 : decode cX4_takeOffStove 0 = .ok (.aload_n 0, 1) := by decide +kernel
theorem dX4_takeOffStove_1 : decode cX4_takeOffStove 1 = .ok (.iload_n 1, 1) := by decide +kernel
theorem dX4_takeOffStove_2 : decode cX4_takeOffStove 2 = .ok (.invokevirtual 77, 3) := by decide +kernel
theorem dX4_takeOffStove_5 : decode cX4_takeOffStove 5 = .ok (.ifCond .ne 7, 3) := by decide +kernel
theorem dX4_takeOffStove_8 : decode cX4_takeOffStove 8 = .ok (.sipush (-1011), 3) := by decide +kernel
theorem dX4_takeOffStove_11 : decode cX4_takeOffStove 11 = .ok (.ireturn, 1) := by decide +kernel
theorem dX4_takeOffStove_12 : decode cX4_takeOffStove 12 = .ok (.aload_n 0, 1) := by decide +kernel
theorem dX4_takeOffStove_13 : decode cX4_takeOffStove 13 = .ok (.getfield 10, 3) := by decide +kernel
theorem dX4_takeOffStove_16 : decode cX4_takeOffStove 16 = .ok (.getfield 95, 3) := by decide +kernel
theorem dX4_takeOffStove_19 : decode cX4_takeOffStove 19 = .ok (.iload_n 1, 1) := by decide +kernel
theorem dX4_takeOffStove_20 : decode cX4_takeOffStove 20 = .ok (.iaload, 1) := by decide +kernel
theorem dX4_takeOffStove_21 : decode cX4_takeOffStove 21 = .ok (.istore_n 2, 1) := by decide +kernel
theorem dX4_takeOffStove_22 : decode cX4_takeOffStove 22 = .ok (.iload_n 2, 1) := by decide +kernel
theorem dX4_takeOffStove_23 : decode cX4_takeOffStove 23 = .ok (.iconst (-1), 1) := by decide +kernel
theorem dX4_takeOffStove_24 : decode cX4_takeOffStove 24 = .ok (.if_icmp .ne 17, 3) := by decide +kernel
theorem dX4_takeOffStove_27 : decode cX4_takeOffStove 27 = .ok (.aload_n 0, 1) := by decide +kernel
theorem dX4_takeOffStove_28 : decode cX4_takeOffStove 28 = .ok (.bipush 10, 2) := by decide +kernel
theorem dX4_takeOffStove_30 : decode cX4_takeOffStove 30 = .ok (.aload_n 0, 1) := by decide +kernel
theorem dX4_takeOffStove_31 : decode cX4_takeOffStove 31 = .ok (.getfield 10, 3) := by decide +kernel
theorem dX4_takeOffStove_34 : decode cX4_takeOffStove 34 = .ok (.invokevirtual 259, 3) := by decide +kernel
theorem dX4_takeOffStove_37 : decode cX4_takeOffStove 37 = .ok (.invokevirtual 329, 3) := by decide +kernel
theorem dX4_takeOffStove_40 : decode cX4_takeOffStove 40 = .ok (.ireturn, 1) := by decide +kernel
theorem dX4_takeOffStove_41 : decode cX4_takeOffStove 41 = .ok (.aload_n 0, 1) := by decide +kernel
theorem dX4_takeOffStove_42 : decode cX4_takeOffStove 42 = .ok (.getfield 10, 3) := by decide +kernel
theorem dX4_takeOffStove_45 : decode cX4_takeOffStove 45 = .ok (.getfield 95, 3) := by decide +kernel
theorem dX4_takeOffStove_48 : decode cX4_takeOffStove 48 = .ok (.iload_n 1, 1) := by decide +kernel
theorem dX4_takeOffStove_49 : decode cX4_takeOffStove 49 = .ok (.iconst (-1), 1) := by decide +kernel
theorem dX4_takeOffStove_50 : decode cX4_takeOffStove 50 = .ok (.iastore, 1) := by decide +kernel
theorem dX4_takeOffStove_51 : decode cX4_takeOffStove 51 = .ok (.iload_n 2, 1) := by decide +kernel
theorem dX4_takeOffStove_52 : decode cX4_takeOffStove 52 = .ok (.ireturn, 1) := by decide +kernel
theorem dX4_turnStove_0 : decode cX4_turnStove 0 = .ok (.iload_n 1, 1) := by decide +kernel
theorem dX4_turnStove_1 : decode cX4_turnStove 1 = .ok (.invokestatic 130, 3) := by decide +kernel
theorem dX4_turnStove_4 : decode cX4_turnStove 4 = .ok (.ifCond .ne 7, 3) := by decide +kernel
theorem dX4_turnStove_7 : decode cX4_turnStove 7 = .ok (.sipush (-1011), 3) := by decide +kernel
theorem dX4_turnStove_10 : decode cX4_turnStove 10 = .ok (.ireturn, 1) := by decide +kernel
theorem dX4_turnStove_11 : decode cX4_turnStove 11 = .ok (.iload_n 2, 1) := by decide +kernel
theorem dX4_turnStove_12 : decode cX4_turnStove 12 = .ok (.ifCond .lt 8, 3) := by decide +kernel
theorem dX4_turnStove_15 : decode cX4_turnStove 15 = .ok (.iload_n 2, 1) := by decide +kernel
theorem dX4_turnStove_16 : decode cX4_turnStove 16 = .ok (.iconst 5, 1) := by decide +kernel
theorem dX4_turnStove_17 : decode cX4_turnStove 17 = .ok (.if_icmp .le 7, 3) := by decide +kernel
theorem dX4_turnStove_20 : decode cX4_turnStove 20 = .ok (.sipush (-1012), 3) := by decide +kernel
theorem dX4_turnStove_23 : decode cX4_turnStove 23 = .ok (.ireturn, 1) := by decide +kernel
theorem dX4_turnStove_24 : decode cX4_turnStove 24 = .ok (.aload_n 0, 1) := by decide +kernel
theorem dX4_turnStove_25 : decode cX4_turnStove 25 = .ok (.getfield 10, 3) := by decide +kernel
theorem dX4_turnStove_28 : decode cX4_turnStove 28 = .ok (.getfield 133, 3) := by decide +kernel
theorem dX4_turnStove_31 : decode cX4_turnStove 31 = .ok (.iload_n 1, 1) := by decide +kernel
theorem dX4_turnStove_32 : decode cX4_turnStove 32 = .ok (.iaload, 1) := by decide +kernel
theorem dX4_turnStove_33 : decode cX4_turnStove 33 = .ok (.istore_n 3, 1) := by decide +kernel
theorem dX4_turnStove_34 : decode cX4_turnStove 34 = .ok (.iload_n 3, 1) := by decide +kernel
theorem dX4_turnStove_35 : decode cX4_turnStove 35 = .ok (.iload_n 2, 1) := by decide +kernel
theorem dX4_turnStove_36 : decode cX4_turnStove 36 = .ok (.if_icmp .ne 11, 3) := by decide +kernel
theorem dX4_turnStove_39 : decode cX4_turnStove 39 = .ok (.aload_n 0, 1) := by decide +kernel
theorem dX4_turnStove_40 : decode cX4_turnStove 40 = .ok (.bipush 9, 2) := by decide +kernel
theorem dX4_turnStove_42 : decode cX4_turnStove 42 = .ok (.iload_n 2, 1) := by decide +kernel
theorem dX4_turnStove_43 : decode cX4_turnStove 43 = .ok (.invokevirtual 329, 3) := by decide +kernel
theorem dX4_turnStove_46 : decode cX4_turnStove 46 = .ok (.ireturn, 1) := by decide +kernel
theorem dX4_turnStove_47 : decode cX4_turnStove 47 = .ok (.aload_n 0, 1) := by decide +kernel
theorem dX4_turnStove_48 : decode cX4_turnStove 48 = .ok (.getfield 10, 3) := by decide +kernel
theorem dX4_turnStove_51 : decode cX4_turnStove 51 = .ok (.getfield 133, 3) := by decide +kernel
theorem dX4_turnStove_54 : decode cX4_turnStove 54 = .ok (.iload_n 1, 1) := by decide +kernel
theorem dX4_turnStove_55 : decode cX4_turnStove 55 = .ok (.iload_n 2, 1) := by decide +kernel
theorem dX4_turnStove_56 : decode cX4_turnStove 56 = .ok (.iastore, 1) := by decide +kernel
theorem dX4_turnStove_57 : decode cX4_turnStove 57 = .ok (.iload_n 3, 1) := by decide +kernel
theorem dX4_turnStove_58 : decode cX4_turnStove 58 = .ok (.ireturn, 1) := by decide +kernel
theorem dX4_moveLid_0 : decode cX4_moveLid 0 = .ok (.aload_n 0, 1) := by decide +kernel
theorem dX4_moveLid_1 : decode cX4_moveLid 1 = .ok (.iload_n 1, 1) := by decide +kernel
theorem dX4_moveLid_2 : decode cX4_moveLid 2 = .ok (.invokevirtual 77, 3) := by decide +kernel
theorem dX4_moveLid_5 : decode cX4_moveLid 5 = .ok (.ifCond .ne 7, 3) := by decide +kernel
theorem dX4_moveLid_8 : decode cX4_moveLid 8 = .ok (.sipush (-1011), 3) := by decide +kernel
theorem dX4_moveLid_11 : decode cX4_moveLid 11 = .ok (.ireturn, 1) := by decide +kernel
theorem dX4_moveLid_12 : decode cX4_moveLid 12 = .ok (.iload_n 2, 1) := by decide +kernel
theorem dX4_moveLid_13 : decode cX4_moveLid 13 = .ok (.ifCond .eq 12, 3) := by decide +kernel
theorem dX4_moveLid_16 : decode cX4_moveLid 16 = .ok (.iload_n 2, 1) := by decide +kernel
theorem dX4_moveLid_17 : decode cX4_moveLid 17 = .ok (.iconst 1, 1) := by decide +kernel
theorem dX4_moveLid_18 : decode cX4_moveLid 18 = .ok (.if_icmp .eq 7, 3) := by decide +kernel
theorem dX4_moveLid_21 : decode cX4_moveLid 21 = .ok (.sipush (-1012), 3) := by decide +kernel
theorem dX4_moveLid_24 : decode cX4_moveLid 24 = .ok (.ireturn, 1) := by decide +kernel
theorem dX4_moveLid_25 : decode cX4_moveLid 25 = .ok (.aload_n 0, 1) := by decide +kernel
theorem dX4_moveLid_26 : decode cX4_moveLid 26 = .ok (.getfield 10, 3) := by decide +kernel
theorem dX4_moveLid_29 : decode cX4_moveLid 29 = .ok (.getfield 92, 3) := by decide +kernel
theorem dX4_moveLid_32 : decode cX4_moveLid 32 = .ok (.iload_n 1, 1) := by decide +kernel
theorem dX4_moveLid_33 : decode cX4_moveLid 33 = .ok (.iaload, 1) := by decide +kernel
theorem dX4_moveLid_34 : decode cX4_moveLid 34 = .ok (.iload_n 2, 1) := by decide +kernel
theorem dX4_moveLid_35 : decode cX4_moveLid 35 = .ok (.if_icmp .ne 11, 3) := by decide +kernel
theorem dX4_moveLid_38 : decode cX4_moveLid 38 = .ok (.aload_n 0, 1) := by decide +kernel
theorem dX4_moveLid_39 : decode cX4_moveLid 39 = .ok (.bipush 9, 2) := by decide +kernel
theorem dX4_moveLid_41 : decode cX4_moveLid 41 = .ok (.iload_n 2, 1) := by decide +kernel
theorem dX4_moveLid_42 : decode cX4_moveLid 42 = .ok (.invokevirtual 329, 3) := by decide +kernel
theorem dX4_moveLid_45 : decode cX4_moveLid 45 = .ok (.ireturn, 1) := by decide +kernel
theorem dX4_moveLid_46 : decode cX4_moveLid 46 = .ok (.iload_n 2, 1) := by decide +kernel
theorem dX4_moveLid_47 : decode cX4_moveLid 47 = .ok (.iconst 1, 1) := by decide +kernel
theorem dX4_moveLid_48 : decode cX4_moveLid 48 = .ok (.if_icmp .ne 36, 3) := by decide +kernel
theorem dX4_moveLid_51 : decode cX4_moveLid 51 = .ok (.aload_n 0, 1) := by decide +kernel
theorem dX4_moveLid_52 : decode cX4_moveLid 52 = .ok (.getfield 10, 3) := by decide +kernel
theorem dX4_moveLid_55 : decode cX4_moveLid 55 = .ok (.getfield 341, 3) := by decide +kernel
theorem dX4_moveLid_58 : decode cX4_moveLid 58 = .ok (.iload_n 1, 1) := by decide +kernel
theorem dX4_moveLid_59 : decode cX4_moveLid 59 = .ok (.iaload, 1) := by decide +kernel
theorem dX4_moveLid_60 : decode cX4_moveLid 60 = .ok (.iconst 1, 1) := by decide +kernel
theorem dX4_moveLid_61 : decode cX4_moveLid 61 = .ok (.if_icmp .ne 23, 3) := by decide +kernel
theorem dX4_moveLid_64 : decode cX4_moveLid 64 = .ok (.aload_n 0, 1) := by decide +kernel
theorem dX4_moveLid_65 : decode cX4_moveLid 65 = .ok (.bipush 12, 2) := by decide +kernel
theorem dX4_moveLid_67 : decode cX4_moveLid 67 = .ok (.bipush 6, 2) := by decide +kernel
theorem dX4_moveLid_69 : decode cX4_moveLid 69 = .ok (.aload_n 0, 1) := by decide +kernel
theorem dX4_moveLid_70 : decode cX4_moveLid 70 = .ok (.getfield 10, 3) := by decide +kernel
theorem dX4_moveLid_73 : decode cX4_moveLid 73 = .ok (.getfield 271, 3) := by decide +kernel
theorem dX4_moveLid_76 : decode cX4_moveLid 76 = .ok (.bipush 6, 2) := by decide +kernel
theorem dX4_moveLid_78 : decode cX4_moveLid 78 = .ok (.irem, 1) := by decide +kernel
theorem dX4_moveLid_79 : decode cX4_moveLid 79 = .ok (.isub, 1) := by decide +kernel
theorem dX4_moveLid_80 : decode cX4_moveLid 80 = .ok (.invokevirtual 329, 3) := by decide +kernel
theorem dX4_moveLid_83 : decode cX4_moveLid 83 = .ok (.ireturn, 1) := by decide +kernel
theorem dX4_moveLid_84 : decode cX4_moveLid 84 = .ok (.aload_n 0, 1) := by decide +kernel
theorem dX4_moveLid_85 : decode cX4_moveLid 85 = .ok (.getfield 10, 3) := by decide +kernel
theorem dX4_moveLid_88 : decode cX4_moveLid 88 = .ok (.getfield 92, 3) := by decide +kernel
theorem dX4_moveLid_91 : decode cX4_moveLid 91 = .ok (.iload_n 1, 1) := by decide +kernel
theorem dX4_moveLid_92 : decode cX4_moveLid 92 = .ok (.iload_n 2, 1) := by decide +kernel
theorem dX4_moveLid_93 : decode cX4_moveLid 93 = .ok (.iastore, 1) := by decide +kernel
theorem dX4_moveLid_94 : decode cX4_moveLid 94 = .ok (.aload_n 0, 1) := by decide +kernel
theorem dX4_moveLid_95 : decode cX4_moveLid 95 = .ok (.getfield 10, 3) := by decide +kernel
theorem dX4_moveLid_98 : decode cX4_moveLid 98 = .ok (.invokevirtual 265, 3) := by decide +kernel
theorem dX4_moveLid_101 : decode cX4_moveLid 101 = .ok (.ireturn, 1) := by decide +kernel
theorem dX4_makeAppeal_0 : decode cX4_makeAppeal 0 = .ok (.iload_n 1, 1) := by decide +kernel
theorem dX4_makeAppeal_1 : decode cX4_makeAppeal 1 = .ok (.invokestatic 180, 3) := by decide +kernel
theorem dX4_makeAppeal_4 : decode cX4_makeAppeal 4 = .ok (.ifCond .eq 11, 3) := by decide +kernel
theorem dX4_makeAppeal_7 : decode cX4_makeAppeal 7 = .ok (.aload_n 0, 1) := by decide +kernel
theorem dX4_makeAppeal_8 : decode cX4_makeAppeal 8 = .ok (.iload_n 2, 1) := by decide +kernel
theorem dX4_makeAppeal_9 : decode cX4_makeAppeal 9 = .ok (.invokevirtual 77, 3) := by decide +kernel
theorem dX4_makeAppeal_12 : decode cX4_makeAppeal 12 = .ok (.ifCond .ne 7, 3) := by decide +kernel
theorem dX4_makeAppeal_15 : decode cX4_makeAppeal 15 = .ok (.sipush (-1011), 3) := by decide +kernel
theorem dX4_makeAppeal_18 : decode cX4_makeAppeal 18 = .ok (.ireturn, 1) := by decide +kernel
theorem dX4_makeAppeal_19 : decode cX4_makeAppeal 19 = .ok (.aload_n 0, 1) := by decide +kernel
theorem dX4_makeAppeal_20 : decode cX4_makeAppeal 20 = .ok (.getfield 10, 3) := by decide +kernel
theorem dX4_makeAppeal_23 : decode cX4_makeAppeal 23 = .ok (.getfield 80, 3) := by decide +kernel
theorem dX4_makeAppeal_26 : decode cX4_makeAppeal 26 = .ok (.iload_n 2, 1) := by decide +kernel
theorem dX4_makeAppeal_27 : decode cX4_makeAppeal 27 = .ok (.iaload, 1) := by decide +kernel
theorem dX4_makeAppeal_28 : decode cX4_makeAppeal 28 = .ok (.iload_n 1, 1) := by decide +kernel
theorem dX4_makeAppeal_29 : decode cX4_makeAppeal 29 = .ok (.if_icmp .ne 11, 3) := by decide +kernel
theorem dX4_makeAppeal_32 : decode cX4_makeAppeal 32 = .ok (.aload_n 0, 1) := by decide +kernel
theorem dX4_makeAppeal_33 : decode cX4_makeAppeal 33 = .ok (.bipush 13, 2) := by decide +kernel
theorem dX4_makeAppeal_35 : decode cX4_makeAppeal 35 = .ok (.iload_n 1, 1) := by decide +kernel
theorem dX4_makeAppeal_36 : decode cX4_makeAppeal 36 = .ok (.invokevirtual 329, 3) := by decide +kernel
theorem dX4_makeAppeal_39 : decode cX4_makeAppeal 39 = .ok (.ireturn, 1) := by decide +kernel
theorem dX4_makeAppeal_40 : decode cX4_makeAppeal 40 = .ok (.aload_n 0, 1) := by decide +kernel
theorem dX4_makeAppeal_41 : decode cX4_makeAppeal 41 = .ok (.getfield 10, 3) := by decide +kernel
theorem dX4_makeAppeal_44 : decode cX4_makeAppeal 44 = .ok (.getfield 92, 3) := by decide +kernel
theorem dX4_makeAppeal_47 : decode cX4_makeAppeal 47 = .ok (.iload_n 2, 1) := by decide +kernel
theorem dX4_makeAppeal_48 : decode cX4_makeAppeal 48 = .ok (.iaload, 1) := by decide +kernel
theorem dX4_makeAppeal_49 : decode cX4_makeAppeal 49 = .ok (.ifCond .ne 17, 3) := by decide +kernel
theorem dX4_makeAppeal_52 : decode cX4_makeAppeal 52 = .ok (.aload_n 0, 1) := by decide +kernel
theorem dX4_makeAppeal_53 : decode cX4_makeAppeal 53 = .ok (.bipush 15, 2) := by decide +kernel
theorem dX4_makeAppeal_55 : decode cX4_makeAppeal 55 = .ok (.aload_n 0, 1) := by decide +kernel
theorem dX4_makeAppeal_56 : decode cX4_makeAppeal 56 = .ok (.getfield 10, 3) := by decide +kernel
theorem dX4_makeAppeal_59 : decode cX4_makeAppeal 59 = .ok (.invokevirtual 265, 3) := by decide +kernel
theorem dX4_makeAppeal_62 : decode cX4_makeAppeal 62 = .ok (.invokevirtual 329, 3) := by decide +kernel
theorem dX4_makeAppeal_65 : decode cX4_makeAppeal 65 = .ok (.ireturn, 1) := by decide +kernel
theorem dX4_makeAppeal_66 : decode cX4_makeAppeal 66 = .ok (.aload_n 0, 1) := by decide +kernel
theorem dX4_makeAppeal_67 : decode cX4_makeAppeal 67 = .ok (.getfield 10, 3) := by decide +kernel
theorem dX4_makeAppeal_70 : decode cX4_makeAppeal 70 = .ok (.getfield 107, 3) := by decide +kernel
theorem dX4_makeAppeal_73 : decode cX4_makeAppeal 73 = .ok (.iload_n 2, 1) := by decide +kernel
theorem dX4_makeAppeal_74 : decode cX4_makeAppeal 74 = .ok (.iaload, 1) := by decide +kernel
theorem dX4_makeAppeal_75 : decode cX4_makeAppeal 75 = .ok (.iload_n 1, 1) := by decide +kernel
theorem dX4_makeAppeal_76 : decode cX4_makeAppeal 76 = .ok (.invokestatic 150, 3) := by decide +kernel
theorem dX4_makeAppeal_79 : decode cX4_makeAppeal 79 = .ok (.ifCond .eq 22, 3) := by decide +kernel
theorem dX4_makeAppeal_82 : decode cX4_makeAppeal 82 = .ok (.aload_n 0, 1) := by decide +kernel
theorem dX4_makeAppeal_83 : decode cX4_makeAppeal 83 = .ok (.bipush 14, 2) := by decide +kernel
theorem dX4_makeAppeal_85 : decode cX4_makeAppeal 85 = .ok (.aload_n 0, 1) := by decide +kernel
theorem dX4_makeAppeal_86 : decode cX4_makeAppeal 86 = .ok (.getfield 10, 3) := by decide +kernel
theorem dX4_makeAppeal_89 : decode cX4_makeAppeal 89 = .ok (.getfield 107, 3) := by decide +kernel
theorem dX4_makeAppeal_92 : decode cX4_makeAppeal 92 = .ok (.iload_n 2, 1) := by decide +kernel
theorem dX4_makeAppeal_93 : decode cX4_makeAppeal 93 = .ok (.iaload, 1) := by decide +kernel
theorem dX4_makeAppeal_94 : decode cX4_makeAppeal 94 = .ok (.invokestatic 110, 3) := by decide +kernel
theorem dX4_makeAppeal_97 : decode cX4_makeAppeal 97 = .ok (.invokevirtual 329, 3) := by decide +kernel
theorem dX4_makeAppeal_100 : decode cX4_makeAppeal 100 = .ok (.ireturn, 1) := by decide +kernel
theorem dX4_makeAppeal_101 : decode cX4_makeAppeal 101 = .ok (.aload_n 0, 1) := by decide +kernel
theorem dX4_makeAppeal_102 : decode cX4_makeAppeal 102 = .ok (.getfield 10, 3) := by decide +kernel
theorem dX4_makeAppeal_105 : decode cX4_makeAppeal 105 = .ok (.getfield 198, 3) := by decide +kernel
theorem dX4_makeAppeal_108 : decode cX4_makeAppeal 108 = .ok (.iload_n 1, 1) := by decide +kernel
theorem dX4_makeAppeal_109 : decode cX4_makeAppeal 109 = .ok (.dup2, 1) := by decide +kernel
theorem dX4_makeAppeal_110 : decode cX4_makeAppeal 110 = .ok (.iaload, 1) := by decide +kernel
theorem dX4_makeAppeal_111 : decode cX4_makeAppeal 111 = .ok (.iconst 1, 1) := by decide +kernel
theorem dX4_makeAppeal_112 : decode cX4_makeAppeal 112 = .ok (.iadd, 1) := by decide +kernel
theorem dX4_makeAppeal_113 : decode cX4_makeAppeal 113 = .ok (.iastore, 1) := by decide +kernel
theorem dX4_makeAppeal_114 : decode cX4_makeAppeal 114 = .ok (.aload_n 0, 1) := by decide +kernel
theorem dX4_makeAppeal_115 : decode cX4_makeAppeal 115 = .ok (.getfield 10, 3) := by decide +kernel
theorem dX4_makeAppeal_118 : decode cX4_makeAppeal 118 = .ok (.getfield 107, 3) := by decide +kernel
theorem dX4_makeAppeal_121 : decode cX4_makeAppeal 121 = .ok (.iload_n 2, 1) := by decide +kernel
theorem dX4_makeAppeal_122 : decode cX4_makeAppeal 122 = .ok (.dup2, 1) := by decide +kernel
theorem dX4_makeAppeal_123 : decode cX4_makeAppeal 123 = .ok (.iaload, 1) := by decide +kernel
theorem dX4_makeAppeal_124 : decode cX4_makeAppeal 124 = .ok (.iconst 1, 1) := by decide +kernel
theorem dX4_makeAppeal_125 : decode cX4_makeAppeal 125 = .ok (.iload_n 1, 1) := by decide +kernel
theorem dX4_makeAppeal_126 : decode cX4_makeAppeal 126 = .ok (.ishl, 1) := by decide +kernel
theorem dX4_makeAppeal_127 : decode cX4_makeAppeal 127 = .ok (.ior, 1) := by decide +kernel
theorem dX4_makeAppeal_128 : decode cX4_makeAppeal 128 = .ok (.iastore, 1) := by decide +kernel
theorem dX4_makeAppeal_129 : decode cX4_makeAppeal 129 = .ok (.aload_n 0, 1) := by decide +kernel
theorem dX4_makeAppeal_130 : decode cX4_makeAppeal 130 = .ok (.getfield 10, 3) := by decide +kernel
theorem dX4_makeAppeal_133 : decode cX4_makeAppeal 133 = .ok (.getfield 107, 3) := by decide +kernel
theorem dX4_makeAppeal_136 : decode cX4_makeAppeal 136 = .ok (.iload_n 2, 1) := by decide +kernel
theorem dX4_makeAppeal_137 : decode cX4_makeAppeal 137 = .ok (.iaload, 1) := by decide +kernel
theorem dX4_makeAppeal_138 : decode cX4_makeAppeal 138 = .ok (.invokestatic 110, 3) := by decide +kernel
theorem dX4_makeAppeal_141 : decode cX4_makeAppeal 141 = .ok (.iconst 2, 1) := by decide +kernel
theorem dX4_makeAppeal_142 : decode cX4_makeAppeal 142 = .ok (.if_icmp .ge 5, 3) := by decide +kernel
theorem dX4_makeAppeal_145 : decode cX4_makeAppeal 145 = .ok (.iconst 0, 1) := by decide +kernel
theorem dX4_makeAppeal_146 : decode cX4_makeAppeal 146 = .ok (.ireturn, 1) := by decide +kernel
theorem dX4_makeAppeal_147 : decode cX4_makeAppeal 147 = .ok (.aload_n 0, 1) := by decide +kernel
theorem dX4_makeAppeal_148 : decode cX4_makeAppeal 148 = .ok (.getfield 10, 3) := by decide +kernel
theorem dX4_makeAppeal_151 : decode cX4_makeAppeal 151 = .ok (.iload_n 2, 1) := by decide +kernel
theorem dX4_makeAppeal_152 : decode cX4_makeAppeal 152 = .ok (.invokevirtual 344, 3) := by decide +kernel
theorem dX4_makeAppeal_155 : decode cX4_makeAppeal 155 = .ok (.iconst 1, 1) := by decide +kernel
theorem dX4_makeAppeal_156 : decode cX4_makeAppeal 156 = .ok (.ireturn, 1) := by decide +kernel
theorem dX4_passMinutes_0 : decode cX4_passMinutes 0 = .ok (.iload_n 1, 1) := by decide +kernel
theorem dX4_passMinutes_1 : decode cX4_passMinutes 1 = .ok (.iconst 1, 1) := by decide +kernel
theorem dX4_passMinutes_2 : decode cX4_passMinutes 2 = .ok (.if_icmp .lt 9, 3) := by decide +kernel
theorem dX4_passMinutes_5 : decode cX4_passMinutes 5 = .ok (.iload_n 1, 1) := by decide +kernel
theorem dX4_passMinutes_6 : decode cX4_passMinutes 6 = .ok (.bipush 9, 2) := by decide +kernel
theorem dX4_passMinutes_8 : decode cX4_passMinutes 8 = .ok (.if_icmp .le 7, 3) := by decide +kernel
theorem dX4_passMinutes_11 : decode cX4_passMinutes 11 = .ok (.sipush (-1012), 3) := by decide +kernel
theorem dX4_passMinutes_14 : decode cX4_passMinutes 14 = .ok (.ireturn, 1) := by decide +kernel
theorem dX4_passMinutes_15 : decode cX4_passMinutes 15 = .ok (.iconst 0, 1) := by decide +kernel
theorem dX4_passMinutes_16 : decode cX4_passMinutes 16 = .ok (.istore_n 2, 1) := by decide +kernel
theorem dX4_passMinutes_17 : decode cX4_passMinutes 17 = .ok (.iconst 0, 1) := by decide +kernel
theorem dX4_passMinutes_18 : decode cX4_passMinutes 18 = .ok (.istore_n 3, 1) := by decide +kernel
theorem dX4_passMinutes_19 : decode cX4_passMinutes 19 = .ok (.iload_n 3, 1) := by decide +kernel
theorem dX4_passMinutes_20 : decode cX4_passMinutes 20 = .ok (.iload_n 1, 1) := by decide +kernel
theorem dX4_passMinutes_21 : decode cX4_passMinutes 21 = .ok (.if_icmp .ge 39, 3) := by decide +kernel
theorem dX4_passMinutes_24 : decode cX4_passMinutes 24 = .ok (.iload_n 2, 1) := by decide +kernel
theorem dX4_passMinutes_25 : decode cX4_passMinutes 25 = .ok (.aload_n 0, 1) := by decide +kernel
theorem dX4_passMinutes_26 : decode cX4_passMinutes 26 = .ok (.getfield 10, 3) := by decide +kernel
theorem dX4_passMinutes_29 : decode cX4_passMinutes 29 = .ok (.invokevirtual 347, 3) := by decide +kernel
theorem dX4_passMinutes_32 : decode cX4_passMinutes 32 = .ok (.iadd, 1) := by decide +kernel
theorem dX4_passMinutes_33 : decode cX4_passMinutes 33 = .ok (.istore_n 2, 1) := by decide +kernel
theorem dX4_passMinutes_34 : decode cX4_passMinutes 34 = .ok (.aload_n 0, 1) := by decide +kernel
theorem dX4_passMinutes_35 : decode cX4_passMinutes 35 = .ok (.getfield 10, 3) := by decide +kernel
theorem dX4_passMinutes_38 : decode cX4_passMinutes 38 = .ok (.getfield 271, 3) := by decide +kernel
theorem dX4_passMinutes_41 : decode cX4_passMinutes 41 = .ok (.bipush 6, 2) := by decide +kernel
theorem dX4_passMinutes_43 : decode cX4_passMinutes 43 = .ok (.irem, 1) := by decide +kernel
theorem dX4_passMinutes_44 : decode cX4_passMinutes 44 = .ok (.ifCond .ne 10, 3) := by decide +kernel
theorem dX4_passMinutes_47 : decode cX4_passMinutes 47 = .ok (.aload_n 0, 1) := by decide +kernel
theorem dX4_passMinutes_48 : decode cX4_passMinutes 48 = .ok (.getfield 10, 3) := by decide +kernel
theorem dX4_passMinutes_51 : decode cX4_passMinutes 51 = .ok (.invokevirtual 350, 3) := by decide +kernel
theorem dX4_passMinutes_54 : decode cX4_passMinutes 54 = .ok (.iinc 3 1, 3) := by decide +kernel
theorem dX4_passMinutes_57 : decode cX4_passMinutes 57 = .ok (.goto (-38), 3) := by decide +kernel
theorem dX4_passMinutes_60 : decode cX4_passMinutes 60 = .ok (.iload_n 2, 1) := by decide +kernel
theorem dX4_passMinutes_61 : decode cX4_passMinutes 61 = .ok (.ireturn, 1) := by decide +kernel
theorem dX4_refuse_0 : decode cX4_refuse 0 = .ok (.aload_n 0, 1) := by decide +kernel
theorem dX4_refuse_1 : decode cX4_refuse 1 = .ok (.getfield 29, 3) := by decide +kernel
theorem dX4_refuse_4 : decode cX4_refuse 4 = .ok (.iconst 0, 1) := by decide +kernel
theorem dX4_refuse_5 : decode cX4_refuse 5 = .ok (.putfield 252, 3) := by decide +kernel
theorem dX4_refuse_8 : decode cX4_refuse 8 = .ok (.aload_n 0, 1) := by decide +kernel
theorem dX4_refuse_9 : decode cX4_refuse 9 = .ok (.getfield 29, 3) := by decide +kernel
theorem dX4_refuse_12 : decode cX4_refuse 12 = .ok (.iload_n 1, 1) := by decide +kernel
theorem dX4_refuse_13 : decode cX4_refuse 13 = .ok (.iload_n 2, 1) := by decide +kernel
theorem dX4_refuse_14 : decode cX4_refuse 14 = .ok (.invokevirtual 359, 3) := by decide +kernel
theorem dX4_refuse_17 : decode cX4_refuse 17 = .ok (.sipush (-1014), 3) := by decide +kernel
theorem dX4_refuse_20 : decode cX4_refuse 20 = .ok (.ireturn, 1) := by decide +kernel
theorem dX4_refuseStove_0 : decode cX4_refuseStove 0 = .ok (.aload_n 0, 1) := by decide +kernel
theorem dX4_refuseStove_1 : decode cX4_refuseStove 1 = .ok (.iload_n 2, 1) := by decide +kernel
theorem dX4_refuseStove_2 : decode cX4_refuseStove 2 = .ok (.iload_n 3, 1) := by decide +kernel
theorem dX4_refuseStove_3 : decode cX4_refuseStove 3 = .ok (.invokevirtual 329, 3) := by decide +kernel
theorem dX4_refuseStove_6 : decode cX4_refuseStove 6 = .ok (.pop, 1) := by decide +kernel
theorem dX4_refuseStove_7 : decode cX4_refuseStove 7 = .ok (.aload_n 0, 1) := by decide +kernel
theorem dX4_refuseStove_8 : decode cX4_refuseStove 8 = .ok (.getfield 29, 3) := by decide +kernel
theorem dX4_refuseStove_11 : decode cX4_refuseStove 11 = .ok (.iconst 4, 1) := by decide +kernel
theorem dX4_refuseStove_12 : decode cX4_refuseStove 12 = .ok (.iload_n 1, 1) := by decide +kernel
theorem dX4_refuseStove_13 : decode cX4_refuseStove 13 = .ok (.invokevirtual 359, 3) := by decide +kernel
theorem dX4_refuseStove_16 : decode cX4_refuseStove 16 = .ok (.sipush (-1014), 3) := by decide +kernel
theorem dX4_refuseStove_19 : decode cX4_refuseStove 19 = .ok (.ireturn, 1) := by decide +kernel
theorem dX4_tellSigns_0 : decode cX4_tellSigns 0 = .ok (.aload_n 0, 1) := by decide +kernel
theorem dX4_tellSigns_1 : decode cX4_tellSigns 1 = .ok (.getfield 10, 3) := by decide +kernel
theorem dX4_tellSigns_4 : decode cX4_tellSigns 4 = .ok (.getfield 92, 3) := by decide +kernel
theorem dX4_tellSigns_7 : decode cX4_tellSigns 7 = .ok (.iload_n 1, 1) := by decide +kernel
theorem dX4_tellSigns_8 : decode cX4_tellSigns 8 = .ok (.iaload, 1) := by decide +kernel
theorem dX4_tellSigns_9 : decode cX4_tellSigns 9 = .ok (.ifCond .ne 13, 3) := by decide +kernel
theorem dX4_tellSigns_12 : decode cX4_tellSigns 12 = .ok (.aload_n 0, 1) := by decide +kernel
theorem dX4_tellSigns_13 : decode cX4_tellSigns 13 = .ok (.getfield 43, 3) := by decide +kernel
theorem dX4_tellSigns_16 : decode cX4_tellSigns 16 = .ok (.bipush 95, 2) := by decide +kernel
theorem dX4_tellSigns_18 : decode cX4_tellSigns 18 = .ok (.invokevirtual 240, 3) := by decide +kernel
theorem dX4_tellSigns_21 : decode cX4_tellSigns 21 = .ok (.pop, 1) := by decide +kernel
theorem dX4_tellSigns_22 : decode cX4_tellSigns 22 = .ok (.aload_n 0, 1) := by decide +kernel
theorem dX4_tellSigns_23 : decode cX4_tellSigns 23 = .ok (.getfield 10, 3) := by decide +kernel
theorem dX4_tellSigns_26 : decode cX4_tellSigns 26 = .ok (.getfield 341, 3) := by decide +kernel
theorem dX4_tellSigns_29 : decode cX4_tellSigns 29 = .ok (.iload_n 1, 1) := by decide +kernel
theorem dX4_tellSigns_30 : decode cX4_tellSigns 30 = .ok (.iaload, 1) := by decide +kernel
theorem dX4_tellSigns_31 : decode cX4_tellSigns 31 = .ok (.iconst 1, 1) := by decide +kernel
theorem dX4_tellSigns_32 : decode cX4_tellSigns 32 = .ok (.if_icmp .ne 13, 3) := by decide +kernel
theorem dX4_tellSigns_35 : decode cX4_tellSigns 35 = .ok (.aload_n 0, 1) := by decide +kernel
theorem dX4_tellSigns_36 : decode cX4_tellSigns 36 = .ok (.getfield 43, 3) := by decide +kernel
theorem dX4_tellSigns_39 : decode cX4_tellSigns 39 = .ok (.bipush 35, 2) := by decide +kernel
theorem dX4_tellSigns_41 : decode cX4_tellSigns 41 = .ok (.invokevirtual 240, 3) := by decide +kernel
theorem dX4_tellSigns_44 : decode cX4_tellSigns 44 = .ok (.pop, 1) := by decide +kernel
theorem dX4_tellSigns_45 : decode cX4_tellSigns 45 = .ok (.aload_n 0, 1) := by decide +kernel
theorem dX4_tellSigns_46 : decode cX4_tellSigns 46 = .ok (.getfield 10, 3) := by decide +kernel
theorem dX4_tellSigns_49 : decode cX4_tellSigns 49 = .ok (.getfield 95, 3) := by decide +kernel
theorem dX4_tellSigns_52 : decode cX4_tellSigns 52 = .ok (.iload_n 1, 1) := by decide +kernel
theorem dX4_tellSigns_53 : decode cX4_tellSigns 53 = .ok (.iaload, 1) := by decide +kernel
theorem dX4_tellSigns_54 : decode cX4_tellSigns 54 = .ok (.iconst (-1), 1) := by decide +kernel
theorem dX4_tellSigns_55 : decode cX4_tellSigns 55 = .ok (.if_icmp .eq 25, 3) := by decide +kernel
theorem dX4_tellSigns_58 : decode cX4_tellSigns 58 = .ok (.aload_n 0, 1) := by decide +kernel
theorem dX4_tellSigns_59 : decode cX4_tellSigns 59 = .ok (.getfield 43, 3) := by decide +kernel
theorem dX4_tellSigns_62 : decode cX4_tellSigns 62 = .ok (.bipush 64, 2) := by decide +kernel
theorem dX4_tellSigns_64 : decode cX4_tellSigns 64 = .ok (.invokevirtual 240, 3) := by decide +kernel
theorem dX4_tellSigns_67 : decode cX4_tellSigns 67 = .ok (.aload_n 0, 1) := by decide +kernel
theorem dX4_tellSigns_68 : decode cX4_tellSigns 68 = .ok (.getfield 10, 3) := by decide +kernel
theorem dX4_tellSigns_71 : decode cX4_tellSigns 71 = .ok (.getfield 95, 3) := by decide +kernel
theorem dX4_tellSigns_74 : decode cX4_tellSigns 74 = .ok (.iload_n 1, 1) := by decide +kernel
theorem dX4_tellSigns_75 : decode cX4_tellSigns 75 = .ok (.iaload, 1) := by decide +kernel
theorem dX4_tellSigns_76 : decode cX4_tellSigns 76 = .ok (.invokevirtual 236, 3) := by decide +kernel
theorem dX4_tellSigns_79 : decode cX4_tellSigns 79 = .ok (.pop, 1) := by decide +kernel
theorem dX4_tellSigns_80 : decode cX4_tellSigns 80 = .ok (.aload_n 0, 1) := by decide +kernel
theorem dX4_tellSigns_81 : decode cX4_tellSigns 81 = .ok (.getfield 10, 3) := by decide +kernel
theorem dX4_tellSigns_84 : decode cX4_tellSigns 84 = .ok (.iload_n 1, 1) := by decide +kernel
theorem dX4_tellSigns_85 : decode cX4_tellSigns 85 = .ok (.invokevirtual 101, 3) := by decide +kernel
theorem dX4_tellSigns_88 : decode cX4_tellSigns 88 = .ok (.ifCond .eq 13, 3) := by decide +kernel
theorem dX4_tellSigns_91 : decode cX4_tellSigns 91 = .ok (.aload_n 0, 1) := by decide +kernel
theorem dX4_tellSigns_92 : decode cX4_tellSigns 92 = .ok (.getfield 43, 3) := by decide +kernel
theorem dX4_tellSigns_95 : decode cX4_tellSigns 95 = .ok (.bipush 33, 2) := by decide +kernel
theorem dX4_tellSigns_97 : decode cX4_tellSigns 97 = .ok (.invokevirtual 240, 3) := by decide +kernel
theorem dX4_tellSigns_100 : decode cX4_tellSigns 100 = .ok (.pop, 1) := by decide +kernel
theorem dX4_tellSigns_101 : decode cX4_tellSigns 101 = .ok (.aload_n 0, 1) := by decide +kernel
theorem dX4_tellSigns_102 : decode cX4_tellSigns 102 = .ok (.getfield 10, 3) := by decide +kernel
theorem dX4_tellSigns_105 : decode cX4_tellSigns 105 = .ok (.getfield 104, 3) := by decide +kernel
theorem dX4_tellSigns_108 : decode cX4_tellSigns 108 = .ok (.iload_n 1, 1) := by decide +kernel
theorem dX4_tellSigns_109 : decode cX4_tellSigns 109 = .ok (.iaload, 1) := by decide +kernel
theorem dX4_tellSigns_110 : decode cX4_tellSigns 110 = .ok (.ifCond .le 25, 3) := by decide +kernel
theorem dX4_tellSigns_113 : decode cX4_tellSigns 113 = .ok (.aload_n 0, 1) := by decide +kernel
theorem dX4_tellSigns_114 : decode cX4_tellSigns 114 = .ok (.getfield 43, 3) := by decide +kernel
theorem dX4_tellSigns_117 : decode cX4_tellSigns 117 = .ok (.bipush 120, 2) := by decide +kernel
theorem dX4_tellSigns_119 : decode cX4_tellSigns 119 = .ok (.invokevirtual 240, 3) := by decide +kernel
theorem dX4_tellSigns_122 : decode cX4_tellSigns 122 = .ok (.aload_n 0, 1) := by decide +kernel
theorem dX4_tellSigns_123 : decode cX4_tellSigns 123 = .ok (.getfield 10, 3) := by decide +kernel
theorem dX4_tellSigns_126 : decode cX4_tellSigns 126 = .ok (.getfield 104, 3) := by decide +kernel
theorem dX4_tellSigns_129 : decode cX4_tellSigns 129 = .ok (.iload_n 1, 1) := by decide +kernel
theorem dX4_tellSigns_130 : decode cX4_tellSigns 130 = .ok (.iaload, 1) := by decide +kernel
theorem dX4_tellSigns_131 : decode cX4_tellSigns 131 = .ok (.invokevirtual 236, 3) := by decide +kernel
theorem dX4_tellSigns_134 : decode cX4_tellSigns 134 = .ok (.pop, 1) := by decide +kernel
theorem dX4_tellSigns_135 : decode cX4_tellSigns 135 = .ok (.return_, 1) := by decide +kernel
