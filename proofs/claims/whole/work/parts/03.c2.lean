theorem d_M_take_72 : decode b_M_take 72 = .ok (.if_icmp .ge 12, 3) := by decide +kernel
theorem d_M_take_75 : decode b_M_take 75 = .ok (.iload 4, 2) := by decide +kernel
theorem d_M_take_77 : decode b_M_take 77 = .ok (.iload 5, 2) := by decide +kernel
theorem d_M_take_79 : decode b_M_take 79 = .ok (.if_icmp .eq 5, 3) := by decide +kernel
theorem d_M_take_82 : decode b_M_take 82 = .ok (.iconst 0, 1) := by decide +kernel
theorem d_M_take_83 : decode b_M_take 83 = .ok (.ireturn, 1) := by decide +kernel
theorem d_M_take_84 : decode b_M_take 84 = .ok (.iload 4, 2) := by decide +kernel
theorem d_M_take_86 : decode b_M_take 86 = .ok (.iconst 1, 1) := by decide +kernel
theorem d_M_take_87 : decode b_M_take 87 = .ok (.if_icmp .le 34, 3) := by decide +kernel
theorem d_M_take_90 : decode b_M_take 90 = .ok (.iload 4, 2) := by decide +kernel
theorem d_M_take_92 : decode b_M_take 92 = .ok (.sipush 500, 3) := by decide +kernel
theorem d_M_take_95 : decode b_M_take 95 = .ok (.if_icmp .ge 26, 3) := by decide +kernel
theorem d_M_take_98 : decode b_M_take 98 = .ok (.aload_n 0, 1) := by decide +kernel
theorem d_M_take_99 : decode b_M_take 99 = .ok (.getfield 13, 3) := by decide +kernel
theorem d_M_take_102 : decode b_M_take 102 = .ok (.iload 4, 2) := by decide +kernel
theorem d_M_take_104 : decode b_M_take 104 = .ok (.bipush 100, 2) := by decide +kernel
theorem d_M_take_106 : decode b_M_take 106 = .ok (.idiv, 1) := by decide +kernel
theorem d_M_take_107 : decode b_M_take 107 = .ok (.iconst 1, 1) := by decide +kernel
theorem d_M_take_108 : decode b_M_take 108 = .ok (.isub, 1) := by decide +kernel
theorem d_M_take_109 : decode b_M_take 109 = .ok (.dup2, 1) := by decide +kernel
theorem d_M_take_110 : decode b_M_take 110 = .ok (.iaload, 1) := by decide +kernel
theorem d_M_take_111 : decode b_M_take 111 = .ok (.iload 5, 2) := by decide +kernel
theorem d_M_take_113 : decode b_M_take 113 = .ok (.iload 4, 2) := by decide +kernel
theorem d_M_take_115 : decode b_M_take 115 = .ok (.bipush 100, 2) := by decide +kernel
theorem d_M_take_117 : decode b_M_take 117 = .ok (.irem, 1) := by decide +kernel
theorem d_M_take_118 : decode b_M_take 118 = .ok (.ishl, 1) := by decide +kernel
theorem d_M_take_119 : decode b_M_take 119 = .ok (.iadd, 1) := by decide +kernel
theorem d_M_take_120 : decode b_M_take 120 = .ok (.iastore, 1) := by decide +kernel
theorem d_M_take_121 : decode b_M_take 121 = .ok (.iload 4, 2) := by decide +kernel
theorem d_M_take_123 : decode b_M_take 123 = .ok (.sipush 500, 3) := by decide +kernel
theorem d_M_take_126 : decode b_M_take 126 = .ok (.if_icmp .lt 26, 3) := by decide +kernel
theorem d_M_take_129 : decode b_M_take 129 = .ok (.aload_n 0, 1) := by decide +kernel
theorem d_M_take_130 : decode b_M_take 130 = .ok (.getfield 13, 3) := by decide +kernel
theorem d_M_take_133 : decode b_M_take 133 = .ok (.iload 4, 2) := by decide +kernel
theorem d_M_take_135 : decode b_M_take 135 = .ok (.bipush 100, 2) := by decide +kernel
theorem d_M_take_137 : decode b_M_take 137 = .ok (.idiv, 1) := by decide +kernel
theorem d_M_take_138 : decode b_M_take 138 = .ok (.iconst 5, 1) := by decide +kernel
theorem d_M_take_139 : decode b_M_take 139 = .ok (.isub, 1) := by decide +kernel
theorem d_M_take_140 : decode b_M_take 140 = .ok (.dup2, 1) := by decide +kernel
theorem d_M_take_141 : decode b_M_take 141 = .ok (.iaload, 1) := by decide +kernel
theorem d_M_take_142 : decode b_M_take 142 = .ok (.iload 5, 2) := by decide +kernel
theorem d_M_take_144 : decode b_M_take 144 = .ok (.iload 4, 2) := by decide +kernel
theorem d_M_take_146 : decode b_M_take 146 = .ok (.bipush 100, 2) := by decide +kernel
theorem d_M_take_148 : decode b_M_take 148 = .ok (.irem, 1) := by decide +kernel
theorem d_M_take_149 : decode b_M_take 149 = .ok (.ishl, 1) := by decide +kernel
theorem d_M_take_150 : decode b_M_take 150 = .ok (.iadd, 1) := by decide +kernel
theorem d_M_take_151 : decode b_M_take 151 = .ok (.iastore, 1) := by decide +kernel
theorem d_M_take_152 : decode b_M_take 152 = .ok (.iinc 3 1, 3) := by decide +kernel
theorem d_M_take_155 : decode b_M_take 155 = .ok (.goto (-114), 3) := by decide +kernel
theorem d_M_take_158 : decode b_M_take 158 = .ok (.iload_n 1, 1) := by decide +kernel
theorem d_M_take_159 : decode b_M_take 159 = .ok (.invokestatic 135, 3) := by decide +kernel
theorem d_M_take_162 : decode b_M_take 162 = .ok (.istore_n 3, 1) := by decide +kernel
theorem d_M_take_163 : decode b_M_take 163 = .ok (.iload_n 3, 1) := by decide +kernel
theorem d_M_take_164 : decode b_M_take 164 = .ok (.ifCond .lt 25, 3) := by decide +kernel
theorem d_M_take_167 : decode b_M_take 167 = .ok (.aload_n 0, 1) := by decide +kernel
theorem d_M_take_168 : decode b_M_take 168 = .ok (.getfield 13, 3) := by decide +kernel
theorem d_M_take_171 : decode b_M_take 171 = .ok (.iconst 3, 1) := by decide +kernel
theorem d_M_take_172 : decode b_M_take 172 = .ok (.aload_n 0, 1) := by decide +kernel
theorem d_M_take_173 : decode b_M_take 173 = .ok (.getfield 13, 3) := by decide +kernel
theorem d_M_take_176 : decode b_M_take 176 = .ok (.iconst 3, 1) := by decide +kernel
theorem d_M_take_177 : decode b_M_take 177 = .ok (.iaload, 1) := by decide +kernel
theorem d_M_take_178 : decode b_M_take 178 = .ok (.bipush 31, 2) := by decide +kernel
theorem d_M_take_180 : decode b_M_take 180 = .ok (.iload_n 3, 1) := by decide +kernel
theorem d_M_take_181 : decode b_M_take 181 = .ok (.isub, 1) := by decide +kernel
theorem d_M_take_182 : decode b_M_take 182 = .ok (.ishl, 1) := by decide +kernel
theorem d_M_take_183 : decode b_M_take 183 = .ok (.bipush 31, 2) := by decide +kernel
theorem d_M_take_185 : decode b_M_take 185 = .ok (.iload_n 3, 1) := by decide +kernel
theorem d_M_take_186 : decode b_M_take 186 = .ok (.isub, 1) := by decide +kernel
theorem d_M_take_187 : decode b_M_take 187 = .ok (.ishr, 1) := by decide +kernel
theorem d_M_take_188 : decode b_M_take 188 = .ok (.iastore, 1) := by decide +kernel
theorem d_M_take_189 : decode b_M_take 189 = .ok (.iload_n 1, 1) := by decide +kernel
theorem d_M_take_190 : decode b_M_take 190 = .ok (.bipush 56, 2) := by decide +kernel
theorem d_M_take_192 : decode b_M_take 192 = .ok (.if_icmp .ne 18, 3) := by decide +kernel
theorem d_M_take_195 : decode b_M_take 195 = .ok (.aload_n 0, 1) := by decide +kernel
theorem d_M_take_196 : decode b_M_take 196 = .ok (.getfield 13, 3) := by decide +kernel
theorem d_M_take_199 : decode b_M_take 199 = .ok (.iconst 3, 1) := by decide +kernel
theorem d_M_take_200 : decode b_M_take 200 = .ok (.aload_n 0, 1) := by decide +kernel
theorem d_M_take_201 : decode b_M_take 201 = .ok (.getfield 13, 3) := by decide +kernel
theorem d_M_take_204 : decode b_M_take 204 = .ok (.iconst 3, 1) := by decide +kernel
theorem d_M_take_205 : decode b_M_take 205 = .ok (.iaload, 1) := by decide +kernel
theorem d_M_take_206 : decode b_M_take 206 = .ok (.ldc 138, 2) := by decide +kernel
theorem d_M_take_208 : decode b_M_take 208 = .ok (.iand, 1) := by decide +kernel
theorem d_M_take_209 : decode b_M_take 209 = .ok (.iastore, 1) := by decide +kernel
theorem d_M_take_210 : decode b_M_take 210 = .ok (.aload_n 0, 1) := by decide +kernel
theorem d_M_take_211 : decode b_M_take 211 = .ok (.iload_n 1, 1) := by decide +kernel
theorem d_M_take_212 : decode b_M_take 212 = .ok (.invokevirtual 139, 3) := by decide +kernel
theorem d_M_take_215 : decode b_M_take 215 = .ok (.ireturn, 1) := by decide +kernel
theorem d_M_signOf_0 : decode b_M_signOf 0 = .ok (.iload_n 0, 1) := by decide +kernel
theorem d_M_signOf_1 : decode b_M_signOf 1 = .ok (.iconst 2, 1) := by decide +kernel
theorem d_M_signOf_2 : decode b_M_signOf 2 = .ok (.if_icmp .lt 10, 3) := by decide +kernel
theorem d_M_signOf_5 : decode b_M_signOf 5 = .ok (.iload_n 0, 1) := by decide +kernel
theorem d_M_signOf_6 : decode b_M_signOf 6 = .ok (.invokestatic 57, 3) := by decide +kernel
theorem d_M_signOf_9 : decode b_M_signOf 9 = .ok (.ifCond .eq 5, 3) := by decide +kernel
theorem d_M_signOf_12 : decode b_M_signOf 12 = .ok (.iconst (-1), 1) := by decide +kernel
theorem d_M_signOf_13 : decode b_M_signOf 13 = .ok (.ireturn, 1) := by decide +kernel
theorem d_M_signOf_14 : decode b_M_signOf 14 = .ok (.iload_n 0, 1) := by decide +kernel
theorem d_M_signOf_15 : decode b_M_signOf 15 = .ok (.iconst 2, 1) := by decide +kernel
theorem d_M_signOf_16 : decode b_M_signOf 16 = .ok (.if_icmp .ne 6, 3) := by decide +kernel
theorem d_M_signOf_19 : decode b_M_signOf 19 = .ok (.bipush 20, 2) := by decide +kernel
theorem d_M_signOf_21 : decode b_M_signOf 21 = .ok (.ireturn, 1) := by decide +kernel
theorem d_M_signOf_22 : decode b_M_signOf 22 = .ok (.iload_n 0, 1) := by decide +kernel
theorem d_M_signOf_23 : decode b_M_signOf 23 = .ok (.bipush 48, 2) := by decide +kernel
theorem d_M_signOf_25 : decode b_M_signOf 25 = .ok (.if_icmp .ge 18, 3) := by decide +kernel
theorem d_M_signOf_28 : decode b_M_signOf 28 = .ok (.iload_n 0, 1) := by decide +kernel
theorem d_M_signOf_29 : decode b_M_signOf 29 = .ok (.invokestatic 47, 3) := by decide +kernel
theorem d_M_signOf_32 : decode b_M_signOf 32 = .ok (.ifCond .eq 8, 3) := by decide +kernel
theorem d_M_signOf_35 : decode b_M_signOf 35 = .ok (.bipush 12, 2) := by decide +kernel
theorem d_M_signOf_37 : decode b_M_signOf 37 = .ok (.goto 5, 3) := by decide +kernel
theorem d_M_signOf_40 : decode b_M_signOf 40 = .ok (.bipush 11, 2) := by decide +kernel
theorem d_M_signOf_42 : decode b_M_signOf 42 = .ok (.ireturn, 1) := by decide +kernel
theorem d_M_signOf_43 : decode b_M_signOf 43 = .ok (.iload_n 0, 1) := by decide +kernel
theorem d_M_signOf_44 : decode b_M_signOf 44 = .ok (.tableswitch 87 52 66 #[76, 78, 76, 81, 76, 87, 87, 76, 87, 87, 87, 87, 78, 84, 84], 76) := by decide +kernel
theorem d_M_signOf_120 : decode b_M_signOf 120 = .ok (.iconst 5, 1) := by decide +kernel
theorem d_M_signOf_121 : decode b_M_signOf 121 = .ok (.ireturn, 1) := by decide +kernel
theorem d_M_signOf_122 : decode b_M_signOf 122 = .ok (.bipush 11, 2) := by decide +kernel
theorem d_M_signOf_124 : decode b_M_signOf 124 = .ok (.ireturn, 1) := by decide +kernel
theorem d_M_signOf_125 : decode b_M_signOf 125 = .ok (.bipush 9, 2) := by decide +kernel
theorem d_M_signOf_127 : decode b_M_signOf 127 = .ok (.ireturn, 1) := by decide +kernel
theorem d_M_signOf_128 : decode b_M_signOf 128 = .ok (.bipush 8, 2) := by decide +kernel
theorem d_M_signOf_130 : decode b_M_signOf 130 = .ok (.ireturn, 1) := by decide +kernel
theorem d_M_signOf_131 : decode b_M_signOf 131 = .ok (.iconst (-1), 1) := by decide +kernel
theorem d_M_signOf_132 : decode b_M_signOf 132 = .ok (.ireturn, 1) := by decide +kernel
theorem d_M_size_0 : decode b_M_size 0 = .ok (.aload_n 0, 1) := by decide +kernel
theorem d_M_size_1 : decode b_M_size 1 = .ok (.iconst 0, 1) := by decide +kernel
theorem d_M_size_2 : decode b_M_size 2 = .ok (.putfield 26, 3) := by decide +kernel
theorem d_M_size_5 : decode b_M_size 5 = .ok (.iload_n 1, 1) := by decide +kernel
theorem d_M_size_6 : decode b_M_size 6 = .ok (.invokestatic 142, 3) := by decide +kernel
theorem d_M_size_9 : decode b_M_size 9 = .ok (.ifCond .eq 7, 3) := by decide +kernel
theorem d_M_size_12 : decode b_M_size 12 = .ok (.iconst 4, 1) := by decide +kernel
theorem d_M_size_13 : decode b_M_size 13 = .ok (.goto 4, 3) := by decide +kernel
theorem d_M_size_16 : decode b_M_size 16 = .ok (.iconst 2, 1) := by decide +kernel
theorem d_M_size_17 : decode b_M_size 17 = .ok (.ireturn, 1) := by decide +kernel
theorem d_M_part_0 : decode b_M_part 0 = .ok (.aload_n 0, 1) := by decide +kernel
theorem d_M_part_1 : decode b_M_part 1 = .ok (.iload_n 1, 1) := by decide +kernel
theorem d_M_part_2 : decode b_M_part 2 = .ok (.invokevirtual 154, 3) := by decide +kernel
theorem d_M_part_5 : decode b_M_part 5 = .ok (.istore_n 3, 1) := by decide +kernel
theorem d_M_part_6 : decode b_M_part 6 = .ok (.aload_n 0, 1) := by decide +kernel
theorem d_M_part_7 : decode b_M_part 7 = .ok (.iload_n 3, 1) := by decide +kernel
theorem d_M_part_8 : decode b_M_part 8 = .ok (.iconst (-1), 1) := by decide +kernel
theorem d_M_part_9 : decode b_M_part 9 = .ok (.if_icmp .eq 25, 3) := by decide +kernel
theorem d_M_part_12 : decode b_M_part 12 = .ok (.iload_n 2, 1) := by decide +kernel
theorem d_M_part_13 : decode b_M_part 13 = .ok (.ifCond .lt 21, 3) := by decide +kernel
theorem d_M_part_16 : decode b_M_part 16 = .ok (.iload_n 2, 1) := by decide +kernel
theorem d_M_part_17 : decode b_M_part 17 = .ok (.iconst 4, 1) := by decide +kernel
theorem d_M_part_18 : decode b_M_part 18 = .ok (.if_icmp .ge 16, 3) := by decide +kernel
theorem d_M_part_21 : decode b_M_part 21 = .ok (.aload_n 0, 1) := by decide +kernel
theorem d_M_part_22 : decode b_M_part 22 = .ok (.iload_n 3, 1) := by decide +kernel
theorem d_M_part_23 : decode b_M_part 23 = .ok (.iload_n 2, 1) := by decide +kernel
theorem d_M_part_24 : decode b_M_part 24 = .ok (.invokevirtual 124, 3) := by decide +kernel
theorem d_M_part_27 : decode b_M_part 27 = .ok (.ifCond .eq 7, 3) := by decide +kernel
theorem d_M_part_30 : decode b_M_part 30 = .ok (.iconst 0, 1) := by decide +kernel
theorem d_M_part_31 : decode b_M_part 31 = .ok (.goto 4, 3) := by decide +kernel
theorem d_M_part_34 : decode b_M_part 34 = .ok (.iconst 1, 1) := by decide +kernel
theorem d_M_part_35 : decode b_M_part 35 = .ok (.putfield 26, 3) := by decide +kernel
theorem d_M_part_38 : decode b_M_part 38 = .ok (.aload_n 0, 1) := by decide +kernel
theorem d_M_part_39 : decode b_M_part 39 = .ok (.getfield 26, 3) := by decide +kernel
theorem d_M_part_42 : decode b_M_part 42 = .ok (.ifCond .ne 12, 3) := by decide +kernel
theorem d_M_part_45 : decode b_M_part 45 = .ok (.aload_n 0, 1) := by decide +kernel
theorem d_M_part_46 : decode b_M_part 46 = .ok (.getfield 13, 3) := by decide +kernel
theorem d_M_part_49 : decode b_M_part 49 = .ok (.iload_n 2, 1) := by decide +kernel
theorem d_M_part_50 : decode b_M_part 50 = .ok (.iaload, 1) := by decide +kernel
theorem d_M_part_51 : decode b_M_part 51 = .ok (.goto 4, 3) := by decide +kernel
theorem d_M_part_54 : decode b_M_part 54 = .ok (.iconst 0, 1) := by decide +kernel
theorem d_M_part_55 : decode b_M_part 55 = .ok (.ireturn, 1) := by decide +kernel
theorem d_M_longer_0 : decode b_M_longer 0 = .ok (.iload_n 1, 1) := by decide +kernel
theorem d_M_longer_1 : decode b_M_longer 1 = .ok (.invokestatic 142, 3) := by decide +kernel
theorem d_M_longer_4 : decode b_M_longer 4 = .ok (.ifCond .eq 7, 3) := by decide +kernel
theorem d_M_longer_7 : decode b_M_longer 7 = .ok (.iconst (-1), 1) := by decide +kernel
theorem d_M_longer_8 : decode b_M_longer 8 = .ok (.goto 8, 3) := by decide +kernel
theorem d_M_longer_11 : decode b_M_longer 11 = .ok (.aload_n 0, 1) := by decide +kernel
theorem d_M_longer_12 : decode b_M_longer 12 = .ok (.iload_n 1, 1) := by decide +kernel
theorem d_M_longer_13 : decode b_M_longer 13 = .ok (.invokevirtual 154, 3) := by decide +kernel
theorem d_M_longer_16 : decode b_M_longer 16 = .ok (.istore_n 2, 1) := by decide +kernel
theorem d_M_longer_17 : decode b_M_longer 17 = .ok (.aload_n 0, 1) := by decide +kernel
theorem d_M_longer_18 : decode b_M_longer 18 = .ok (.iload_n 2, 1) := by decide +kernel
theorem d_M_longer_19 : decode b_M_longer 19 = .ok (.iconst (-1), 1) := by decide +kernel
theorem d_M_longer_20 : decode b_M_longer 20 = .ok (.if_icmp .ne 7, 3) := by decide +kernel
theorem d_M_longer_23 : decode b_M_longer 23 = .ok (.iconst 1, 1) := by decide +kernel
theorem d_M_longer_24 : decode b_M_longer 24 = .ok (.goto 4, 3) := by decide +kernel
theorem d_M_longer_27 : decode b_M_longer 27 = .ok (.iconst 0, 1) := by decide +kernel
theorem d_M_longer_28 : decode b_M_longer 28 = .ok (.putfield 26, 3) := by decide +kernel
theorem d_M_longer_31 : decode b_M_longer 31 = .ok (.aload_n 0, 1) := by decide +kernel
theorem d_M_longer_32 : decode b_M_longer 32 = .ok (.getfield 26, 3) := by decide +kernel
theorem d_M_longer_35 : decode b_M_longer 35 = .ok (.ifCond .ne 11, 3) := by decide +kernel
theorem d_M_longer_38 : decode b_M_longer 38 = .ok (.aload_n 0, 1) := by decide +kernel
theorem d_M_longer_39 : decode b_M_longer 39 = .ok (.iload_n 2, 1) := by decide +kernel
theorem d_M_longer_40 : decode b_M_longer 40 = .ok (.invokevirtual 160, 3) := by decide +kernel
theorem d_M_longer_43 : decode b_M_longer 43 = .ok (.goto 4, 3) := by decide +kernel
theorem d_M_longer_46 : decode b_M_longer 46 = .ok (.iconst 0, 1) := by decide +kernel
theorem d_M_longer_47 : decode b_M_longer 47 = .ok (.ireturn, 1) := by decide +kernel
theorem d_M_stretch_0 : decode b_M_stretch 0 = .ok (.aload_n 0, 1) := by decide +kernel
theorem d_M_stretch_1 : decode b_M_stretch 1 = .ok (.getfield 13, 3) := by decide +kernel
theorem d_M_stretch_4 : decode b_M_stretch 4 = .ok (.iconst 0, 1) := by decide +kernel
theorem d_M_stretch_5 : decode b_M_stretch 5 = .ok (.iaload, 1) := by decide +kernel
theorem d_M_stretch_6 : decode b_M_stretch 6 = .ok (.istore_n 2, 1) := by decide +kernel
theorem d_M_stretch_7 : decode b_M_stretch 7 = .ok (.iload_n 1, 1) := by decide +kernel
theorem d_M_stretch_8 : decode b_M_stretch 8 = .ok (.bipush 52, 2) := by decide +kernel
theorem d_M_stretch_10 : decode b_M_stretch 10 = .ok (.if_icmp .eq 45, 3) := by decide +kernel
theorem d_M_stretch_13 : decode b_M_stretch 13 = .ok (.iload_n 1, 1) := by decide +kernel
theorem d_M_stretch_14 : decode b_M_stretch 14 = .ok (.bipush 57, 2) := by decide +kernel
theorem d_M_stretch_16 : decode b_M_stretch 16 = .ok (.if_icmp .eq 39, 3) := by decide +kernel
theorem d_M_stretch_19 : decode b_M_stretch 19 = .ok (.iload_n 1, 1) := by decide +kernel
theorem d_M_stretch_20 : decode b_M_stretch 20 = .ok (.bipush 58, 2) := by decide +kernel
theorem d_M_stretch_22 : decode b_M_stretch 22 = .ok (.if_icmp .eq 33, 3) := by decide +kernel
theorem d_M_stretch_25 : decode b_M_stretch 25 = .ok (.iload_n 1, 1) := by decide +kernel
theorem d_M_stretch_26 : decode b_M_stretch 26 = .ok (.bipush 59, 2) := by decide +kernel
theorem d_M_stretch_28 : decode b_M_stretch 28 = .ok (.if_icmp .eq 27, 3) := by decide +kernel
theorem d_M_stretch_31 : decode b_M_stretch 31 = .ok (.iload_n 1, 1) := by decide +kernel
theorem d_M_stretch_32 : decode b_M_stretch 32 = .ok (.bipush 59, 2) := by decide +kernel
theorem d_M_stretch_34 : decode b_M_stretch 34 = .ok (.if_icmp .le 9, 3) := by decide +kernel
theorem d_M_stretch_37 : decode b_M_stretch 37 = .ok (.iload_n 1, 1) := by decide +kernel
theorem d_M_stretch_38 : decode b_M_stretch 38 = .ok (.bipush 64, 2) := by decide +kernel
theorem d_M_stretch_40 : decode b_M_stretch 40 = .ok (.if_icmp .lt 15, 3) := by decide +kernel
theorem d_M_stretch_43 : decode b_M_stretch 43 = .ok (.iload_n 1, 1) := by decide +kernel
theorem d_M_stretch_44 : decode b_M_stretch 44 = .ok (.bipush 67, 2) := by decide +kernel
theorem d_M_stretch_46 : decode b_M_stretch 46 = .ok (.if_icmp .eq 9, 3) := by decide +kernel
theorem d_M_stretch_49 : decode b_M_stretch 49 = .ok (.iload_n 1, 1) := by decide +kernel
theorem d_M_stretch_50 : decode b_M_stretch 50 = .ok (.bipush 73, 2) := by decide +kernel
theorem d_M_stretch_52 : decode b_M_stretch 52 = .ok (.if_icmp .ne 7, 3) := by decide +kernel
theorem d_M_stretch_55 : decode b_M_stretch 55 = .ok (.iconst 1, 1) := by decide +kernel
theorem d_M_stretch_56 : decode b_M_stretch 56 = .ok (.goto 4, 3) := by decide +kernel
theorem d_M_stretch_59 : decode b_M_stretch 59 = .ok (.iconst 0, 1) := by decide +kernel
theorem d_M_stretch_60 : decode b_M_stretch 60 = .ok (.istore_n 3, 1) := by decide +kernel
theorem d_M_stretch_61 : decode b_M_stretch 61 = .ok (.iload_n 1, 1) := by decide +kernel
theorem d_M_stretch_62 : decode b_M_stretch 62 = .ok (.bipush 48, 2) := by decide +kernel
theorem d_M_stretch_64 : decode b_M_stretch 64 = .ok (.if_icmp .eq 21, 3) := by decide +kernel
theorem d_M_stretch_67 : decode b_M_stretch 67 = .ok (.iload_n 1, 1) := by decide +kernel
theorem d_M_stretch_68 : decode b_M_stretch 68 = .ok (.bipush 55, 2) := by decide +kernel
theorem d_M_stretch_70 : decode b_M_stretch 70 = .ok (.if_icmp .eq 15, 3) := by decide +kernel
theorem d_M_stretch_73 : decode b_M_stretch 73 = .ok (.iload_n 1, 1) := by decide +kernel
theorem d_M_stretch_74 : decode b_M_stretch 74 = .ok (.bipush 68, 2) := by decide +kernel
theorem d_M_stretch_76 : decode b_M_stretch 76 = .ok (.if_icmp .eq 9, 3) := by decide +kernel
theorem d_M_stretch_79 : decode b_M_stretch 79 = .ok (.iload_n 1, 1) := by decide +kernel
theorem d_M_stretch_80 : decode b_M_stretch 80 = .ok (.bipush 74, 2) := by decide +kernel
theorem d_M_stretch_82 : decode b_M_stretch 82 = .ok (.if_icmp .ne 7, 3) := by decide +kernel
theorem d_M_stretch_85 : decode b_M_stretch 85 = .ok (.iconst 1, 1) := by decide +kernel
theorem d_M_stretch_86 : decode b_M_stretch 86 = .ok (.goto 4, 3) := by decide +kernel
theorem d_M_stretch_89 : decode b_M_stretch 89 = .ok (.iconst 0, 1) := by decide +kernel
theorem d_M_stretch_90 : decode b_M_stretch 90 = .ok (.istore 4, 2) := by decide +kernel
theorem d_M_stretch_92 : decode b_M_stretch 92 = .ok (.iload_n 3, 1) := by decide +kernel
theorem d_M_stretch_93 : decode b_M_stretch 93 = .ok (.ifCond .eq 10, 3) := by decide +kernel
theorem d_M_stretch_96 : decode b_M_stretch 96 = .ok (.aload_n 0, 1) := by decide +kernel
theorem d_M_stretch_97 : decode b_M_stretch 97 = .ok (.getfield 13, 3) := by decide +kernel
theorem d_M_stretch_100 : decode b_M_stretch 100 = .ok (.iconst 1, 1) := by decide +kernel
theorem d_M_stretch_101 : decode b_M_stretch 101 = .ok (.iload_n 2, 1) := by decide +kernel
theorem d_M_stretch_102 : decode b_M_stretch 102 = .ok (.iastore, 1) := by decide +kernel
theorem d_M_stretch_103 : decode b_M_stretch 103 = .ok (.iload 4, 2) := by decide +kernel
theorem d_M_stretch_105 : decode b_M_stretch 105 = .ok (.ifCond .eq 10, 3) := by decide +kernel
theorem d_M_stretch_108 : decode b_M_stretch 108 = .ok (.aload_n 0, 1) := by decide +kernel
theorem d_M_stretch_109 : decode b_M_stretch 109 = .ok (.getfield 13, 3) := by decide +kernel
theorem d_M_stretch_112 : decode b_M_stretch 112 = .ok (.iconst 1, 1) := by decide +kernel
theorem d_M_stretch_113 : decode b_M_stretch 113 = .ok (.iconst 2, 1) := by decide +kernel
theorem d_M_stretch_114 : decode b_M_stretch 114 = .ok (.iastore, 1) := by decide +kernel
theorem d_M_stretch_115 : decode b_M_stretch 115 = .ok (.iload_n 1, 1) := by decide +kernel
theorem d_M_stretch_116 : decode b_M_stretch 116 = .ok (.bipush 51, 2) := by decide +kernel
theorem d_M_stretch_118 : decode b_M_stretch 118 = .ok (.if_icmp .eq 15, 3) := by decide +kernel
theorem d_M_stretch_121 : decode b_M_stretch 121 = .ok (.iload_n 1, 1) := by decide +kernel
theorem d_M_stretch_122 : decode b_M_stretch 122 = .ok (.bipush 54, 2) := by decide +kernel
theorem d_M_stretch_124 : decode b_M_stretch 124 = .ok (.if_icmp .eq 9, 3) := by decide +kernel
theorem d_M_stretch_127 : decode b_M_stretch 127 = .ok (.iload_n 1, 1) := by decide +kernel
theorem d_M_stretch_128 : decode b_M_stretch 128 = .ok (.bipush 70, 2) := by decide +kernel
theorem d_M_stretch_130 : decode b_M_stretch 130 = .ok (.if_icmp .ne 10, 3) := by decide +kernel
theorem d_M_stretch_133 : decode b_M_stretch 133 = .ok (.aload_n 0, 1) := by decide +kernel
theorem d_M_stretch_134 : decode b_M_stretch 134 = .ok (.getfield 13, 3) := by decide +kernel
theorem d_M_stretch_137 : decode b_M_stretch 137 = .ok (.iconst 1, 1) := by decide +kernel
theorem d_M_stretch_138 : decode b_M_stretch 138 = .ok (.iconst 0, 1) := by decide +kernel
theorem d_M_stretch_139 : decode b_M_stretch 139 = .ok (.iastore, 1) := by decide +kernel
theorem d_M_stretch_140 : decode b_M_stretch 140 = .ok (.iload_n 1, 1) := by decide +kernel
theorem d_M_stretch_141 : decode b_M_stretch 141 = .ok (.bipush 51, 2) := by decide +kernel
theorem d_M_stretch_143 : decode b_M_stretch 143 = .ok (.if_icmp .eq 15, 3) := by decide +kernel
theorem d_M_stretch_146 : decode b_M_stretch 146 = .ok (.iload_n 1, 1) := by decide +kernel
theorem d_M_stretch_147 : decode b_M_stretch 147 = .ok (.bipush 64, 2) := by decide +kernel
theorem d_M_stretch_149 : decode b_M_stretch 149 = .ok (.if_icmp .eq 9, 3) := by decide +kernel
theorem d_M_stretch_152 : decode b_M_stretch 152 = .ok (.iload_n 1, 1) := by decide +kernel
theorem d_M_stretch_153 : decode b_M_stretch 153 = .ok (.bipush 69, 2) := by decide +kernel
theorem d_M_stretch_155 : decode b_M_stretch 155 = .ok (.if_icmp .ne 10, 3) := by decide +kernel
theorem d_M_stretch_158 : decode b_M_stretch 158 = .ok (.aload_n 0, 1) := by decide +kernel
theorem d_M_stretch_159 : decode b_M_stretch 159 = .ok (.getfield 13, 3) := by decide +kernel
theorem d_M_stretch_162 : decode b_M_stretch 162 = .ok (.iconst 0, 1) := by decide +kernel
theorem d_M_stretch_163 : decode b_M_stretch 163 = .ok (.iconst 0, 1) := by decide +kernel
theorem d_M_stretch_164 : decode b_M_stretch 164 = .ok (.iastore, 1) := by decide +kernel
theorem d_M_stretch_165 : decode b_M_stretch 165 = .ok (.iload_n 1, 1) := by decide +kernel
theorem d_M_stretch_166 : decode b_M_stretch 166 = .ok (.bipush 53, 2) := by decide +kernel
theorem d_M_stretch_168 : decode b_M_stretch 168 = .ok (.if_icmp .eq 9, 3) := by decide +kernel
theorem d_M_stretch_171 : decode b_M_stretch 171 = .ok (.iload_n 1, 1) := by decide +kernel
theorem d_M_stretch_172 : decode b_M_stretch 172 = .ok (.bipush 72, 2) := by decide +kernel
theorem d_M_stretch_174 : decode b_M_stretch 174 = .ok (.if_icmp .ne 10, 3) := by decide +kernel
theorem d_M_stretch_177 : decode b_M_stretch 177 = .ok (.aload_n 0, 1) := by decide +kernel
theorem d_M_stretch_178 : decode b_M_stretch 178 = .ok (.getfield 13, 3) := by decide +kernel
theorem d_M_stretch_181 : decode b_M_stretch 181 = .ok (.iconst 0, 1) := by decide +kernel
theorem d_M_stretch_182 : decode b_M_stretch 182 = .ok (.iconst 1, 1) := by decide +kernel
theorem d_M_stretch_183 : decode b_M_stretch 183 = .ok (.iastore, 1) := by decide +kernel
theorem d_M_stretch_184 : decode b_M_stretch 184 = .ok (.iload_n 1, 1) := by decide +kernel
theorem d_M_stretch_185 : decode b_M_stretch 185 = .ok (.bipush 55, 2) := by decide +kernel
theorem d_M_stretch_187 : decode b_M_stretch 187 = .ok (.if_icmp .ne 10, 3) := by decide +kernel
theorem d_M_stretch_190 : decode b_M_stretch 190 = .ok (.aload_n 0, 1) := by decide +kernel
theorem d_M_stretch_191 : decode b_M_stretch 191 = .ok (.getfield 13, 3) := by decide +kernel
theorem d_M_stretch_194 : decode b_M_stretch 194 = .ok (.iconst 0, 1) := by decide +kernel
theorem d_M_stretch_195 : decode b_M_stretch 195 = .ok (.iconst 2, 1) := by decide +kernel
theorem d_M_stretch_196 : decode b_M_stretch 196 = .ok (.iastore, 1) := by decide +kernel
theorem d_M_stretch_197 : decode b_M_stretch 197 = .ok (.iload_n 1, 1) := by decide +kernel
theorem d_M_stretch_198 : decode b_M_stretch 198 = .ok (.bipush 65, 2) := by decide +kernel
theorem d_M_stretch_200 : decode b_M_stretch 200 = .ok (.if_icmp .eq 9, 3) := by decide +kernel
theorem d_M_stretch_203 : decode b_M_stretch 203 = .ok (.iload_n 1, 1) := by decide +kernel
theorem d_M_stretch_204 : decode b_M_stretch 204 = .ok (.bipush 66, 2) := by decide +kernel
theorem d_M_stretch_206 : decode b_M_stretch 206 = .ok (.if_icmp .ne 10, 3) := by decide +kernel
theorem d_M_stretch_209 : decode b_M_stretch 209 = .ok (.aload_n 0, 1) := by decide +kernel
theorem d_M_stretch_210 : decode b_M_stretch 210 = .ok (.getfield 13, 3) := by decide +kernel
theorem d_M_stretch_213 : decode b_M_stretch 213 = .ok (.iconst 2, 1) := by decide +kernel
theorem d_M_stretch_214 : decode b_M_stretch 214 = .ok (.iconst 0, 1) := by decide +kernel
theorem d_M_stretch_215 : decode b_M_stretch 215 = .ok (.iastore, 1) := by decide +kernel
theorem d_M_stretch_216 : decode b_M_stretch 216 = .ok (.iload_n 1, 1) := by decide +kernel
theorem d_M_stretch_217 : decode b_M_stretch 217 = .ok (.bipush 51, 2) := by decide +kernel
theorem d_M_stretch_219 : decode b_M_stretch 219 = .ok (.if_icmp .eq 15, 3) := by decide +kernel
theorem d_M_stretch_222 : decode b_M_stretch 222 = .ok (.iload_n 1, 1) := by decide +kernel
theorem d_M_stretch_223 : decode b_M_stretch 223 = .ok (.bipush 69, 2) := by decide +kernel
theorem d_M_stretch_225 : decode b_M_stretch 225 = .ok (.if_icmp .eq 9, 3) := by decide +kernel
theorem d_M_stretch_228 : decode b_M_stretch 228 = .ok (.iload_n 1, 1) := by decide +kernel
theorem d_M_stretch_229 : decode b_M_stretch 229 = .ok (.bipush 72, 2) := by decide +kernel
theorem d_M_stretch_231 : decode b_M_stretch 231 = .ok (.if_icmp .ne 10, 3) := by decide +kernel
theorem d_M_stretch_234 : decode b_M_stretch 234 = .ok (.aload_n 0, 1) := by decide +kernel
theorem d_M_stretch_235 : decode b_M_stretch 235 = .ok (.getfield 13, 3) := by decide +kernel
theorem d_M_stretch_238 : decode b_M_stretch 238 = .ok (.iconst 3, 1) := by decide +kernel
theorem d_M_stretch_239 : decode b_M_stretch 239 = .ok (.iconst 0, 1) := by decide +kernel
theorem d_M_stretch_240 : decode b_M_stretch 240 = .ok (.iastore, 1) := by decide +kernel
theorem d_M_stretch_241 : decode b_M_stretch 241 = .ok (.aload_n 0, 1) := by decide +kernel
theorem d_M_stretch_242 : decode b_M_stretch 242 = .ok (.iload_n 1, 1) := by decide +kernel
theorem d_M_stretch_243 : decode b_M_stretch 243 = .ok (.invokestatic 157, 3) := by decide +kernel
theorem d_M_stretch_246 : decode b_M_stretch 246 = .ok (.invokevirtual 151, 3) := by decide +kernel
theorem d_M_stretch_249 : decode b_M_stretch 249 = .ok (.ireturn, 1) := by decide +kernel
theorem d_M_longKind_0 : decode b_M_longKind 0 = .ok (.iload_n 0, 1) := by decide +kernel
theorem d_M_longKind_1 : decode b_M_longKind 1 = .ok (.tableswitch 169 48 74 #[123, 126, 129, 123, 123, 132, 123, 123, 134, 136, 139, 142, 145, 148, 151, 154, 132, 157, 159, 161, 126, 164, 169, 166, 164, 169, 129], 123) := by decide +kernel
theorem d_M_longKind_124 : decode b_M_longKind 124 = .ok (.bipush 18, 2) := by decide +kernel
theorem d_M_longKind_126 : decode b_M_longKind 126 = .ok (.ireturn, 1) := by decide +kernel
theorem d_M_longKind_127 : decode b_M_longKind 127 = .ok (.bipush 12, 2) := by decide +kernel
theorem d_M_longKind_129 : decode b_M_longKind 129 = .ok (.ireturn, 1) := by decide +kernel
theorem d_M_longKind_130 : decode b_M_longKind 130 = .ok (.bipush 17, 2) := by decide +kernel
theorem d_M_longKind_132 : decode b_M_longKind 132 = .ok (.ireturn, 1) := by decide +kernel
theorem d_M_longKind_133 : decode b_M_longKind 133 = .ok (.iconst 2, 1) := by decide +kernel
theorem d_M_longKind_134 : decode b_M_longKind 134 = .ok (.ireturn, 1) := by decide +kernel
theorem d_M_longKind_135 : decode b_M_longKind 135 = .ok (.iconst 0, 1) := by decide +kernel
theorem d_M_longKind_136 : decode b_M_longKind 136 = .ok (.ireturn, 1) := by decide +kernel
theorem d_M_longKind_137 : decode b_M_longKind 137 = .ok (.bipush 25, 2) := by decide +kernel
theorem d_M_longKind_139 : decode b_M_longKind 139 = .ok (.ireturn, 1) := by decide +kernel
theorem d_M_longKind_140 : decode b_M_longKind 140 = .ok (.bipush 26, 2) := by decide +kernel
theorem d_M_longKind_142 : decode b_M_longKind 142 = .ok (.ireturn, 1) := by decide +kernel
theorem d_M_longKind_143 : decode b_M_longKind 143 = .ok (.bipush 23, 2) := by decide +kernel
theorem d_M_longKind_145 : decode b_M_longKind 145 = .ok (.ireturn, 1) := by decide +kernel
theorem d_M_longKind_146 : decode b_M_longKind 146 = .ok (.bipush 28, 2) := by decide +kernel
theorem d_M_longKind_148 : decode b_M_longKind 148 = .ok (.ireturn, 1) := by decide +kernel
theorem d_M_longKind_149 : decode b_M_longKind 149 = .ok (.bipush 32, 2) := by decide +kernel
theorem d_M_longKind_151 : decode b_M_longKind 151 = .ok (.ireturn, 1) := by decide +kernel
theorem d_M_longKind_152 : decode b_M_longKind 152 = .ok (.bipush 35, 2) := by decide +kernel
theorem d_M_longKind_154 : decode b_M_longKind 154 = .ok (.ireturn, 1) := by decide +kernel
theorem d_M_longKind_155 : decode b_M_longKind 155 = .ok (.bipush 36, 2) := by decide +kernel
theorem d_M_longKind_157 : decode b_M_longKind 157 = .ok (.ireturn, 1) := by decide +kernel
theorem d_M_longKind_158 : decode b_M_longKind 158 = .ok (.iconst 4, 1) := by decide +kernel
theorem d_M_longKind_159 : decode b_M_longKind 159 = .ok (.ireturn, 1) := by decide +kernel
theorem d_M_longKind_160 : decode b_M_longKind 160 = .ok (.iconst 5, 1) := by decide +kernel
theorem d_M_longKind_161 : decode b_M_longKind 161 = .ok (.ireturn, 1) := by decide +kernel
theorem d_M_longKind_162 : decode b_M_longKind 162 = .ok (.bipush 24, 2) := by decide +kernel
theorem d_M_longKind_164 : decode b_M_longKind 164 = .ok (.ireturn, 1) := by decide +kernel
theorem d_M_longKind_165 : decode b_M_longKind 165 = .ok (.iconst 3, 1) := by decide +kernel
theorem d_M_longKind_166 : decode b_M_longKind 166 = .ok (.ireturn, 1) := by decide +kernel
theorem d_M_longKind_167 : decode b_M_longKind 167 = .ok (.bipush 47, 2) := by decide +kernel
theorem d_M_longKind_169 : decode b_M_longKind 169 = .ok (.ireturn, 1) := by decide +kernel
theorem d_M_longKind_170 : decode b_M_longKind 170 = .ok (.bipush 27, 2) := by decide +kernel
theorem d_M_longKind_172 : decode b_M_longKind 172 = .ok (.ireturn, 1) := by decide +kernel
theorem d_M_shorter_0 : decode b_M_shorter 0 = .ok (.aload_n 0, 1) := by decide +kernel
theorem d_M_shorter_1 : decode b_M_shorter 1 = .ok (.iconst 0, 1) := by decide +kernel
theorem d_M_shorter_2 : decode b_M_shorter 2 = .ok (.putfield 26, 3) := by decide +kernel
theorem d_M_shorter_5 : decode b_M_shorter 5 = .ok (.iload_n 1, 1) := by decide +kernel
theorem d_M_shorter_6 : decode b_M_shorter 6 = .ok (.invokestatic 142, 3) := by decide +kernel
theorem d_M_shorter_9 : decode b_M_shorter 9 = .ok (.ifCond .ne 5, 3) := by decide +kernel
theorem d_M_shorter_12 : decode b_M_shorter 12 = .ok (.iconst (-1), 1) := by decide +kernel
theorem d_M_shorter_13 : decode b_M_shorter 13 = .ok (.ireturn, 1) := by decide +kernel
theorem d_M_shorter_14 : decode b_M_shorter 14 = .ok (.aload_n 0, 1) := by decide +kernel
theorem d_M_shorter_15 : decode b_M_shorter 15 = .ok (.iload_n 1, 1) := by decide +kernel
theorem d_M_shorter_16 : decode b_M_shorter 16 = .ok (.invokevirtual 163, 3) := by decide +kernel
theorem d_M_shorter_19 : decode b_M_shorter 19 = .ok (.istore_n 2, 1) := by decide +kernel
theorem d_M_shorter_20 : decode b_M_shorter 20 = .ok (.iload_n 2, 1) := by decide +kernel
theorem d_M_shorter_21 : decode b_M_shorter 21 = .ok (.iconst (-1), 1) := by decide +kernel
theorem d_M_shorter_22 : decode b_M_shorter 22 = .ok (.if_icmp .eq 5, 3) := by decide +kernel
theorem d_M_shorter_25 : decode b_M_shorter 25 = .ok (.iload_n 2, 1) := by decide +kernel
theorem d_M_shorter_26 : decode b_M_shorter 26 = .ok (.ireturn, 1) := by decide +kernel
theorem d_M_shorter_27 : decode b_M_shorter 27 = .ok (.aload_n 0, 1) := by decide +kernel
theorem d_M_shorter_28 : decode b_M_shorter 28 = .ok (.iload_n 1, 1) := by decide +kernel
theorem d_M_shorter_29 : decode b_M_shorter 29 = .ok (.invokevirtual 154, 3) := by decide +kernel
theorem d_M_shorter_32 : decode b_M_shorter 32 = .ok (.istore_n 3, 1) := by decide +kernel
theorem d_M_shorter_33 : decode b_M_shorter 33 = .ok (.aload_n 0, 1) := by decide +kernel
theorem d_M_shorter_34 : decode b_M_shorter 34 = .ok (.getfield 13, 3) := by decide +kernel
theorem d_M_shorter_37 : decode b_M_shorter 37 = .ok (.iconst 1, 1) := by decide +kernel
theorem d_M_shorter_38 : decode b_M_shorter 38 = .ok (.iaload, 1) := by decide +kernel
theorem d_M_shorter_39 : decode b_M_shorter 39 = .ok (.istore 4, 2) := by decide +kernel
theorem d_M_shorter_41 : decode b_M_shorter 41 = .ok (.iload_n 3, 1) := by decide +kernel
theorem d_M_shorter_42 : decode b_M_shorter 42 = .ok (.bipush 27, 2) := by decide +kernel
theorem d_M_shorter_44 : decode b_M_shorter 44 = .ok (.if_icmp .eq 21, 3) := by decide +kernel
theorem d_M_shorter_47 : decode b_M_shorter 47 = .ok (.iload_n 3, 1) := by decide +kernel
theorem d_M_shorter_48 : decode b_M_shorter 48 = .ok (.bipush 32, 2) := by decide +kernel
theorem d_M_shorter_50 : decode b_M_shorter 50 = .ok (.if_icmp .eq 15, 3) := by decide +kernel
theorem d_M_shorter_53 : decode b_M_shorter 53 = .ok (.iload_n 3, 1) := by decide +kernel
theorem d_M_shorter_54 : decode b_M_shorter 54 = .ok (.bipush 35, 2) := by decide +kernel
theorem d_M_shorter_56 : decode b_M_shorter 56 = .ok (.if_icmp .eq 9, 3) := by decide +kernel
theorem d_M_shorter_59 : decode b_M_shorter 59 = .ok (.iload_n 3, 1) := by decide +kernel
theorem d_M_shorter_60 : decode b_M_shorter 60 = .ok (.bipush 36, 2) := by decide +kernel
theorem d_M_shorter_62 : decode b_M_shorter 62 = .ok (.if_icmp .ne 48, 3) := by decide +kernel
theorem d_M_shorter_65 : decode b_M_shorter 65 = .ok (.aload_n 0, 1) := by decide +kernel
theorem d_M_shorter_66 : decode b_M_shorter 66 = .ok (.getfield 13, 3) := by decide +kernel
theorem d_M_shorter_69 : decode b_M_shorter 69 = .ok (.iconst 0, 1) := by decide +kernel
theorem d_M_shorter_70 : decode b_M_shorter 70 = .ok (.iaload, 1) := by decide +kernel
theorem d_M_shorter_71 : decode b_M_shorter 71 = .ok (.aload_n 0, 1) := by decide +kernel
theorem d_M_shorter_72 : decode b_M_shorter 72 = .ok (.getfield 13, 3) := by decide +kernel
theorem d_M_shorter_75 : decode b_M_shorter 75 = .ok (.iconst 2, 1) := by decide +kernel
theorem d_M_shorter_76 : decode b_M_shorter 76 = .ok (.iaload, 1) := by decide +kernel
theorem d_M_shorter_77 : decode b_M_shorter 77 = .ok (.if_icmp .ne 33, 3) := by decide +kernel
theorem d_M_shorter_80 : decode b_M_shorter 80 = .ok (.aload_n 0, 1) := by decide +kernel
theorem d_M_shorter_81 : decode b_M_shorter 81 = .ok (.getfield 13, 3) := by decide +kernel
theorem d_M_shorter_84 : decode b_M_shorter 84 = .ok (.iconst 1, 1) := by decide +kernel
theorem d_M_shorter_85 : decode b_M_shorter 85 = .ok (.aload_n 0, 1) := by decide +kernel
theorem d_M_shorter_86 : decode b_M_shorter 86 = .ok (.getfield 13, 3) := by decide +kernel
theorem d_M_shorter_89 : decode b_M_shorter 89 = .ok (.iconst 2, 1) := by decide +kernel
theorem d_M_shorter_90 : decode b_M_shorter 90 = .ok (.iaload, 1) := by decide +kernel
theorem d_M_shorter_91 : decode b_M_shorter 91 = .ok (.iastore, 1) := by decide +kernel
theorem d_M_shorter_92 : decode b_M_shorter 92 = .ok (.aload_n 0, 1) := by decide +kernel
theorem d_M_shorter_93 : decode b_M_shorter 93 = .ok (.getfield 13, 3) := by decide +kernel
theorem d_M_shorter_96 : decode b_M_shorter 96 = .ok (.iconst 2, 1) := by decide +kernel
theorem d_M_shorter_97 : decode b_M_shorter 97 = .ok (.iload 4, 2) := by decide +kernel
theorem d_M_shorter_99 : decode b_M_shorter 99 = .ok (.iastore, 1) := by decide +kernel
theorem d_M_shorter_100 : decode b_M_shorter 100 = .ok (.aload_n 0, 1) := by decide +kernel
theorem d_M_shorter_101 : decode b_M_shorter 101 = .ok (.aload_n 0, 1) := by decide +kernel
theorem d_M_shorter_102 : decode b_M_shorter 102 = .ok (.iload_n 3, 1) := by decide +kernel
theorem d_M_shorter_103 : decode b_M_shorter 103 = .ok (.invokevirtual 151, 3) := by decide +kernel
theorem d_M_shorter_106 : decode b_M_shorter 106 = .ok (.invokevirtual 163, 3) := by decide +kernel
theorem d_M_shorter_109 : decode b_M_shorter 109 = .ok (.ireturn, 1) := by decide +kernel
theorem d_M_shorter_110 : decode b_M_shorter 110 = .ok (.iload_n 3, 1) := by decide +kernel
theorem d_M_shorter_111 : decode b_M_shorter 111 = .ok (.bipush 18, 2) := by decide +kernel
theorem d_M_shorter_113 : decode b_M_shorter 113 = .ok (.if_icmp .ne 26, 3) := by decide +kernel
theorem d_M_shorter_116 : decode b_M_shorter 116 = .ok (.aload_n 0, 1) := by decide +kernel
theorem d_M_shorter_117 : decode b_M_shorter 117 = .ok (.getfield 13, 3) := by decide +kernel
theorem d_M_shorter_120 : decode b_M_shorter 120 = .ok (.iconst 3, 1) := by decide +kernel
theorem d_M_shorter_121 : decode b_M_shorter 121 = .ok (.iaload, 1) := by decide +kernel
theorem d_M_shorter_122 : decode b_M_shorter 122 = .ok (.ifCond .ne 17, 3) := by decide +kernel
theorem d_M_shorter_125 : decode b_M_shorter 125 = .ok (.aload_n 0, 1) := by decide +kernel
theorem d_M_shorter_126 : decode b_M_shorter 126 = .ok (.getfield 13, 3) := by decide +kernel
theorem d_M_shorter_129 : decode b_M_shorter 129 = .ok (.iconst 0, 1) := by decide +kernel
theorem d_M_shorter_130 : decode b_M_shorter 130 = .ok (.iaload, 1) := by decide +kernel
theorem d_M_shorter_131 : decode b_M_shorter 131 = .ok (.ifCond .eq 8, 3) := by decide +kernel
theorem d_M_shorter_134 : decode b_M_shorter 134 = .ok (.iload 4, 2) := by decide +kernel
theorem d_M_shorter_136 : decode b_M_shorter 136 = .ok (.ifCond .ne 5, 3) := by decide +kernel
theorem d_M_shorter_139 : decode b_M_shorter 139 = .ok (.iconst (-1), 1) := by decide +kernel
theorem d_M_shorter_140 : decode b_M_shorter 140 = .ok (.ireturn, 1) := by decide +kernel
theorem d_M_shorter_141 : decode b_M_shorter 141 = .ok (.aload_n 0, 1) := by decide +kernel
theorem d_M_shorter_142 : decode b_M_shorter 142 = .ok (.getfield 13, 3) := by decide +kernel
theorem d_M_shorter_145 : decode b_M_shorter 145 = .ok (.iconst 1, 1) := by decide +kernel
theorem d_M_shorter_146 : decode b_M_shorter 146 = .ok (.iconst 0, 1) := by decide +kernel
theorem d_M_shorter_147 : decode b_M_shorter 147 = .ok (.iastore, 1) := by decide +kernel
theorem d_M_shorter_148 : decode b_M_shorter 148 = .ok (.aload_n 0, 1) := by decide +kernel
theorem d_M_shorter_149 : decode b_M_shorter 149 = .ok (.getfield 13, 3) := by decide +kernel
theorem d_M_shorter_152 : decode b_M_shorter 152 = .ok (.iconst 2, 1) := by decide +kernel
theorem d_M_shorter_153 : decode b_M_shorter 153 = .ok (.iload 4, 2) := by decide +kernel
theorem d_M_shorter_155 : decode b_M_shorter 155 = .ok (.iastore, 1) := by decide +kernel
theorem d_M_shorter_156 : decode b_M_shorter 156 = .ok (.aload_n 0, 1) := by decide +kernel
theorem d_M_shorter_157 : decode b_M_shorter 157 = .ok (.aload_n 0, 1) := by decide +kernel
theorem d_M_shorter_158 : decode b_M_shorter 158 = .ok (.bipush 27, 2) := by decide +kernel
theorem d_M_shorter_160 : decode b_M_shorter 160 = .ok (.invokevirtual 151, 3) := by decide +kernel
theorem d_M_shorter_163 : decode b_M_shorter 163 = .ok (.invokevirtual 163, 3) := by decide +kernel
theorem d_M_shorter_166 : decode b_M_shorter 166 = .ok (.ireturn, 1) := by decide +kernel
theorem d_M_shrink_0 : decode b_M_shrink 0 = .ok (.bipush 48, 2) := by decide +kernel
theorem d_M_shrink_2 : decode b_M_shrink 2 = .ok (.istore_n 2, 1) := by decide +kernel
theorem d_M_shrink_3 : decode b_M_shrink 3 = .ok (.iload_n 2, 1) := by decide +kernel
theorem d_M_shrink_4 : decode b_M_shrink 4 = .ok (.bipush 75, 2) := by decide +kernel
theorem d_M_shrink_6 : decode b_M_shrink 6 = .ok (.if_icmp .ge 63, 3) := by decide +kernel
theorem d_M_shrink_9 : decode b_M_shrink 9 = .ok (.aload_n 0, 1) := by decide +kernel
theorem d_M_shrink_10 : decode b_M_shrink 10 = .ok (.iload_n 1, 1) := by decide +kernel
theorem d_M_shrink_11 : decode b_M_shrink 11 = .ok (.invokevirtual 154, 3) := by decide +kernel
theorem d_M_shrink_14 : decode b_M_shrink 14 = .ok (.istore_n 3, 1) := by decide +kernel
theorem d_M_shrink_15 : decode b_M_shrink 15 = .ok (.iload_n 3, 1) := by decide +kernel
theorem d_M_shrink_16 : decode b_M_shrink 16 = .ok (.iload_n 2, 1) := by decide +kernel
theorem d_M_shrink_17 : decode b_M_shrink 17 = .ok (.invokestatic 157, 3) := by decide +kernel
theorem d_M_shrink_20 : decode b_M_shrink 20 = .ok (.if_icmp .ne 43, 3) := by decide +kernel
theorem d_M_shrink_23 : decode b_M_shrink 23 = .ok (.aload_n 0, 1) := by decide +kernel
theorem d_M_shrink_24 : decode b_M_shrink 24 = .ok (.iload_n 2, 1) := by decide +kernel
theorem d_M_shrink_25 : decode b_M_shrink 25 = .ok (.invokevirtual 139, 3) := by decide +kernel
theorem d_M_shrink_28 : decode b_M_shrink 28 = .ok (.ifCond .ne 6, 3) := by decide +kernel
theorem d_M_shrink_31 : decode b_M_shrink 31 = .ok (.goto 32, 3) := by decide +kernel
theorem d_M_shrink_34 : decode b_M_shrink 34 = .ok (.aload_n 0, 1) := by decide +kernel
theorem d_M_shrink_35 : decode b_M_shrink 35 = .ok (.iload_n 2, 1) := by decide +kernel
theorem d_M_shrink_36 : decode b_M_shrink 36 = .ok (.invokevirtual 151, 3) := by decide +kernel
theorem d_M_shrink_39 : decode b_M_shrink 39 = .ok (.istore 4, 2) := by decide +kernel
theorem d_M_shrink_41 : decode b_M_shrink 41 = .ok (.aload_n 0, 1) := by decide +kernel
theorem d_M_shrink_42 : decode b_M_shrink 42 = .ok (.iload 4, 2) := by decide +kernel
theorem d_M_shrink_44 : decode b_M_shrink 44 = .ok (.invokevirtual 154, 3) := by decide +kernel
theorem d_M_shrink_47 : decode b_M_shrink 47 = .ok (.iload_n 2, 1) := by decide +kernel
theorem d_M_shrink_48 : decode b_M_shrink 48 = .ok (.if_icmp .ne 15, 3) := by decide +kernel
theorem d_M_shrink_51 : decode b_M_shrink 51 = .ok (.aload_n 0, 1) := by decide +kernel
theorem d_M_shrink_52 : decode b_M_shrink 52 = .ok (.iload_n 2, 1) := by decide +kernel
theorem d_M_shrink_53 : decode b_M_shrink 53 = .ok (.invokevirtual 160, 3) := by decide +kernel
theorem d_M_shrink_56 : decode b_M_shrink 56 = .ok (.iload_n 1, 1) := by decide +kernel
theorem d_M_shrink_57 : decode b_M_shrink 57 = .ok (.if_icmp .ne 6, 3) := by decide +kernel
theorem d_M_shrink_60 : decode b_M_shrink 60 = .ok (.iload 4, 2) := by decide +kernel
theorem d_M_shrink_62 : decode b_M_shrink 62 = .ok (.ireturn, 1) := by decide +kernel
theorem d_M_shrink_63 : decode b_M_shrink 63 = .ok (.iinc 2 1, 3) := by decide +kernel
theorem d_M_shrink_66 : decode b_M_shrink 66 = .ok (.goto (-63), 3) := by decide +kernel
theorem d_M_shrink_69 : decode b_M_shrink 69 = .ok (.iconst (-1), 1) := by decide +kernel
theorem d_M_shrink_70 : decode b_M_shrink 70 = .ok (.ireturn, 1) := by decide +kernel
theorem d_M_may_0 : decode b_M_may 0 = .ok (.aload_n 0, 1) := by decide +kernel
theorem d_M_may_1 : decode b_M_may 1 = .ok (.iconst 0, 1) := by decide +kernel
theorem d_M_may_2 : decode b_M_may 2 = .ok (.putfield 26, 3) := by decide +kernel
theorem d_M_may_5 : decode b_M_may 5 = .ok (.iload_n 1, 1) := by decide +kernel
theorem d_M_may_6 : decode b_M_may 6 = .ok (.invokestatic 148, 3) := by decide +kernel
theorem d_M_may_9 : decode b_M_may 9 = .ok (.ifCond .eq 24, 3) := by decide +kernel
theorem d_M_may_12 : decode b_M_may 12 = .ok (.aload_n 0, 1) := by decide +kernel
theorem d_M_may_13 : decode b_M_may 13 = .ok (.iload_n 1, 1) := by decide +kernel
theorem d_M_may_14 : decode b_M_may 14 = .ok (.iconst 3, 1) := by decide +kernel
theorem d_M_may_15 : decode b_M_may 15 = .ok (.invokevirtual 124, 3) := by decide +kernel
theorem d_M_may_18 : decode b_M_may 18 = .ok (.ifCond .eq 15, 3) := by decide +kernel
theorem d_M_may_21 : decode b_M_may 21 = .ok (.iload_n 1, 1) := by decide +kernel
theorem d_M_may_22 : decode b_M_may 22 = .ok (.lload_n 2, 1) := by decide +kernel
theorem d_M_may_23 : decode b_M_may 23 = .ok (.invokestatic 131, 3) := by decide +kernel
theorem d_M_may_26 : decode b_M_may 26 = .ok (.ifCond .eq 7, 3) := by decide +kernel
theorem d_M_may_29 : decode b_M_may 29 = .ok (.iconst 1, 1) := by decide +kernel
theorem d_M_may_30 : decode b_M_may 30 = .ok (.goto 4, 3) := by decide +kernel
theorem d_M_may_33 : decode b_M_may 33 = .ok (.iconst 0, 1) := by decide +kernel
theorem d_M_may_34 : decode b_M_may 34 = .ok (.ireturn, 1) := by decide +kernel
theorem d_M_fit_0 : decode b_M_fit 0 = .ok (.aload_n 0, 1) := by decide +kernel
theorem d_M_fit_1 : decode b_M_fit 1 = .ok (.iload_n 1, 1) := by decide +kernel
theorem d_M_fit_2 : decode b_M_fit 2 = .ok (.invokevirtual 154, 3) := by decide +kernel
theorem d_M_fit_5 : decode b_M_fit 5 = .ok (.istore 4, 2) := by decide +kernel
theorem d_M_fit_7 : decode b_M_fit 7 = .ok (.aload_n 0, 1) := by decide +kernel
theorem d_M_fit_8 : decode b_M_fit 8 = .ok (.iload 4, 2) := by decide +kernel
theorem d_M_fit_10 : decode b_M_fit 10 = .ok (.iconst (-1), 1) := by decide +kernel
theorem d_M_fit_11 : decode b_M_fit 11 = .ok (.if_icmp .eq 26, 3) := by decide +kernel
theorem d_M_fit_14 : decode b_M_fit 14 = .ok (.aload_n 0, 1) := by decide +kernel
theorem d_M_fit_15 : decode b_M_fit 15 = .ok (.iload 4, 2) := by decide +kernel
theorem d_M_fit_17 : decode b_M_fit 17 = .ok (.iconst 3, 1) := by decide +kernel
theorem d_M_fit_18 : decode b_M_fit 18 = .ok (.invokevirtual 124, 3) := by decide +kernel
theorem d_M_fit_21 : decode b_M_fit 21 = .ok (.ifCond .eq 16, 3) := by decide +kernel
theorem d_M_fit_24 : decode b_M_fit 24 = .ok (.iload 4, 2) := by decide +kernel
theorem d_M_fit_26 : decode b_M_fit 26 = .ok (.lload_n 2, 1) := by decide +kernel
theorem d_M_fit_27 : decode b_M_fit 27 = .ok (.invokestatic 131, 3) := by decide +kernel
theorem d_M_fit_30 : decode b_M_fit 30 = .ok (.ifCond .eq 7, 3) := by decide +kernel
theorem d_M_fit_33 : decode b_M_fit 33 = .ok (.iconst 0, 1) := by decide +kernel
theorem d_M_fit_34 : decode b_M_fit 34 = .ok (.goto 4, 3) := by decide +kernel
theorem d_M_fit_37 : decode b_M_fit 37 = .ok (.iconst 1, 1) := by decide +kernel
theorem d_M_fit_38 : decode b_M_fit 38 = .ok (.putfield 26, 3) := by decide +kernel
theorem d_M_fit_41 : decode b_M_fit 41 = .ok (.aload_n 0, 1) := by decide +kernel
theorem d_M_fit_42 : decode b_M_fit 42 = .ok (.getfield 26, 3) := by decide +kernel
theorem d_M_fit_45 : decode b_M_fit 45 = .ok (.ifCond .eq 5, 3) := by decide +kernel
theorem d_M_fit_48 : decode b_M_fit 48 = .ok (.iconst 0, 1) := by decide +kernel
theorem d_M_fit_49 : decode b_M_fit 49 = .ok (.ireturn, 1) := by decide +kernel
theorem d_M_fit_50 : decode b_M_fit 50 = .ok (.aload_n 0, 1) := by decide +kernel
theorem d_M_fit_51 : decode b_M_fit 51 = .ok (.getfield 13, 3) := by decide +kernel
theorem d_M_fit_54 : decode b_M_fit 54 = .ok (.iconst 3, 1) := by decide +kernel
theorem d_M_fit_55 : decode b_M_fit 55 = .ok (.lload_n 2, 1) := by decide +kernel
theorem d_M_fit_56 : decode b_M_fit 56 = .ok (.l2i, 1) := by decide +kernel
theorem d_M_fit_57 : decode b_M_fit 57 = .ok (.iastore, 1) := by decide +kernel
theorem d_M_fit_58 : decode b_M_fit 58 = .ok (.aload_n 0, 1) := by decide +kernel
theorem d_M_fit_59 : decode b_M_fit 59 = .ok (.iload 4, 2) := by decide +kernel
theorem d_M_fit_61 : decode b_M_fit 61 = .ok (.invokevirtual 151, 3) := by decide +kernel
theorem d_M_fit_64 : decode b_M_fit 64 = .ok (.ireturn, 1) := by decide +kernel
theorem d_M_tell_0 : decode b_M_tell 0 = .ok (.aload_n 0, 1) := by decide +kernel
theorem d_M_tell_1 : decode b_M_tell 1 = .ok (.iconst 0, 1) := by decide +kernel
theorem d_M_tell_2 : decode b_M_tell 2 = .ok (.putfield 26, 3) := by decide +kernel
theorem d_M_tell_5 : decode b_M_tell 5 = .ok (.aload_n 0, 1) := by decide +kernel
theorem d_M_tell_6 : decode b_M_tell 6 = .ok (.iconst 0, 1) := by decide +kernel
theorem d_M_tell_7 : decode b_M_tell 7 = .ok (.putfield 382, 3) := by decide +kernel
theorem d_M_tell_10 : decode b_M_tell 10 = .ok (.aload_n 0, 1) := by decide +kernel
theorem d_M_tell_11 : decode b_M_tell 11 = .ok (.iconst 0, 1) := by decide +kernel
theorem d_M_tell_12 : decode b_M_tell 12 = .ok (.putfield 396, 3) := by decide +kernel
theorem d_M_tell_15 : decode b_M_tell 15 = .ok (.aload_n 0, 1) := by decide +kernel
theorem d_M_tell_16 : decode b_M_tell 16 = .ok (.iload_n 1, 1) := by decide +kernel
theorem d_M_tell_17 : decode b_M_tell 17 = .ok (.invokevirtual 154, 3) := by decide +kernel
theorem d_M_tell_20 : decode b_M_tell 20 = .ok (.istore_n 3, 1) := by decide +kernel
theorem d_M_tell_21 : decode b_M_tell 21 = .ok (.iload_n 3, 1) := by decide +kernel
theorem d_M_tell_22 : decode b_M_tell 22 = .ok (.iconst (-1), 1) := by decide +kernel
theorem d_M_tell_23 : decode b_M_tell 23 = .ok (.if_icmp .eq 25, 3) := by decide +kernel
theorem d_M_tell_26 : decode b_M_tell 26 = .ok (.aload_n 0, 1) := by decide +kernel
theorem d_M_tell_27 : decode b_M_tell 27 = .ok (.iload_n 3, 1) := by decide +kernel
theorem d_M_tell_28 : decode b_M_tell 28 = .ok (.invokestatic 429, 3) := by decide +kernel
theorem d_M_tell_31 : decode b_M_tell 31 = .ok (.invokevirtual 407, 3) := by decide +kernel
theorem d_M_tell_34 : decode b_M_tell 34 = .ok (.aload_n 0, 1) := by decide +kernel
theorem d_M_tell_35 : decode b_M_tell 35 = .ok (.iload_n 3, 1) := by decide +kernel
theorem d_M_tell_36 : decode b_M_tell 36 = .ok (.invokestatic 432, 3) := by decide +kernel
theorem d_M_tell_39 : decode b_M_tell 39 = .ok (.iload_n 2, 1) := by decide +kernel
theorem d_M_tell_40 : decode b_M_tell 40 = .ok (.invokevirtual 435, 3) := by decide +kernel
theorem d_M_tell_43 : decode b_M_tell 43 = .ok (.aload_n 0, 1) := by decide +kernel
theorem d_M_tell_44 : decode b_M_tell 44 = .ok (.getfield 382, 3) := by decide +kernel
theorem d_M_tell_47 : decode b_M_tell 47 = .ok (.ireturn, 1) := by decide +kernel
theorem d_M_tell_48 : decode b_M_tell 48 = .ok (.aload_n 0, 1) := by decide +kernel
theorem d_M_tell_49 : decode b_M_tell 49 = .ok (.bipush 46, 2) := by decide +kernel
theorem d_M_tell_51 : decode b_M_tell 51 = .ok (.invokevirtual 389, 3) := by decide +kernel
theorem d_M_tell_54 : decode b_M_tell 54 = .ok (.aload_n 0, 1) := by decide +kernel
theorem d_M_tell_55 : decode b_M_tell 55 = .ok (.iload_n 1, 1) := by decide +kernel
theorem d_M_tell_56 : decode b_M_tell 56 = .ok (.invokestatic 142, 3) := by decide +kernel
theorem d_M_tell_59 : decode b_M_tell 59 = .ok (.ifCond .eq 9, 3) := by decide +kernel
theorem d_M_tell_62 : decode b_M_tell 62 = .ok (.ldc2_w 438, 3) := by decide +kernel
theorem d_M_tell_65 : decode b_M_tell 65 = .ok (.goto 6, 3) := by decide +kernel
theorem d_M_tell_68 : decode b_M_tell 68 = .ok (.ldc2_w 440, 3) := by decide +kernel
theorem d_M_tell_71 : decode b_M_tell 71 = .ok (.invokevirtual 407, 3) := by decide +kernel
theorem d_M_tell_74 : decode b_M_tell 74 = .ok (.aload_n 0, 1) := by decide +kernel
theorem d_M_tell_75 : decode b_M_tell 75 = .ok (.bipush 32, 2) := by decide +kernel
theorem d_M_tell_77 : decode b_M_tell 77 = .ok (.invokevirtual 389, 3) := by decide +kernel
theorem d_M_tell_80 : decode b_M_tell 80 = .ok (.aload_n 0, 1) := by decide +kernel
theorem d_M_tell_81 : decode b_M_tell 81 = .ok (.iload_n 1, 1) := by decide +kernel
theorem d_M_tell_82 : decode b_M_tell 82 = .ok (.invokestatic 142, 3) := by decide +kernel
theorem d_M_tell_85 : decode b_M_tell 85 = .ok (.ifCond .eq 7, 3) := by decide +kernel
theorem d_M_tell_88 : decode b_M_tell 88 = .ok (.iload_n 1, 1) := by decide +kernel
theorem d_M_tell_89 : decode b_M_tell 89 = .ok (.goto 8, 3) := by decide +kernel
theorem d_M_tell_92 : decode b_M_tell 92 = .ok (.iload_n 1, 1) := by decide +kernel
theorem d_M_tell_93 : decode b_M_tell 93 = .ok (.ldc_w 442, 3) := by decide +kernel
theorem d_M_tell_96 : decode b_M_tell 96 = .ok (.iand, 1) := by decide +kernel
theorem d_M_tell_97 : decode b_M_tell 97 = .ok (.invokevirtual 414, 3) := by decide +kernel
theorem d_M_tell_100 : decode b_M_tell 100 = .ok (.aload_n 0, 1) := by decide +kernel
theorem d_M_tell_101 : decode b_M_tell 101 = .ok (.getfield 382, 3) := by decide +kernel
theorem d_M_tell_104 : decode b_M_tell 104 = .ok (.ireturn, 1) := by decide +kernel
theorem d_M_nameOf_0 : decode b_M_nameOf 0 = .ok (.iload_n 0, 1) := by decide +kernel
theorem d_M_nameOf_1 : decode b_M_nameOf 1 = .ok (.tableswitch 607 0 73 #[311, 315, 319, 323, 327, 331, 335, 339, 343, 347, 351, 355, 359, 363, 367, 371, 375, 379, 383, 387, 391, 395, 399, 403, 407, 411, 415, 419, 423, 427, 431, 435, 439, 443, 447, 451, 455, 459, 463, 467, 471, 475, 479, 483, 487, 491, 495, 499, 503, 507, 511, 515, 519, 523, 527, 531, 535, 539, 543, 547, 551, 555, 559, 563, 567, 571, 575, 579, 583, 587, 591, 595, 599, 603], 311) := by decide +kernel
theorem d_M_nameOf_312 : decode b_M_nameOf 312 = .ok (.ldc2_w 166, 3) := by decide +kernel
theorem d_M_nameOf_315 : decode b_M_nameOf 315 = .ok (.lreturn, 1) := by decide +kernel
theorem d_M_nameOf_316 : decode b_M_nameOf 316 = .ok (.ldc2_w 168, 3) := by decide +kernel
theorem d_M_nameOf_319 : decode b_M_nameOf 319 = .ok (.lreturn, 1) := by decide +kernel
theorem d_M_nameOf_320 : decode b_M_nameOf 320 = .ok (.ldc2_w 170, 3) := by decide +kernel
theorem d_M_nameOf_323 : decode b_M_nameOf 323 = .ok (.lreturn, 1) := by decide +kernel
theorem d_M_nameOf_324 : decode b_M_nameOf 324 = .ok (.ldc2_w 172, 3) := by decide +kernel
theorem d_M_nameOf_327 : decode b_M_nameOf 327 = .ok (.lreturn, 1) := by decide +kernel
theorem d_M_nameOf_328 : decode b_M_nameOf 328 = .ok (.ldc2_w 174, 3) := by decide +kernel
theorem d_M_nameOf_331 : decode b_M_nameOf 331 = .ok (.lreturn, 1) := by decide +kernel
theorem d_M_nameOf_332 : decode b_M_nameOf 332 = .ok (.ldc2_w 176, 3) := by decide +kernel
theorem d_M_nameOf_335 : decode b_M_nameOf 335 = .ok (.lreturn, 1) := by decide +kernel
theorem d_M_nameOf_336 : decode b_M_nameOf 336 = .ok (.ldc2_w 178, 3) := by decide +kernel
theorem d_M_nameOf_339 : decode b_M_nameOf 339 = .ok (.lreturn, 1) := by decide +kernel
theorem d_M_nameOf_340 : decode b_M_nameOf 340 = .ok (.ldc2_w 180, 3) := by decide +kernel
theorem d_M_nameOf_343 : decode b_M_nameOf 343 = .ok (.lreturn, 1) := by decide +kernel
theorem d_M_nameOf_344 : decode b_M_nameOf 344 = .ok (.ldc2_w 182, 3) := by decide +kernel
theorem d_M_nameOf_347 : decode b_M_nameOf 347 = .ok (.lreturn, 1) := by decide +kernel
theorem d_M_nameOf_348 : decode b_M_nameOf 348 = .ok (.ldc2_w 184, 3) := by decide +kernel
theorem d_M_nameOf_351 : decode b_M_nameOf 351 = .ok (.lreturn, 1) := by decide +kernel
theorem d_M_nameOf_352 : decode b_M_nameOf 352 = .ok (.ldc2_w 186, 3) := by decide +kernel
theorem d_M_nameOf_355 : decode b_M_nameOf 355 = .ok (.lreturn, 1) := by decide +kernel
theorem d_M_nameOf_356 : decode b_M_nameOf 356 = .ok (.ldc2_w 188, 3) := by decide +kernel
theorem d_M_nameOf_359 : decode b_M_nameOf 359 = .ok (.lreturn, 1) := by decide +kernel
theorem d_M_nameOf_360 : decode b_M_nameOf 360 = .ok (.ldc2_w 190, 3) := by decide +kernel
theorem d_M_nameOf_363 : decode b_M_nameOf 363 = .ok (.lreturn, 1) := by decide +kernel
theorem d_M_nameOf_364 : decode b_M_nameOf 364 = .ok (.ldc2_w 192, 3) := by decide +kernel
theorem d_M_nameOf_367 : decode b_M_nameOf 367 = .ok (.lreturn, 1) := by decide +kernel
theorem d_M_nameOf_368 : decode b_M_nameOf 368 = .ok (.ldc2_w 194, 3) := by decide +kernel
theorem d_M_nameOf_371 : decode b_M_nameOf 371 = .ok (.lreturn, 1) := by decide +kernel
theorem d_M_nameOf_372 : decode b_M_nameOf 372 = .ok (.ldc2_w 196, 3) := by decide +kernel
theorem d_M_nameOf_375 : decode b_M_nameOf 375 = .ok (.lreturn, 1) := by decide +kernel
theorem d_M_nameOf_376 : decode b_M_nameOf 376 = .ok (.ldc2_w 198, 3) := by decide +kernel
theorem d_M_nameOf_379 : decode b_M_nameOf 379 = .ok (.lreturn, 1) := by decide +kernel
theorem d_M_nameOf_380 : decode b_M_nameOf 380 = .ok (.ldc2_w 200, 3) := by decide +kernel
theorem d_M_nameOf_383 : decode b_M_nameOf 383 = .ok (.lreturn, 1) := by decide +kernel
theorem d_M_nameOf_384 : decode b_M_nameOf 384 = .ok (.ldc2_w 202, 3) := by decide +kernel
theorem d_M_nameOf_387 : decode b_M_nameOf 387 = .ok (.lreturn, 1) := by decide +kernel
theorem d_M_nameOf_388 : decode b_M_nameOf 388 = .ok (.ldc2_w 204, 3) := by decide +kernel
theorem d_M_nameOf_391 : decode b_M_nameOf 391 = .ok (.lreturn, 1) := by decide +kernel
theorem d_M_nameOf_392 : decode b_M_nameOf 392 = .ok (.ldc2_w 206, 3) := by decide +kernel
theorem d_M_nameOf_395 : decode b_M_nameOf 395 = .ok (.lreturn, 1) := by decide +kernel
theorem d_M_nameOf_396 : decode b_M_nameOf 396 = .ok (.ldc2_w 208, 3) := by decide +kernel
theorem d_M_nameOf_399 : decode b_M_nameOf 399 = .ok (.lreturn, 1) := by decide +kernel
theorem d_M_nameOf_400 : decode b_M_nameOf 400 = .ok (.ldc2_w 210, 3) := by decide +kernel
theorem d_M_nameOf_403 : decode b_M_nameOf 403 = .ok (.lreturn, 1) := by decide +kernel
theorem d_M_nameOf_404 : decode b_M_nameOf 404 = .ok (.ldc2_w 212, 3) := by decide +kernel
theorem d_M_nameOf_407 : decode b_M_nameOf 407 = .ok (.lreturn, 1) := by decide +kernel
theorem d_M_nameOf_408 : decode b_M_nameOf 408 = .ok (.ldc2_w 214, 3) := by decide +kernel
theorem d_M_nameOf_411 : decode b_M_nameOf 411 = .ok (.lreturn, 1) := by decide +kernel
theorem d_M_nameOf_412 : decode b_M_nameOf 412 = .ok (.ldc2_w 216, 3) := by decide +kernel
theorem d_M_nameOf_415 : decode b_M_nameOf 415 = .ok (.lreturn, 1) := by decide +kernel
theorem d_M_nameOf_416 : decode b_M_nameOf 416 = .ok (.ldc2_w 218, 3) := by decide +kernel
theorem d_M_nameOf_419 : decode b_M_nameOf 419 = .ok (.lreturn, 1) := by decide +kernel
theorem d_M_nameOf_420 : decode b_M_nameOf 420 = .ok (.ldc2_w 220, 3) := by decide +kernel
theorem d_M_nameOf_423 : decode b_M_nameOf 423 = .ok (.lreturn, 1) := by decide +kernel
theorem d_M_nameOf_424 : decode b_M_nameOf 424 = .ok (.ldc2_w 222, 3) := by decide +kernel
theorem d_M_nameOf_427 : decode b_M_nameOf 427 = .ok (.lreturn, 1) := by decide +kernel
theorem d_M_nameOf_428 : decode b_M_nameOf 428 = .ok (.ldc2_w 224, 3) := by decide +kernel
theorem d_M_nameOf_431 : decode b_M_nameOf 431 = .ok (.lreturn, 1) := by decide +kernel
theorem d_M_nameOf_432 : decode b_M_nameOf 432 = .ok (.ldc2_w 226, 3) := by decide +kernel
theorem d_M_nameOf_435 : decode b_M_nameOf 435 = .ok (.lreturn, 1) := by decide +kernel
theorem d_M_nameOf_436 : decode b_M_nameOf 436 = .ok (.ldc2_w 228, 3) := by decide +kernel
theorem d_M_nameOf_439 : decode b_M_nameOf 439 = .ok (.lreturn, 1) := by decide +kernel
theorem d_M_nameOf_440 : decode b_M_nameOf 440 = .ok (.ldc2_w 230, 3) := by decide +kernel
theorem d_M_nameOf_443 : decode b_M_nameOf 443 = .ok (.lreturn, 1) := by decide +kernel
theorem d_M_nameOf_444 : decode b_M_nameOf 444 = .ok (.ldc2_w 232, 3) := by decide +kernel
theorem d_M_nameOf_447 : decode b_M_nameOf 447 = .ok (.lreturn, 1) := by decide +kernel
theorem d_M_nameOf_448 : decode b_M_nameOf 448 = .ok (.ldc2_w 234, 3) := by decide +kernel
theorem d_M_nameOf_451 : decode b_M_nameOf 451 = .ok (.lreturn, 1) := by decide +kernel
theorem d_M_nameOf_452 : decode b_M_nameOf 452 = .ok (.ldc2_w 236, 3) := by decide +kernel
theorem d_M_nameOf_455 : decode b_M_nameOf 455 = .ok (.lreturn, 1) := by decide +kernel
theorem d_M_nameOf_456 : decode b_M_nameOf 456 = .ok (.ldc2_w 238, 3) := by decide +kernel
theorem d_M_nameOf_459 : decode b_M_nameOf 459 = .ok (.lreturn, 1) := by decide +kernel
theorem d_M_nameOf_460 : decode b_M_nameOf 460 = .ok (.ldc2_w 240, 3) := by decide +kernel
theorem d_M_nameOf_463 : decode b_M_nameOf 463 = .ok (.lreturn, 1) := by decide +kernel
theorem d_M_nameOf_464 : decode b_M_nameOf 464 = .ok (.ldc2_w 242, 3) := by decide +kernel
theorem d_M_nameOf_467 : decode b_M_nameOf 467 = .ok (.lreturn, 1) := by decide +kernel
theorem d_M_nameOf_468 : decode b_M_nameOf 468 = .ok (.ldc2_w 244, 3) := by decide +kernel
theorem d_M_nameOf_471 : decode b_M_nameOf 471 = .ok (.lreturn, 1) := by decide +kernel
theorem d_M_nameOf_472 : decode b_M_nameOf 472 = .ok (.ldc2_w 246, 3) := by decide +kernel
theorem d_M_nameOf_475 : decode b_M_nameOf 475 = .ok (.lreturn, 1) := by decide +kernel
theorem d_M_nameOf_476 : decode b_M_nameOf 476 = .ok (.ldc2_w 248, 3) := by decide +kernel
theorem d_M_nameOf_479 : decode b_M_nameOf 479 = .ok (.lreturn, 1) := by decide +kernel
theorem d_M_nameOf_480 : decode b_M_nameOf 480 = .ok (.ldc2_w 250, 3) := by decide +kernel
theorem d_M_nameOf_483 : decode b_M_nameOf 483 = .ok (.lreturn, 1) := by decide +kernel
theorem d_M_nameOf_484 : decode b_M_nameOf 484 = .ok (.ldc2_w 252, 3) := by decide +kernel
theorem d_M_nameOf_487 : decode b_M_nameOf 487 = .ok (.lreturn, 1) := by decide +kernel
theorem d_M_nameOf_488 : decode b_M_nameOf 488 = .ok (.ldc2_w 254, 3) := by decide +kernel
theorem d_M_nameOf_491 : decode b_M_nameOf 491 = .ok (.lreturn, 1) := by decide +kernel
theorem d_M_nameOf_492 : decode b_M_nameOf 492 = .ok (.ldc2_w 256, 3) := by decide +kernel
theorem d_M_nameOf_495 : decode b_M_nameOf 495 = .ok (.lreturn, 1) := by decide +kernel
theorem d_M_nameOf_496 : decode b_M_nameOf 496 = .ok (.ldc2_w 258, 3) := by decide +kernel
theorem d_M_nameOf_499 : decode b_M_nameOf 499 = .ok (.lreturn, 1) := by decide +kernel
theorem d_M_nameOf_500 : decode b_M_nameOf 500 = .ok (.ldc2_w 260, 3) := by decide +kernel
theorem d_M_nameOf_503 : decode b_M_nameOf 503 = .ok (.lreturn, 1) := by decide +kernel
theorem d_M_nameOf_504 : decode b_M_nameOf 504 = .ok (.ldc2_w 262, 3) := by decide +kernel
theorem d_M_nameOf_507 : decode b_M_nameOf 507 = .ok (.lreturn, 1) := by decide +kernel
theorem d_M_nameOf_508 : decode b_M_nameOf 508 = .ok (.ldc2_w 264, 3) := by decide +kernel
theorem d_M_nameOf_511 : decode b_M_nameOf 511 = .ok (.lreturn, 1) := by decide +kernel
theorem d_M_nameOf_512 : decode b_M_nameOf 512 = .ok (.ldc2_w 266, 3) := by decide +kernel
theorem d_M_nameOf_515 : decode b_M_nameOf 515 = .ok (.lreturn, 1) := by decide +kernel
theorem d_M_nameOf_516 : decode b_M_nameOf 516 = .ok (.ldc2_w 268, 3) := by decide +kernel
theorem d_M_nameOf_519 : decode b_M_nameOf 519 = .ok (.lreturn, 1) := by decide +kernel
theorem d_M_nameOf_520 : decode b_M_nameOf 520 = .ok (.ldc2_w 270, 3) := by decide +kernel
theorem d_M_nameOf_523 : decode b_M_nameOf 523 = .ok (.lreturn, 1) := by decide +kernel
theorem d_M_nameOf_524 : decode b_M_nameOf 524 = .ok (.ldc2_w 272, 3) := by decide +kernel
theorem d_M_nameOf_527 : decode b_M_nameOf 527 = .ok (.lreturn, 1) := by decide +kernel
theorem d_M_nameOf_528 : decode b_M_nameOf 528 = .ok (.ldc2_w 274, 3) := by decide +kernel
theorem d_M_nameOf_531 : decode b_M_nameOf 531 = .ok (.lreturn, 1) := by decide +kernel
theorem d_M_nameOf_532 : decode b_M_nameOf 532 = .ok (.ldc2_w 276, 3) := by decide +kernel
theorem d_M_nameOf_535 : decode b_M_nameOf 535 = .ok (.lreturn, 1) := by decide +kernel
theorem d_M_nameOf_536 : decode b_M_nameOf 536 = .ok (.ldc2_w 278, 3) := by decide +kernel
theorem d_M_nameOf_539 : decode b_M_nameOf 539 = .ok (.lreturn, 1) := by decide +kernel
theorem d_M_nameOf_540 : decode b_M_nameOf 540 = .ok (.ldc2_w 280, 3) := by decide +kernel
theorem d_M_nameOf_543 : decode b_M_nameOf 543 = .ok (.lreturn, 1) := by decide +kernel
theorem d_M_nameOf_544 : decode b_M_nameOf 544 = .ok (.ldc2_w 282, 3) := by decide +kernel
theorem d_M_nameOf_547 : decode b_M_nameOf 547 = .ok (.lreturn, 1) := by decide +kernel
theorem d_M_nameOf_548 : decode b_M_nameOf 548 = .ok (.ldc2_w 284, 3) := by decide +kernel
theorem d_M_nameOf_551 : decode b_M_nameOf 551 = .ok (.lreturn, 1) := by decide +kernel
theorem d_M_nameOf_552 : decode b_M_nameOf 552 = .ok (.ldc2_w 286, 3) := by decide +kernel
theorem d_M_nameOf_555 : decode b_M_nameOf 555 = .ok (.lreturn, 1) := by decide +kernel
theorem d_M_nameOf_556 : decode b_M_nameOf 556 = .ok (.ldc2_w 288, 3) := by decide +kernel
theorem d_M_nameOf_559 : decode b_M_nameOf 559 = .ok (.lreturn, 1) := by decide +kernel
theorem d_M_nameOf_560 : decode b_M_nameOf 560 = .ok (.ldc2_w 290, 3) := by decide +kernel
theorem d_M_nameOf_563 : decode b_M_nameOf 563 = .ok (.lreturn, 1) := by decide +kernel
theorem d_M_nameOf_564 : decode b_M_nameOf 564 = .ok (.ldc2_w 292, 3) := by decide +kernel
theorem d_M_nameOf_567 : decode b_M_nameOf 567 = .ok (.lreturn, 1) := by decide +kernel
theorem d_M_nameOf_568 : decode b_M_nameOf 568 = .ok (.ldc2_w 294, 3) := by decide +kernel
theorem d_M_nameOf_571 : decode b_M_nameOf 571 = .ok (.lreturn, 1) := by decide +kernel
theorem d_M_nameOf_572 : decode b_M_nameOf 572 = .ok (.ldc2_w 296, 3) := by decide +kernel
theorem d_M_nameOf_575 : decode b_M_nameOf 575 = .ok (.lreturn, 1) := by decide +kernel
theorem d_M_nameOf_576 : decode b_M_nameOf 576 = .ok (.ldc2_w 298, 3) := by decide +kernel
theorem d_M_nameOf_579 : decode b_M_nameOf 579 = .ok (.lreturn, 1) := by decide +kernel
theorem d_M_nameOf_580 : decode b_M_nameOf 580 = .ok (.ldc2_w 300, 3) := by decide +kernel
theorem d_M_nameOf_583 : decode b_M_nameOf 583 = .ok (.lreturn, 1) := by decide +kernel
theorem d_M_nameOf_584 : decode b_M_nameOf 584 = .ok (.ldc2_w 302, 3) := by decide +kernel
theorem d_M_nameOf_587 : decode b_M_nameOf 587 = .ok (.lreturn, 1) := by decide +kernel
theorem d_M_nameOf_588 : decode b_M_nameOf 588 = .ok (.ldc2_w 304, 3) := by decide +kernel
theorem d_M_nameOf_591 : decode b_M_nameOf 591 = .ok (.lreturn, 1) := by decide +kernel
theorem d_M_nameOf_592 : decode b_M_nameOf 592 = .ok (.ldc2_w 306, 3) := by decide +kernel
theorem d_M_nameOf_595 : decode b_M_nameOf 595 = .ok (.lreturn, 1) := by decide +kernel
theorem d_M_nameOf_596 : decode b_M_nameOf 596 = .ok (.ldc2_w 308, 3) := by decide +kernel
theorem d_M_nameOf_599 : decode b_M_nameOf 599 = .ok (.lreturn, 1) := by decide +kernel
theorem d_M_nameOf_600 : decode b_M_nameOf 600 = .ok (.ldc2_w 310, 3) := by decide +kernel
theorem d_M_nameOf_603 : decode b_M_nameOf 603 = .ok (.lreturn, 1) := by decide +kernel
theorem d_M_nameOf_604 : decode b_M_nameOf 604 = .ok (.ldc2_w 312, 3) := by decide +kernel
theorem d_M_nameOf_607 : decode b_M_nameOf 607 = .ok (.lreturn, 1) := by decide +kernel
theorem d_M_nameOf_608 : decode b_M_nameOf 608 = .ok (.ldc2_w 314, 3) := by decide +kernel
theorem d_M_nameOf_611 : decode b_M_nameOf 611 = .ok (.lreturn, 1) := by decide +kernel
theorem d_M_sayName_0 : decode b_M_sayName 0 = .ok (.lload_n 1, 1) := by decide +kernel
theorem d_M_sayName_1 : decode b_M_sayName 1 = .ok (.invokestatic 385, 3) := by decide +kernel
theorem d_M_sayName_4 : decode b_M_sayName 4 = .ok (.istore_n 3, 1) := by decide +kernel
theorem d_M_sayName_5 : decode b_M_sayName 5 = .ok (.iconst 0, 1) := by decide +kernel
theorem d_M_sayName_6 : decode b_M_sayName 6 = .ok (.istore 4, 2) := by decide +kernel
theorem d_M_sayName_8 : decode b_M_sayName 8 = .ok (.iload 4, 2) := by decide +kernel
theorem d_M_sayName_10 : decode b_M_sayName 10 = .ok (.iload_n 3, 1) := by decide +kernel
theorem d_M_sayName_11 : decode b_M_sayName 11 = .ok (.if_icmp .ge 88, 3) := by decide +kernel
theorem d_M_sayName_14 : decode b_M_sayName 14 = .ok (.lload_n 1, 1) := by decide +kernel
theorem d_M_sayName_15 : decode b_M_sayName 15 = .ok (.lstore 5, 2) := by decide +kernel
theorem d_M_sayName_17 : decode b_M_sayName 17 = .ok (.iload 4, 2) := by decide +kernel
theorem d_M_sayName_19 : decode b_M_sayName 19 = .ok (.iconst 1, 1) := by decide +kernel
theorem d_M_sayName_20 : decode b_M_sayName 20 = .ok (.iadd, 1) := by decide +kernel
theorem d_M_sayName_21 : decode b_M_sayName 21 = .ok (.istore 7, 2) := by decide +kernel
theorem d_M_sayName_23 : decode b_M_sayName 23 = .ok (.iload 7, 2) := by decide +kernel
theorem d_M_sayName_25 : decode b_M_sayName 25 = .ok (.iload_n 3, 1) := by decide +kernel
theorem d_M_sayName_26 : decode b_M_sayName 26 = .ok (.if_icmp .ge 17, 3) := by decide +kernel
theorem d_M_sayName_29 : decode b_M_sayName 29 = .ok (.lload 5, 2) := by decide +kernel
theorem d_M_sayName_31 : decode b_M_sayName 31 = .ok (.ldc2_w 380, 3) := by decide +kernel
theorem d_M_sayName_34 : decode b_M_sayName 34 = .ok (.ldiv, 1) := by decide +kernel
theorem d_M_sayName_35 : decode b_M_sayName 35 = .ok (.lstore 5, 2) := by decide +kernel
theorem d_M_sayName_37 : decode b_M_sayName 37 = .ok (.iinc 7 1, 3) := by decide +kernel
theorem d_M_sayName_40 : decode b_M_sayName 40 = .ok (.goto (-17), 3) := by decide +kernel
theorem d_M_sayName_43 : decode b_M_sayName 43 = .ok (.lload 5, 2) := by decide +kernel
theorem d_M_sayName_45 : decode b_M_sayName 45 = .ok (.ldc2_w 380, 3) := by decide +kernel
theorem d_M_sayName_48 : decode b_M_sayName 48 = .ok (.lrem, 1) := by decide +kernel
theorem d_M_sayName_49 : decode b_M_sayName 49 = .ok (.l2i, 1) := by decide +kernel
theorem d_M_sayName_50 : decode b_M_sayName 50 = .ok (.istore 7, 2) := by decide +kernel
theorem d_M_sayName_52 : decode b_M_sayName 52 = .ok (.aload_n 0, 1) := by decide +kernel
theorem d_M_sayName_53 : decode b_M_sayName 53 = .ok (.iload 7, 2) := by decide +kernel
theorem d_M_sayName_55 : decode b_M_sayName 55 = .ok (.bipush 37, 2) := by decide +kernel
theorem d_M_sayName_57 : decode b_M_sayName 57 = .ok (.if_icmp .ne 8, 3) := by decide +kernel
theorem d_M_sayName_60 : decode b_M_sayName 60 = .ok (.bipush 46, 2) := by decide +kernel
theorem d_M_sayName_62 : decode b_M_sayName 62 = .ok (.goto 28, 3) := by decide +kernel
theorem d_M_sayName_65 : decode b_M_sayName 65 = .ok (.iload 7, 2) := by decide +kernel
theorem d_M_sayName_67 : decode b_M_sayName 67 = .ok (.bipush 26, 2) := by decide +kernel
theorem d_M_sayName_69 : decode b_M_sayName 69 = .ok (.if_icmp .le 14, 3) := by decide +kernel
theorem d_M_sayName_72 : decode b_M_sayName 72 = .ok (.bipush 48, 2) := by decide +kernel
theorem d_M_sayName_74 : decode b_M_sayName 74 = .ok (.iload 7, 2) := by decide +kernel
theorem d_M_sayName_76 : decode b_M_sayName 76 = .ok (.iadd, 1) := by decide +kernel
theorem d_M_sayName_77 : decode b_M_sayName 77 = .ok (.bipush 27, 2) := by decide +kernel
theorem d_M_sayName_79 : decode b_M_sayName 79 = .ok (.isub, 1) := by decide +kernel
theorem d_M_sayName_80 : decode b_M_sayName 80 = .ok (.goto 10, 3) := by decide +kernel
theorem d_M_sayName_83 : decode b_M_sayName 83 = .ok (.bipush 97, 2) := by decide +kernel
theorem d_M_sayName_85 : decode b_M_sayName 85 = .ok (.iload 7, 2) := by decide +kernel
theorem d_M_sayName_87 : decode b_M_sayName 87 = .ok (.iadd, 1) := by decide +kernel
theorem d_M_sayName_88 : decode b_M_sayName 88 = .ok (.iconst 1, 1) := by decide +kernel
theorem d_M_sayName_89 : decode b_M_sayName 89 = .ok (.isub, 1) := by decide +kernel
theorem d_M_sayName_90 : decode b_M_sayName 90 = .ok (.invokevirtual 389, 3) := by decide +kernel
theorem d_M_sayName_93 : decode b_M_sayName 93 = .ok (.iinc 4 1, 3) := by decide +kernel
theorem d_M_sayName_96 : decode b_M_sayName 96 = .ok (.goto (-88), 3) := by decide +kernel
theorem d_M_sayName_99 : decode b_M_sayName 99 = .ok (.return_, 1) := by decide +kernel
theorem d_M_lettersOf_0 : decode b_M_lettersOf 0 = .ok (.iconst 0, 1) := by decide +kernel
theorem d_M_lettersOf_1 : decode b_M_lettersOf 1 = .ok (.istore_n 2, 1) := by decide +kernel
theorem d_M_lettersOf_2 : decode b_M_lettersOf 2 = .ok (.lload_n 0, 1) := by decide +kernel
theorem d_M_lettersOf_3 : decode b_M_lettersOf 3 = .ok (.lstore_n 3, 1) := by decide +kernel
theorem d_M_lettersOf_4 : decode b_M_lettersOf 4 = .ok (.lload_n 3, 1) := by decide +kernel
theorem d_M_lettersOf_5 : decode b_M_lettersOf 5 = .ok (.lconst 0, 1) := by decide +kernel
theorem d_M_lettersOf_6 : decode b_M_lettersOf 6 = .ok (.lcmp, 1) := by decide +kernel
theorem d_M_lettersOf_7 : decode b_M_lettersOf 7 = .ok (.ifCond .le 15, 3) := by decide +kernel
theorem d_M_lettersOf_10 : decode b_M_lettersOf 10 = .ok (.iinc 2 1, 3) := by decide +kernel
theorem d_M_lettersOf_13 : decode b_M_lettersOf 13 = .ok (.lload_n 3, 1) := by decide +kernel
theorem d_M_lettersOf_14 : decode b_M_lettersOf 14 = .ok (.ldc2_w 380, 3) := by decide +kernel
theorem d_M_lettersOf_17 : decode b_M_lettersOf 17 = .ok (.ldiv, 1) := by decide +kernel
theorem d_M_lettersOf_18 : decode b_M_lettersOf 18 = .ok (.lstore_n 3, 1) := by decide +kernel
theorem d_M_lettersOf_19 : decode b_M_lettersOf 19 = .ok (.goto (-15), 3) := by decide +kernel
theorem d_M_lettersOf_22 : decode b_M_lettersOf 22 = .ok (.iload_n 2, 1) := by decide +kernel
theorem d_M_lettersOf_23 : decode b_M_lettersOf 23 = .ok (.ireturn, 1) := by decide +kernel
theorem d_M_say_0 : decode b_M_say 0 = .ok (.aload_n 0, 1) := by decide +kernel
theorem d_M_say_1 : decode b_M_say 1 = .ok (.getfield 16, 3) := by decide +kernel
theorem d_M_say_4 : decode b_M_say 4 = .ok (.aload_n 0, 1) := by decide +kernel
theorem d_M_say_5 : decode b_M_say 5 = .ok (.getfield 382, 3) := by decide +kernel
theorem d_M_say_8 : decode b_M_say 8 = .ok (.iload_n 1, 1) := by decide +kernel
theorem d_M_say_9 : decode b_M_say 9 = .ok (.iastore, 1) := by decide +kernel
theorem d_M_say_10 : decode b_M_say 10 = .ok (.aload_n 0, 1) := by decide +kernel
theorem d_M_say_11 : decode b_M_say 11 = .ok (.dup, 1) := by decide +kernel
theorem d_M_say_12 : decode b_M_say 12 = .ok (.getfield 382, 3) := by decide +kernel
theorem d_M_say_15 : decode b_M_say 15 = .ok (.iconst 1, 1) := by decide +kernel
theorem d_M_say_16 : decode b_M_say 16 = .ok (.iadd, 1) := by decide +kernel
theorem d_M_say_17 : decode b_M_say 17 = .ok (.putfield 382, 3) := by decide +kernel
theorem d_M_say_20 : decode b_M_say 20 = .ok (.return_, 1) := by decide +kernel
theorem d_M_patternOf_0 : decode b_M_patternOf 0 = .ok (.iload_n 0, 1) := by decide +kernel
theorem d_M_patternOf_1 : decode b_M_patternOf 1 = .ok (.iconst 2, 1) := by decide +kernel
theorem d_M_patternOf_2 : decode b_M_patternOf 2 = .ok (.if_icmp .lt 9, 3) := by decide +kernel
theorem d_M_patternOf_5 : decode b_M_patternOf 5 = .ok (.iload_n 0, 1) := by decide +kernel
theorem d_M_patternOf_6 : decode b_M_patternOf 6 = .ok (.bipush 56, 2) := by decide +kernel
theorem d_M_patternOf_8 : decode b_M_patternOf 8 = .ok (.if_icmp .ne 6, 3) := by decide +kernel
theorem d_M_patternOf_11 : decode b_M_patternOf 11 = .ok (.bipush 6, 2) := by decide +kernel
theorem d_M_patternOf_13 : decode b_M_patternOf 13 = .ok (.ireturn, 1) := by decide +kernel
theorem d_M_patternOf_14 : decode b_M_patternOf 14 = .ok (.iload_n 0, 1) := by decide +kernel
theorem d_M_patternOf_15 : decode b_M_patternOf 15 = .ok (.iconst 2, 1) := by decide +kernel
theorem d_M_patternOf_16 : decode b_M_patternOf 16 = .ok (.if_icmp .ne 6, 3) := by decide +kernel
theorem d_M_patternOf_19 : decode b_M_patternOf 19 = .ok (.bipush 7, 2) := by decide +kernel
theorem d_M_patternOf_21 : decode b_M_patternOf 21 = .ok (.ireturn, 1) := by decide +kernel
theorem d_M_patternOf_22 : decode b_M_patternOf 22 = .ok (.iload_n 0, 1) := by decide +kernel
theorem d_M_patternOf_23 : decode b_M_patternOf 23 = .ok (.iconst 3, 1) := by decide +kernel
theorem d_M_patternOf_24 : decode b_M_patternOf 24 = .ok (.if_icmp .eq 21, 3) := by decide +kernel
theorem d_M_patternOf_27 : decode b_M_patternOf 27 = .ok (.iload_n 0, 1) := by decide +kernel
theorem d_M_patternOf_28 : decode b_M_patternOf 28 = .ok (.bipush 9, 2) := by decide +kernel
theorem d_M_patternOf_30 : decode b_M_patternOf 30 = .ok (.if_icmp .le 9, 3) := by decide +kernel
theorem d_M_patternOf_33 : decode b_M_patternOf 33 = .ok (.iload_n 0, 1) := by decide +kernel
theorem d_M_patternOf_34 : decode b_M_patternOf 34 = .ok (.bipush 15, 2) := by decide +kernel
theorem d_M_patternOf_36 : decode b_M_patternOf 36 = .ok (.if_icmp .lt 9, 3) := by decide +kernel
theorem d_M_patternOf_39 : decode b_M_patternOf 39 = .ok (.iload_n 0, 1) := by decide +kernel
theorem d_M_patternOf_40 : decode b_M_patternOf 40 = .ok (.bipush 49, 2) := by decide +kernel
theorem d_M_patternOf_42 : decode b_M_patternOf 42 = .ok (.if_icmp .ne 5, 3) := by decide +kernel
theorem d_M_patternOf_45 : decode b_M_patternOf 45 = .ok (.iconst 3, 1) := by decide +kernel
theorem d_M_patternOf_46 : decode b_M_patternOf 46 = .ok (.ireturn, 1) := by decide +kernel
theorem d_M_patternOf_47 : decode b_M_patternOf 47 = .ok (.iload_n 0, 1) := by decide +kernel
theorem d_M_patternOf_48 : decode b_M_patternOf 48 = .ok (.invokestatic 47, 3) := by decide +kernel
theorem d_M_patternOf_51 : decode b_M_patternOf 51 = .ok (.ifCond .eq 5, 3) := by decide +kernel
theorem d_M_patternOf_54 : decode b_M_patternOf 54 = .ok (.iconst 5, 1) := by decide +kernel
theorem d_M_patternOf_55 : decode b_M_patternOf 55 = .ok (.ireturn, 1) := by decide +kernel
theorem d_M_patternOf_56 : decode b_M_patternOf 56 = .ok (.iload_n 0, 1) := by decide +kernel
theorem d_M_patternOf_57 : decode b_M_patternOf 57 = .ok (.invokestatic 51, 3) := by decide +kernel
theorem d_M_patternOf_60 : decode b_M_patternOf 60 = .ok (.ifCond .ne 9, 3) := by decide +kernel
theorem d_M_patternOf_63 : decode b_M_patternOf 63 = .ok (.iload_n 0, 1) := by decide +kernel
theorem d_M_patternOf_64 : decode b_M_patternOf 64 = .ok (.bipush 50, 2) := by decide +kernel
theorem d_M_patternOf_66 : decode b_M_patternOf 66 = .ok (.if_icmp .ne 5, 3) := by decide +kernel
theorem d_M_patternOf_69 : decode b_M_patternOf 69 = .ok (.iconst 4, 1) := by decide +kernel
theorem d_M_patternOf_70 : decode b_M_patternOf 70 = .ok (.ireturn, 1) := by decide +kernel
theorem d_M_patternOf_71 : decode b_M_patternOf 71 = .ok (.iload_n 0, 1) := by decide +kernel
theorem d_M_patternOf_72 : decode b_M_patternOf 72 = .ok (.bipush 27, 2) := by decide +kernel
theorem d_M_patternOf_74 : decode b_M_patternOf 74 = .ok (.if_icmp .ge 5, 3) := by decide +kernel
theorem d_M_patternOf_77 : decode b_M_patternOf 77 = .ok (.iconst 2, 1) := by decide +kernel
theorem d_M_patternOf_78 : decode b_M_patternOf 78 = .ok (.ireturn, 1) := by decide +kernel
theorem d_M_patternOf_79 : decode b_M_patternOf 79 = .ok (.iload_n 0, 1) := by decide +kernel
theorem d_M_patternOf_80 : decode b_M_patternOf 80 = .ok (.bipush 45, 2) := by decide +kernel
theorem d_M_patternOf_82 : decode b_M_patternOf 82 = .ok (.if_icmp .ge 5, 3) := by decide +kernel
theorem d_M_patternOf_85 : decode b_M_patternOf 85 = .ok (.iconst 1, 1) := by decide +kernel
theorem d_M_patternOf_86 : decode b_M_patternOf 86 = .ok (.ireturn, 1) := by decide +kernel
theorem d_M_patternOf_87 : decode b_M_patternOf 87 = .ok (.iload_n 0, 1) := by decide +kernel
theorem d_M_patternOf_88 : decode b_M_patternOf 88 = .ok (.bipush 48, 2) := by decide +kernel
theorem d_M_patternOf_90 : decode b_M_patternOf 90 = .ok (.if_icmp .lt 15, 3) := by decide +kernel
theorem d_M_patternOf_93 : decode b_M_patternOf 93 = .ok (.iload_n 0, 1) := by decide +kernel
theorem d_M_patternOf_94 : decode b_M_patternOf 94 = .ok (.bipush 51, 2) := by decide +kernel
theorem d_M_patternOf_96 : decode b_M_patternOf 96 = .ok (.if_icmp .eq 9, 3) := by decide +kernel
theorem d_M_patternOf_99 : decode b_M_patternOf 99 = .ok (.iload_n 0, 1) := by decide +kernel
theorem d_M_patternOf_100 : decode b_M_patternOf 100 = .ok (.bipush 71, 2) := by decide +kernel
theorem d_M_patternOf_102 : decode b_M_patternOf 102 = .ok (.if_icmp .ne 5, 3) := by decide +kernel
theorem d_M_patternOf_105 : decode b_M_patternOf 105 = .ok (.iconst 0, 1) := by decide +kernel
theorem d_M_patternOf_106 : decode b_M_patternOf 106 = .ok (.ireturn, 1) := by decide +kernel
theorem d_M_patternOf_107 : decode b_M_patternOf 107 = .ok (.iload_n 0, 1) := by decide +kernel
theorem d_M_patternOf_108 : decode b_M_patternOf 108 = .ok (.tableswitch 148 48 74 #[124, 148, 148, 148, 148, 127, 148, 130, 148, 148, 148, 148, 133, 133, 133, 133, 127, 136, 136, 148, 139, 142, 133, 148, 142, 133, 145], 124) := by decide +kernel
theorem d_M_patternOf_232 : decode b_M_patternOf 232 = .ok (.bipush 15, 2) := by decide +kernel
theorem d_M_patternOf_234 : decode b_M_patternOf 234 = .ok (.ireturn, 1) := by decide +kernel
theorem d_M_patternOf_235 : decode b_M_patternOf 235 = .ok (.bipush 8, 2) := by decide +kernel
theorem d_M_patternOf_237 : decode b_M_patternOf 237 = .ok (.ireturn, 1) := by decide +kernel
theorem d_M_patternOf_238 : decode b_M_patternOf 238 = .ok (.bipush 16, 2) := by decide +kernel
theorem d_M_patternOf_240 : decode b_M_patternOf 240 = .ok (.ireturn, 1) := by decide +kernel
theorem d_M_patternOf_241 : decode b_M_patternOf 241 = .ok (.bipush 10, 2) := by decide +kernel
theorem d_M_patternOf_243 : decode b_M_patternOf 243 = .ok (.ireturn, 1) := by decide +kernel
theorem d_M_patternOf_244 : decode b_M_patternOf 244 = .ok (.bipush 9, 2) := by decide +kernel
theorem d_M_patternOf_246 : decode b_M_patternOf 246 = .ok (.ireturn, 1) := by decide +kernel
theorem d_M_patternOf_247 : decode b_M_patternOf 247 = .ok (.bipush 13, 2) := by decide +kernel
theorem d_M_patternOf_249 : decode b_M_patternOf 249 = .ok (.ireturn, 1) := by decide +kernel
theorem d_M_patternOf_250 : decode b_M_patternOf 250 = .ok (.bipush 11, 2) := by decide +kernel
theorem d_M_patternOf_252 : decode b_M_patternOf 252 = .ok (.ireturn, 1) := by decide +kernel
theorem d_M_patternOf_253 : decode b_M_patternOf 253 = .ok (.bipush 14, 2) := by decide +kernel
theorem d_M_patternOf_255 : decode b_M_patternOf 255 = .ok (.ireturn, 1) := by decide +kernel
theorem d_M_patternOf_256 : decode b_M_patternOf 256 = .ok (.bipush 12, 2) := by decide +kernel
theorem d_M_patternOf_258 : decode b_M_patternOf 258 = .ok (.ireturn, 1) := by decide +kernel
theorem d_M_operands_0 : decode b_M_operands 0 = .ok (.iload_n 1, 1) := by decide +kernel
theorem d_M_operands_1 : decode b_M_operands 1 = .ok (.ifCond .le 8, 3) := by decide +kernel
theorem d_M_operands_4 : decode b_M_operands 4 = .ok (.iload_n 1, 1) := by decide +kernel
theorem d_M_operands_5 : decode b_M_operands 5 = .ok (.iconst 4, 1) := by decide +kernel
theorem d_M_operands_6 : decode b_M_operands 6 = .ok (.if_icmp .lt 39, 3) := by decide +kernel
theorem d_M_operands_9 : decode b_M_operands 9 = .ok (.iload_n 1, 1) := by decide +kernel
theorem d_M_operands_10 : decode b_M_operands 10 = .ok (.bipush 6, 2) := by decide +kernel
theorem d_M_operands_12 : decode b_M_operands 12 = .ok (.if_icmp .eq 33, 3) := by decide +kernel
theorem d_M_operands_15 : decode b_M_operands 15 = .ok (.iload_n 1, 1) := by decide +kernel
theorem d_M_operands_16 : decode b_M_operands 16 = .ok (.bipush 7, 2) := by decide +kernel
theorem d_M_operands_18 : decode b_M_operands 18 = .ok (.if_icmp .eq 27, 3) := by decide +kernel
theorem d_M_operands_21 : decode b_M_operands 21 = .ok (.iload_n 1, 1) := by decide +kernel
theorem d_M_operands_22 : decode b_M_operands 22 = .ok (.bipush 10, 2) := by decide +kernel
theorem d_M_operands_24 : decode b_M_operands 24 = .ok (.if_icmp .eq 21, 3) := by decide +kernel
theorem d_M_operands_27 : decode b_M_operands 27 = .ok (.iload_n 1, 1) := by decide +kernel
theorem d_M_operands_28 : decode b_M_operands 28 = .ok (.bipush 12, 2) := by decide +kernel
theorem d_M_operands_30 : decode b_M_operands 30 = .ok (.if_icmp .eq 15, 3) := by decide +kernel
theorem d_M_operands_33 : decode b_M_operands 33 = .ok (.iload_n 1, 1) := by decide +kernel
theorem d_M_operands_34 : decode b_M_operands 34 = .ok (.bipush 13, 2) := by decide +kernel
theorem d_M_operands_36 : decode b_M_operands 36 = .ok (.if_icmp .eq 9, 3) := by decide +kernel
theorem d_M_operands_39 : decode b_M_operands 39 = .ok (.iload_n 1, 1) := by decide +kernel
theorem d_M_operands_40 : decode b_M_operands 40 = .ok (.bipush 15, 2) := by decide +kernel
theorem d_M_operands_42 : decode b_M_operands 42 = .ok (.if_icmp .ne 7, 3) := by decide +kernel
theorem d_M_operands_45 : decode b_M_operands 45 = .ok (.iconst 1, 1) := by decide +kernel
theorem d_M_operands_46 : decode b_M_operands 46 = .ok (.goto 4, 3) := by decide +kernel
theorem d_M_operands_49 : decode b_M_operands 49 = .ok (.iconst 0, 1) := by decide +kernel
theorem d_M_operands_50 : decode b_M_operands 50 = .ok (.istore_n 3, 1) := by decide +kernel
theorem d_M_operands_51 : decode b_M_operands 51 = .ok (.iload_n 3, 1) := by decide +kernel
theorem d_M_operands_52 : decode b_M_operands 52 = .ok (.ifCond .eq 13, 3) := by decide +kernel
theorem d_M_operands_55 : decode b_M_operands 55 = .ok (.aload_n 0, 1) := by decide +kernel
theorem d_M_operands_56 : decode b_M_operands 56 = .ok (.aload_n 0, 1) := by decide +kernel
theorem d_M_operands_57 : decode b_M_operands 57 = .ok (.getfield 13, 3) := by decide +kernel
theorem d_M_operands_60 : decode b_M_operands 60 = .ok (.iconst 0, 1) := by decide +kernel
theorem d_M_operands_61 : decode b_M_operands 61 = .ok (.iaload, 1) := by decide +kernel
theorem d_M_operands_62 : decode b_M_operands 62 = .ok (.invokevirtual 417, 3) := by decide +kernel
theorem d_M_operands_65 : decode b_M_operands 65 = .ok (.iload_n 1, 1) := by decide +kernel
theorem d_M_operands_66 : decode b_M_operands 66 = .ok (.iconst 1, 1) := by decide +kernel
theorem d_M_operands_67 : decode b_M_operands 67 = .ok (.if_icmp .eq 25, 3) := by decide +kernel
theorem d_M_operands_70 : decode b_M_operands 70 = .ok (.iload_n 1, 1) := by decide +kernel
theorem d_M_operands_71 : decode b_M_operands 71 = .ok (.iconst 2, 1) := by decide +kernel
theorem d_M_operands_72 : decode b_M_operands 72 = .ok (.if_icmp .eq 20, 3) := by decide +kernel
theorem d_M_operands_75 : decode b_M_operands 75 = .ok (.iload_n 1, 1) := by decide +kernel
theorem d_M_operands_76 : decode b_M_operands 76 = .ok (.iconst 5, 1) := by decide +kernel
theorem d_M_operands_77 : decode b_M_operands 77 = .ok (.if_icmp .eq 15, 3) := by decide +kernel
theorem d_M_operands_80 : decode b_M_operands 80 = .ok (.iload_n 1, 1) := by decide +kernel
theorem d_M_operands_81 : decode b_M_operands 81 = .ok (.bipush 9, 2) := by decide +kernel
theorem d_M_operands_83 : decode b_M_operands 83 = .ok (.if_icmp .eq 9, 3) := by decide +kernel
theorem d_M_operands_86 : decode b_M_operands 86 = .ok (.iload_n 1, 1) := by decide +kernel
theorem d_M_operands_87 : decode b_M_operands 87 = .ok (.bipush 11, 2) := by decide +kernel
theorem d_M_operands_89 : decode b_M_operands 89 = .ok (.if_icmp .ne 13, 3) := by decide +kernel
theorem d_M_operands_92 : decode b_M_operands 92 = .ok (.aload_n 0, 1) := by decide +kernel
theorem d_M_operands_93 : decode b_M_operands 93 = .ok (.aload_n 0, 1) := by decide +kernel
theorem d_M_operands_94 : decode b_M_operands 94 = .ok (.getfield 13, 3) := by decide +kernel
theorem d_M_operands_97 : decode b_M_operands 97 = .ok (.iconst 1, 1) := by decide +kernel
theorem d_M_operands_98 : decode b_M_operands 98 = .ok (.iaload, 1) := by decide +kernel
theorem d_M_operands_99 : decode b_M_operands 99 = .ok (.invokevirtual 417, 3) := by decide +kernel
theorem d_M_operands_102 : decode b_M_operands 102 = .ok (.iload_n 1, 1) := by decide +kernel
theorem d_M_operands_103 : decode b_M_operands 103 = .ok (.iconst 1, 1) := by decide +kernel
theorem d_M_operands_104 : decode b_M_operands 104 = .ok (.if_icmp .eq 25, 3) := by decide +kernel
theorem d_M_operands_107 : decode b_M_operands 107 = .ok (.iload_n 1, 1) := by decide +kernel
theorem d_M_operands_108 : decode b_M_operands 108 = .ok (.iconst 4, 1) := by decide +kernel
theorem d_M_operands_109 : decode b_M_operands 109 = .ok (.if_icmp .eq 20, 3) := by decide +kernel
theorem d_M_operands_112 : decode b_M_operands 112 = .ok (.iload_n 1, 1) := by decide +kernel
theorem d_M_operands_113 : decode b_M_operands 113 = .ok (.iconst 5, 1) := by decide +kernel
theorem d_M_operands_114 : decode b_M_operands 114 = .ok (.if_icmp .eq 15, 3) := by decide +kernel
theorem d_M_operands_117 : decode b_M_operands 117 = .ok (.iload_n 1, 1) := by decide +kernel
theorem d_M_operands_118 : decode b_M_operands 118 = .ok (.bipush 10, 2) := by decide +kernel
theorem d_M_operands_120 : decode b_M_operands 120 = .ok (.if_icmp .eq 9, 3) := by decide +kernel
theorem d_M_operands_123 : decode b_M_operands 123 = .ok (.iload_n 1, 1) := by decide +kernel
theorem d_M_operands_124 : decode b_M_operands 124 = .ok (.bipush 14, 2) := by decide +kernel
theorem d_M_operands_126 : decode b_M_operands 126 = .ok (.if_icmp .ne 13, 3) := by decide +kernel
theorem d_M_operands_129 : decode b_M_operands 129 = .ok (.aload_n 0, 1) := by decide +kernel
theorem d_M_operands_130 : decode b_M_operands 130 = .ok (.aload_n 0, 1) := by decide +kernel
theorem d_M_operands_131 : decode b_M_operands 131 = .ok (.getfield 13, 3) := by decide +kernel
theorem d_M_operands_134 : decode b_M_operands 134 = .ok (.iconst 2, 1) := by decide +kernel
theorem d_M_operands_135 : decode b_M_operands 135 = .ok (.iaload, 1) := by decide +kernel
theorem d_M_operands_136 : decode b_M_operands 136 = .ok (.invokevirtual 417, 3) := by decide +kernel
theorem d_M_operands_139 : decode b_M_operands 139 = .ok (.iload_n 1, 1) := by decide +kernel
theorem d_M_operands_140 : decode b_M_operands 140 = .ok (.bipush 15, 2) := by decide +kernel
theorem d_M_operands_142 : decode b_M_operands 142 = .ok (.if_icmp .eq 9, 3) := by decide +kernel
theorem d_M_operands_145 : decode b_M_operands 145 = .ok (.iload_n 1, 1) := by decide +kernel
theorem d_M_operands_146 : decode b_M_operands 146 = .ok (.bipush 16, 2) := by decide +kernel
theorem d_M_operands_148 : decode b_M_operands 148 = .ok (.if_icmp .ne 8, 3) := by decide +kernel
theorem d_M_operands_151 : decode b_M_operands 151 = .ok (.aload_n 0, 1) := by decide +kernel
theorem d_M_operands_152 : decode b_M_operands 152 = .ok (.iconst 2, 1) := by decide +kernel
theorem d_M_operands_153 : decode b_M_operands 153 = .ok (.invokevirtual 417, 3) := by decide +kernel
theorem d_M_operands_156 : decode b_M_operands 156 = .ok (.iload_n 1, 1) := by decide +kernel
theorem d_M_operands_157 : decode b_M_operands 157 = .ok (.iconst 3, 1) := by decide +kernel
theorem d_M_operands_158 : decode b_M_operands 158 = .ok (.if_icmp .eq 8, 3) := by decide +kernel
theorem d_M_operands_161 : decode b_M_operands 161 = .ok (.iload_n 1, 1) := by decide +kernel
theorem d_M_operands_162 : decode b_M_operands 162 = .ok (.iconst 4, 1) := by decide +kernel
theorem d_M_operands_163 : decode b_M_operands 163 = .ok (.if_icmp .ne 13, 3) := by decide +kernel
theorem d_M_operands_166 : decode b_M_operands 166 = .ok (.aload_n 0, 1) := by decide +kernel
theorem d_M_operands_167 : decode b_M_operands 167 = .ok (.aload_n 0, 1) := by decide +kernel
theorem d_M_operands_168 : decode b_M_operands 168 = .ok (.getfield 13, 3) := by decide +kernel
theorem d_M_operands_171 : decode b_M_operands 171 = .ok (.iconst 1, 1) := by decide +kernel
theorem d_M_operands_172 : decode b_M_operands 172 = .ok (.iaload, 1) := by decide +kernel
theorem d_M_operands_173 : decode b_M_operands 173 = .ok (.invokevirtual 420, 3) := by decide +kernel
theorem d_M_operands_176 : decode b_M_operands 176 = .ok (.iload_n 1, 1) := by decide +kernel
theorem d_M_operands_177 : decode b_M_operands 177 = .ok (.bipush 13, 2) := by decide +kernel
theorem d_M_operands_179 : decode b_M_operands 179 = .ok (.if_icmp .eq 9, 3) := by decide +kernel
theorem d_M_operands_182 : decode b_M_operands 182 = .ok (.iload_n 1, 1) := by decide +kernel
theorem d_M_operands_183 : decode b_M_operands 183 = .ok (.bipush 14, 2) := by decide +kernel
theorem d_M_operands_185 : decode b_M_operands 185 = .ok (.if_icmp .ne 8, 3) := by decide +kernel
theorem d_M_operands_188 : decode b_M_operands 188 = .ok (.aload_n 0, 1) := by decide +kernel
theorem d_M_operands_189 : decode b_M_operands 189 = .ok (.iconst 2, 1) := by decide +kernel
theorem d_M_operands_190 : decode b_M_operands 190 = .ok (.invokevirtual 420, 3) := by decide +kernel
theorem d_M_operands_193 : decode b_M_operands 193 = .ok (.iload_n 1, 1) := by decide +kernel
theorem d_M_operands_194 : decode b_M_operands 194 = .ok (.iconst 2, 1) := by decide +kernel
theorem d_M_operands_195 : decode b_M_operands 195 = .ok (.if_icmp .eq 21, 3) := by decide +kernel
theorem d_M_operands_198 : decode b_M_operands 198 = .ok (.iload_n 1, 1) := by decide +kernel
theorem d_M_operands_199 : decode b_M_operands 199 = .ok (.bipush 12, 2) := by decide +kernel
theorem d_M_operands_201 : decode b_M_operands 201 = .ok (.if_icmp .eq 15, 3) := by decide +kernel
theorem d_M_operands_204 : decode b_M_operands 204 = .ok (.iload_n 1, 1) := by decide +kernel
theorem d_M_operands_205 : decode b_M_operands 205 = .ok (.bipush 15, 2) := by decide +kernel
theorem d_M_operands_207 : decode b_M_operands 207 = .ok (.if_icmp .eq 9, 3) := by decide +kernel
theorem d_M_operands_210 : decode b_M_operands 210 = .ok (.iload_n 1, 1) := by decide +kernel
theorem d_M_operands_211 : decode b_M_operands 211 = .ok (.bipush 16, 2) := by decide +kernel
theorem d_M_operands_213 : decode b_M_operands 213 = .ok (.if_icmp .ne 7, 3) := by decide +kernel
theorem d_M_operands_216 : decode b_M_operands 216 = .ok (.aload_n 0, 1) := by decide +kernel
theorem d_M_operands_217 : decode b_M_operands 217 = .ok (.invokevirtual 423, 3) := by decide +kernel
theorem d_M_operands_220 : decode b_M_operands 220 = .ok (.iload_n 1, 1) := by decide +kernel
theorem d_M_operands_221 : decode b_M_operands 221 = .ok (.iconst 5, 1) := by decide +kernel
theorem d_M_operands_222 : decode b_M_operands 222 = .ok (.if_icmp .eq 21, 3) := by decide +kernel
theorem d_M_operands_225 : decode b_M_operands 225 = .ok (.iload_n 1, 1) := by decide +kernel
theorem d_M_operands_226 : decode b_M_operands 226 = .ok (.bipush 7, 2) := by decide +kernel
theorem d_M_operands_228 : decode b_M_operands 228 = .ok (.if_icmp .eq 15, 3) := by decide +kernel
theorem d_M_operands_231 : decode b_M_operands 231 = .ok (.iload_n 1, 1) := by decide +kernel
theorem d_M_operands_232 : decode b_M_operands 232 = .ok (.bipush 8, 2) := by decide +kernel
theorem d_M_operands_234 : decode b_M_operands 234 = .ok (.if_icmp .eq 9, 3) := by decide +kernel
theorem d_M_operands_237 : decode b_M_operands 237 = .ok (.iload_n 1, 1) := by decide +kernel
theorem d_M_operands_238 : decode b_M_operands 238 = .ok (.bipush 9, 2) := by decide +kernel
theorem d_M_operands_240 : decode b_M_operands 240 = .ok (.if_icmp .ne 8, 3) := by decide +kernel
theorem d_M_operands_243 : decode b_M_operands 243 = .ok (.aload_n 0, 1) := by decide +kernel
theorem d_M_operands_244 : decode b_M_operands 244 = .ok (.iload_n 2, 1) := by decide +kernel
theorem d_M_operands_245 : decode b_M_operands 245 = .ok (.invokevirtual 426, 3) := by decide +kernel
theorem d_M_operands_248 : decode b_M_operands 248 = .ok (.iload_n 1, 1) := by decide +kernel
theorem d_M_operands_249 : decode b_M_operands 249 = .ok (.bipush 6, 2) := by decide +kernel
theorem d_M_operands_251 : decode b_M_operands 251 = .ok (.if_icmp .eq 4, 3) := by decide +kernel
theorem d_M_operands_254 : decode b_M_operands 254 = .ok (.return_, 1) := by decide +kernel
theorem d_M_operands_255 : decode b_M_operands 255 = .ok (.aload_n 0, 1) := by decide +kernel
theorem d_M_operands_256 : decode b_M_operands 256 = .ok (.invokevirtual 400, 3) := by decide +kernel
theorem d_M_operands_259 : decode b_M_operands 259 = .ok (.aload_n 0, 1) := by decide +kernel
theorem d_M_operands_260 : decode b_M_operands 260 = .ok (.aload_n 0, 1) := by decide +kernel
theorem d_M_operands_261 : decode b_M_operands 261 = .ok (.getfield 13, 3) := by decide +kernel
theorem d_M_operands_264 : decode b_M_operands 264 = .ok (.iconst 3, 1) := by decide +kernel
theorem d_M_operands_265 : decode b_M_operands 265 = .ok (.iaload, 1) := by decide +kernel
theorem d_M_operands_266 : decode b_M_operands 266 = .ok (.invokevirtual 414, 3) := by decide +kernel
theorem d_M_operands_269 : decode b_M_operands 269 = .ok (.return_, 1) := by decide +kernel
theorem d_M_register_0 : decode b_M_register 0 = .ok (.aload_n 0, 1) := by decide +kernel
theorem d_M_register_1 : decode b_M_register 1 = .ok (.invokevirtual 400, 3) := by decide +kernel
theorem d_M_register_4 : decode b_M_register 4 = .ok (.aload_n 0, 1) := by decide +kernel
theorem d_M_register_5 : decode b_M_register 5 = .ok (.iload_n 1, 1) := by decide +kernel
theorem d_M_register_6 : decode b_M_register 6 = .ok (.invokestatic 403, 3) := by decide +kernel
theorem d_M_register_9 : decode b_M_register 9 = .ok (.invokevirtual 407, 3) := by decide +kernel
theorem d_M_register_12 : decode b_M_register 12 = .ok (.return_, 1) := by decide +kernel
theorem d_M_ahead_0 : decode b_M_ahead 0 = .ok (.aload_n 0, 1) := by decide +kernel
theorem d_M_ahead_1 : decode b_M_ahead 1 = .ok (.getfield 396, 3) := by decide +kernel
theorem d_M_ahead_4 : decode b_M_ahead 4 = .ok (.ifCond .eq 9, 3) := by decide +kernel
theorem d_M_ahead_7 : decode b_M_ahead 7 = .ok (.aload_n 0, 1) := by decide +kernel
theorem d_M_ahead_8 : decode b_M_ahead 8 = .ok (.bipush 44, 2) := by decide +kernel
theorem d_M_ahead_10 : decode b_M_ahead 10 = .ok (.invokevirtual 389, 3) := by decide +kernel
theorem d_M_ahead_13 : decode b_M_ahead 13 = .ok (.aload_n 0, 1) := by decide +kernel
theorem d_M_ahead_14 : decode b_M_ahead 14 = .ok (.bipush 32, 2) := by decide +kernel
theorem d_M_ahead_16 : decode b_M_ahead 16 = .ok (.invokevirtual 389, 3) := by decide +kernel
theorem d_M_ahead_19 : decode b_M_ahead 19 = .ok (.aload_n 0, 1) := by decide +kernel
theorem d_M_ahead_20 : decode b_M_ahead 20 = .ok (.iconst 1, 1) := by decide +kernel
theorem d_M_ahead_21 : decode b_M_ahead 21 = .ok (.putfield 396, 3) := by decide +kernel
theorem d_M_ahead_24 : decode b_M_ahead 24 = .ok (.return_, 1) := by decide +kernel
theorem d_M_registerOf_0 : decode b_M_registerOf 0 = .ok (.iload_n 0, 1) := by decide +kernel
theorem d_M_registerOf_1 : decode b_M_registerOf 1 = .ok (.tableswitch 263 0 30 #[139, 143, 147, 151, 155, 159, 163, 167, 171, 175, 179, 183, 187, 191, 195, 199, 203, 207, 211, 215, 219, 223, 227, 231, 235, 239, 243, 247, 251, 255, 259], 139) := by decide +kernel
theorem d_M_registerOf_140 : decode b_M_registerOf 140 = .ok (.ldc2_w 316, 3) := by decide +kernel
theorem d_M_registerOf_143 : decode b_M_registerOf 143 = .ok (.lreturn, 1) := by decide +kernel
theorem d_M_registerOf_144 : decode b_M_registerOf 144 = .ok (.ldc2_w 318, 3) := by decide +kernel
theorem d_M_registerOf_147 : decode b_M_registerOf 147 = .ok (.lreturn, 1) := by decide +kernel
theorem d_M_registerOf_148 : decode b_M_registerOf 148 = .ok (.ldc2_w 320, 3) := by decide +kernel
theorem d_M_registerOf_151 : decode b_M_registerOf 151 = .ok (.lreturn, 1) := by decide +kernel
theorem d_M_registerOf_152 : decode b_M_registerOf 152 = .ok (.ldc2_w 322, 3) := by decide +kernel
theorem d_M_registerOf_155 : decode b_M_registerOf 155 = .ok (.lreturn, 1) := by decide +kernel
theorem d_M_registerOf_156 : decode b_M_registerOf 156 = .ok (.ldc2_w 324, 3) := by decide +kernel
theorem d_M_registerOf_159 : decode b_M_registerOf 159 = .ok (.lreturn, 1) := by decide +kernel
theorem d_M_registerOf_160 : decode b_M_registerOf 160 = .ok (.ldc2_w 326, 3) := by decide +kernel
theorem d_M_registerOf_163 : decode b_M_registerOf 163 = .ok (.lreturn, 1) := by decide +kernel
theorem d_M_registerOf_164 : decode b_M_registerOf 164 = .ok (.ldc2_w 328, 3) := by decide +kernel
theorem d_M_registerOf_167 : decode b_M_registerOf 167 = .ok (.lreturn, 1) := by decide +kernel
theorem d_M_registerOf_168 : decode b_M_registerOf 168 = .ok (.ldc2_w 330, 3) := by decide +kernel
theorem d_M_registerOf_171 : decode b_M_registerOf 171 = .ok (.lreturn, 1) := by decide +kernel
theorem d_M_registerOf_172 : decode b_M_registerOf 172 = .ok (.ldc2_w 332, 3) := by decide +kernel
theorem d_M_registerOf_175 : decode b_M_registerOf 175 = .ok (.lreturn, 1) := by decide +kernel
theorem d_M_registerOf_176 : decode b_M_registerOf 176 = .ok (.ldc2_w 334, 3) := by decide +kernel
theorem d_M_registerOf_179 : decode b_M_registerOf 179 = .ok (.lreturn, 1) := by decide +kernel
theorem d_M_registerOf_180 : decode b_M_registerOf 180 = .ok (.ldc2_w 336, 3) := by decide +kernel
theorem d_M_registerOf_183 : decode b_M_registerOf 183 = .ok (.lreturn, 1) := by decide +kernel
theorem d_M_registerOf_184 : decode b_M_registerOf 184 = .ok (.ldc2_w 338, 3) := by decide +kernel
theorem d_M_registerOf_187 : decode b_M_registerOf 187 = .ok (.lreturn, 1) := by decide +kernel
theorem d_M_registerOf_188 : decode b_M_registerOf 188 = .ok (.ldc2_w 340, 3) := by decide +kernel
theorem d_M_registerOf_191 : decode b_M_registerOf 191 = .ok (.lreturn, 1) := by decide +kernel
theorem d_M_registerOf_192 : decode b_M_registerOf 192 = .ok (.ldc2_w 342, 3) := by decide +kernel
theorem d_M_registerOf_195 : decode b_M_registerOf 195 = .ok (.lreturn, 1) := by decide +kernel
theorem d_M_registerOf_196 : decode b_M_registerOf 196 = .ok (.ldc2_w 344, 3) := by decide +kernel
theorem d_M_registerOf_199 : decode b_M_registerOf 199 = .ok (.lreturn, 1) := by decide +kernel
theorem d_M_registerOf_200 : decode b_M_registerOf 200 = .ok (.ldc2_w 346, 3) := by decide +kernel
theorem d_M_registerOf_203 : decode b_M_registerOf 203 = .ok (.lreturn, 1) := by decide +kernel
theorem d_M_registerOf_204 : decode b_M_registerOf 204 = .ok (.ldc2_w 348, 3) := by decide +kernel
theorem d_M_registerOf_207 : decode b_M_registerOf 207 = .ok (.lreturn, 1) := by decide +kernel
theorem d_M_registerOf_208 : decode b_M_registerOf 208 = .ok (.ldc2_w 350, 3) := by decide +kernel
theorem d_M_registerOf_211 : decode b_M_registerOf 211 = .ok (.lreturn, 1) := by decide +kernel
theorem d_M_registerOf_212 : decode b_M_registerOf 212 = .ok (.ldc2_w 352, 3) := by decide +kernel
theorem d_M_registerOf_215 : decode b_M_registerOf 215 = .ok (.lreturn, 1) := by decide +kernel
theorem d_M_registerOf_216 : decode b_M_registerOf 216 = .ok (.ldc2_w 354, 3) := by decide +kernel
theorem d_M_registerOf_219 : decode b_M_registerOf 219 = .ok (.lreturn, 1) := by decide +kernel
theorem d_M_registerOf_220 : decode b_M_registerOf 220 = .ok (.ldc2_w 356, 3) := by decide +kernel
theorem d_M_registerOf_223 : decode b_M_registerOf 223 = .ok (.lreturn, 1) := by decide +kernel
theorem d_M_registerOf_224 : decode b_M_registerOf 224 = .ok (.ldc2_w 358, 3) := by decide +kernel
theorem d_M_registerOf_227 : decode b_M_registerOf 227 = .ok (.lreturn, 1) := by decide +kernel
theorem d_M_registerOf_228 : decode b_M_registerOf 228 = .ok (.ldc2_w 360, 3) := by decide +kernel
theorem d_M_registerOf_231 : decode b_M_registerOf 231 = .ok (.lreturn, 1) := by decide +kernel
theorem d_M_registerOf_232 : decode b_M_registerOf 232 = .ok (.ldc2_w 362, 3) := by decide +kernel
theorem d_M_registerOf_235 : decode b_M_registerOf 235 = .ok (.lreturn, 1) := by decide +kernel
theorem d_M_registerOf_236 : decode b_M_registerOf 236 = .ok (.ldc2_w 364, 3) := by decide +kernel
theorem d_M_registerOf_239 : decode b_M_registerOf 239 = .ok (.lreturn, 1) := by decide +kernel
theorem d_M_registerOf_240 : decode b_M_registerOf 240 = .ok (.ldc2_w 366, 3) := by decide +kernel
theorem d_M_registerOf_243 : decode b_M_registerOf 243 = .ok (.lreturn, 1) := by decide +kernel
theorem d_M_registerOf_244 : decode b_M_registerOf 244 = .ok (.ldc2_w 368, 3) := by decide +kernel
theorem d_M_registerOf_247 : decode b_M_registerOf 247 = .ok (.lreturn, 1) := by decide +kernel
theorem d_M_registerOf_248 : decode b_M_registerOf 248 = .ok (.ldc2_w 370, 3) := by decide +kernel
theorem d_M_registerOf_251 : decode b_M_registerOf 251 = .ok (.lreturn, 1) := by decide +kernel
theorem d_M_registerOf_252 : decode b_M_registerOf 252 = .ok (.ldc2_w 372, 3) := by decide +kernel
theorem d_M_registerOf_255 : decode b_M_registerOf 255 = .ok (.lreturn, 1) := by decide +kernel
theorem d_M_registerOf_256 : decode b_M_registerOf 256 = .ok (.ldc2_w 374, 3) := by decide +kernel
theorem d_M_registerOf_259 : decode b_M_registerOf 259 = .ok (.lreturn, 1) := by decide +kernel
theorem d_M_registerOf_260 : decode b_M_registerOf 260 = .ok (.ldc2_w 376, 3) := by decide +kernel
theorem d_M_registerOf_263 : decode b_M_registerOf 263 = .ok (.lreturn, 1) := by decide +kernel
theorem d_M_registerOf_264 : decode b_M_registerOf 264 = .ok (.ldc2_w 378, 3) := by decide +kernel
theorem d_M_registerOf_267 : decode b_M_registerOf 267 = .ok (.lreturn, 1) := by decide +kernel
theorem d_M_offset_0 : decode b_M_offset 0 = .ok (.aload_n 0, 1) := by decide +kernel
theorem d_M_offset_1 : decode b_M_offset 1 = .ok (.invokevirtual 400, 3) := by decide +kernel
theorem d_M_offset_4 : decode b_M_offset 4 = .ok (.aload_n 0, 1) := by decide +kernel
theorem d_M_offset_5 : decode b_M_offset 5 = .ok (.aload_n 0, 1) := by decide +kernel
theorem d_M_offset_6 : decode b_M_offset 6 = .ok (.getfield 13, 3) := by decide +kernel
theorem d_M_offset_9 : decode b_M_offset 9 = .ok (.iconst 3, 1) := by decide +kernel
theorem d_M_offset_10 : decode b_M_offset 10 = .ok (.iaload, 1) := by decide +kernel
theorem d_M_offset_11 : decode b_M_offset 11 = .ok (.invokevirtual 411, 3) := by decide +kernel
theorem d_M_offset_14 : decode b_M_offset 14 = .ok (.aload_n 0, 1) := by decide +kernel
theorem d_M_offset_15 : decode b_M_offset 15 = .ok (.bipush 40, 2) := by decide +kernel
theorem d_M_offset_17 : decode b_M_offset 17 = .ok (.invokevirtual 389, 3) := by decide +kernel
theorem d_M_offset_20 : decode b_M_offset 20 = .ok (.aload_n 0, 1) := by decide +kernel
theorem d_M_offset_21 : decode b_M_offset 21 = .ok (.iload_n 1, 1) := by decide +kernel
theorem d_M_offset_22 : decode b_M_offset 22 = .ok (.invokestatic 403, 3) := by decide +kernel
theorem d_M_offset_25 : decode b_M_offset 25 = .ok (.invokevirtual 407, 3) := by decide +kernel
theorem d_M_offset_28 : decode b_M_offset 28 = .ok (.aload_n 0, 1) := by decide +kernel
theorem d_M_offset_29 : decode b_M_offset 29 = .ok (.bipush 41, 2) := by decide +kernel
theorem d_M_offset_31 : decode b_M_offset 31 = .ok (.invokevirtual 389, 3) := by decide +kernel
theorem d_M_offset_34 : decode b_M_offset 34 = .ok (.return_, 1) := by decide +kernel
theorem d_M_sayDecimal_0 : decode b_M_sayDecimal 0 = .ok (.iload_n 1, 1) := by decide +kernel
theorem d_M_sayDecimal_1 : decode b_M_sayDecimal 1 = .ok (.ifCond .ge 9, 3) := by decide +kernel
theorem d_M_sayDecimal_4 : decode b_M_sayDecimal 4 = .ok (.aload_n 0, 1) := by decide +kernel
theorem d_M_sayDecimal_5 : decode b_M_sayDecimal 5 = .ok (.bipush 45, 2) := by decide +kernel
theorem d_M_sayDecimal_7 : decode b_M_sayDecimal 7 = .ok (.invokevirtual 389, 3) := by decide +kernel
theorem d_M_sayDecimal_10 : decode b_M_sayDecimal 10 = .ok (.iload_n 1, 1) := by decide +kernel
theorem d_M_sayDecimal_11 : decode b_M_sayDecimal 11 = .ok (.ifCond .ge 9, 3) := by decide +kernel
theorem d_M_sayDecimal_14 : decode b_M_sayDecimal 14 = .ok (.iload_n 1, 1) := by decide +kernel
theorem d_M_sayDecimal_15 : decode b_M_sayDecimal 15 = .ok (.i2l, 1) := by decide +kernel
theorem d_M_sayDecimal_16 : decode b_M_sayDecimal 16 = .ok (.lneg, 1) := by decide +kernel
theorem d_M_sayDecimal_17 : decode b_M_sayDecimal 17 = .ok (.goto 5, 3) := by decide +kernel
theorem d_M_sayDecimal_20 : decode b_M_sayDecimal 20 = .ok (.iload_n 1, 1) := by decide +kernel
theorem d_M_sayDecimal_21 : decode b_M_sayDecimal 21 = .ok (.i2l, 1) := by decide +kernel
theorem d_M_sayDecimal_22 : decode b_M_sayDecimal 22 = .ok (.lstore_n 2, 1) := by decide +kernel
theorem d_M_sayDecimal_23 : decode b_M_sayDecimal 23 = .ok (.lconst 1, 1) := by decide +kernel
theorem d_M_sayDecimal_24 : decode b_M_sayDecimal 24 = .ok (.lstore 4, 2) := by decide +kernel
theorem d_M_sayDecimal_26 : decode b_M_sayDecimal 26 = .ok (.lload_n 2, 1) := by decide +kernel
theorem d_M_sayDecimal_27 : decode b_M_sayDecimal 27 = .ok (.lload 4, 2) := by decide +kernel
theorem d_M_sayDecimal_29 : decode b_M_sayDecimal 29 = .ok (.ldiv, 1) := by decide +kernel
theorem d_M_sayDecimal_30 : decode b_M_sayDecimal 30 = .ok (.ldc2_w 392, 3) := by decide +kernel
theorem d_M_sayDecimal_33 : decode b_M_sayDecimal 33 = .ok (.lcmp, 1) := by decide +kernel
theorem d_M_sayDecimal_34 : decode b_M_sayDecimal 34 = .ok (.ifCond .le 14, 3) := by decide +kernel
theorem d_M_sayDecimal_37 : decode b_M_sayDecimal 37 = .ok (.ldc2_w 394, 3) := by decide +kernel
theorem d_M_sayDecimal_40 : decode b_M_sayDecimal 40 = .ok (.lload 4, 2) := by decide +kernel
theorem d_M_sayDecimal_42 : decode b_M_sayDecimal 42 = .ok (.lmul, 1) := by decide +kernel
theorem d_M_sayDecimal_43 : decode b_M_sayDecimal 43 = .ok (.lstore 4, 2) := by decide +kernel
theorem d_M_sayDecimal_45 : decode b_M_sayDecimal 45 = .ok (.goto (-19), 3) := by decide +kernel
theorem d_M_sayDecimal_48 : decode b_M_sayDecimal 48 = .ok (.lload 4, 2) := by decide +kernel
theorem d_M_sayDecimal_50 : decode b_M_sayDecimal 50 = .ok (.lconst 0, 1) := by decide +kernel
theorem d_M_sayDecimal_51 : decode b_M_sayDecimal 51 = .ok (.lcmp, 1) := by decide +kernel
theorem d_M_sayDecimal_52 : decode b_M_sayDecimal 52 = .ok (.ifCond .le 30, 3) := by decide +kernel
theorem d_M_sayDecimal_55 : decode b_M_sayDecimal 55 = .ok (.aload_n 0, 1) := by decide +kernel
theorem d_M_sayDecimal_56 : decode b_M_sayDecimal 56 = .ok (.bipush 48, 2) := by decide +kernel
theorem d_M_sayDecimal_58 : decode b_M_sayDecimal 58 = .ok (.lload_n 2, 1) := by decide +kernel
theorem d_M_sayDecimal_59 : decode b_M_sayDecimal 59 = .ok (.lload 4, 2) := by decide +kernel
theorem d_M_sayDecimal_61 : decode b_M_sayDecimal 61 = .ok (.ldiv, 1) := by decide +kernel
theorem d_M_sayDecimal_62 : decode b_M_sayDecimal 62 = .ok (.ldc2_w 394, 3) := by decide +kernel
theorem d_M_sayDecimal_65 : decode b_M_sayDecimal 65 = .ok (.lrem, 1) := by decide +kernel
theorem d_M_sayDecimal_66 : decode b_M_sayDecimal 66 = .ok (.l2i, 1) := by decide +kernel
theorem d_M_sayDecimal_67 : decode b_M_sayDecimal 67 = .ok (.iadd, 1) := by decide +kernel
theorem d_M_sayDecimal_68 : decode b_M_sayDecimal 68 = .ok (.invokevirtual 389, 3) := by decide +kernel
theorem d_M_sayDecimal_71 : decode b_M_sayDecimal 71 = .ok (.lload 4, 2) := by decide +kernel
theorem d_M_sayDecimal_73 : decode b_M_sayDecimal 73 = .ok (.ldc2_w 394, 3) := by decide +kernel
theorem d_M_sayDecimal_76 : decode b_M_sayDecimal 76 = .ok (.ldiv, 1) := by decide +kernel
theorem d_M_sayDecimal_77 : decode b_M_sayDecimal 77 = .ok (.lstore 4, 2) := by decide +kernel
theorem d_M_sayDecimal_79 : decode b_M_sayDecimal 79 = .ok (.goto (-31), 3) := by decide +kernel
theorem d_M_sayDecimal_82 : decode b_M_sayDecimal 82 = .ok (.return_, 1) := by decide +kernel
theorem d_M_number_0 : decode b_M_number 0 = .ok (.aload_n 0, 1) := by decide +kernel
theorem d_M_number_1 : decode b_M_number 1 = .ok (.invokevirtual 400, 3) := by decide +kernel
theorem d_M_number_4 : decode b_M_number 4 = .ok (.aload_n 0, 1) := by decide +kernel
theorem d_M_number_5 : decode b_M_number 5 = .ok (.aload_n 0, 1) := by decide +kernel
theorem d_M_number_6 : decode b_M_number 6 = .ok (.getfield 13, 3) := by decide +kernel
theorem d_M_number_9 : decode b_M_number 9 = .ok (.iconst 3, 1) := by decide +kernel
theorem d_M_number_10 : decode b_M_number 10 = .ok (.iaload, 1) := by decide +kernel
theorem d_M_number_11 : decode b_M_number 11 = .ok (.invokevirtual 411, 3) := by decide +kernel
theorem d_M_number_14 : decode b_M_number 14 = .ok (.return_, 1) := by decide +kernel
theorem d_M_place_0 : decode b_M_place 0 = .ok (.aload_n 0, 1) := by decide +kernel
theorem d_M_place_1 : decode b_M_place 1 = .ok (.invokevirtual 400, 3) := by decide +kernel
theorem d_M_place_4 : decode b_M_place 4 = .ok (.aload_n 0, 1) := by decide +kernel
theorem d_M_place_5 : decode b_M_place 5 = .ok (.iload_n 1, 1) := by decide +kernel
theorem d_M_place_6 : decode b_M_place 6 = .ok (.aload_n 0, 1) := by decide +kernel
theorem d_M_place_7 : decode b_M_place 7 = .ok (.getfield 13, 3) := by decide +kernel
theorem d_M_place_10 : decode b_M_place 10 = .ok (.iconst 3, 1) := by decide +kernel
theorem d_M_place_11 : decode b_M_place 11 = .ok (.iaload, 1) := by decide +kernel
theorem d_M_place_12 : decode b_M_place 12 = .ok (.iadd, 1) := by decide +kernel
theorem d_M_place_13 : decode b_M_place 13 = .ok (.invokevirtual 414, 3) := by decide +kernel
theorem d_M_place_16 : decode b_M_place 16 = .ok (.return_, 1) := by decide +kernel
theorem d_M_sayHexadecimal_0 : decode b_M_sayHexadecimal 0 = .ok (.aload_n 0, 1) := by decide +kernel
theorem d_M_sayHexadecimal_1 : decode b_M_sayHexadecimal 1 = .ok (.bipush 48, 2) := by decide +kernel
theorem d_M_sayHexadecimal_3 : decode b_M_sayHexadecimal 3 = .ok (.invokevirtual 389, 3) := by decide +kernel
theorem d_M_sayHexadecimal_6 : decode b_M_sayHexadecimal 6 = .ok (.aload_n 0, 1) := by decide +kernel
theorem d_M_sayHexadecimal_7 : decode b_M_sayHexadecimal 7 = .ok (.bipush 120, 2) := by decide +kernel
theorem d_M_sayHexadecimal_9 : decode b_M_sayHexadecimal 9 = .ok (.invokevirtual 389, 3) := by decide +kernel
theorem d_M_sayHexadecimal_12 : decode b_M_sayHexadecimal 12 = .ok (.iconst 0, 1) := by decide +kernel
theorem d_M_sayHexadecimal_13 : decode b_M_sayHexadecimal 13 = .ok (.istore_n 2, 1) := by decide +kernel
theorem d_M_sayHexadecimal_14 : decode b_M_sayHexadecimal 14 = .ok (.bipush 28, 2) := by decide +kernel
theorem d_M_sayHexadecimal_16 : decode b_M_sayHexadecimal 16 = .ok (.istore_n 3, 1) := by decide +kernel
theorem d_M_sayHexadecimal_17 : decode b_M_sayHexadecimal 17 = .ok (.iload_n 3, 1) := by decide +kernel
theorem d_M_sayHexadecimal_18 : decode b_M_sayHexadecimal 18 = .ok (.ifCond .lt 67, 3) := by decide +kernel
theorem d_M_sayHexadecimal_21 : decode b_M_sayHexadecimal 21 = .ok (.iload_n 1, 1) := by decide +kernel
theorem d_M_sayHexadecimal_22 : decode b_M_sayHexadecimal 22 = .ok (.iload_n 3, 1) := by decide +kernel
theorem d_M_sayHexadecimal_23 : decode b_M_sayHexadecimal 23 = .ok (.iushr, 1) := by decide +kernel
theorem d_M_sayHexadecimal_24 : decode b_M_sayHexadecimal 24 = .ok (.bipush 15, 2) := by decide +kernel
theorem d_M_sayHexadecimal_26 : decode b_M_sayHexadecimal 26 = .ok (.iand, 1) := by decide +kernel
theorem d_M_sayHexadecimal_27 : decode b_M_sayHexadecimal 27 = .ok (.istore 4, 2) := by decide +kernel
theorem d_M_sayHexadecimal_29 : decode b_M_sayHexadecimal 29 = .ok (.iload_n 2, 1) := by decide +kernel
theorem d_M_sayHexadecimal_30 : decode b_M_sayHexadecimal 30 = .ok (.ifCond .ne 12, 3) := by decide +kernel
theorem d_M_sayHexadecimal_33 : decode b_M_sayHexadecimal 33 = .ok (.iload 4, 2) := by decide +kernel
theorem d_M_sayHexadecimal_35 : decode b_M_sayHexadecimal 35 = .ok (.ifCond .gt 7, 3) := by decide +kernel
theorem d_M_sayHexadecimal_38 : decode b_M_sayHexadecimal 38 = .ok (.iload_n 3, 1) := by decide +kernel
theorem d_M_sayHexadecimal_39 : decode b_M_sayHexadecimal 39 = .ok (.ifCond .ne 7, 3) := by decide +kernel
theorem d_M_sayHexadecimal_42 : decode b_M_sayHexadecimal 42 = .ok (.iconst 1, 1) := by decide +kernel
theorem d_M_sayHexadecimal_43 : decode b_M_sayHexadecimal 43 = .ok (.goto 4, 3) := by decide +kernel
theorem d_M_sayHexadecimal_46 : decode b_M_sayHexadecimal 46 = .ok (.iconst 0, 1) := by decide +kernel
theorem d_M_sayHexadecimal_47 : decode b_M_sayHexadecimal 47 = .ok (.istore_n 2, 1) := by decide +kernel
theorem d_M_sayHexadecimal_48 : decode b_M_sayHexadecimal 48 = .ok (.iload_n 2, 1) := by decide +kernel
theorem d_M_sayHexadecimal_49 : decode b_M_sayHexadecimal 49 = .ok (.ifCond .eq 30, 3) := by decide +kernel
theorem d_M_sayHexadecimal_52 : decode b_M_sayHexadecimal 52 = .ok (.aload_n 0, 1) := by decide +kernel
theorem d_M_sayHexadecimal_53 : decode b_M_sayHexadecimal 53 = .ok (.iload 4, 2) := by decide +kernel
theorem d_M_sayHexadecimal_55 : decode b_M_sayHexadecimal 55 = .ok (.bipush 10, 2) := by decide +kernel
theorem d_M_sayHexadecimal_57 : decode b_M_sayHexadecimal 57 = .ok (.if_icmp .ge 11, 3) := by decide +kernel
theorem d_M_sayHexadecimal_60 : decode b_M_sayHexadecimal 60 = .ok (.bipush 48, 2) := by decide +kernel
theorem d_M_sayHexadecimal_62 : decode b_M_sayHexadecimal 62 = .ok (.iload 4, 2) := by decide +kernel
theorem d_M_sayHexadecimal_64 : decode b_M_sayHexadecimal 64 = .ok (.iadd, 1) := by decide +kernel
theorem d_M_sayHexadecimal_65 : decode b_M_sayHexadecimal 65 = .ok (.goto 11, 3) := by decide +kernel
theorem d_M_sayHexadecimal_68 : decode b_M_sayHexadecimal 68 = .ok (.bipush 97, 2) := by decide +kernel
theorem d_M_sayHexadecimal_70 : decode b_M_sayHexadecimal 70 = .ok (.iload 4, 2) := by decide +kernel
theorem d_M_sayHexadecimal_72 : decode b_M_sayHexadecimal 72 = .ok (.iadd, 1) := by decide +kernel
theorem d_M_sayHexadecimal_73 : decode b_M_sayHexadecimal 73 = .ok (.bipush 10, 2) := by decide +kernel
theorem d_M_sayHexadecimal_75 : decode b_M_sayHexadecimal 75 = .ok (.isub, 1) := by decide +kernel
theorem d_M_sayHexadecimal_76 : decode b_M_sayHexadecimal 76 = .ok (.invokevirtual 389, 3) := by decide +kernel
theorem d_M_sayHexadecimal_79 : decode b_M_sayHexadecimal 79 = .ok (.iinc 3 (-4), 3) := by decide +kernel
theorem d_M_sayHexadecimal_82 : decode b_M_sayHexadecimal 82 = .ok (.goto (-65), 3) := by decide +kernel
theorem d_M_sayHexadecimal_85 : decode b_M_sayHexadecimal 85 = .ok (.return_, 1) := by decide +kernel
theorem d_M_letter_0 : decode b_M_letter 0 = .ok (.aload_n 0, 1) := by decide +kernel
theorem d_M_letter_1 : decode b_M_letter 1 = .ok (.iconst 0, 1) := by decide +kernel
theorem d_M_letter_2 : decode b_M_letter 2 = .ok (.putfield 26, 3) := by decide +kernel
theorem d_M_letter_5 : decode b_M_letter 5 = .ok (.iload_n 1, 1) := by decide +kernel
theorem d_M_letter_6 : decode b_M_letter 6 = .ok (.ifCond .lt 20, 3) := by decide +kernel
theorem d_M_letter_9 : decode b_M_letter 9 = .ok (.iload_n 1, 1) := by decide +kernel
theorem d_M_letter_10 : decode b_M_letter 10 = .ok (.aload_n 0, 1) := by decide +kernel
theorem d_M_letter_11 : decode b_M_letter 11 = .ok (.getfield 382, 3) := by decide +kernel
theorem d_M_letter_14 : decode b_M_letter 14 = .ok (.if_icmp .ge 12, 3) := by decide +kernel
theorem d_M_letter_17 : decode b_M_letter 17 = .ok (.aload_n 0, 1) := by decide +kernel
theorem d_M_letter_18 : decode b_M_letter 18 = .ok (.getfield 16, 3) := by decide +kernel
theorem d_M_letter_21 : decode b_M_letter 21 = .ok (.iload_n 1, 1) := by decide +kernel
theorem d_M_letter_22 : decode b_M_letter 22 = .ok (.iaload, 1) := by decide +kernel
theorem d_M_letter_23 : decode b_M_letter 23 = .ok (.goto 4, 3) := by decide +kernel
theorem d_M_letter_26 : decode b_M_letter 26 = .ok (.iconst (-1), 1) := by decide +kernel
theorem d_M_letter_27 : decode b_M_letter 27 = .ok (.ireturn, 1) := by decide +kernel
theorem d_M_named_0 : decode b_M_named 0 = .ok (.aload_n 0, 1) := by decide +kernel
theorem d_M_named_1 : decode b_M_named 1 = .ok (.iconst 0, 1) := by decide +kernel
theorem d_M_named_2 : decode b_M_named 2 = .ok (.putfield 26, 3) := by decide +kernel
theorem d_M_named_5 : decode b_M_named 5 = .ok (.lconst 0, 1) := by decide +kernel
theorem d_M_named_6 : decode b_M_named 6 = .ok (.lstore 5, 2) := by decide +kernel
theorem d_M_named_8 : decode b_M_named 8 = .ok (.iconst 0, 1) := by decide +kernel
theorem d_M_named_9 : decode b_M_named 9 = .ok (.istore 7, 2) := by decide +kernel
theorem d_M_named_11 : decode b_M_named 11 = .ok (.iconst 0, 1) := by decide +kernel
theorem d_M_named_12 : decode b_M_named 12 = .ok (.istore 8, 2) := by decide +kernel
theorem d_M_named_14 : decode b_M_named 14 = .ok (.iload 8, 2) := by decide +kernel
theorem d_M_named_16 : decode b_M_named 16 = .ok (.bipush 16, 2) := by decide +kernel
theorem d_M_named_18 : decode b_M_named 18 = .ok (.if_icmp .ge 83, 3) := by decide +kernel
theorem d_M_named_21 : decode b_M_named 21 = .ok (.iload 8, 2) := by decide +kernel
theorem d_M_named_23 : decode b_M_named 23 = .ok (.bipush 8, 2) := by decide +kernel
theorem d_M_named_25 : decode b_M_named 25 = .ok (.if_icmp .ge 7, 3) := by decide +kernel
theorem d_M_named_28 : decode b_M_named 28 = .ok (.lload_n 1, 1) := by decide +kernel
theorem d_M_named_29 : decode b_M_named 29 = .ok (.goto 4, 3) := by decide +kernel
theorem d_M_named_32 : decode b_M_named 32 = .ok (.lload_n 3, 1) := by decide +kernel
theorem d_M_named_33 : decode b_M_named 33 = .ok (.bipush 56, 2) := by decide +kernel
theorem d_M_named_35 : decode b_M_named 35 = .ok (.bipush 8, 2) := by decide +kernel
theorem d_M_named_37 : decode b_M_named 37 = .ok (.iload 8, 2) := by decide +kernel
theorem d_M_named_39 : decode b_M_named 39 = .ok (.bipush 8, 2) := by decide +kernel
theorem d_M_named_41 : decode b_M_named 41 = .ok (.irem, 1) := by decide +kernel
theorem d_M_named_42 : decode b_M_named 42 = .ok (.imul, 1) := by decide +kernel
theorem d_M_named_43 : decode b_M_named 43 = .ok (.isub, 1) := by decide +kernel
theorem d_M_named_44 : decode b_M_named 44 = .ok (.lshr, 1) := by decide +kernel
theorem d_M_named_45 : decode b_M_named 45 = .ok (.ldc2_w 443, 3) := by decide +kernel
theorem d_M_named_48 : decode b_M_named 48 = .ok (.land, 1) := by decide +kernel
theorem d_M_named_49 : decode b_M_named 49 = .ok (.l2i, 1) := by decide +kernel
theorem d_M_named_50 : decode b_M_named 50 = .ok (.istore 9, 2) := by decide +kernel
theorem d_M_named_52 : decode b_M_named 52 = .ok (.iload 9, 2) := by decide +kernel
theorem d_M_named_54 : decode b_M_named 54 = .ok (.ifCond .ne 6, 3) := by decide +kernel
theorem d_M_named_57 : decode b_M_named 57 = .ok (.goto 38, 3) := by decide +kernel
theorem d_M_named_60 : decode b_M_named 60 = .ok (.iload 9, 2) := by decide +kernel
theorem d_M_named_62 : decode b_M_named 62 = .ok (.invokestatic 445, 3) := by decide +kernel
theorem d_M_named_65 : decode b_M_named 65 = .ok (.ifCond .eq 10, 3) := by decide +kernel
theorem d_M_named_68 : decode b_M_named 68 = .ok (.iload 7, 2) := by decide +kernel
theorem d_M_named_70 : decode b_M_named 70 = .ok (.bipush 11, 2) := by decide +kernel
theorem d_M_named_72 : decode b_M_named 72 = .ok (.if_icmp .ne 5, 3) := by decide +kernel
theorem d_M_named_75 : decode b_M_named 75 = .ok (.iconst (-1), 1) := by decide +kernel
theorem d_M_named_76 : decode b_M_named 76 = .ok (.ireturn, 1) := by decide +kernel
theorem d_M_named_77 : decode b_M_named 77 = .ok (.ldc2_w 380, 3) := by decide +kernel
theorem d_M_named_80 : decode b_M_named 80 = .ok (.lload 5, 2) := by decide +kernel
theorem d_M_named_82 : decode b_M_named 82 = .ok (.lmul, 1) := by decide +kernel
theorem d_M_named_83 : decode b_M_named 83 = .ok (.iload 9, 2) := by decide +kernel
theorem d_M_named_85 : decode b_M_named 85 = .ok (.invokestatic 445, 3) := by decide +kernel
theorem d_M_named_88 : decode b_M_named 88 = .ok (.i2l, 1) := by decide +kernel
theorem d_M_named_89 : decode b_M_named 89 = .ok (.ladd, 1) := by decide +kernel
theorem d_M_named_90 : decode b_M_named 90 = .ok (.lstore 5, 2) := by decide +kernel
theorem d_M_named_92 : decode b_M_named 92 = .ok (.iinc 7 1, 3) := by decide +kernel
theorem d_M_named_95 : decode b_M_named 95 = .ok (.iinc 8 1, 3) := by decide +kernel
theorem d_M_named_98 : decode b_M_named 98 = .ok (.goto (-84), 3) := by decide +kernel
theorem d_M_named_101 : decode b_M_named 101 = .ok (.iconst 0, 1) := by decide +kernel
theorem d_M_named_102 : decode b_M_named 102 = .ok (.istore 8, 2) := by decide +kernel
theorem d_M_named_104 : decode b_M_named 104 = .ok (.iload 8, 2) := by decide +kernel
theorem d_M_named_106 : decode b_M_named 106 = .ok (.bipush 75, 2) := by decide +kernel
theorem d_M_named_108 : decode b_M_named 108 = .ok (.if_icmp .ge 23, 3) := by decide +kernel
theorem d_M_named_111 : decode b_M_named 111 = .ok (.iload 8, 2) := by decide +kernel
theorem d_M_named_113 : decode b_M_named 113 = .ok (.invokestatic 429, 3) := by decide +kernel
theorem d_M_named_116 : decode b_M_named 116 = .ok (.lload 5, 2) := by decide +kernel
theorem d_M_named_118 : decode b_M_named 118 = .ok (.lcmp, 1) := by decide +kernel
theorem d_M_named_119 : decode b_M_named 119 = .ok (.ifCond .ne 6, 3) := by decide +kernel
theorem d_M_named_122 : decode b_M_named 122 = .ok (.iload 8, 2) := by decide +kernel
theorem d_M_named_124 : decode b_M_named 124 = .ok (.ireturn, 1) := by decide +kernel
theorem d_M_named_125 : decode b_M_named 125 = .ok (.iinc 8 1, 3) := by decide +kernel
theorem d_M_named_128 : decode b_M_named 128 = .ok (.goto (-24), 3) := by decide +kernel
theorem d_M_named_131 : decode b_M_named 131 = .ok (.iconst (-1), 1) := by decide +kernel
theorem d_M_named_132 : decode b_M_named 132 = .ok (.ireturn, 1) := by decide +kernel
theorem d_M_codeOf_0 : decode b_M_codeOf 0 = .ok (.iload_n 0, 1) := by decide +kernel
theorem d_M_codeOf_1 : decode b_M_codeOf 1 = .ok (.bipush 46, 2) := by decide +kernel
theorem d_M_codeOf_3 : decode b_M_codeOf 3 = .ok (.if_icmp .ne 6, 3) := by decide +kernel
theorem d_M_codeOf_6 : decode b_M_codeOf 6 = .ok (.bipush 37, 2) := by decide +kernel
theorem d_M_codeOf_8 : decode b_M_codeOf 8 = .ok (.ireturn, 1) := by decide +kernel
theorem d_M_codeOf_9 : decode b_M_codeOf 9 = .ok (.iload_n 0, 1) := by decide +kernel
theorem d_M_codeOf_10 : decode b_M_codeOf 10 = .ok (.bipush 97, 2) := by decide +kernel
theorem d_M_codeOf_12 : decode b_M_codeOf 12 = .ok (.if_icmp .lt 16, 3) := by decide +kernel
theorem d_M_codeOf_15 : decode b_M_codeOf 15 = .ok (.iload_n 0, 1) := by decide +kernel
theorem d_M_codeOf_16 : decode b_M_codeOf 16 = .ok (.bipush 122, 2) := by decide +kernel
theorem d_M_codeOf_18 : decode b_M_codeOf 18 = .ok (.if_icmp .gt 10, 3) := by decide +kernel
theorem d_M_codeOf_21 : decode b_M_codeOf 21 = .ok (.iload_n 0, 1) := by decide +kernel
theorem d_M_codeOf_22 : decode b_M_codeOf 22 = .ok (.bipush 97, 2) := by decide +kernel
theorem d_M_codeOf_24 : decode b_M_codeOf 24 = .ok (.isub, 1) := by decide +kernel
theorem d_M_codeOf_25 : decode b_M_codeOf 25 = .ok (.iconst 1, 1) := by decide +kernel
theorem d_M_codeOf_26 : decode b_M_codeOf 26 = .ok (.iadd, 1) := by decide +kernel
theorem d_M_codeOf_27 : decode b_M_codeOf 27 = .ok (.ireturn, 1) := by decide +kernel
theorem d_M_codeOf_28 : decode b_M_codeOf 28 = .ok (.iload_n 0, 1) := by decide +kernel
theorem d_M_codeOf_29 : decode b_M_codeOf 29 = .ok (.bipush 48, 2) := by decide +kernel
theorem d_M_codeOf_31 : decode b_M_codeOf 31 = .ok (.if_icmp .lt 19, 3) := by decide +kernel
theorem d_M_codeOf_34 : decode b_M_codeOf 34 = .ok (.iload_n 0, 1) := by decide +kernel
theorem d_M_codeOf_35 : decode b_M_codeOf 35 = .ok (.bipush 57, 2) := by decide +kernel
theorem d_M_codeOf_37 : decode b_M_codeOf 37 = .ok (.if_icmp .gt 13, 3) := by decide +kernel
theorem d_M_codeOf_40 : decode b_M_codeOf 40 = .ok (.iload_n 0, 1) := by decide +kernel
theorem d_M_codeOf_41 : decode b_M_codeOf 41 = .ok (.bipush 48, 2) := by decide +kernel
theorem d_M_codeOf_43 : decode b_M_codeOf 43 = .ok (.isub, 1) := by decide +kernel
theorem d_M_codeOf_44 : decode b_M_codeOf 44 = .ok (.bipush 27, 2) := by decide +kernel
theorem d_M_codeOf_46 : decode b_M_codeOf 46 = .ok (.iadd, 1) := by decide +kernel
theorem d_M_codeOf_47 : decode b_M_codeOf 47 = .ok (.goto 4, 3) := by decide +kernel
theorem d_M_codeOf_50 : decode b_M_codeOf 50 = .ok (.iconst 0, 1) := by decide +kernel
theorem d_M_codeOf_51 : decode b_M_codeOf 51 = .ok (.ireturn, 1) := by decide +kernel
theorem d_M_about_0 : decode b_M_about 0 = .ok (.aload_n 0, 1) := by decide +kernel
theorem d_M_about_1 : decode b_M_about 1 = .ok (.iconst 0, 1) := by decide +kernel
theorem d_M_about_2 : decode b_M_about 2 = .ok (.putfield 26, 3) := by decide +kernel
theorem d_M_about_5 : decode b_M_about 5 = .ok (.iload_n 1, 1) := by decide +kernel
theorem d_M_about_6 : decode b_M_about 6 = .ok (.invokestatic 148, 3) := by decide +kernel
theorem d_M_about_9 : decode b_M_about 9 = .ok (.ifCond .ne 5, 3) := by decide +kernel
theorem d_M_about_12 : decode b_M_about 12 = .ok (.iconst (-1), 1) := by decide +kernel
theorem d_M_about_13 : decode b_M_about 13 = .ok (.ireturn, 1) := by decide +kernel
theorem d_M_about_14 : decode b_M_about 14 = .ok (.iconst 0, 1) := by decide +kernel
theorem d_M_about_15 : decode b_M_about 15 = .ok (.istore_n 3, 1) := by decide +kernel
theorem d_M_about_16 : decode b_M_about 16 = .ok (.iconst 0, 1) := by decide +kernel
theorem d_M_about_17 : decode b_M_about 17 = .ok (.istore 4, 2) := by decide +kernel
theorem d_M_about_19 : decode b_M_about 19 = .ok (.iload 4, 2) := by decide +kernel
theorem d_M_about_21 : decode b_M_about 21 = .ok (.iconst 4, 1) := by decide +kernel
theorem d_M_about_22 : decode b_M_about 22 = .ok (.if_icmp .ge 30, 3) := by decide +kernel
theorem d_M_about_25 : decode b_M_about 25 = .ok (.iload_n 3, 1) := by decide +kernel
theorem d_M_about_26 : decode b_M_about 26 = .ok (.aload_n 0, 1) := by decide +kernel
theorem d_M_about_27 : decode b_M_about 27 = .ok (.iload_n 1, 1) := by decide +kernel
theorem d_M_about_28 : decode b_M_about 28 = .ok (.iload 4, 2) := by decide +kernel
theorem d_M_about_30 : decode b_M_about 30 = .ok (.invokevirtual 124, 3) := by decide +kernel
theorem d_M_about_33 : decode b_M_about 33 = .ok (.ifCond .eq 10, 3) := by decide +kernel
theorem d_M_about_36 : decode b_M_about 36 = .ok (.iconst 1, 1) := by decide +kernel
theorem d_M_about_37 : decode b_M_about 37 = .ok (.iload 4, 2) := by decide +kernel
theorem d_M_about_39 : decode b_M_about 39 = .ok (.ishl, 1) := by decide +kernel
theorem d_M_about_40 : decode b_M_about 40 = .ok (.goto 4, 3) := by decide +kernel
theorem d_M_about_43 : decode b_M_about 43 = .ok (.iconst 0, 1) := by decide +kernel
theorem d_M_about_44 : decode b_M_about 44 = .ok (.iadd, 1) := by decide +kernel
theorem d_M_about_45 : decode b_M_about 45 = .ok (.istore_n 3, 1) := by decide +kernel
theorem d_M_about_46 : decode b_M_about 46 = .ok (.iinc 4 1, 3) := by decide +kernel
theorem d_M_about_49 : decode b_M_about 49 = .ok (.goto (-30), 3) := by decide +kernel
theorem d_M_about_52 : decode b_M_about 52 = .ok (.iload_n 2, 1) := by decide +kernel
theorem d_M_about_53 : decode b_M_about 53 = .ok (.tableswitch 58 0 3 #[31, 36, 38, 50], 31) := by decide +kernel
theorem d_M_about_84 : decode b_M_about 84 = .ok (.iload_n 1, 1) := by decide +kernel
theorem d_M_about_85 : decode b_M_about 85 = .ok (.invokestatic 432, 3) := by decide +kernel
theorem d_M_about_88 : decode b_M_about 88 = .ok (.ireturn, 1) := by decide +kernel
theorem d_M_about_89 : decode b_M_about 89 = .ok (.iload_n 3, 1) := by decide +kernel
theorem d_M_about_90 : decode b_M_about 90 = .ok (.ireturn, 1) := by decide +kernel
theorem d_M_about_91 : decode b_M_about 91 = .ok (.iload_n 1, 1) := by decide +kernel
theorem d_M_about_92 : decode b_M_about 92 = .ok (.bipush 48, 2) := by decide +kernel
theorem d_M_about_94 : decode b_M_about 94 = .ok (.if_icmp .ge 7, 3) := by decide +kernel
theorem d_M_about_97 : decode b_M_about 97 = .ok (.iconst 4, 1) := by decide +kernel
theorem d_M_about_98 : decode b_M_about 98 = .ok (.goto 4, 3) := by decide +kernel
theorem d_M_about_101 : decode b_M_about 101 = .ok (.iconst 2, 1) := by decide +kernel
theorem d_M_about_102 : decode b_M_about 102 = .ok (.ireturn, 1) := by decide +kernel
theorem d_M_about_103 : decode b_M_about 103 = .ok (.iload_n 1, 1) := by decide +kernel
theorem d_M_about_104 : decode b_M_about 104 = .ok (.invokestatic 429, 3) := by decide +kernel
theorem d_M_about_107 : decode b_M_about 107 = .ok (.invokestatic 385, 3) := by decide +kernel
theorem d_M_about_110 : decode b_M_about 110 = .ok (.ireturn, 1) := by decide +kernel
theorem d_M_about_111 : decode b_M_about 111 = .ok (.iconst (-1), 1) := by decide +kernel
theorem d_M_about_112 : decode b_M_about 112 = .ok (.ireturn, 1) := by decide +kernel
