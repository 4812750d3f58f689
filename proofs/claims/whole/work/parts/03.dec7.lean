theorem dX9_draw_166 : decode cX9_draw 166 = .ok (.aload_n 0, 1) := by decide +kernel
theorem dX9_draw_167 : decode cX9_draw 167 = .ok (.getfield 111, 3) := by decide +kernel
theorem dX9_draw_170 : decode cX9_draw 170 = .ok (.iload 5, 2) := by decide +kernel
theorem dX9_draw_172 : decode cX9_draw 172 = .ok (.iaload, 1) := by decide +kernel
theorem dX9_draw_173 : decode cX9_draw 173 = .ok (.iastore, 1) := by decide +kernel
theorem dX9_draw_174 : decode cX9_draw 174 = .ok (.aload_n 0, 1) := by decide +kernel
theorem dX9_draw_175 : decode cX9_draw 175 = .ok (.getfield 72, 3) := by decide +kernel
theorem dX9_draw_178 : decode cX9_draw 178 = .ok (.iload 4, 2) := by decide +kernel
theorem dX9_draw_180 : decode cX9_draw 180 = .ok (.iload 5, 2) := by decide +kernel
theorem dX9_draw_182 : decode cX9_draw 182 = .ok (.iconst (-1), 1) := by decide +kernel
theorem dX9_draw_183 : decode cX9_draw 183 = .ok (.if_icmp .ne 7, 3) := by decide +kernel
theorem dX9_draw_186 : decode cX9_draw 186 = .ok (.iconst 0, 1) := by decide +kernel
theorem dX9_draw_187 : decode cX9_draw 187 = .ok (.goto 10, 3) := by decide +kernel
theorem dX9_draw_190 : decode cX9_draw 190 = .ok (.aload_n 0, 1) := by decide +kernel
theorem dX9_draw_191 : decode cX9_draw 191 = .ok (.getfield 105, 3) := by decide +kernel
theorem dX9_draw_194 : decode cX9_draw 194 = .ok (.iload 5, 2) := by decide +kernel
theorem dX9_draw_196 : decode cX9_draw 196 = .ok (.iaload, 1) := by decide +kernel
theorem dX9_draw_197 : decode cX9_draw 197 = .ok (.iastore, 1) := by decide +kernel
theorem dX9_draw_198 : decode cX9_draw 198 = .ok (.iinc 4 1, 3) := by decide +kernel
theorem dX9_draw_201 : decode cX9_draw 201 = .ok (.goto (-93), 3) := by decide +kernel
theorem dX9_draw_204 : decode cX9_draw 204 = .ok (.aload_n 0, 1) := by decide +kernel
theorem dX9_draw_205 : decode cX9_draw 205 = .ok (.getfield 285, 3) := by decide +kernel
theorem dX9_draw_208 : decode cX9_draw 208 = .ok (.ireturn, 1) := by decide +kernel
theorem dX9_hedge_0 : decode cX9_hedge 0 = .ok (.aload_n 0, 1) := by decide +kernel
theorem dX9_hedge_1 : decode cX9_hedge 1 = .ok (.iconst 0, 1) := by decide +kernel
theorem dX9_hedge_2 : decode cX9_hedge 2 = .ok (.putfield 133, 3) := by decide +kernel
theorem dX9_hedge_5 : decode cX9_hedge 5 = .ok (.aload_n 0, 1) := by decide +kernel
theorem dX9_hedge_6 : decode cX9_hedge 6 = .ok (.iload_n 1, 1) := by decide +kernel
theorem dX9_hedge_7 : decode cX9_hedge 7 = .ok (.invokevirtual 182, 3) := by decide +kernel
theorem dX9_hedge_10 : decode cX9_hedge 10 = .ok (.ifCond .eq 14, 3) := by decide +kernel
theorem dX9_hedge_13 : decode cX9_hedge 13 = .ok (.iload_n 2, 1) := by decide +kernel
theorem dX9_hedge_14 : decode cX9_hedge 14 = .ok (.iconst (-1), 1) := by decide +kernel
theorem dX9_hedge_15 : decode cX9_hedge 15 = .ok (.sipush 999, 3) := by decide +kernel
theorem dX9_hedge_18 : decode cX9_hedge 18 = .ok (.invokestatic 152, 3) := by decide +kernel
theorem dX9_hedge_21 : decode cX9_hedge 21 = .ok (.ifCond .ne 6, 3) := by decide +kernel
theorem dX9_hedge_24 : decode cX9_hedge 24 = .ok (.bipush (-3), 2) := by decide +kernel
theorem dX9_hedge_26 : decode cX9_hedge 26 = .ok (.ireturn, 1) := by decide +kernel
theorem dX9_hedge_27 : decode cX9_hedge 27 = .ok (.aload_n 0, 1) := by decide +kernel
theorem dX9_hedge_28 : decode cX9_hedge 28 = .ok (.getfield 81, 3) := by decide +kernel
theorem dX9_hedge_31 : decode cX9_hedge 31 = .ok (.iload_n 1, 1) := by decide +kernel
theorem dX9_hedge_32 : decode cX9_hedge 32 = .ok (.iaload, 1) := by decide +kernel
theorem dX9_hedge_33 : decode cX9_hedge 33 = .ok (.istore_n 3, 1) := by decide +kernel
theorem dX9_hedge_34 : decode cX9_hedge 34 = .ok (.aload_n 0, 1) := by decide +kernel
theorem dX9_hedge_35 : decode cX9_hedge 35 = .ok (.getfield 81, 3) := by decide +kernel
theorem dX9_hedge_38 : decode cX9_hedge 38 = .ok (.iload_n 1, 1) := by decide +kernel
theorem dX9_hedge_39 : decode cX9_hedge 39 = .ok (.iload_n 2, 1) := by decide +kernel
theorem dX9_hedge_40 : decode cX9_hedge 40 = .ok (.iastore, 1) := by decide +kernel
theorem dX9_hedge_41 : decode cX9_hedge 41 = .ok (.iload_n 3, 1) := by decide +kernel
theorem dX9_hedge_42 : decode cX9_hedge 42 = .ok (.ireturn, 1) := by decide +kernel
theorem dX9_fine_0 : decode cX9_fine 0 = .ok (.aload_n 0, 1) := by decide +kernel
theorem dX9_fine_1 : decode cX9_fine 1 = .ok (.iconst 0, 1) := by decide +kernel
theorem dX9_fine_2 : decode cX9_fine 2 = .ok (.putfield 133, 3) := by decide +kernel
theorem dX9_fine_5 : decode cX9_fine 5 = .ok (.aload_n 0, 1) := by decide +kernel
theorem dX9_fine_6 : decode cX9_fine 6 = .ok (.iload_n 1, 1) := by decide +kernel
theorem dX9_fine_7 : decode cX9_fine 7 = .ok (.invokevirtual 182, 3) := by decide +kernel
theorem dX9_fine_10 : decode cX9_fine 10 = .ok (.ifCond .eq 10, 3) := by decide +kernel
theorem dX9_fine_13 : decode cX9_fine 13 = .ok (.iload_n 2, 1) := by decide +kernel
theorem dX9_fine_14 : decode cX9_fine 14 = .ok (.invokestatic 185, 3) := by decide +kernel
theorem dX9_fine_17 : decode cX9_fine 17 = .ok (.ifCond .ne 6, 3) := by decide +kernel
theorem dX9_fine_20 : decode cX9_fine 20 = .ok (.bipush (-3), 2) := by decide +kernel
theorem dX9_fine_22 : decode cX9_fine 22 = .ok (.ireturn, 1) := by decide +kernel
theorem dX9_fine_23 : decode cX9_fine 23 = .ok (.aload_n 0, 1) := by decide +kernel
theorem dX9_fine_24 : decode cX9_fine 24 = .ok (.getfield 75, 3) := by decide +kernel
theorem dX9_fine_27 : decode cX9_fine 27 = .ok (.iload_n 1, 1) := by decide +kernel
theorem dX9_fine_28 : decode cX9_fine 28 = .ok (.iaload, 1) := by decide +kernel
theorem dX9_fine_29 : decode cX9_fine 29 = .ok (.ifCond .ne 5, 3) := by decide +kernel
theorem dX9_fine_32 : decode cX9_fine 32 = .ok (.iconst 0, 1) := by decide +kernel
theorem dX9_fine_33 : decode cX9_fine 33 = .ok (.ireturn, 1) := by decide +kernel
theorem dX9_fine_34 : decode cX9_fine 34 = .ok (.aload_n 0, 1) := by decide +kernel
theorem dX9_fine_35 : decode cX9_fine 35 = .ok (.getfield 81, 3) := by decide +kernel
theorem dX9_fine_38 : decode cX9_fine 38 = .ok (.iload_n 1, 1) := by decide +kernel
theorem dX9_fine_39 : decode cX9_fine 39 = .ok (.iaload, 1) := by decide +kernel
theorem dX9_fine_40 : decode cX9_fine 40 = .ok (.iconst (-1), 1) := by decide +kernel
theorem dX9_fine_41 : decode cX9_fine 41 = .ok (.if_icmp .eq 13, 3) := by decide +kernel
theorem dX9_fine_44 : decode cX9_fine 44 = .ok (.iload_n 2, 1) := by decide +kernel
theorem dX9_fine_45 : decode cX9_fine 45 = .ok (.aload_n 0, 1) := by decide +kernel
theorem dX9_fine_46 : decode cX9_fine 46 = .ok (.getfield 81, 3) := by decide +kernel
theorem dX9_fine_49 : decode cX9_fine 49 = .ok (.iload_n 1, 1) := by decide +kernel
theorem dX9_fine_50 : decode cX9_fine 50 = .ok (.iaload, 1) := by decide +kernel
theorem dX9_fine_51 : decode cX9_fine 51 = .ok (.if_icmp .ge 7, 3) := by decide +kernel
theorem dX9_fine_54 : decode cX9_fine 54 = .ok (.iload_n 2, 1) := by decide +kernel
theorem dX9_fine_55 : decode cX9_fine 55 = .ok (.goto 9, 3) := by decide +kernel
theorem dX9_fine_58 : decode cX9_fine 58 = .ok (.aload_n 0, 1) := by decide +kernel
theorem dX9_fine_59 : decode cX9_fine 59 = .ok (.getfield 81, 3) := by decide +kernel
theorem dX9_fine_62 : decode cX9_fine 62 = .ok (.iload_n 1, 1) := by decide +kernel
theorem dX9_fine_63 : decode cX9_fine 63 = .ok (.iaload, 1) := by decide +kernel
theorem dX9_fine_64 : decode cX9_fine 64 = .ok (.istore_n 3, 1) := by decide +kernel
theorem dX9_fine_65 : decode cX9_fine 65 = .ok (.iload_n 3, 1) := by decide +kernel
theorem dX9_fine_66 : decode cX9_fine 66 = .ok (.aload_n 0, 1) := by decide +kernel
theorem dX9_fine_67 : decode cX9_fine 67 = .ok (.getfield 66, 3) := by decide +kernel
theorem dX9_fine_70 : decode cX9_fine 70 = .ok (.if_icmp .le 18, 3) := by decide +kernel
theorem dX9_fine_73 : decode cX9_fine 73 = .ok (.aload_n 0, 1) := by decide +kernel
theorem dX9_fine_74 : decode cX9_fine 74 = .ok (.iload_n 1, 1) := by decide +kernel
theorem dX9_fine_75 : decode cX9_fine 75 = .ok (.invokevirtual 268, 3) := by decide +kernel
theorem dX9_fine_78 : decode cX9_fine 78 = .ok (.iload_n 3, 1) := by decide +kernel
theorem dX9_fine_79 : decode cX9_fine 79 = .ok (.aload_n 0, 1) := by decide +kernel
theorem dX9_fine_80 : decode cX9_fine 80 = .ok (.getfield 66, 3) := by decide +kernel
theorem dX9_fine_83 : decode cX9_fine 83 = .ok (.isub, 1) := by decide +kernel
theorem dX9_fine_84 : decode cX9_fine 84 = .ok (.imul, 1) := by decide +kernel
theorem dX9_fine_85 : decode cX9_fine 85 = .ok (.goto 4, 3) := by decide +kernel
theorem dX9_fine_88 : decode cX9_fine 88 = .ok (.iconst 0, 1) := by decide +kernel
theorem dX9_fine_89 : decode cX9_fine 89 = .ok (.ireturn, 1) := by decide +kernel
theorem dX9_count_0 : decode cX9_count 0 = .ok (.aload_n 0, 1) := by decide +kernel
theorem dX9_count_1 : decode cX9_count 1 = .ok (.iconst 0, 1) := by decide +kernel
theorem dX9_count_2 : decode cX9_count 2 = .ok (.putfield 133, 3) := by decide +kernel
theorem dX9_count_5 : decode cX9_count 5 = .ok (.iconst 0, 1) := by decide +kernel
theorem dX9_count_6 : decode cX9_count 6 = .ok (.istore_n 2, 1) := by decide +kernel
theorem dX9_count_7 : decode cX9_count 7 = .ok (.iload_n 1, 1) := by decide +kernel
theorem dX9_count_8 : decode cX9_count 8 = .ok (.tableswitch 200 0 6 #[44, 49, 54, 93, 98, 133, 168], 44) := by decide +kernel
theorem dX9_count_52 : decode cX9_count 52 = .ok (.aload_n 0, 1) := by decide +kernel
theorem dX9_count_53 : decode cX9_count 53 = .ok (.getfield 139, 3) := by decide +kernel
theorem dX9_count_56 : decode cX9_count 56 = .ok (.ireturn, 1) := by decide +kernel
theorem dX9_count_57 : decode cX9_count 57 = .ok (.aload_n 0, 1) := by decide +kernel
theorem dX9_count_58 : decode cX9_count 58 = .ok (.getfield 142, 3) := by decide +kernel
theorem dX9_count_61 : decode cX9_count 61 = .ok (.ireturn, 1) := by decide +kernel
theorem dX9_count_62 : decode cX9_count 62 = .ok (.iconst 0, 1) := by decide +kernel
theorem dX9_count_63 : decode cX9_count 63 = .ok (.istore_n 3, 1) := by decide +kernel
theorem dX9_count_64 : decode cX9_count 64 = .ok (.iload_n 3, 1) := by decide +kernel
theorem dX9_count_65 : decode cX9_count 65 = .ok (.aload_n 0, 1) := by decide +kernel
theorem dX9_count_66 : decode cX9_count 66 = .ok (.getfield 142, 3) := by decide +kernel
theorem dX9_count_69 : decode cX9_count 69 = .ok (.if_icmp .ge 30, 3) := by decide +kernel
theorem dX9_count_72 : decode cX9_count 72 = .ok (.iload_n 2, 1) := by decide +kernel
theorem dX9_count_73 : decode cX9_count 73 = .ok (.aload_n 0, 1) := by decide +kernel
theorem dX9_count_74 : decode cX9_count 74 = .ok (.getfield 51, 3) := by decide +kernel
theorem dX9_count_77 : decode cX9_count 77 = .ok (.iload_n 3, 1) := by decide +kernel
theorem dX9_count_78 : decode cX9_count 78 = .ok (.iaload, 1) := by decide +kernel
theorem dX9_count_79 : decode cX9_count 79 = .ok (.aload_n 0, 1) := by decide +kernel
theorem dX9_count_80 : decode cX9_count 80 = .ok (.getfield 63, 3) := by decide +kernel
theorem dX9_count_83 : decode cX9_count 83 = .ok (.if_icmp .le 7, 3) := by decide +kernel
theorem dX9_count_86 : decode cX9_count 86 = .ok (.iconst 1, 1) := by decide +kernel
theorem dX9_count_87 : decode cX9_count 87 = .ok (.goto 4, 3) := by decide +kernel
theorem dX9_count_90 : decode cX9_count 90 = .ok (.iconst 0, 1) := by decide +kernel
theorem dX9_count_91 : decode cX9_count 91 = .ok (.iadd, 1) := by decide +kernel
theorem dX9_count_92 : decode cX9_count 92 = .ok (.istore_n 2, 1) := by decide +kernel
theorem dX9_count_93 : decode cX9_count 93 = .ok (.iinc 3 1, 3) := by decide +kernel
theorem dX9_count_96 : decode cX9_count 96 = .ok (.goto (-32), 3) := by decide +kernel
theorem dX9_count_99 : decode cX9_count 99 = .ok (.iload_n 2, 1) := by decide +kernel
theorem dX9_count_100 : decode cX9_count 100 = .ok (.ireturn, 1) := by decide +kernel
theorem dX9_count_101 : decode cX9_count 101 = .ok (.aload_n 0, 1) := by decide +kernel
theorem dX9_count_102 : decode cX9_count 102 = .ok (.getfield 145, 3) := by decide +kernel
theorem dX9_count_105 : decode cX9_count 105 = .ok (.ireturn, 1) := by decide +kernel
theorem dX9_count_106 : decode cX9_count 106 = .ok (.iconst 0, 1) := by decide +kernel
theorem dX9_count_107 : decode cX9_count 107 = .ok (.istore_n 3, 1) := by decide +kernel
theorem dX9_count_108 : decode cX9_count 108 = .ok (.iload_n 3, 1) := by decide +kernel
theorem dX9_count_109 : decode cX9_count 109 = .ok (.aload_n 0, 1) := by decide +kernel
theorem dX9_count_110 : decode cX9_count 110 = .ok (.getfield 139, 3) := by decide +kernel
theorem dX9_count_113 : decode cX9_count 113 = .ok (.if_icmp .ge 26, 3) := by decide +kernel
theorem dX9_count_116 : decode cX9_count 116 = .ok (.iload_n 2, 1) := by decide +kernel
theorem dX9_count_117 : decode cX9_count 117 = .ok (.aload_n 0, 1) := by decide +kernel
theorem dX9_count_118 : decode cX9_count 118 = .ok (.getfield 75, 3) := by decide +kernel
theorem dX9_count_121 : decode cX9_count 121 = .ok (.iload_n 3, 1) := by decide +kernel
theorem dX9_count_122 : decode cX9_count 122 = .ok (.iaload, 1) := by decide +kernel
theorem dX9_count_123 : decode cX9_count 123 = .ok (.ifCond .le 7, 3) := by decide +kernel
theorem dX9_count_126 : decode cX9_count 126 = .ok (.iconst 1, 1) := by decide +kernel
theorem dX9_count_127 : decode cX9_count 127 = .ok (.goto 4, 3) := by decide +kernel
theorem dX9_count_130 : decode cX9_count 130 = .ok (.iconst 0, 1) := by decide +kernel
theorem dX9_count_131 : decode cX9_count 131 = .ok (.iadd, 1) := by decide +kernel
theorem dX9_count_132 : decode cX9_count 132 = .ok (.istore_n 2, 1) := by decide +kernel
theorem dX9_count_133 : decode cX9_count 133 = .ok (.iinc 3 1, 3) := by decide +kernel
theorem dX9_count_136 : decode cX9_count 136 = .ok (.goto (-28), 3) := by decide +kernel
theorem dX9_count_139 : decode cX9_count 139 = .ok (.iload_n 2, 1) := by decide +kernel
theorem dX9_count_140 : decode cX9_count 140 = .ok (.ireturn, 1) := by decide +kernel
theorem dX9_count_141 : decode cX9_count 141 = .ok (.iconst 0, 1) := by decide +kernel
theorem dX9_count_142 : decode cX9_count 142 = .ok (.istore_n 3, 1) := by decide +kernel
theorem dX9_count_143 : decode cX9_count 143 = .ok (.iload_n 3, 1) := by decide +kernel
theorem dX9_count_144 : decode cX9_count 144 = .ok (.aload_n 0, 1) := by decide +kernel
theorem dX9_count_145 : decode cX9_count 145 = .ok (.invokevirtual 148, 3) := by decide +kernel
theorem dX9_count_148 : decode cX9_count 148 = .ok (.if_icmp .ge 26, 3) := by decide +kernel
theorem dX9_count_151 : decode cX9_count 151 = .ok (.iload_n 2, 1) := by decide +kernel
theorem dX9_count_152 : decode cX9_count 152 = .ok (.aload_n 0, 1) := by decide +kernel
theorem dX9_count_153 : decode cX9_count 153 = .ok (.getfield 23, 3) := by decide +kernel
theorem dX9_count_156 : decode cX9_count 156 = .ok (.iload_n 3, 1) := by decide +kernel
theorem dX9_count_157 : decode cX9_count 157 = .ok (.baload, 1) := by decide +kernel
theorem dX9_count_158 : decode cX9_count 158 = .ok (.ifCond .eq 7, 3) := by decide +kernel
theorem dX9_count_161 : decode cX9_count 161 = .ok (.iconst 1, 1) := by decide +kernel
theorem dX9_count_162 : decode cX9_count 162 = .ok (.goto 4, 3) := by decide +kernel
theorem dX9_count_165 : decode cX9_count 165 = .ok (.iconst 0, 1) := by decide +kernel
theorem dX9_count_166 : decode cX9_count 166 = .ok (.iadd, 1) := by decide +kernel
theorem dX9_count_167 : decode cX9_count 167 = .ok (.istore_n 2, 1) := by decide +kernel
theorem dX9_count_168 : decode cX9_count 168 = .ok (.iinc 3 1, 3) := by decide +kernel
theorem dX9_count_171 : decode cX9_count 171 = .ok (.goto (-28), 3) := by decide +kernel
theorem dX9_count_174 : decode cX9_count 174 = .ok (.iload_n 2, 1) := by decide +kernel
theorem dX9_count_175 : decode cX9_count 175 = .ok (.ireturn, 1) := by decide +kernel
theorem dX9_count_176 : decode cX9_count 176 = .ok (.iconst 0, 1) := by decide +kernel
theorem dX9_count_177 : decode cX9_count 177 = .ok (.istore_n 3, 1) := by decide +kernel
theorem dX9_count_178 : decode cX9_count 178 = .ok (.iload_n 3, 1) := by decide +kernel
theorem dX9_count_179 : decode cX9_count 179 = .ok (.iconst 3, 1) := by decide +kernel
theorem dX9_count_180 : decode cX9_count 180 = .ok (.if_icmp .ge 26, 3) := by decide +kernel
theorem dX9_count_183 : decode cX9_count 183 = .ok (.iload_n 2, 1) := by decide +kernel
theorem dX9_count_184 : decode cX9_count 184 = .ok (.aload_n 0, 1) := by decide +kernel
theorem dX9_count_185 : decode cX9_count 185 = .ok (.getfield 27, 3) := by decide +kernel
theorem dX9_count_188 : decode cX9_count 188 = .ok (.iload_n 3, 1) := by decide +kernel
theorem dX9_count_189 : decode cX9_count 189 = .ok (.iaload, 1) := by decide +kernel
theorem dX9_count_190 : decode cX9_count 190 = .ok (.ifCond .lt 7, 3) := by decide +kernel
theorem dX9_count_193 : decode cX9_count 193 = .ok (.iconst 1, 1) := by decide +kernel
theorem dX9_count_194 : decode cX9_count 194 = .ok (.goto 4, 3) := by decide +kernel
theorem dX9_count_197 : decode cX9_count 197 = .ok (.iconst 0, 1) := by decide +kernel
theorem dX9_count_198 : decode cX9_count 198 = .ok (.iadd, 1) := by decide +kernel
theorem dX9_count_199 : decode cX9_count 199 = .ok (.istore_n 2, 1) := by decide +kernel
theorem dX9_count_200 : decode cX9_count 200 = .ok (.iinc 3 1, 3) := by decide +kernel
theorem dX9_count_203 : decode cX9_count 203 = .ok (.goto (-25), 3) := by decide +kernel
theorem dX9_count_206 : decode cX9_count 206 = .ok (.iload_n 2, 1) := by decide +kernel
theorem dX9_count_207 : decode cX9_count 207 = .ok (.ireturn, 1) := by decide +kernel
theorem dX9_count_208 : decode cX9_count 208 = .ok (.bipush (-3), 2) := by decide +kernel
theorem dX9_count_210 : decode cX9_count 210 = .ok (.ireturn, 1) := by decide +kernel
