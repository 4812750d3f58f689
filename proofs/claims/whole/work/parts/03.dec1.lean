theorem dX0_findSitesDown_136 : decode cX0_findSitesDown 136 = .ok (.land, 1) := by decide +kernel
theorem dX0_findSitesDown_137 : decode cX0_findSitesDown 137 = .ok (.lconst 0, 1) := by decide +kernel
theorem dX0_findSitesDown_138 : decode cX0_findSitesDown 138 = .ok (.lcmp, 1) := by decide +kernel
theorem dX0_findSitesDown_139 : decode cX0_findSitesDown 139 = .ok (.ifCond .eq 7, 3) := by decide +kernel
theorem dX0_findSitesDown_142 : decode cX0_findSitesDown 142 = .ok (.iconst 1, 1) := by decide +kernel
theorem dX0_findSitesDown_143 : decode cX0_findSitesDown 143 = .ok (.goto 4, 3) := by decide +kernel
theorem dX0_findSitesDown_146 : decode cX0_findSitesDown 146 = .ok (.iconst 0, 1) := by decide +kernel
theorem dX0_findSitesDown_147 : decode cX0_findSitesDown 147 = .ok (.istore 15, 2) := by decide +kernel
theorem dX0_findSitesDown_149 : decode cX0_findSitesDown 149 = .ok (.iload 15, 2) := by decide +kernel
theorem dX0_findSitesDown_151 : decode cX0_findSitesDown 151 = .ok (.ifCond .eq 75, 3) := by decide +kernel
theorem dX0_findSitesDown_154 : decode cX0_findSitesDown 154 = .ok (.aload_n 0, 1) := by decide +kernel
theorem dX0_findSitesDown_155 : decode cX0_findSitesDown 155 = .ok (.getfield 111, 3) := by decide +kernel
theorem dX0_findSitesDown_158 : decode cX0_findSitesDown 158 = .ok (.sipush 1980, 3) := by decide +kernel
theorem dX0_findSitesDown_161 : decode cX0_findSitesDown 161 = .ok (.if_icmp .lt 6, 3) := by decide +kernel
theorem dX0_findSitesDown_164 : decode cX0_findSitesDown 164 = .ok (.goto 62, 3) := by decide +kernel
theorem dX0_findSitesDown_167 : decode cX0_findSitesDown 167 = .ok (.aload_n 0, 1) := by decide +kernel
theorem dX0_findSitesDown_168 : decode cX0_findSitesDown 168 = .ok (.getfield 11, 3) := by decide +kernel
theorem dX0_findSitesDown_171 : decode cX0_findSitesDown 171 = .ok (.aload_n 0, 1) := by decide +kernel
theorem dX0_findSitesDown_172 : decode cX0_findSitesDown 172 = .ok (.getfield 111, 3) := by decide +kernel
theorem dX0_findSitesDown_175 : decode cX0_findSitesDown 175 = .ok (.iload_n 1, 1) := by decide +kernel
theorem dX0_findSitesDown_176 : decode cX0_findSitesDown 176 = .ok (.iload_n 2, 1) := by decide +kernel
theorem dX0_findSitesDown_177 : decode cX0_findSitesDown 177 = .ok (.iload 13, 2) := by decide +kernel
theorem dX0_findSitesDown_179 : decode cX0_findSitesDown 179 = .ok (.invokestatic 136, 3) := by decide +kernel
theorem dX0_findSitesDown_182 : decode cX0_findSitesDown 182 = .ok (.iastore, 1) := by decide +kernel
theorem dX0_findSitesDown_183 : decode cX0_findSitesDown 183 = .ok (.aload_n 0, 1) := by decide +kernel
theorem dX0_findSitesDown_184 : decode cX0_findSitesDown 184 = .ok (.getfield 15, 3) := by decide +kernel
theorem dX0_findSitesDown_187 : decode cX0_findSitesDown 187 = .ok (.aload_n 0, 1) := by decide +kernel
theorem dX0_findSitesDown_188 : decode cX0_findSitesDown 188 = .ok (.getfield 111, 3) := by decide +kernel
theorem dX0_findSitesDown_191 : decode cX0_findSitesDown 191 = .ok (.iload 11, 2) := by decide +kernel
theorem dX0_findSitesDown_193 : decode cX0_findSitesDown 193 = .ok (.iastore, 1) := by decide +kernel
theorem dX0_findSitesDown_194 : decode cX0_findSitesDown 194 = .ok (.aload_n 0, 1) := by decide +kernel
theorem dX0_findSitesDown_195 : decode cX0_findSitesDown 195 = .ok (.getfield 18, 3) := by decide +kernel
theorem dX0_findSitesDown_198 : decode cX0_findSitesDown 198 = .ok (.aload_n 0, 1) := by decide +kernel
theorem dX0_findSitesDown_199 : decode cX0_findSitesDown 199 = .ok (.getfield 111, 3) := by decide +kernel
theorem dX0_findSitesDown_202 : decode cX0_findSitesDown 202 = .ok (.lload 7, 2) := by decide +kernel
theorem dX0_findSitesDown_204 : decode cX0_findSitesDown 204 = .ok (.lastore, 1) := by decide +kernel
theorem dX0_findSitesDown_205 : decode cX0_findSitesDown 205 = .ok (.aload_n 0, 1) := by decide +kernel
theorem dX0_findSitesDown_206 : decode cX0_findSitesDown 206 = .ok (.getfield 22, 3) := by decide +kernel
theorem dX0_findSitesDown_209 : decode cX0_findSitesDown 209 = .ok (.aload_n 0, 1) := by decide +kernel
theorem dX0_findSitesDown_210 : decode cX0_findSitesDown 210 = .ok (.getfield 111, 3) := by decide +kernel
theorem dX0_findSitesDown_213 : decode cX0_findSitesDown 213 = .ok (.lload 9, 2) := by decide +kernel
theorem dX0_findSitesDown_215 : decode cX0_findSitesDown 215 = .ok (.lastore, 1) := by decide +kernel
theorem dX0_findSitesDown_216 : decode cX0_findSitesDown 216 = .ok (.aload_n 0, 1) := by decide +kernel
theorem dX0_findSitesDown_217 : decode cX0_findSitesDown 217 = .ok (.dup, 1) := by decide +kernel
theorem dX0_findSitesDown_218 : decode cX0_findSitesDown 218 = .ok (.getfield 111, 3) := by decide +kernel
theorem dX0_findSitesDown_221 : decode cX0_findSitesDown 221 = .ok (.iconst 1, 1) := by decide +kernel
theorem dX0_findSitesDown_222 : decode cX0_findSitesDown 222 = .ok (.iadd, 1) := by decide +kernel
theorem dX0_findSitesDown_223 : decode cX0_findSitesDown 223 = .ok (.putfield 111, 3) := by decide +kernel
theorem dX0_findSitesDown_226 : decode cX0_findSitesDown 226 = .ok (.iinc 13 1, 3) := by decide +kernel
theorem dX0_findSitesDown_229 : decode cX0_findSitesDown 229 = .ok (.goto (-198), 3) := by decide +kernel
theorem dX0_findSitesDown_232 : decode cX0_findSitesDown 232 = .ok (.return_, 1) := by decide +kernel
theorem dX0_lowBit_0 : decode cX0_lowBit 0 = .ok (.iload_n 0, 1) := by decide +kernel
theorem dX0_lowBit_1 : decode cX0_lowBit 1 = .ok (.bipush 64, 2) := by decide +kernel
theorem dX0_lowBit_3 : decode cX0_lowBit 3 = .ok (.if_icmp .ge 9, 3) := by decide +kernel
theorem dX0_lowBit_6 : decode cX0_lowBit 6 = .ok (.lconst 1, 1) := by decide +kernel
theorem dX0_lowBit_7 : decode cX0_lowBit 7 = .ok (.iload_n 0, 1) := by decide +kernel
theorem dX0_lowBit_8 : decode cX0_lowBit 8 = .ok (.lshl, 1) := by decide +kernel
theorem dX0_lowBit_9 : decode cX0_lowBit 9 = .ok (.goto 4, 3) := by decide +kernel
theorem dX0_lowBit_12 : decode cX0_lowBit 12 = .ok (.lconst 0, 1) := by decide +kernel
theorem dX0_lowBit_13 : decode cX0_lowBit 13 = .ok (.lreturn, 1) := by decide +kernel
theorem dX0_highBit_0 : decode cX0_highBit 0 = .ok (.iload_n 0, 1) := by decide +kernel
theorem dX0_highBit_1 : decode cX0_highBit 1 = .ok (.bipush 64, 2) := by decide +kernel
theorem dX0_highBit_3 : decode cX0_highBit 3 = .ok (.if_icmp .ge 7, 3) := by decide +kernel
theorem dX0_highBit_6 : decode cX0_highBit 6 = .ok (.lconst 0, 1) := by decide +kernel
theorem dX0_highBit_7 : decode cX0_highBit 7 = .ok (.goto 9, 3) := by decide +kernel
theorem dX0_highBit_10 : decode cX0_highBit 10 = .ok (.lconst 1, 1) := by decide +kernel
theorem dX0_highBit_11 : decode cX0_highBit 11 = .ok (.iload_n 0, 1) := by decide +kernel
theorem dX0_highBit_12 : decode cX0_highBit 12 = .ok (.bipush 64, 2) := by decide +kernel
theorem dX0_highBit_14 : decode cX0_highBit 14 = .ok (.isub, 1) := by decide +kernel
theorem dX0_highBit_15 : decode cX0_highBit 15 = .ok (.lshl, 1) := by decide +kernel
theorem dX0_highBit_16 : decode cX0_highBit 16 = .ok (.lreturn, 1) := by decide +kernel
theorem dX0_findTakers_0 : decode cX0_findTakers 0 = .ok (.aload_n 0, 1) := by decide +kernel
theorem dX0_findTakers_1 : decode cX0_findTakers 1 = .ok (.iconst 0, 1) := by decide +kernel
theorem dX0_findTakers_2 : decode cX0_findTakers 2 = .ok (.putfield 92, 3) := by decide +kernel
theorem dX0_findTakers_5 : decode cX0_findTakers 5 = .ok (.iconst 0, 1) := by decide +kernel
theorem dX0_findTakers_6 : decode cX0_findTakers 6 = .ok (.istore 4, 2) := by decide +kernel
theorem dX0_findTakers_8 : decode cX0_findTakers 8 = .ok (.iload 4, 2) := by decide +kernel
theorem dX0_findTakers_10 : decode cX0_findTakers 10 = .ok (.aload_n 0, 1) := by decide +kernel
theorem dX0_findTakers_11 : decode cX0_findTakers 11 = .ok (.getfield 49, 3) := by decide +kernel
theorem dX0_findTakers_14 : decode cX0_findTakers 14 = .ok (.getfield 142, 3) := by decide +kernel
theorem dX0_findTakers_17 : decode cX0_findTakers 17 = .ok (.if_icmp .ge 54, 3) := by decide +kernel
theorem dX0_findTakers_20 : decode cX0_findTakers 20 = .ok (.aload_n 1, 1) := by decide +kernel
theorem dX0_findTakers_21 : decode cX0_findTakers 21 = .ok (.iload 4, 2) := by decide +kernel
theorem dX0_findTakers_23 : decode cX0_findTakers 23 = .ok (.iaload, 1) := by decide +kernel
theorem dX0_findTakers_24 : decode cX0_findTakers 24 = .ok (.ifCond .gt 6, 3) := by decide +kernel
theorem dX0_findTakers_27 : decode cX0_findTakers 27 = .ok (.goto 38, 3) := by decide +kernel
theorem dX0_findTakers_30 : decode cX0_findTakers 30 = .ok (.aload_n 0, 1) := by decide +kernel
theorem dX0_findTakers_31 : decode cX0_findTakers 31 = .ok (.getfield 36, 3) := by decide +kernel
theorem dX0_findTakers_34 : decode cX0_findTakers 34 = .ok (.aload_n 0, 1) := by decide +kernel
theorem dX0_findTakers_35 : decode cX0_findTakers 35 = .ok (.getfield 92, 3) := by decide +kernel
theorem dX0_findTakers_38 : decode cX0_findTakers 38 = .ok (.iload 4, 2) := by decide +kernel
theorem dX0_findTakers_40 : decode cX0_findTakers 40 = .ok (.iastore, 1) := by decide +kernel
theorem dX0_findTakers_41 : decode cX0_findTakers 41 = .ok (.aload_n 0, 1) := by decide +kernel
theorem dX0_findTakers_42 : decode cX0_findTakers 42 = .ok (.aload_n 0, 1) := by decide +kernel
theorem dX0_findTakers_43 : decode cX0_findTakers 43 = .ok (.getfield 92, 3) := by decide +kernel
theorem dX0_findTakers_46 : decode cX0_findTakers 46 = .ok (.aload_n 1, 1) := by decide +kernel
theorem dX0_findTakers_47 : decode cX0_findTakers 47 = .ok (.iload 4, 2) := by decide +kernel
theorem dX0_findTakers_49 : decode cX0_findTakers 49 = .ok (.iaload, 1) := by decide +kernel
theorem dX0_findTakers_50 : decode cX0_findTakers 50 = .ok (.iload_n 2, 1) := by decide +kernel
theorem dX0_findTakers_51 : decode cX0_findTakers 51 = .ok (.iload_n 3, 1) := by decide +kernel
theorem dX0_findTakers_52 : decode cX0_findTakers 52 = .ok (.invokevirtual 147, 3) := by decide +kernel
theorem dX0_findTakers_55 : decode cX0_findTakers 55 = .ok (.aload_n 0, 1) := by decide +kernel
theorem dX0_findTakers_56 : decode cX0_findTakers 56 = .ok (.dup, 1) := by decide +kernel
theorem dX0_findTakers_57 : decode cX0_findTakers 57 = .ok (.getfield 92, 3) := by decide +kernel
theorem dX0_findTakers_60 : decode cX0_findTakers 60 = .ok (.iconst 1, 1) := by decide +kernel
theorem dX0_findTakers_61 : decode cX0_findTakers 61 = .ok (.iadd, 1) := by decide +kernel
theorem dX0_findTakers_62 : decode cX0_findTakers 62 = .ok (.putfield 92, 3) := by decide +kernel
theorem dX0_findTakers_65 : decode cX0_findTakers 65 = .ok (.iinc 4 1, 3) := by decide +kernel
theorem dX0_findTakers_68 : decode cX0_findTakers 68 = .ok (.goto (-60), 3) := by decide +kernel
theorem dX0_findTakers_71 : decode cX0_findTakers 71 = .ok (.return_, 1) := by decide +kernel
theorem dX0_findChoices_0 : decode cX0_findChoices 0 = .ok (.aload_n 0, 1) := by decide +kernel
theorem dX0_findChoices_1 : decode cX0_findChoices 1 = .ok (.getfield 36, 3) := by decide +kernel
theorem dX0_findChoices_4 : decode cX0_findChoices 4 = .ok (.iload_n 1, 1) := by decide +kernel
theorem dX0_findChoices_5 : decode cX0_findChoices 5 = .ok (.iaload, 1) := by decide +kernel
theorem dX0_findChoices_6 : decode cX0_findChoices 6 = .ok (.istore 5, 2) := by decide +kernel
theorem dX0_findChoices_8 : decode cX0_findChoices 8 = .ok (.aload_n 0, 1) := by decide +kernel
theorem dX0_findChoices_9 : decode cX0_findChoices 9 = .ok (.getfield 49, 3) := by decide +kernel
theorem dX0_findChoices_12 : decode cX0_findChoices 12 = .ok (.getfield 151, 3) := by decide +kernel
theorem dX0_findChoices_15 : decode cX0_findChoices 15 = .ok (.iload 5, 2) := by decide +kernel
theorem dX0_findChoices_17 : decode cX0_findChoices 17 = .ok (.iaload, 1) := by decide +kernel
theorem dX0_findChoices_18 : decode cX0_findChoices 18 = .ok (.istore 6, 2) := by decide +kernel
theorem dX0_findChoices_20 : decode cX0_findChoices 20 = .ok (.aload_n 0, 1) := by decide +kernel
theorem dX0_findChoices_21 : decode cX0_findChoices 21 = .ok (.getfield 53, 3) := by decide +kernel
theorem dX0_findChoices_24 : decode cX0_findChoices 24 = .ok (.getfield 83, 3) := by decide +kernel
theorem dX0_findChoices_27 : decode cX0_findChoices 27 = .ok (.iload 5, 2) := by decide +kernel
theorem dX0_findChoices_29 : decode cX0_findChoices 29 = .ok (.iaload, 1) := by decide +kernel
theorem dX0_findChoices_30 : decode cX0_findChoices 30 = .ok (.istore 7, 2) := by decide +kernel
theorem dX0_findChoices_32 : decode cX0_findChoices 32 = .ok (.aload_n 0, 1) := by decide +kernel
theorem dX0_findChoices_33 : decode cX0_findChoices 33 = .ok (.getfield 30, 3) := by decide +kernel
theorem dX0_findChoices_36 : decode cX0_findChoices 36 = .ok (.iload_n 1, 1) := by decide +kernel
theorem dX0_findChoices_37 : decode cX0_findChoices 37 = .ok (.iconst 0, 1) := by decide +kernel
theorem dX0_findChoices_38 : decode cX0_findChoices 38 = .ok (.iastore, 1) := by decide +kernel
theorem dX0_findChoices_39 : decode cX0_findChoices 39 = .ok (.aload_n 0, 1) := by decide +kernel
theorem dX0_findChoices_40 : decode cX0_findChoices 40 = .ok (.getfield 33, 3) := by decide +kernel
theorem dX0_findChoices_43 : decode cX0_findChoices 43 = .ok (.iload_n 1, 1) := by decide +kernel
theorem dX0_findChoices_44 : decode cX0_findChoices 44 = .ok (.ldc 71, 2) := by decide +kernel
theorem dX0_findChoices_46 : decode cX0_findChoices 46 = .ok (.iastore, 1) := by decide +kernel
theorem dX0_findChoices_47 : decode cX0_findChoices 47 = .ok (.iconst 0, 1) := by decide +kernel
theorem dX0_findChoices_48 : decode cX0_findChoices 48 = .ok (.istore 8, 2) := by decide +kernel
theorem dX0_findChoices_50 : decode cX0_findChoices 50 = .ok (.iload 8, 2) := by decide +kernel
theorem dX0_findChoices_52 : decode cX0_findChoices 52 = .ok (.aload_n 0, 1) := by decide +kernel
theorem dX0_findChoices_53 : decode cX0_findChoices 53 = .ok (.getfield 111, 3) := by decide +kernel
theorem dX0_findChoices_56 : decode cX0_findChoices 56 = .ok (.if_icmp .ge 117, 3) := by decide +kernel
theorem dX0_findChoices_59 : decode cX0_findChoices 59 = .ok (.aload_n 0, 1) := by decide +kernel
theorem dX0_findChoices_60 : decode cX0_findChoices 60 = .ok (.getfield 15, 3) := by decide +kernel
theorem dX0_findChoices_63 : decode cX0_findChoices 63 = .ok (.iload 8, 2) := by decide +kernel
theorem dX0_findChoices_65 : decode cX0_findChoices 65 = .ok (.iaload, 1) := by decide +kernel
theorem dX0_findChoices_66 : decode cX0_findChoices 66 = .ok (.iload_n 2, 1) := by decide +kernel
theorem dX0_findChoices_67 : decode cX0_findChoices 67 = .ok (.isub, 1) := by decide +kernel
theorem dX0_findChoices_68 : decode cX0_findChoices 68 = .ok (.invokestatic 154, 3) := by decide +kernel
theorem dX0_findChoices_71 : decode cX0_findChoices 71 = .ok (.iload_n 3, 1) := by decide +kernel
theorem dX0_findChoices_72 : decode cX0_findChoices 72 = .ok (.if_icmp .le 6, 3) := by decide +kernel
theorem dX0_findChoices_75 : decode cX0_findChoices 75 = .ok (.goto 92, 3) := by decide +kernel
theorem dX0_findChoices_78 : decode cX0_findChoices 78 = .ok (.aload_n 0, 1) := by decide +kernel
theorem dX0_findChoices_79 : decode cX0_findChoices 79 = .ok (.getfield 45, 3) := by decide +kernel
theorem dX0_findChoices_82 : decode cX0_findChoices 82 = .ok (.iload 6, 2) := by decide +kernel
theorem dX0_findChoices_84 : decode cX0_findChoices 84 = .ok (.aload_n 0, 1) := by decide +kernel
theorem dX0_findChoices_85 : decode cX0_findChoices 85 = .ok (.getfield 11, 3) := by decide +kernel
theorem dX0_findChoices_88 : decode cX0_findChoices 88 = .ok (.iload 8, 2) := by decide +kernel
theorem dX0_findChoices_90 : decode cX0_findChoices 90 = .ok (.iaload, 1) := by decide +kernel
theorem dX0_findChoices_91 : decode cX0_findChoices 91 = .ok (.invokevirtual 160, 3) := by decide +kernel
theorem dX0_findChoices_94 : decode cX0_findChoices 94 = .ok (.istore 9, 2) := by decide +kernel
theorem dX0_findChoices_96 : decode cX0_findChoices 96 = .ok (.iload 4, 2) := by decide +kernel
theorem dX0_findChoices_98 : decode cX0_findChoices 98 = .ok (.ifCond .eq 21, 3) := by decide +kernel
theorem dX0_findChoices_101 : decode cX0_findChoices 101 = .ok (.aload_n 0, 1) := by decide +kernel
theorem dX0_findChoices_102 : decode cX0_findChoices 102 = .ok (.getfield 11, 3) := by decide +kernel
theorem dX0_findChoices_105 : decode cX0_findChoices 105 = .ok (.iload 8, 2) := by decide +kernel
theorem dX0_findChoices_107 : decode cX0_findChoices 107 = .ok (.iaload, 1) := by decide +kernel
theorem dX0_findChoices_108 : decode cX0_findChoices 108 = .ok (.iload 7, 2) := by decide +kernel
theorem dX0_findChoices_110 : decode cX0_findChoices 110 = .ok (.if_icmp .eq 9, 3) := by decide +kernel
theorem dX0_findChoices_113 : decode cX0_findChoices 113 = .ok (.iinc 9 1000, 6) := by decide +kernel
theorem dX0_findChoices_119 : decode cX0_findChoices 119 = .ok (.aload_n 0, 1) := by decide +kernel
theorem dX0_findChoices_120 : decode cX0_findChoices 120 = .ok (.getfield 27, 3) := by decide +kernel
theorem dX0_findChoices_123 : decode cX0_findChoices 123 = .ok (.iload_n 1, 1) := by decide +kernel
theorem dX0_findChoices_124 : decode cX0_findChoices 124 = .ok (.aaload, 1) := by decide +kernel
theorem dX0_findChoices_125 : decode cX0_findChoices 125 = .ok (.aload_n 0, 1) := by decide +kernel
theorem dX0_findChoices_126 : decode cX0_findChoices 126 = .ok (.getfield 30, 3) := by decide +kernel
theorem dX0_findChoices_129 : decode cX0_findChoices 129 = .ok (.iload_n 1, 1) := by decide +kernel
theorem dX0_findChoices_130 : decode cX0_findChoices 130 = .ok (.iaload, 1) := by decide +kernel
theorem dX0_findChoices_131 : decode cX0_findChoices 131 = .ok (.iload 9, 2) := by decide +kernel
theorem dX0_findChoices_133 : decode cX0_findChoices 133 = .ok (.bipush 11, 2) := by decide +kernel
theorem dX0_findChoices_135 : decode cX0_findChoices 135 = .ok (.ishl, 1) := by decide +kernel
theorem dX0_findChoices_136 : decode cX0_findChoices 136 = .ok (.iload 8, 2) := by decide +kernel
theorem dX0_findChoices_138 : decode cX0_findChoices 138 = .ok (.ior, 1) := by decide +kernel
theorem dX0_findChoices_139 : decode cX0_findChoices 139 = .ok (.iastore, 1) := by decide +kernel
theorem dX0_findChoices_140 : decode cX0_findChoices 140 = .ok (.aload_n 0, 1) := by decide +kernel
theorem dX0_findChoices_141 : decode cX0_findChoices 141 = .ok (.getfield 30, 3) := by decide +kernel
theorem dX0_findChoices_144 : decode cX0_findChoices 144 = .ok (.iload_n 1, 1) := by decide +kernel
theorem dX0_findChoices_145 : decode cX0_findChoices 145 = .ok (.dup2, 1) := by decide +kernel
theorem dX0_findChoices_146 : decode cX0_findChoices 146 = .ok (.iaload, 1) := by decide +kernel
theorem dX0_findChoices_147 : decode cX0_findChoices 147 = .ok (.iconst 1, 1) := by decide +kernel
theorem dX0_findChoices_148 : decode cX0_findChoices 148 = .ok (.iadd, 1) := by decide +kernel
theorem dX0_findChoices_149 : decode cX0_findChoices 149 = .ok (.iastore, 1) := by decide +kernel
theorem dX0_findChoices_150 : decode cX0_findChoices 150 = .ok (.aload_n 0, 1) := by decide +kernel
theorem dX0_findChoices_151 : decode cX0_findChoices 151 = .ok (.getfield 33, 3) := by decide +kernel
theorem dX0_findChoices_154 : decode cX0_findChoices 154 = .ok (.iload_n 1, 1) := by decide +kernel
theorem dX0_findChoices_155 : decode cX0_findChoices 155 = .ok (.aload_n 0, 1) := by decide +kernel
theorem dX0_findChoices_156 : decode cX0_findChoices 156 = .ok (.getfield 33, 3) := by decide +kernel
theorem dX0_findChoices_159 : decode cX0_findChoices 159 = .ok (.iload_n 1, 1) := by decide +kernel
theorem dX0_findChoices_160 : decode cX0_findChoices 160 = .ok (.iaload, 1) := by decide +kernel
theorem dX0_findChoices_161 : decode cX0_findChoices 161 = .ok (.iload 9, 2) := by decide +kernel
theorem dX0_findChoices_163 : decode cX0_findChoices 163 = .ok (.invokestatic 164, 3) := by decide +kernel
theorem dX0_findChoices_166 : decode cX0_findChoices 166 = .ok (.iastore, 1) := by decide +kernel
theorem dX0_findChoices_167 : decode cX0_findChoices 167 = .ok (.iinc 8 1, 3) := by decide +kernel
theorem dX0_findChoices_170 : decode cX0_findChoices 170 = .ok (.goto (-120), 3) := by decide +kernel
theorem dX0_findChoices_173 : decode cX0_findChoices 173 = .ok (.return_, 1) := by decide +kernel
theorem dX0_putFrom_0 : decode cX0_putFrom 0 = .ok (.iload_n 1, 1) := by decide +kernel
theorem dX0_putFrom_1 : decode cX0_putFrom 1 = .ok (.aload_n 0, 1) := by decide +kernel
theorem dX0_putFrom_2 : decode cX0_putFrom 2 = .ok (.getfield 92, 3) := by decide +kernel
theorem dX0_putFrom_5 : decode cX0_putFrom 5 = .ok (.if_icmp .ge 9, 3) := by decide +kernel
theorem dX0_putFrom_8 : decode cX0_putFrom 8 = .ok (.iload_n 1, 1) := by decide +kernel
theorem dX0_putFrom_9 : decode cX0_putFrom 9 = .ok (.bipush 8, 2) := by decide +kernel
theorem dX0_putFrom_11 : decode cX0_putFrom 11 = .ok (.if_icmp .lt 25, 3) := by decide +kernel
theorem dX0_putFrom_14 : decode cX0_putFrom 14 = .ok (.aload_n 0, 1) := by decide +kernel
theorem dX0_putFrom_15 : decode cX0_putFrom 15 = .ok (.iload 6, 2) := by decide +kernel
theorem dX0_putFrom_17 : decode cX0_putFrom 17 = .ok (.putfield 72, 3) := by decide +kernel
theorem dX0_putFrom_20 : decode cX0_putFrom 20 = .ok (.aload_n 0, 1) := by decide +kernel
theorem dX0_putFrom_21 : decode cX0_putFrom 21 = .ok (.getfield 39, 3) := by decide +kernel
theorem dX0_putFrom_24 : decode cX0_putFrom 24 = .ok (.iconst 0, 1) := by decide +kernel
theorem dX0_putFrom_25 : decode cX0_putFrom 25 = .ok (.aload_n 0, 1) := by decide +kernel
theorem dX0_putFrom_26 : decode cX0_putFrom 26 = .ok (.getfield 42, 3) := by decide +kernel
theorem dX0_putFrom_29 : decode cX0_putFrom 29 = .ok (.iconst 0, 1) := by decide +kernel
theorem dX0_putFrom_30 : decode cX0_putFrom 30 = .ok (.bipush 8, 2) := by decide +kernel
theorem dX0_putFrom_32 : decode cX0_putFrom 32 = .ok (.invokestatic 167, 3) := by decide +kernel
theorem dX0_putFrom_35 : decode cX0_putFrom 35 = .ok (.return_, 1) := by decide +kernel
theorem dX0_putFrom_36 : decode cX0_putFrom 36 = .ok (.aload_n 0, 1) := by decide +kernel
theorem dX0_putFrom_37 : decode cX0_putFrom 37 = .ok (.getfield 27, 3) := by decide +kernel
theorem dX0_putFrom_40 : decode cX0_putFrom 40 = .ok (.iload_n 1, 1) := by decide +kernel
theorem dX0_putFrom_41 : decode cX0_putFrom 41 = .ok (.aaload, 1) := by decide +kernel
theorem dX0_putFrom_42 : decode cX0_putFrom 42 = .ok (.astore 7, 2) := by decide +kernel
theorem dX0_putFrom_44 : decode cX0_putFrom 44 = .ok (.iconst 0, 1) := by decide +kernel
theorem dX0_putFrom_45 : decode cX0_putFrom 45 = .ok (.istore 8, 2) := by decide +kernel
theorem dX0_putFrom_47 : decode cX0_putFrom 47 = .ok (.iload 8, 2) := by decide +kernel
theorem dX0_putFrom_49 : decode cX0_putFrom 49 = .ok (.aload_n 0, 1) := by decide +kernel
theorem dX0_putFrom_50 : decode cX0_putFrom 50 = .ok (.getfield 30, 3) := by decide +kernel
theorem dX0_putFrom_53 : decode cX0_putFrom 53 = .ok (.iload_n 1, 1) := by decide +kernel
theorem dX0_putFrom_54 : decode cX0_putFrom 54 = .ok (.iaload, 1) := by decide +kernel
theorem dX0_putFrom_55 : decode cX0_putFrom 55 = .ok (.if_icmp .ge 160, 3) := by decide +kernel
theorem dX0_putFrom_58 : decode cX0_putFrom 58 = .ok (.aload_n 0, 1) := by decide +kernel
theorem dX0_putFrom_59 : decode cX0_putFrom 59 = .ok (.getfield 75, 3) := by decide +kernel
theorem dX0_putFrom_62 : decode cX0_putFrom 62 = .ok (.ifCond .ne 153, 3) := by decide +kernel
theorem dX0_putFrom_65 : decode cX0_putFrom 65 = .ok (.aload_n 0, 1) := by decide +kernel
theorem dX0_putFrom_66 : decode cX0_putFrom 66 = .ok (.getfield 33, 3) := by decide +kernel
theorem dX0_putFrom_69 : decode cX0_putFrom 69 = .ok (.iload_n 1, 1) := by decide +kernel
theorem dX0_putFrom_70 : decode cX0_putFrom 70 = .ok (.iaload, 1) := by decide +kernel
theorem dX0_putFrom_71 : decode cX0_putFrom 71 = .ok (.aload_n 0, 1) := by decide +kernel
theorem dX0_putFrom_72 : decode cX0_putFrom 72 = .ok (.getfield 72, 3) := by decide +kernel
theorem dX0_putFrom_75 : decode cX0_putFrom 75 = .ok (.iload 6, 2) := by decide +kernel
theorem dX0_putFrom_77 : decode cX0_putFrom 77 = .ok (.isub, 1) := by decide +kernel
theorem dX0_putFrom_78 : decode cX0_putFrom 78 = .ok (.if_icmp .ge 137, 3) := by decide +kernel
theorem dX0_putFrom_81 : decode cX0_putFrom 81 = .ok (.aload 7, 2) := by decide +kernel
theorem dX0_putFrom_83 : decode cX0_putFrom 83 = .ok (.iload 8, 2) := by decide +kernel
theorem dX0_putFrom_85 : decode cX0_putFrom 85 = .ok (.iaload, 1) := by decide +kernel
theorem dX0_putFrom_86 : decode cX0_putFrom 86 = .ok (.sipush 2047, 3) := by decide +kernel
theorem dX0_putFrom_89 : decode cX0_putFrom 89 = .ok (.iand, 1) := by decide +kernel
theorem dX0_putFrom_90 : decode cX0_putFrom 90 = .ok (.istore 9, 2) := by decide +kernel
theorem dX0_putFrom_92 : decode cX0_putFrom 92 = .ok (.iload 6, 2) := by decide +kernel
theorem dX0_putFrom_94 : decode cX0_putFrom 94 = .ok (.aload 7, 2) := by decide +kernel
theorem dX0_putFrom_96 : decode cX0_putFrom 96 = .ok (.iload 8, 2) := by decide +kernel
theorem dX0_putFrom_98 : decode cX0_putFrom 98 = .ok (.iaload, 1) := by decide +kernel
theorem dX0_putFrom_99 : decode cX0_putFrom 99 = .ok (.bipush 11, 2) := by decide +kernel
theorem dX0_putFrom_101 : decode cX0_putFrom 101 = .ok (.ishr, 1) := by decide +kernel
theorem dX0_putFrom_102 : decode cX0_putFrom 102 = .ok (.iadd, 1) := by decide +kernel
theorem dX0_putFrom_103 : decode cX0_putFrom 103 = .ok (.istore 10, 2) := by decide +kernel
theorem dX0_putFrom_105 : decode cX0_putFrom 105 = .ok (.iload 10, 2) := by decide +kernel
theorem dX0_putFrom_107 : decode cX0_putFrom 107 = .ok (.aload_n 0, 1) := by decide +kernel
theorem dX0_putFrom_108 : decode cX0_putFrom 108 = .ok (.getfield 72, 3) := by decide +kernel
theorem dX0_putFrom_111 : decode cX0_putFrom 111 = .ok (.if_icmp .ge 98, 3) := by decide +kernel
theorem dX0_putFrom_114 : decode cX0_putFrom 114 = .ok (.lload_n 2, 1) := by decide +kernel
theorem dX0_putFrom_115 : decode cX0_putFrom 115 = .ok (.aload_n 0, 1) := by decide +kernel
theorem dX0_putFrom_116 : decode cX0_putFrom 116 = .ok (.getfield 18, 3) := by decide +kernel
theorem dX0_putFrom_119 : decode cX0_putFrom 119 = .ok (.iload 9, 2) := by decide +kernel
theorem dX0_putFrom_121 : decode cX0_putFrom 121 = .ok (.laload, 1) := by decide +kernel
theorem dX0_putFrom_122 : decode cX0_putFrom 122 = .ok (.land, 1) := by decide +kernel
theorem dX0_putFrom_123 : decode cX0_putFrom 123 = .ok (.lconst 0, 1) := by decide +kernel
theorem dX0_putFrom_124 : decode cX0_putFrom 124 = .ok (.lcmp, 1) := by decide +kernel
theorem dX0_putFrom_125 : decode cX0_putFrom 125 = .ok (.ifCond .ne 84, 3) := by decide +kernel
theorem dX0_putFrom_128 : decode cX0_putFrom 128 = .ok (.lload 4, 2) := by decide +kernel
theorem dX0_putFrom_130 : decode cX0_putFrom 130 = .ok (.aload_n 0, 1) := by decide +kernel
theorem dX0_putFrom_131 : decode cX0_putFrom 131 = .ok (.getfield 22, 3) := by decide +kernel
theorem dX0_putFrom_134 : decode cX0_putFrom 134 = .ok (.iload 9, 2) := by decide +kernel
theorem dX0_putFrom_136 : decode cX0_putFrom 136 = .ok (.laload, 1) := by decide +kernel
theorem dX0_putFrom_137 : decode cX0_putFrom 137 = .ok (.land, 1) := by decide +kernel
theorem dX0_putFrom_138 : decode cX0_putFrom 138 = .ok (.lconst 0, 1) := by decide +kernel
theorem dX0_putFrom_139 : decode cX0_putFrom 139 = .ok (.lcmp, 1) := by decide +kernel
theorem dX0_putFrom_140 : decode cX0_putFrom 140 = .ok (.ifCond .eq 6, 3) := by decide +kernel
theorem dX0_putFrom_143 : decode cX0_putFrom 143 = .ok (.goto 66, 3) := by decide +kernel
theorem dX0_putFrom_146 : decode cX0_putFrom 146 = .ok (.aload_n 0, 1) := by decide +kernel
theorem dX0_putFrom_147 : decode cX0_putFrom 147 = .ok (.getfield 64, 3) := by decide +kernel
theorem dX0_putFrom_150 : decode cX0_putFrom 150 = .ok (.aload_n 0, 1) := by decide +kernel
theorem dX0_putFrom_151 : decode cX0_putFrom 151 = .ok (.getfield 68, 3) := by decide +kernel
theorem dX0_putFrom_154 : decode cX0_putFrom 154 = .ok (.if_icmp .lt 9, 3) := by decide +kernel
theorem dX0_putFrom_157 : decode cX0_putFrom 157 = .ok (.aload_n 0, 1) := by decide +kernel
theorem dX0_putFrom_158 : decode cX0_putFrom 158 = .ok (.iconst 1, 1) := by decide +kernel
theorem dX0_putFrom_159 : decode cX0_putFrom 159 = .ok (.putfield 75, 3) := by decide +kernel
theorem dX0_putFrom_162 : decode cX0_putFrom 162 = .ok (.return_, 1) := by decide +kernel
theorem dX0_putFrom_163 : decode cX0_putFrom 163 = .ok (.aload_n 0, 1) := by decide +kernel
theorem dX0_putFrom_164 : decode cX0_putFrom 164 = .ok (.dup, 1) := by decide +kernel
theorem dX0_putFrom_165 : decode cX0_putFrom 165 = .ok (.getfield 64, 3) := by decide +kernel
theorem dX0_putFrom_168 : decode cX0_putFrom 168 = .ok (.iconst 1, 1) := by decide +kernel
theorem dX0_putFrom_169 : decode cX0_putFrom 169 = .ok (.iadd, 1) := by decide +kernel
theorem dX0_putFrom_170 : decode cX0_putFrom 170 = .ok (.putfield 64, 3) := by decide +kernel
theorem dX0_putFrom_173 : decode cX0_putFrom 173 = .ok (.aload_n 0, 1) := by decide +kernel
theorem dX0_putFrom_174 : decode cX0_putFrom 174 = .ok (.getfield 39, 3) := by decide +kernel
theorem dX0_putFrom_177 : decode cX0_putFrom 177 = .ok (.iload_n 1, 1) := by decide +kernel
theorem dX0_putFrom_178 : decode cX0_putFrom 178 = .ok (.iload 9, 2) := by decide +kernel
theorem dX0_putFrom_180 : decode cX0_putFrom 180 = .ok (.iastore, 1) := by decide +kernel
theorem dX0_putFrom_181 : decode cX0_putFrom 181 = .ok (.aload_n 0, 1) := by decide +kernel
theorem dX0_putFrom_182 : decode cX0_putFrom 182 = .ok (.iload_n 1, 1) := by decide +kernel
theorem dX0_putFrom_183 : decode cX0_putFrom 183 = .ok (.iconst 1, 1) := by decide +kernel
theorem dX0_putFrom_184 : decode cX0_putFrom 184 = .ok (.iadd, 1) := by decide +kernel
theorem dX0_putFrom_185 : decode cX0_putFrom 185 = .ok (.lload_n 2, 1) := by decide +kernel
theorem dX0_putFrom_186 : decode cX0_putFrom 186 = .ok (.aload_n 0, 1) := by decide +kernel
theorem dX0_putFrom_187 : decode cX0_putFrom 187 = .ok (.getfield 18, 3) := by decide +kernel
theorem dX0_putFrom_190 : decode cX0_putFrom 190 = .ok (.iload 9, 2) := by decide +kernel
theorem dX0_putFrom_192 : decode cX0_putFrom 192 = .ok (.laload, 1) := by decide +kernel
theorem dX0_putFrom_193 : decode cX0_putFrom 193 = .ok (.lor, 1) := by decide +kernel
theorem dX0_putFrom_194 : decode cX0_putFrom 194 = .ok (.lload 4, 2) := by decide +kernel
theorem dX0_putFrom_196 : decode cX0_putFrom 196 = .ok (.aload_n 0, 1) := by decide +kernel
theorem dX0_putFrom_197 : decode cX0_putFrom 197 = .ok (.getfield 22, 3) := by decide +kernel
theorem dX0_putFrom_200 : decode cX0_putFrom 200 = .ok (.iload 9, 2) := by decide +kernel
theorem dX0_putFrom_202 : decode cX0_putFrom 202 = .ok (.laload, 1) := by decide +kernel
theorem dX0_putFrom_203 : decode cX0_putFrom 203 = .ok (.lor, 1) := by decide +kernel
theorem dX0_putFrom_204 : decode cX0_putFrom 204 = .ok (.iload 10, 2) := by decide +kernel
theorem dX0_putFrom_206 : decode cX0_putFrom 206 = .ok (.invokevirtual 79, 3) := by decide +kernel
theorem dX0_putFrom_209 : decode cX0_putFrom 209 = .ok (.iinc 8 1, 3) := by decide +kernel
theorem dX0_putFrom_212 : decode cX0_putFrom 212 = .ok (.goto (-165), 3) := by decide +kernel
theorem dX0_putFrom_215 : decode cX0_putFrom 215 = .ok (.return_, 1) := by decide +kernel
theorem dX1_init_0 : decode cX1_init 0 = .ok (.aload_n 0, 1) := by decide +kernel
theorem dX1_init_1 : decode cX1_init 1 = .ok (.invokespecial 3, 3) := by decide +kernel
theorem dX1_init_4 : decode cX1_init 4 = .ok (.aload_n 0, 1) := by decide +kernel
theorem dX1_init_5 : decode cX1_init 5 = .ok (.iconst 3, 1) := by decide +kernel
theorem dX1_init_6 : decode cX1_init 6 = .ok (.bipush 80, 2) := by decide +kernel
theorem dX1_init_8 : decode cX1_init 8 = .ok (.multianewarray 9 2, 4) := by decide +kernel
theorem dX1_init_12 : decode cX1_init 12 = .ok (.putfield 11, 3) := by decide +kernel
theorem dX1_init_15 : decode cX1_init 15 = .ok (.aload_n 0, 1) := by decide +kernel
theorem dX1_init_16 : decode cX1_init 16 = .ok (.bipush 80, 2) := by decide +kernel
theorem dX1_init_18 : decode cX1_init 18 = .ok (.newarray .int, 2) := by decide +kernel
theorem dX1_init_20 : decode cX1_init 20 = .ok (.putfield 16, 3) := by decide +kernel
theorem dX1_init_23 : decode cX1_init 23 = .ok (.aload_n 0, 1) := by decide +kernel
theorem dX1_init_24 : decode cX1_init 24 = .ok (.bipush 80, 2) := by decide +kernel
theorem dX1_init_26 : decode cX1_init 26 = .ok (.newarray .int, 2) := by decide +kernel
theorem dX1_init_28 : decode cX1_init 28 = .ok (.putfield 20, 3) := by decide +kernel
theorem dX1_init_31 : decode cX1_init 31 = .ok (.aload_n 0, 1) := by decide +kernel
theorem dX1_init_32 : decode cX1_init 32 = .ok (.bipush 6, 2) := by decide +kernel
theorem dX1_init_34 : decode cX1_init 34 = .ok (.iconst 5, 1) := by decide +kernel
theorem dX1_init_35 : decode cX1_init 35 = .ok (.invokevirtual 23, 3) := by decide +kernel
theorem dX1_init_38 : decode cX1_init 38 = .ok (.return_, 1) := by decide +kernel
theorem dX1_renew_0 : decode cX1_renew 0 = .ok (.aload_n 0, 1) := by decide +kernel
theorem dX1_renew_1 : decode cX1_renew 1 = .ok (.iload_n 1, 1) := by decide +kernel
theorem dX1_renew_2 : decode cX1_renew 2 = .ok (.putfield 27, 3) := by decide +kernel
theorem dX1_renew_5 : decode cX1_renew 5 = .ok (.aload_n 0, 1) := by decide +kernel
theorem dX1_renew_6 : decode cX1_renew 6 = .ok (.iload_n 2, 1) := by decide +kernel
theorem dX1_renew_7 : decode cX1_renew 7 = .ok (.putfield 31, 3) := by decide +kernel
theorem dX1_renew_10 : decode cX1_renew 10 = .ok (.aload_n 0, 1) := by decide +kernel
theorem dX1_renew_11 : decode cX1_renew 11 = .ok (.iload_n 1, 1) := by decide +kernel
theorem dX1_renew_12 : decode cX1_renew 12 = .ok (.iload_n 2, 1) := by decide +kernel
theorem dX1_renew_13 : decode cX1_renew 13 = .ok (.imul, 1) := by decide +kernel
theorem dX1_renew_14 : decode cX1_renew 14 = .ok (.putfield 34, 3) := by decide +kernel
theorem dX1_renew_17 : decode cX1_renew 17 = .ok (.aload_n 0, 1) := by decide +kernel
theorem dX1_renew_18 : decode cX1_renew 18 = .ok (.iconst 0, 1) := by decide +kernel
theorem dX1_renew_19 : decode cX1_renew 19 = .ok (.putfield 37, 3) := by decide +kernel
theorem dX1_renew_22 : decode cX1_renew 22 = .ok (.aload_n 0, 1) := by decide +kernel
theorem dX1_renew_23 : decode cX1_renew 23 = .ok (.getfield 11, 3) := by decide +kernel
theorem dX1_renew_26 : decode cX1_renew 26 = .ok (.iconst 0, 1) := by decide +kernel
theorem dX1_renew_27 : decode cX1_renew 27 = .ok (.aaload, 1) := by decide +kernel
theorem dX1_renew_28 : decode cX1_renew 28 = .ok (.iconst 1, 1) := by decide +kernel
theorem dX1_renew_29 : decode cX1_renew 29 = .ok (.invokestatic 40, 3) := by decide +kernel
theorem dX1_renew_32 : decode cX1_renew 32 = .ok (.aload_n 0, 1) := by decide +kernel
theorem dX1_renew_33 : decode cX1_renew 33 = .ok (.getfield 11, 3) := by decide +kernel
theorem dX1_renew_36 : decode cX1_renew 36 = .ok (.iconst 1, 1) := by decide +kernel
theorem dX1_renew_37 : decode cX1_renew 37 = .ok (.aaload, 1) := by decide +kernel
theorem dX1_renew_38 : decode cX1_renew 38 = .ok (.iconst 0, 1) := by decide +kernel
theorem dX1_renew_39 : decode cX1_renew 39 = .ok (.invokestatic 40, 3) := by decide +kernel
theorem dX1_renew_42 : decode cX1_renew 42 = .ok (.aload_n 0, 1) := by decide +kernel
theorem dX1_renew_43 : decode cX1_renew 43 = .ok (.getfield 11, 3) := by decide +kernel
theorem dX1_renew_46 : decode cX1_renew 46 = .ok (.iconst 2, 1) := by decide +kernel
theorem dX1_renew_47 : decode cX1_renew 47 = .ok (.aaload, 1) := by decide +kernel
theorem dX1_renew_48 : decode cX1_renew 48 = .ok (.iconst 0, 1) := by decide +kernel
theorem dX1_renew_49 : decode cX1_renew 49 = .ok (.invokestatic 40, 3) := by decide +kernel
theorem dX1_renew_52 : decode cX1_renew 52 = .ok (.iconst 0, 1) := by decide +kernel
theorem dX1_renew_53 : decode cX1_renew 53 = .ok (.istore_n 3, 1) := by decide +kernel
theorem dX1_renew_54 : decode cX1_renew 54 = .ok (.iconst 0, 1) := by decide +kernel
theorem dX1_renew_55 : decode cX1_renew 55 = .ok (.istore 4, 2) := by decide +kernel
theorem dX1_renew_57 : decode cX1_renew 57 = .ok (.iload 4, 2) := by decide +kernel
theorem dX1_renew_59 : decode cX1_renew 59 = .ok (.iload_n 2, 1) := by decide +kernel
theorem dX1_renew_60 : decode cX1_renew 60 = .ok (.if_icmp .ge 43, 3) := by decide +kernel
theorem dX1_renew_63 : decode cX1_renew 63 = .ok (.iconst 0, 1) := by decide +kernel
theorem dX1_renew_64 : decode cX1_renew 64 = .ok (.istore 5, 2) := by decide +kernel
theorem dX1_renew_66 : decode cX1_renew 66 = .ok (.iload 5, 2) := by decide +kernel
theorem dX1_renew_68 : decode cX1_renew 68 = .ok (.iload_n 1, 1) := by decide +kernel
theorem dX1_renew_69 : decode cX1_renew 69 = .ok (.if_icmp .ge 28, 3) := by decide +kernel
theorem dX1_renew_72 : decode cX1_renew 72 = .ok (.aload_n 0, 1) := by decide +kernel
theorem dX1_renew_73 : decode cX1_renew 73 = .ok (.getfield 16, 3) := by decide +kernel
theorem dX1_renew_76 : decode cX1_renew 76 = .ok (.iload_n 3, 1) := by decide +kernel
theorem dX1_renew_77 : decode cX1_renew 77 = .ok (.iload 5, 2) := by decide +kernel
theorem dX1_renew_79 : decode cX1_renew 79 = .ok (.iastore, 1) := by decide +kernel
theorem dX1_renew_80 : decode cX1_renew 80 = .ok (.aload_n 0, 1) := by decide +kernel
theorem dX1_renew_81 : decode cX1_renew 81 = .ok (.getfield 20, 3) := by decide +kernel
theorem dX1_renew_84 : decode cX1_renew 84 = .ok (.iload_n 3, 1) := by decide +kernel
theorem dX1_renew_85 : decode cX1_renew 85 = .ok (.iload 4, 2) := by decide +kernel
theorem dX1_renew_87 : decode cX1_renew 87 = .ok (.iastore, 1) := by decide +kernel
theorem dX1_renew_88 : decode cX1_renew 88 = .ok (.iinc 3 1, 3) := by decide +kernel
theorem dX1_renew_91 : decode cX1_renew 91 = .ok (.iinc 5 1, 3) := by decide +kernel
theorem dX1_renew_94 : decode cX1_renew 94 = .ok (.goto (-28), 3) := by decide +kernel
theorem dX1_renew_97 : decode cX1_renew 97 = .ok (.iinc 4 1, 3) := by decide +kernel
theorem dX1_renew_100 : decode cX1_renew 100 = .ok (.goto (-43), 3) := by decide +kernel
theorem dX1_renew_103 : decode cX1_renew 103 = .ok (.return_, 1) := by decide +kernel
theorem dX1_isCell_0 : decode cX1_isCell 0 = .ok (.iload_n 1, 1) := by decide +kernel
theorem dX1_isCell_1 : decode cX1_isCell 1 = .ok (.ifCond .lt 15, 3) := by decide +kernel
theorem dX1_isCell_4 : decode cX1_isCell 4 = .ok (.iload_n 1, 1) := by decide +kernel
theorem dX1_isCell_5 : decode cX1_isCell 5 = .ok (.aload_n 0, 1) := by decide +kernel
theorem dX1_isCell_6 : decode cX1_isCell 6 = .ok (.getfield 34, 3) := by decide +kernel
theorem dX1_isCell_9 : decode cX1_isCell 9 = .ok (.if_icmp .ge 7, 3) := by decide +kernel
theorem dX1_isCell_12 : decode cX1_isCell 12 = .ok (.iconst 1, 1) := by decide +kernel
theorem dX1_isCell_13 : decode cX1_isCell 13 = .ok (.goto 4, 3) := by decide +kernel
theorem dX1_isCell_16 : decode cX1_isCell 16 = .ok (.iconst 0, 1) := by decide +kernel
theorem dX1_isCell_17 : decode cX1_isCell 17 = .ok (.ireturn, 1) := by decide +kernel
theorem dX1_isClose_0 : decode cX1_isClose 0 = .ok (.aload_n 0, 1) := by decide +kernel
theorem dX1_isClose_1 : decode cX1_isClose 1 = .ok (.getfield 11, 3) := by decide +kernel
theorem dX1_isClose_4 : decode cX1_isClose 4 = .ok (.iconst 1, 1) := by decide +kernel
theorem dX1_isClose_5 : decode cX1_isClose 5 = .ok (.aaload, 1) := by decide +kernel
theorem dX1_isClose_6 : decode cX1_isClose 6 = .ok (.iload_n 1, 1) := by decide +kernel
theorem dX1_isClose_7 : decode cX1_isClose 7 = .ok (.iaload, 1) := by decide +kernel
theorem dX1_isClose_8 : decode cX1_isClose 8 = .ok (.iconst 2, 1) := by decide +kernel
theorem dX1_isClose_9 : decode cX1_isClose 9 = .ok (.if_icmp .ne 7, 3) := by decide +kernel
theorem dX1_isClose_12 : decode cX1_isClose 12 = .ok (.iconst 1, 1) := by decide +kernel
theorem dX1_isClose_13 : decode cX1_isClose 13 = .ok (.goto 4, 3) := by decide +kernel
theorem dX1_isClose_16 : decode cX1_isClose 16 = .ok (.iconst 0, 1) := by decide +kernel
theorem dX1_isClose_17 : decode cX1_isClose 17 = .ok (.ireturn, 1) := by decide +kernel
theorem dX1_isRoad_0 : decode cX1_isRoad 0 = .ok (.aload_n 0, 1) := by decide +kernel
theorem dX1_isRoad_1 : decode cX1_isRoad 1 = .ok (.getfield 11, 3) := by decide +kernel
theorem dX1_isRoad_4 : decode cX1_isRoad 4 = .ok (.iconst 2, 1) := by decide +kernel
theorem dX1_isRoad_5 : decode cX1_isRoad 5 = .ok (.aaload, 1) := by decide +kernel
theorem dX1_isRoad_6 : decode cX1_isRoad 6 = .ok (.iload_n 1, 1) := by decide +kernel
theorem dX1_isRoad_7 : decode cX1_isRoad 7 = .ok (.iaload, 1) := by decide +kernel
theorem dX1_isRoad_8 : decode cX1_isRoad 8 = .ok (.iconst 1, 1) := by decide +kernel
theorem dX1_isRoad_9 : decode cX1_isRoad 9 = .ok (.if_icmp .ne 7, 3) := by decide +kernel
theorem dX1_isRoad_12 : decode cX1_isRoad 12 = .ok (.iconst 1, 1) := by decide +kernel
theorem dX1_isRoad_13 : decode cX1_isRoad 13 = .ok (.goto 4, 3) := by decide +kernel
theorem dX1_isRoad_16 : decode cX1_isRoad 16 = .ok (.iconst 0, 1) := by decide +kernel
theorem dX1_isRoad_17 : decode cX1_isRoad 17 = .ok (.ireturn, 1) := by decide +kernel
theorem dX1_isPlain_0 : decode cX1_isPlain 0 = .ok (.aload_n 0, 1) := by decide +kernel
theorem dX1_isPlain_1 : decode cX1_isPlain 1 = .ok (.getfield 11, 3) := by decide +kernel
theorem dX1_isPlain_4 : decode cX1_isPlain 4 = .ok (.iconst 1, 1) := by decide +kernel
theorem dX1_isPlain_5 : decode cX1_isPlain 5 = .ok (.aaload, 1) := by decide +kernel
theorem dX1_isPlain_6 : decode cX1_isPlain 6 = .ok (.iload_n 1, 1) := by decide +kernel
theorem dX1_isPlain_7 : decode cX1_isPlain 7 = .ok (.iaload, 1) := by decide +kernel
theorem dX1_isPlain_8 : decode cX1_isPlain 8 = .ok (.iconst 2, 1) := by decide +kernel
theorem dX1_isPlain_9 : decode cX1_isPlain 9 = .ok (.if_icmp .eq 18, 3) := by decide +kernel
theorem dX1_isPlain_12 : decode cX1_isPlain 12 = .ok (.aload_n 0, 1) := by decide +kernel
theorem dX1_isPlain_13 : decode cX1_isPlain 13 = .ok (.getfield 11, 3) := by decide +kernel
theorem dX1_isPlain_16 : decode cX1_isPlain 16 = .ok (.iconst 2, 1) := by decide +kernel
theorem dX1_isPlain_17 : decode cX1_isPlain 17 = .ok (.aaload, 1) := by decide +kernel
theorem dX1_isPlain_18 : decode cX1_isPlain 18 = .ok (.iload_n 1, 1) := by decide +kernel
theorem dX1_isPlain_19 : decode cX1_isPlain 19 = .ok (.iaload, 1) := by decide +kernel
theorem dX1_isPlain_20 : decode cX1_isPlain 20 = .ok (.ifCond .ne 7, 3) := by decide +kernel
theorem dX1_isPlain_23 : decode cX1_isPlain 23 = .ok (.iconst 1, 1) := by decide +kernel
theorem dX1_isPlain_24 : decode cX1_isPlain 24 = .ok (.goto 4, 3) := by decide +kernel
theorem dX1_isPlain_27 : decode cX1_isPlain 27 = .ok (.iconst 0, 1) := by decide +kernel
theorem dX1_isPlain_28 : decode cX1_isPlain 28 = .ok (.ireturn, 1) := by decide +kernel
theorem dX1_beside_0 : decode cX1_beside 0 = .ok (.iload_n 2, 1) := by decide +kernel
theorem dX1_beside_1 : decode cX1_beside 1 = .ok (.tableswitch 87 0 2 #[27, 47, 64], 27) := by decide +kernel
theorem dX1_beside_28 : decode cX1_beside 28 = .ok (.aload_n 0, 1) := by decide +kernel
theorem dX1_beside_29 : decode cX1_beside 29 = .ok (.getfield 20, 3) := by decide +kernel
theorem dX1_beside_32 : decode cX1_beside 32 = .ok (.iload_n 1, 1) := by decide +kernel
theorem dX1_beside_33 : decode cX1_beside 33 = .ok (.iaload, 1) := by decide +kernel
theorem dX1_beside_34 : decode cX1_beside 34 = .ok (.ifCond .le 12, 3) := by decide +kernel
theorem dX1_beside_37 : decode cX1_beside 37 = .ok (.iload_n 1, 1) := by decide +kernel
theorem dX1_beside_38 : decode cX1_beside 38 = .ok (.aload_n 0, 1) := by decide +kernel
theorem dX1_beside_39 : decode cX1_beside 39 = .ok (.getfield 27, 3) := by decide +kernel
theorem dX1_beside_42 : decode cX1_beside 42 = .ok (.isub, 1) := by decide +kernel
theorem dX1_beside_43 : decode cX1_beside 43 = .ok (.goto 4, 3) := by decide +kernel
theorem dX1_beside_46 : decode cX1_beside 46 = .ok (.iconst (-1), 1) := by decide +kernel
theorem dX1_beside_47 : decode cX1_beside 47 = .ok (.ireturn, 1) := by decide +kernel
theorem dX1_beside_48 : decode cX1_beside 48 = .ok (.aload_n 0, 1) := by decide +kernel
theorem dX1_beside_49 : decode cX1_beside 49 = .ok (.getfield 16, 3) := by decide +kernel
theorem dX1_beside_52 : decode cX1_beside 52 = .ok (.iload_n 1, 1) := by decide +kernel
theorem dX1_beside_53 : decode cX1_beside 53 = .ok (.iaload, 1) := by decide +kernel
theorem dX1_beside_54 : decode cX1_beside 54 = .ok (.ifCond .le 9, 3) := by decide +kernel
theorem dX1_beside_57 : decode cX1_beside 57 = .ok (.iload_n 1, 1) := by decide +kernel
theorem dX1_beside_58 : decode cX1_beside 58 = .ok (.iconst 1, 1) := by decide +kernel
theorem dX1_beside_59 : decode cX1_beside 59 = .ok (.isub, 1) := by decide +kernel
theorem dX1_beside_60 : decode cX1_beside 60 = .ok (.goto 4, 3) := by decide +kernel
theorem dX1_beside_63 : decode cX1_beside 63 = .ok (.iconst (-1), 1) := by decide +kernel
theorem dX1_beside_64 : decode cX1_beside 64 = .ok (.ireturn, 1) := by decide +kernel
theorem dX1_beside_65 : decode cX1_beside 65 = .ok (.aload_n 0, 1) := by decide +kernel
theorem dX1_beside_66 : decode cX1_beside 66 = .ok (.getfield 16, 3) := by decide +kernel
theorem dX1_beside_69 : decode cX1_beside 69 = .ok (.iload_n 1, 1) := by decide +kernel
theorem dX1_beside_70 : decode cX1_beside 70 = .ok (.iaload, 1) := by decide +kernel
theorem dX1_beside_71 : decode cX1_beside 71 = .ok (.aload_n 0, 1) := by decide +kernel
theorem dX1_beside_72 : decode cX1_beside 72 = .ok (.getfield 27, 3) := by decide +kernel
theorem dX1_beside_75 : decode cX1_beside 75 = .ok (.iconst 1, 1) := by decide +kernel
theorem dX1_beside_76 : decode cX1_beside 76 = .ok (.isub, 1) := by decide +kernel
theorem dX1_beside_77 : decode cX1_beside 77 = .ok (.if_icmp .ge 9, 3) := by decide +kernel
theorem dX1_beside_80 : decode cX1_beside 80 = .ok (.iload_n 1, 1) := by decide +kernel
theorem dX1_beside_81 : decode cX1_beside 81 = .ok (.iconst 1, 1) := by decide +kernel
theorem dX1_beside_82 : decode cX1_beside 82 = .ok (.iadd, 1) := by decide +kernel
theorem dX1_beside_83 : decode cX1_beside 83 = .ok (.goto 4, 3) := by decide +kernel
theorem dX1_beside_86 : decode cX1_beside 86 = .ok (.iconst (-1), 1) := by decide +kernel
theorem dX1_beside_87 : decode cX1_beside 87 = .ok (.ireturn, 1) := by decide +kernel
theorem dX1_beside_88 : decode cX1_beside 88 = .ok (.aload_n 0, 1) := by decide +kernel
theorem dX1_beside_89 : decode cX1_beside 89 = .ok (.getfield 20, 3) := by decide +kernel
theorem dX1_beside_92 : decode cX1_beside 92 = .ok (.iload_n 1, 1) := by decide +kernel
theorem dX1_beside_93 : decode cX1_beside 93 = .ok (.iaload, 1) := by decide +kernel
theorem dX1_beside_94 : decode cX1_beside 94 = .ok (.aload_n 0, 1) := by decide +kernel
theorem dX1_beside_95 : decode cX1_beside 95 = .ok (.getfield 31, 3) := by decide +kernel
theorem dX1_beside_98 : decode cX1_beside 98 = .ok (.iconst 1, 1) := by decide +kernel
theorem dX1_beside_99 : decode cX1_beside 99 = .ok (.isub, 1) := by decide +kernel
theorem dX1_beside_100 : decode cX1_beside 100 = .ok (.if_icmp .ge 12, 3) := by decide +kernel
theorem dX1_beside_103 : decode cX1_beside 103 = .ok (.iload_n 1, 1) := by decide +kernel
theorem dX1_beside_104 : decode cX1_beside 104 = .ok (.aload_n 0, 1) := by decide +kernel
theorem dX1_beside_105 : decode cX1_beside 105 = .ok (.getfield 27, 3) := by decide +kernel
theorem dX1_beside_108 : decode cX1_beside 108 = .ok (.iadd, 1) := by decide +kernel
theorem dX1_beside_109 : decode cX1_beside 109 = .ok (.goto 4, 3) := by decide +kernel
theorem dX1_beside_112 : decode cX1_beside 112 = .ok (.iconst (-1), 1) := by decide +kernel
theorem dX1_beside_113 : decode cX1_beside 113 = .ok (.ireturn, 1) := by decide +kernel
theorem dX1_isBesideRoad_0 : decode cX1_isBesideRoad 0 = .ok (.iconst 0, 1) := by decide +kernel
theorem dX1_isBesideRoad_1 : decode cX1_isBesideRoad 1 = .ok (.istore_n 2, 1) := by decide +kernel
theorem dX1_isBesideRoad_2 : decode cX1_isBesideRoad 2 = .ok (.iload_n 2, 1) := by decide +kernel
theorem dX1_isBesideRoad_3 : decode cX1_isBesideRoad 3 = .ok (.iconst 4, 1) := by decide +kernel
theorem dX1_isBesideRoad_4 : decode cX1_isBesideRoad 4 = .ok (.if_icmp .ge 31, 3) := by decide +kernel
theorem dX1_isBesideRoad_7 : decode cX1_isBesideRoad 7 = .ok (.aload_n 0, 1) := by decide +kernel
theorem dX1_isBesideRoad_8 : decode cX1_isBesideRoad 8 = .ok (.iload_n 1, 1) := by decide +kernel
theorem dX1_isBesideRoad_9 : decode cX1_isBesideRoad 9 = .ok (.iload_n 2, 1) := by decide +kernel
theorem dX1_isBesideRoad_10 : decode cX1_isBesideRoad 10 = .ok (.invokevirtual 46, 3) := by decide +kernel
theorem dX1_isBesideRoad_13 : decode cX1_isBesideRoad 13 = .ok (.istore_n 3, 1) := by decide +kernel
theorem dX1_isBesideRoad_14 : decode cX1_isBesideRoad 14 = .ok (.iload_n 3, 1) := by decide +kernel
theorem dX1_isBesideRoad_15 : decode cX1_isBesideRoad 15 = .ok (.iconst (-1), 1) := by decide +kernel
theorem dX1_isBesideRoad_16 : decode cX1_isBesideRoad 16 = .ok (.if_icmp .eq 13, 3) := by decide +kernel
theorem dX1_isBesideRoad_19 : decode cX1_isBesideRoad 19 = .ok (.aload_n 0, 1) := by decide +kernel
theorem dX1_isBesideRoad_20 : decode cX1_isBesideRoad 20 = .ok (.iload_n 3, 1) := by decide +kernel
theorem dX1_isBesideRoad_21 : decode cX1_isBesideRoad 21 = .ok (.invokevirtual 50, 3) := by decide +kernel
theorem dX1_isBesideRoad_24 : decode cX1_isBesideRoad 24 = .ok (.ifCond .eq 5, 3) := by decide +kernel
theorem dX1_isBesideRoad_27 : decode cX1_isBesideRoad 27 = .ok (.iconst 1, 1) := by decide +kernel
theorem dX1_isBesideRoad_28 : decode cX1_isBesideRoad 28 = .ok (.ireturn, 1) := by decide +kernel
theorem dX1_isBesideRoad_29 : decode cX1_isBesideRoad 29 = .ok (.iinc 2 1, 3) := by decide +kernel
theorem dX1_isBesideRoad_32 : decode cX1_isBesideRoad 32 = .ok (.goto (-30), 3) := by decide +kernel
theorem dX1_isBesideRoad_35 : decode cX1_isBesideRoad 35 = .ok (.iconst 0, 1) := by decide +kernel
theorem dX1_isBesideRoad_36 : decode cX1_isBesideRoad 36 = .ok (.ireturn, 1) := by decide +kernel
theorem dX1_roadCells_0 : decode cX1_roadCells 0 = .ok (.iconst 0, 1) := by decide +kernel
theorem dX1_roadCells_1 : decode cX1_roadCells 1 = .ok (.istore_n 1, 1) := by decide +kernel
theorem dX1_roadCells_2 : decode cX1_roadCells 2 = .ok (.iconst 0, 1) := by decide +kernel
theorem dX1_roadCells_3 : decode cX1_roadCells 3 = .ok (.istore_n 2, 1) := by decide +kernel
theorem dX1_roadCells_4 : decode cX1_roadCells 4 = .ok (.iload_n 2, 1) := by decide +kernel
theorem dX1_roadCells_5 : decode cX1_roadCells 5 = .ok (.aload_n 0, 1) := by decide +kernel
theorem dX1_roadCells_6 : decode cX1_roadCells 6 = .ok (.getfield 34, 3) := by decide +kernel
theorem dX1_roadCells_9 : decode cX1_roadCells 9 = .ok (.if_icmp .ge 20, 3) := by decide +kernel
theorem dX1_roadCells_12 : decode cX1_roadCells 12 = .ok (.iload_n 1, 1) := by decide +kernel
theorem dX1_roadCells_13 : decode cX1_roadCells 13 = .ok (.aload_n 0, 1) := by decide +kernel
theorem dX1_roadCells_14 : decode cX1_roadCells 14 = .ok (.getfield 11, 3) := by decide +kernel
theorem dX1_roadCells_17 : decode cX1_roadCells 17 = .ok (.iconst 2, 1) := by decide +kernel
theorem dX1_roadCells_18 : decode cX1_roadCells 18 = .ok (.aaload, 1) := by decide +kernel
theorem dX1_roadCells_19 : decode cX1_roadCells 19 = .ok (.iload_n 2, 1) := by decide +kernel
theorem dX1_roadCells_20 : decode cX1_roadCells 20 = .ok (.iaload, 1) := by decide +kernel
theorem dX1_roadCells_21 : decode cX1_roadCells 21 = .ok (.iadd, 1) := by decide +kernel
theorem dX1_roadCells_22 : decode cX1_roadCells 22 = .ok (.istore_n 1, 1) := by decide +kernel
theorem dX1_roadCells_23 : decode cX1_roadCells 23 = .ok (.iinc 2 1, 3) := by decide +kernel
theorem dX1_roadCells_26 : decode cX1_roadCells 26 = .ok (.goto (-22), 3) := by decide +kernel
theorem dX1_roadCells_29 : decode cX1_roadCells 29 = .ok (.iload_n 1, 1) := by decide +kernel
theorem dX1_roadCells_30 : decode cX1_roadCells 30 = .ok (.ireturn, 1) := by decide +kernel
theorem dX1_isInside_0 : decode cX1_isInside 0 = .ok (.iload_n 1, 1) := by decide +kernel
theorem dX1_isInside_1 : decode cX1_isInside 1 = .ok (.invokestatic 54, 3) := by decide +kernel
theorem dX1_isInside_4 : decode cX1_isInside 4 = .ok (.istore_n 2, 1) := by decide +kernel
theorem dX1_isInside_5 : decode cX1_isInside 5 = .ok (.aload_n 0, 1) := by decide +kernel
theorem dX1_isInside_6 : decode cX1_isInside 6 = .ok (.getfield 16, 3) := by decide +kernel
theorem dX1_isInside_9 : decode cX1_isInside 9 = .ok (.iload_n 2, 1) := by decide +kernel
theorem dX1_isInside_10 : decode cX1_isInside 10 = .ok (.iaload, 1) := by decide +kernel
theorem dX1_isInside_11 : decode cX1_isInside 11 = .ok (.iload_n 1, 1) := by decide +kernel
theorem dX1_isInside_12 : decode cX1_isInside 12 = .ok (.invokestatic 60, 3) := by decide +kernel
theorem dX1_isInside_15 : decode cX1_isInside 15 = .ok (.iadd, 1) := by decide +kernel
theorem dX1_isInside_16 : decode cX1_isInside 16 = .ok (.aload_n 0, 1) := by decide +kernel
theorem dX1_isInside_17 : decode cX1_isInside 17 = .ok (.getfield 27, 3) := by decide +kernel
theorem dX1_isInside_20 : decode cX1_isInside 20 = .ok (.if_icmp .gt 25, 3) := by decide +kernel
theorem dX1_isInside_23 : decode cX1_isInside 23 = .ok (.aload_n 0, 1) := by decide +kernel
theorem dX1_isInside_24 : decode cX1_isInside 24 = .ok (.getfield 20, 3) := by decide +kernel
theorem dX1_isInside_27 : decode cX1_isInside 27 = .ok (.iload_n 2, 1) := by decide +kernel
theorem dX1_isInside_28 : decode cX1_isInside 28 = .ok (.iaload, 1) := by decide +kernel
theorem dX1_isInside_29 : decode cX1_isInside 29 = .ok (.iload_n 1, 1) := by decide +kernel
theorem dX1_isInside_30 : decode cX1_isInside 30 = .ok (.invokestatic 63, 3) := by decide +kernel
theorem dX1_isInside_33 : decode cX1_isInside 33 = .ok (.iadd, 1) := by decide +kernel
theorem dX1_isInside_34 : decode cX1_isInside 34 = .ok (.aload_n 0, 1) := by decide +kernel
theorem dX1_isInside_35 : decode cX1_isInside 35 = .ok (.getfield 31, 3) := by decide +kernel
theorem dX1_isInside_38 : decode cX1_isInside 38 = .ok (.if_icmp .gt 7, 3) := by decide +kernel
theorem dX1_isInside_41 : decode cX1_isInside 41 = .ok (.iconst 1, 1) := by decide +kernel
theorem dX1_isInside_42 : decode cX1_isInside 42 = .ok (.goto 4, 3) := by decide +kernel
theorem dX1_isInside_45 : decode cX1_isInside 45 = .ok (.iconst 0, 1) := by decide +kernel
theorem dX1_isInside_46 : decode cX1_isInside 46 = .ok (.ireturn, 1) := by decide +kernel
theorem dX1_isIn_0 : decode cX1_isIn 0 = .ok (.iload_n 2, 1) := by decide +kernel
theorem dX1_isIn_1 : decode cX1_isIn 1 = .ok (.invokestatic 54, 3) := by decide +kernel
theorem dX1_isIn_4 : decode cX1_isIn 4 = .ok (.istore_n 3, 1) := by decide +kernel
theorem dX1_isIn_5 : decode cX1_isIn 5 = .ok (.aload_n 0, 1) := by decide +kernel
theorem dX1_isIn_6 : decode cX1_isIn 6 = .ok (.getfield 16, 3) := by decide +kernel
theorem dX1_isIn_9 : decode cX1_isIn 9 = .ok (.iload_n 1, 1) := by decide +kernel
theorem dX1_isIn_10 : decode cX1_isIn 10 = .ok (.iaload, 1) := by decide +kernel
theorem dX1_isIn_11 : decode cX1_isIn 11 = .ok (.aload_n 0, 1) := by decide +kernel
theorem dX1_isIn_12 : decode cX1_isIn 12 = .ok (.getfield 16, 3) := by decide +kernel
theorem dX1_isIn_15 : decode cX1_isIn 15 = .ok (.iload_n 3, 1) := by decide +kernel
theorem dX1_isIn_16 : decode cX1_isIn 16 = .ok (.iaload, 1) := by decide +kernel
theorem dX1_isIn_17 : decode cX1_isIn 17 = .ok (.isub, 1) := by decide +kernel
theorem dX1_isIn_18 : decode cX1_isIn 18 = .ok (.istore 4, 2) := by decide +kernel
theorem dX1_isIn_20 : decode cX1_isIn 20 = .ok (.aload_n 0, 1) := by decide +kernel
theorem dX1_isIn_21 : decode cX1_isIn 21 = .ok (.getfield 20, 3) := by decide +kernel
theorem dX1_isIn_24 : decode cX1_isIn 24 = .ok (.iload_n 1, 1) := by decide +kernel
theorem dX1_isIn_25 : decode cX1_isIn 25 = .ok (.iaload, 1) := by decide +kernel
theorem dX1_isIn_26 : decode cX1_isIn 26 = .ok (.aload_n 0, 1) := by decide +kernel
theorem dX1_isIn_27 : decode cX1_isIn 27 = .ok (.getfield 20, 3) := by decide +kernel
theorem dX1_isIn_30 : decode cX1_isIn 30 = .ok (.iload_n 3, 1) := by decide +kernel
theorem dX1_isIn_31 : decode cX1_isIn 31 = .ok (.iaload, 1) := by decide +kernel
theorem dX1_isIn_32 : decode cX1_isIn 32 = .ok (.isub, 1) := by decide +kernel
theorem dX1_isIn_33 : decode cX1_isIn 33 = .ok (.istore 5, 2) := by decide +kernel
theorem dX1_isIn_35 : decode cX1_isIn 35 = .ok (.iload 4, 2) := by decide +kernel
theorem dX1_isIn_37 : decode cX1_isIn 37 = .ok (.ifCond .lt 30, 3) := by decide +kernel
theorem dX1_isIn_40 : decode cX1_isIn 40 = .ok (.iload 4, 2) := by decide +kernel
theorem dX1_isIn_42 : decode cX1_isIn 42 = .ok (.iload_n 2, 1) := by decide +kernel
theorem dX1_isIn_43 : decode cX1_isIn 43 = .ok (.invokestatic 60, 3) := by decide +kernel
theorem dX1_isIn_46 : decode cX1_isIn 46 = .ok (.if_icmp .ge 21, 3) := by decide +kernel
theorem dX1_isIn_49 : decode cX1_isIn 49 = .ok (.iload 5, 2) := by decide +kernel
theorem dX1_isIn_51 : decode cX1_isIn 51 = .ok (.ifCond .lt 16, 3) := by decide +kernel
theorem dX1_isIn_54 : decode cX1_isIn 54 = .ok (.iload 5, 2) := by decide +kernel
theorem dX1_isIn_56 : decode cX1_isIn 56 = .ok (.iload_n 2, 1) := by decide +kernel
theorem dX1_isIn_57 : decode cX1_isIn 57 = .ok (.invokestatic 63, 3) := by decide +kernel
theorem dX1_isIn_60 : decode cX1_isIn 60 = .ok (.if_icmp .ge 7, 3) := by decide +kernel
theorem dX1_isIn_63 : decode cX1_isIn 63 = .ok (.iconst 1, 1) := by decide +kernel
theorem dX1_isIn_64 : decode cX1_isIn 64 = .ok (.goto 4, 3) := by decide +kernel
theorem dX1_isIn_67 : decode cX1_isIn 67 = .ok (.iconst 0, 1) := by decide +kernel
theorem dX1_isIn_68 : decode cX1_isIn 68 = .ok (.ireturn, 1) := by decide +kernel
theorem dX1_stepsTo_0 : decode cX1_stepsTo 0 = .ok (.iload_n 2, 1) := by decide +kernel
theorem dX1_stepsTo_1 : decode cX1_stepsTo 1 = .ok (.invokestatic 54, 3) := by decide +kernel
theorem dX1_stepsTo_4 : decode cX1_stepsTo 4 = .ok (.istore_n 3, 1) := by decide +kernel
theorem dX1_stepsTo_5 : decode cX1_stepsTo 5 = .ok (.aload_n 0, 1) := by decide +kernel
theorem dX1_stepsTo_6 : decode cX1_stepsTo 6 = .ok (.getfield 16, 3) := by decide +kernel
theorem dX1_stepsTo_9 : decode cX1_stepsTo 9 = .ok (.iload_n 1, 1) := by decide +kernel
theorem dX1_stepsTo_10 : decode cX1_stepsTo 10 = .ok (.iaload, 1) := by decide +kernel
theorem dX1_stepsTo_11 : decode cX1_stepsTo 11 = .ok (.aload_n 0, 1) := by decide +kernel
theorem dX1_stepsTo_12 : decode cX1_stepsTo 12 = .ok (.getfield 16, 3) := by decide +kernel
theorem dX1_stepsTo_15 : decode cX1_stepsTo 15 = .ok (.iload_n 3, 1) := by decide +kernel
theorem dX1_stepsTo_16 : decode cX1_stepsTo 16 = .ok (.iaload, 1) := by decide +kernel
theorem dX1_stepsTo_17 : decode cX1_stepsTo 17 = .ok (.iload_n 2, 1) := by decide +kernel
theorem dX1_stepsTo_18 : decode cX1_stepsTo 18 = .ok (.invokestatic 60, 3) := by decide +kernel
theorem dX1_stepsTo_21 : decode cX1_stepsTo 21 = .ok (.invokestatic 66, 3) := by decide +kernel
theorem dX1_stepsTo_24 : decode cX1_stepsTo 24 = .ok (.aload_n 0, 1) := by decide +kernel
theorem dX1_stepsTo_25 : decode cX1_stepsTo 25 = .ok (.getfield 20, 3) := by decide +kernel
theorem dX1_stepsTo_28 : decode cX1_stepsTo 28 = .ok (.iload_n 1, 1) := by decide +kernel
theorem dX1_stepsTo_29 : decode cX1_stepsTo 29 = .ok (.iaload, 1) := by decide +kernel
theorem dX1_stepsTo_30 : decode cX1_stepsTo 30 = .ok (.aload_n 0, 1) := by decide +kernel
theorem dX1_stepsTo_31 : decode cX1_stepsTo 31 = .ok (.getfield 20, 3) := by decide +kernel
theorem dX1_stepsTo_34 : decode cX1_stepsTo 34 = .ok (.iload_n 3, 1) := by decide +kernel
theorem dX1_stepsTo_35 : decode cX1_stepsTo 35 = .ok (.iaload, 1) := by decide +kernel
theorem dX1_stepsTo_36 : decode cX1_stepsTo 36 = .ok (.iload_n 2, 1) := by decide +kernel
theorem dX1_stepsTo_37 : decode cX1_stepsTo 37 = .ok (.invokestatic 63, 3) := by decide +kernel
theorem dX1_stepsTo_40 : decode cX1_stepsTo 40 = .ok (.invokestatic 66, 3) := by decide +kernel
theorem dX1_stepsTo_43 : decode cX1_stepsTo 43 = .ok (.iadd, 1) := by decide +kernel
theorem dX1_stepsTo_44 : decode cX1_stepsTo 44 = .ok (.ireturn, 1) := by decide +kernel
theorem dX1_gap_0 : decode cX1_gap 0 = .ok (.iload_n 0, 1) := by decide +kernel
theorem dX1_gap_1 : decode cX1_gap 1 = .ok (.iload_n 1, 1) := by decide +kernel
theorem dX1_gap_2 : decode cX1_gap 2 = .ok (.if_icmp .ge 7, 3) := by decide +kernel
theorem dX1_gap_5 : decode cX1_gap 5 = .ok (.iload_n 1, 1) := by decide +kernel
theorem dX1_gap_6 : decode cX1_gap 6 = .ok (.iload_n 0, 1) := by decide +kernel
theorem dX1_gap_7 : decode cX1_gap 7 = .ok (.isub, 1) := by decide +kernel
theorem dX1_gap_8 : decode cX1_gap 8 = .ok (.ireturn, 1) := by decide +kernel
theorem dX1_gap_9 : decode cX1_gap 9 = .ok (.iconst 0, 1) := by decide +kernel
theorem dX1_gap_10 : decode cX1_gap 10 = .ok (.iload_n 0, 1) := by decide +kernel
theorem dX1_gap_11 : decode cX1_gap 11 = .ok (.iload_n 1, 1) := by decide +kernel
theorem dX1_gap_12 : decode cX1_gap 12 = .ok (.iload_n 2, 1) := by decide +kernel
theorem dX1_gap_13 : decode cX1_gap 13 = .ok (.iadd, 1) := by decide +kernel
theorem dX1_gap_14 : decode cX1_gap 14 = .ok (.iconst 1, 1) := by decide +kernel
theorem dX1_gap_15 : decode cX1_gap 15 = .ok (.isub, 1) := by decide +kernel
theorem dX1_gap_16 : decode cX1_gap 16 = .ok (.isub, 1) := by decide +kernel
theorem dX1_gap_17 : decode cX1_gap 17 = .ok (.invokestatic 70, 3) := by decide +kernel
theorem dX1_gap_20 : decode cX1_gap 20 = .ok (.ireturn, 1) := by decide +kernel
theorem dX2_init_0 : decode cX2_init 0 = .ok (.aload_n 0, 1) := by decide +kernel
theorem dX2_init_1 : decode cX2_init 1 = .ok (.invokespecial 3, 3) := by decide +kernel
theorem dX2_init_4 : decode cX2_init 4 = .ok (.aload_n 0, 1) := by decide +kernel
theorem dX2_init_5 : decode cX2_init 5 = .ok (.bipush 8, 2) := by decide +kernel
theorem dX2_init_7 : decode cX2_init 7 = .ok (.newarray .int, 2) := by decide +kernel
theorem dX2_init_9 : decode cX2_init 9 = .ok (.putfield 9, 3) := by decide +kernel
theorem dX2_init_12 : decode cX2_init 12 = .ok (.aload_n 0, 1) := by decide +kernel
theorem dX2_init_13 : decode cX2_init 13 = .ok (.bipush 8, 2) := by decide +kernel
theorem dX2_init_15 : decode cX2_init 15 = .ok (.newarray .int, 2) := by decide +kernel
theorem dX2_init_17 : decode cX2_init 17 = .ok (.putfield 15, 3) := by decide +kernel
theorem dX2_init_20 : decode cX2_init 20 = .ok (.aload_n 0, 1) := by decide +kernel
theorem dX2_init_21 : decode cX2_init 21 = .ok (.aload_n 1, 1) := by decide +kernel
theorem dX2_init_22 : decode cX2_init 22 = .ok (.putfield 18, 3) := by decide +kernel
theorem dX2_init_25 : decode cX2_init 25 = .ok (.aload_n 0, 1) := by decide +kernel
theorem dX2_init_26 : decode cX2_init 26 = .ok (.aload_n 2, 1) := by decide +kernel
theorem dX2_init_27 : decode cX2_init 27 = .ok (.putfield 22, 3) := by decide +kernel
theorem dX2_init_30 : decode cX2_init 30 = .ok (.aload_n 0, 1) := by decide +kernel
theorem dX2_init_31 : decode cX2_init 31 = .ok (.invokevirtual 26, 3) := by decide +kernel
theorem dX2_init_34 : decode cX2_init 34 = .ok (.return_, 1) := by decide +kernel
theorem dX2_clear_0 : decode cX2_clear 0 = .ok (.aload_n 0, 1) := by decide +kernel
theorem dX2_clear_1 : decode cX2_clear 1 = .ok (.getfield 9, 3) := by decide +kernel
theorem dX2_clear_4 : decode cX2_clear 4 = .ok (.iconst (-1), 1) := by decide +kernel
theorem dX2_clear_5 : decode cX2_clear 5 = .ok (.invokestatic 29, 3) := by decide +kernel
theorem dX2_clear_8 : decode cX2_clear 8 = .ok (.aload_n 0, 1) := by decide +kernel
theorem dX2_clear_9 : decode cX2_clear 9 = .ok (.getfield 15, 3) := by decide +kernel
theorem dX2_clear_12 : decode cX2_clear 12 = .ok (.iconst (-1), 1) := by decide +kernel
theorem dX2_clear_13 : decode cX2_clear 13 = .ok (.invokestatic 29, 3) := by decide +kernel
theorem dX2_clear_16 : decode cX2_clear 16 = .ok (.return_, 1) := by decide +kernel
theorem dX2_isDrawn_0 : decode cX2_isDrawn 0 = .ok (.aload_n 0, 1) := by decide +kernel
theorem dX2_isDrawn_1 : decode cX2_isDrawn 1 = .ok (.getfield 9, 3) := by decide +kernel
theorem dX2_isDrawn_4 : decode cX2_isDrawn 4 = .ok (.iload_n 1, 1) := by decide +kernel
theorem dX2_isDrawn_5 : decode cX2_isDrawn 5 = .ok (.iaload, 1) := by decide +kernel
theorem dX2_isDrawn_6 : decode cX2_isDrawn 6 = .ok (.iconst (-1), 1) := by decide +kernel
theorem dX2_isDrawn_7 : decode cX2_isDrawn 7 = .ok (.if_icmp .eq 7, 3) := by decide +kernel
theorem dX2_isDrawn_10 : decode cX2_isDrawn 10 = .ok (.iconst 1, 1) := by decide +kernel
theorem dX2_isDrawn_11 : decode cX2_isDrawn 11 = .ok (.goto 4, 3) := by decide +kernel
theorem dX2_isDrawn_14 : decode cX2_isDrawn 14 = .ok (.iconst 0, 1) := by decide +kernel
theorem dX2_isDrawn_15 : decode cX2_isDrawn 15 = .ok (.ireturn, 1) := by decide +kernel
theorem dX2_drawnPlots_0 : decode cX2_drawnPlots 0 = .ok (.iconst 0, 1) := by decide +kernel
theorem dX2_drawnPlots_1 : decode cX2_drawnPlots 1 = .ok (.istore_n 1, 1) := by decide +kernel
theorem dX2_drawnPlots_2 : decode cX2_drawnPlots 2 = .ok (.iconst 0, 1) := by decide +kernel
theorem dX2_drawnPlots_3 : decode cX2_drawnPlots 3 = .ok (.istore_n 2, 1) := by decide +kernel
theorem dX2_drawnPlots_4 : decode cX2_drawnPlots 4 = .ok (.iload_n 2, 1) := by decide +kernel
theorem dX2_drawnPlots_5 : decode cX2_drawnPlots 5 = .ok (.aload_n 0, 1) := by decide +kernel
theorem dX2_drawnPlots_6 : decode cX2_drawnPlots 6 = .ok (.getfield 22, 3) := by decide +kernel
theorem dX2_drawnPlots_9 : decode cX2_drawnPlots 9 = .ok (.getfield 35, 3) := by decide +kernel
theorem dX2_drawnPlots_12 : decode cX2_drawnPlots 12 = .ok (.if_icmp .ge 20, 3) := by decide +kernel
theorem dX2_drawnPlots_15 : decode cX2_drawnPlots 15 = .ok (.aload_n 0, 1) := by decide +kernel
theorem dX2_drawnPlots_16 : decode cX2_drawnPlots 16 = .ok (.iload_n 2, 1) := by decide +kernel
theorem dX2_drawnPlots_17 : decode cX2_drawnPlots 17 = .ok (.invokevirtual 41, 3) := by decide +kernel
theorem dX2_drawnPlots_20 : decode cX2_drawnPlots 20 = .ok (.ifCond .eq 6, 3) := by decide +kernel
theorem dX2_drawnPlots_23 : decode cX2_drawnPlots 23 = .ok (.iinc 1 1, 3) := by decide +kernel
theorem dX2_drawnPlots_26 : decode cX2_drawnPlots 26 = .ok (.iinc 2 1, 3) := by decide +kernel
theorem dX2_drawnPlots_29 : decode cX2_drawnPlots 29 = .ok (.goto (-25), 3) := by decide +kernel
theorem dX2_drawnPlots_32 : decode cX2_drawnPlots 32 = .ok (.iload_n 1, 1) := by decide +kernel
theorem dX2_drawnPlots_33 : decode cX2_drawnPlots 33 = .ok (.ireturn, 1) := by decide +kernel
theorem dX2_isInPlotAhead_0 : decode cX2_isInPlotAhead 0 = .ok (.iconst 0, 1) := by decide +kernel
theorem dX2_isInPlotAhead_1 : decode cX2_isInPlotAhead 1 = .ok (.istore_n 3, 1) := by decide +kernel
theorem dX2_isInPlotAhead_2 : decode cX2_isInPlotAhead 2 = .ok (.iload_n 3, 1) := by decide +kernel
theorem dX2_isInPlotAhead_3 : decode cX2_isInPlotAhead 3 = .ok (.iload_n 2, 1) := by decide +kernel
theorem dX2_isInPlotAhead_4 : decode cX2_isInPlotAhead 4 = .ok (.if_icmp .ge 36, 3) := by decide +kernel
theorem dX2_isInPlotAhead_7 : decode cX2_isInPlotAhead 7 = .ok (.aload_n 0, 1) := by decide +kernel
theorem dX2_isInPlotAhead_8 : decode cX2_isInPlotAhead 8 = .ok (.iload_n 3, 1) := by decide +kernel
theorem dX2_isInPlotAhead_9 : decode cX2_isInPlotAhead 9 = .ok (.invokevirtual 41, 3) := by decide +kernel
theorem dX2_isInPlotAhead_12 : decode cX2_isInPlotAhead 12 = .ok (.ifCond .eq 22, 3) := by decide +kernel
theorem dX2_isInPlotAhead_15 : decode cX2_isInPlotAhead 15 = .ok (.aload_n 0, 1) := by decide +kernel
theorem dX2_isInPlotAhead_16 : decode cX2_isInPlotAhead 16 = .ok (.getfield 18, 3) := by decide +kernel
theorem dX2_isInPlotAhead_19 : decode cX2_isInPlotAhead 19 = .ok (.iload_n 1, 1) := by decide +kernel
theorem dX2_isInPlotAhead_20 : decode cX2_isInPlotAhead 20 = .ok (.aload_n 0, 1) := by decide +kernel
theorem dX2_isInPlotAhead_21 : decode cX2_isInPlotAhead 21 = .ok (.getfield 9, 3) := by decide +kernel
theorem dX2_isInPlotAhead_24 : decode cX2_isInPlotAhead 24 = .ok (.iload_n 3, 1) := by decide +kernel
theorem dX2_isInPlotAhead_25 : decode cX2_isInPlotAhead 25 = .ok (.iaload, 1) := by decide +kernel
theorem dX2_isInPlotAhead_26 : decode cX2_isInPlotAhead 26 = .ok (.invokevirtual 45, 3) := by decide +kernel
theorem dX2_isInPlotAhead_29 : decode cX2_isInPlotAhead 29 = .ok (.ifCond .eq 5, 3) := by decide +kernel
theorem dX2_isInPlotAhead_32 : decode cX2_isInPlotAhead 32 = .ok (.iconst 1, 1) := by decide +kernel
theorem dX2_isInPlotAhead_33 : decode cX2_isInPlotAhead 33 = .ok (.ireturn, 1) := by decide +kernel
theorem dX2_isInPlotAhead_34 : decode cX2_isInPlotAhead 34 = .ok (.iinc 3 1, 3) := by decide +kernel
theorem dX2_isInPlotAhead_37 : decode cX2_isInPlotAhead 37 = .ok (.goto (-35), 3) := by decide +kernel
theorem dX2_isInPlotAhead_40 : decode cX2_isInPlotAhead 40 = .ok (.iconst 0, 1) := by decide +kernel
theorem dX2_isInPlotAhead_41 : decode cX2_isInPlotAhead 41 = .ok (.ireturn, 1) := by decide +kernel
theorem dX2_faultOf_0 : decode cX2_faultOf 0 = .ok (.aload_n 0, 1) := by decide +kernel
theorem dX2_faultOf_1 : decode cX2_faultOf 1 = .ok (.getfield 9, 3) := by decide +kernel
theorem dX2_faultOf_4 : decode cX2_faultOf 4 = .ok (.iload_n 1, 1) := by decide +kernel
theorem dX2_faultOf_5 : decode cX2_faultOf 5 = .ok (.iaload, 1) := by decide +kernel
theorem dX2_faultOf_6 : decode cX2_faultOf 6 = .ok (.istore 4, 2) := by decide +kernel
theorem dX2_faultOf_8 : decode cX2_faultOf 8 = .ok (.aload_n 0, 1) := by decide +kernel
theorem dX2_faultOf_9 : decode cX2_faultOf 9 = .ok (.getfield 18, 3) := by decide +kernel
theorem dX2_faultOf_12 : decode cX2_faultOf 12 = .ok (.iload 4, 2) := by decide +kernel
theorem dX2_faultOf_14 : decode cX2_faultOf 14 = .ok (.invokevirtual 51, 3) := by decide +kernel
theorem dX2_faultOf_17 : decode cX2_faultOf 17 = .ok (.ifCond .ne 5, 3) := by decide +kernel
theorem dX2_faultOf_20 : decode cX2_faultOf 20 = .ok (.iconst 1, 1) := by decide +kernel
theorem dX2_faultOf_21 : decode cX2_faultOf 21 = .ok (.ireturn, 1) := by decide +kernel
theorem dX2_faultOf_22 : decode cX2_faultOf 22 = .ok (.iconst 1, 1) := by decide +kernel
theorem dX2_faultOf_23 : decode cX2_faultOf 23 = .ok (.istore 5, 2) := by decide +kernel
theorem dX2_faultOf_25 : decode cX2_faultOf 25 = .ok (.iconst 1, 1) := by decide +kernel
theorem dX2_faultOf_26 : decode cX2_faultOf 26 = .ok (.istore 6, 2) := by decide +kernel
theorem dX2_faultOf_28 : decode cX2_faultOf 28 = .ok (.iconst 0, 1) := by decide +kernel
theorem dX2_faultOf_29 : decode cX2_faultOf 29 = .ok (.istore 7, 2) := by decide +kernel
theorem dX2_faultOf_31 : decode cX2_faultOf 31 = .ok (.iconst 0, 1) := by decide +kernel
theorem dX2_faultOf_32 : decode cX2_faultOf 32 = .ok (.istore 8, 2) := by decide +kernel
theorem dX2_faultOf_34 : decode cX2_faultOf 34 = .ok (.iload 8, 2) := by decide +kernel
theorem dX2_faultOf_36 : decode cX2_faultOf 36 = .ok (.aload_n 0, 1) := by decide +kernel
theorem dX2_faultOf_37 : decode cX2_faultOf 37 = .ok (.getfield 18, 3) := by decide +kernel
theorem dX2_faultOf_40 : decode cX2_faultOf 40 = .ok (.getfield 54, 3) := by decide +kernel
theorem dX2_faultOf_43 : decode cX2_faultOf 43 = .ok (.if_icmp .ge 96, 3) := by decide +kernel
theorem dX2_faultOf_46 : decode cX2_faultOf 46 = .ok (.aload_n 0, 1) := by decide +kernel
theorem dX2_faultOf_47 : decode cX2_faultOf 47 = .ok (.getfield 18, 3) := by decide +kernel
theorem dX2_faultOf_50 : decode cX2_faultOf 50 = .ok (.iload 8, 2) := by decide +kernel
theorem dX2_faultOf_52 : decode cX2_faultOf 52 = .ok (.iload 4, 2) := by decide +kernel
theorem dX2_faultOf_54 : decode cX2_faultOf 54 = .ok (.invokevirtual 45, 3) := by decide +kernel
theorem dX2_faultOf_57 : decode cX2_faultOf 57 = .ok (.ifCond .ne 6, 3) := by decide +kernel
theorem dX2_faultOf_60 : decode cX2_faultOf 60 = .ok (.goto 73, 3) := by decide +kernel
theorem dX2_faultOf_63 : decode cX2_faultOf 63 = .ok (.iload 5, 2) := by decide +kernel
theorem dX2_faultOf_65 : decode cX2_faultOf 65 = .ok (.ifCond .eq 19, 3) := by decide +kernel
theorem dX2_faultOf_68 : decode cX2_faultOf 68 = .ok (.aload_n 0, 1) := by decide +kernel
theorem dX2_faultOf_69 : decode cX2_faultOf 69 = .ok (.getfield 18, 3) := by decide +kernel
theorem dX2_faultOf_72 : decode cX2_faultOf 72 = .ok (.iload 8, 2) := by decide +kernel
theorem dX2_faultOf_74 : decode cX2_faultOf 74 = .ok (.invokevirtual 57, 3) := by decide +kernel
theorem dX2_faultOf_77 : decode cX2_faultOf 77 = .ok (.ifCond .eq 7, 3) := by decide +kernel
theorem dX2_faultOf_80 : decode cX2_faultOf 80 = .ok (.iconst 1, 1) := by decide +kernel
theorem dX2_faultOf_81 : decode cX2_faultOf 81 = .ok (.goto 4, 3) := by decide +kernel
theorem dX2_faultOf_84 : decode cX2_faultOf 84 = .ok (.iconst 0, 1) := by decide +kernel
theorem dX2_faultOf_85 : decode cX2_faultOf 85 = .ok (.istore 5, 2) := by decide +kernel
theorem dX2_faultOf_87 : decode cX2_faultOf 87 = .ok (.iload 6, 2) := by decide +kernel
theorem dX2_faultOf_89 : decode cX2_faultOf 89 = .ok (.ifCond .eq 17, 3) := by decide +kernel
theorem dX2_faultOf_92 : decode cX2_faultOf 92 = .ok (.aload_n 0, 1) := by decide +kernel
theorem dX2_faultOf_93 : decode cX2_faultOf 93 = .ok (.iload 8, 2) := by decide +kernel
theorem dX2_faultOf_95 : decode cX2_faultOf 95 = .ok (.iload_n 1, 1) := by decide +kernel
theorem dX2_faultOf_96 : decode cX2_faultOf 96 = .ok (.invokevirtual 60, 3) := by decide +kernel
theorem dX2_faultOf_99 : decode cX2_faultOf 99 = .ok (.ifCond .ne 7, 3) := by decide +kernel
theorem dX2_faultOf_102 : decode cX2_faultOf 102 = .ok (.iconst 1, 1) := by decide +kernel
theorem dX2_faultOf_103 : decode cX2_faultOf 103 = .ok (.goto 4, 3) := by decide +kernel
theorem dX2_faultOf_106 : decode cX2_faultOf 106 = .ok (.iconst 0, 1) := by decide +kernel
theorem dX2_faultOf_107 : decode cX2_faultOf 107 = .ok (.istore 6, 2) := by decide +kernel
theorem dX2_faultOf_109 : decode cX2_faultOf 109 = .ok (.iload 7, 2) := by decide +kernel
theorem dX2_faultOf_111 : decode cX2_faultOf 111 = .ok (.ifCond .ne 15, 3) := by decide +kernel
theorem dX2_faultOf_114 : decode cX2_faultOf 114 = .ok (.aload_n 0, 1) := by decide +kernel
theorem dX2_faultOf_115 : decode cX2_faultOf 115 = .ok (.getfield 18, 3) := by decide +kernel
theorem dX2_faultOf_118 : decode cX2_faultOf 118 = .ok (.iload 8, 2) := by decide +kernel
theorem dX2_faultOf_120 : decode cX2_faultOf 120 = .ok (.invokevirtual 63, 3) := by decide +kernel
theorem dX2_faultOf_123 : decode cX2_faultOf 123 = .ok (.ifCond .eq 7, 3) := by decide +kernel
theorem dX2_faultOf_126 : decode cX2_faultOf 126 = .ok (.iconst 1, 1) := by decide +kernel
theorem dX2_faultOf_127 : decode cX2_faultOf 127 = .ok (.goto 4, 3) := by decide +kernel
theorem dX2_faultOf_130 : decode cX2_faultOf 130 = .ok (.iconst 0, 1) := by decide +kernel
theorem dX2_faultOf_131 : decode cX2_faultOf 131 = .ok (.istore 7, 2) := by decide +kernel
theorem dX2_faultOf_133 : decode cX2_faultOf 133 = .ok (.iinc 8 1, 3) := by decide +kernel
theorem dX2_faultOf_136 : decode cX2_faultOf 136 = .ok (.goto (-102), 3) := by decide +kernel
theorem dX2_faultOf_139 : decode cX2_faultOf 139 = .ok (.iload 5, 2) := by decide +kernel
theorem dX2_faultOf_141 : decode cX2_faultOf 141 = .ok (.ifCond .ne 5, 3) := by decide +kernel
theorem dX2_faultOf_144 : decode cX2_faultOf 144 = .ok (.iconst 1, 1) := by decide +kernel
theorem dX2_faultOf_145 : decode cX2_faultOf 145 = .ok (.ireturn, 1) := by decide +kernel
theorem dX2_faultOf_146 : decode cX2_faultOf 146 = .ok (.iload 6, 2) := by decide +kernel
theorem dX2_faultOf_148 : decode cX2_faultOf 148 = .ok (.ifCond .ne 5, 3) := by decide +kernel
theorem dX2_faultOf_151 : decode cX2_faultOf 151 = .ok (.iconst 2, 1) := by decide +kernel
theorem dX2_faultOf_152 : decode cX2_faultOf 152 = .ok (.ireturn, 1) := by decide +kernel
theorem dX2_faultOf_153 : decode cX2_faultOf 153 = .ok (.aload_n 0, 1) := by decide +kernel
theorem dX2_faultOf_154 : decode cX2_faultOf 154 = .ok (.iload_n 1, 1) := by decide +kernel
theorem dX2_faultOf_155 : decode cX2_faultOf 155 = .ok (.invokevirtual 66, 3) := by decide +kernel
theorem dX2_faultOf_158 : decode cX2_faultOf 158 = .ok (.iload_n 2, 1) := by decide +kernel
theorem dX2_faultOf_159 : decode cX2_faultOf 159 = .ok (.isub, 1) := by decide +kernel
theorem dX2_faultOf_160 : decode cX2_faultOf 160 = .ok (.invokestatic 70, 3) := by decide +kernel
theorem dX2_faultOf_163 : decode cX2_faultOf 163 = .ok (.iload_n 3, 1) := by decide +kernel
theorem dX2_faultOf_164 : decode cX2_faultOf 164 = .ok (.if_icmp .le 5, 3) := by decide +kernel
theorem dX2_faultOf_167 : decode cX2_faultOf 167 = .ok (.iconst 3, 1) := by decide +kernel
theorem dX2_faultOf_168 : decode cX2_faultOf 168 = .ok (.ireturn, 1) := by decide +kernel
theorem dX2_faultOf_169 : decode cX2_faultOf 169 = .ok (.iload 7, 2) := by decide +kernel
theorem dX2_faultOf_171 : decode cX2_faultOf 171 = .ok (.ifCond .eq 7, 3) := by decide +kernel
theorem dX2_faultOf_174 : decode cX2_faultOf 174 = .ok (.iconst 0, 1) := by decide +kernel
theorem dX2_faultOf_175 : decode cX2_faultOf 175 = .ok (.goto 4, 3) := by decide +kernel
theorem dX2_faultOf_178 : decode cX2_faultOf 178 = .ok (.iconst 4, 1) := by decide +kernel
theorem dX2_faultOf_179 : decode cX2_faultOf 179 = .ok (.ireturn, 1) := by decide +kernel
theorem dX2_worthOf_0 : decode cX2_worthOf 0 = .ok (.iconst 0, 1) := by decide +kernel
theorem dX2_worthOf_1 : decode cX2_worthOf 1 = .ok (.istore_n 2, 1) := by decide +kernel
theorem dX2_worthOf_2 : decode cX2_worthOf 2 = .ok (.iconst 0, 1) := by decide +kernel
theorem dX2_worthOf_3 : decode cX2_worthOf 3 = .ok (.istore_n 3, 1) := by decide +kernel
theorem dX2_worthOf_4 : decode cX2_worthOf 4 = .ok (.iload_n 3, 1) := by decide +kernel
theorem dX2_worthOf_5 : decode cX2_worthOf 5 = .ok (.aload_n 0, 1) := by decide +kernel
theorem dX2_worthOf_6 : decode cX2_worthOf 6 = .ok (.getfield 18, 3) := by decide +kernel
theorem dX2_worthOf_9 : decode cX2_worthOf 9 = .ok (.getfield 54, 3) := by decide +kernel
theorem dX2_worthOf_12 : decode cX2_worthOf 12 = .ok (.if_icmp .ge 40, 3) := by decide +kernel
theorem dX2_worthOf_15 : decode cX2_worthOf 15 = .ok (.aload_n 0, 1) := by decide +kernel
theorem dX2_worthOf_16 : decode cX2_worthOf 16 = .ok (.getfield 18, 3) := by decide +kernel
theorem dX2_worthOf_19 : decode cX2_worthOf 19 = .ok (.iload_n 3, 1) := by decide +kernel
theorem dX2_worthOf_20 : decode cX2_worthOf 20 = .ok (.aload_n 0, 1) := by decide +kernel
theorem dX2_worthOf_21 : decode cX2_worthOf 21 = .ok (.getfield 9, 3) := by decide +kernel
theorem dX2_worthOf_24 : decode cX2_worthOf 24 = .ok (.iload_n 1, 1) := by decide +kernel
theorem dX2_worthOf_25 : decode cX2_worthOf 25 = .ok (.iaload, 1) := by decide +kernel
theorem dX2_worthOf_26 : decode cX2_worthOf 26 = .ok (.invokevirtual 45, 3) := by decide +kernel
theorem dX2_worthOf_29 : decode cX2_worthOf 29 = .ok (.ifCond .eq 17, 3) := by decide +kernel
theorem dX2_worthOf_32 : decode cX2_worthOf 32 = .ok (.iload_n 2, 1) := by decide +kernel
theorem dX2_worthOf_33 : decode cX2_worthOf 33 = .ok (.aload_n 0, 1) := by decide +kernel
theorem dX2_worthOf_34 : decode cX2_worthOf 34 = .ok (.getfield 18, 3) := by decide +kernel
theorem dX2_worthOf_37 : decode cX2_worthOf 37 = .ok (.getfield 75, 3) := by decide +kernel
theorem dX2_worthOf_40 : decode cX2_worthOf 40 = .ok (.iconst 0, 1) := by decide +kernel
theorem dX2_worthOf_41 : decode cX2_worthOf 41 = .ok (.aaload, 1) := by decide +kernel
theorem dX2_worthOf_42 : decode cX2_worthOf 42 = .ok (.iload_n 3, 1) := by decide +kernel
theorem dX2_worthOf_43 : decode cX2_worthOf 43 = .ok (.iaload, 1) := by decide +kernel
theorem dX2_worthOf_44 : decode cX2_worthOf 44 = .ok (.iadd, 1) := by decide +kernel
theorem dX2_worthOf_45 : decode cX2_worthOf 45 = .ok (.istore_n 2, 1) := by decide +kernel
theorem dX2_worthOf_46 : decode cX2_worthOf 46 = .ok (.iinc 3 1, 3) := by decide +kernel
theorem dX2_worthOf_49 : decode cX2_worthOf 49 = .ok (.goto (-45), 3) := by decide +kernel
theorem dX2_worthOf_52 : decode cX2_worthOf 52 = .ok (.iload_n 2, 1) := by decide +kernel
theorem dX2_worthOf_53 : decode cX2_worthOf 53 = .ok (.ireturn, 1) := by decide +kernel
theorem dX2_hedgeOf_0 : decode cX2_hedgeOf 0 = .ok (.iconst 0, 1) := by decide +kernel
theorem dX2_hedgeOf_1 : decode cX2_hedgeOf 1 = .ok (.istore_n 2, 1) := by decide +kernel
theorem dX2_hedgeOf_2 : decode cX2_hedgeOf 2 = .ok (.iconst 0, 1) := by decide +kernel
theorem dX2_hedgeOf_3 : decode cX2_hedgeOf 3 = .ok (.istore_n 3, 1) := by decide +kernel
theorem dX2_hedgeOf_4 : decode cX2_hedgeOf 4 = .ok (.iload_n 3, 1) := by decide +kernel
theorem dX2_hedgeOf_5 : decode cX2_hedgeOf 5 = .ok (.aload_n 0, 1) := by decide +kernel
theorem dX2_hedgeOf_6 : decode cX2_hedgeOf 6 = .ok (.getfield 18, 3) := by decide +kernel
theorem dX2_hedgeOf_9 : decode cX2_hedgeOf 9 = .ok (.getfield 54, 3) := by decide +kernel
theorem dX2_hedgeOf_12 : decode cX2_hedgeOf 12 = .ok (.if_icmp .ge 105, 3) := by decide +kernel
theorem dX2_hedgeOf_15 : decode cX2_hedgeOf 15 = .ok (.aload_n 0, 1) := by decide +kernel
theorem dX2_hedgeOf_16 : decode cX2_hedgeOf 16 = .ok (.getfield 18, 3) := by decide +kernel
theorem dX2_hedgeOf_19 : decode cX2_hedgeOf 19 = .ok (.iload_n 3, 1) := by decide +kernel
theorem dX2_hedgeOf_20 : decode cX2_hedgeOf 20 = .ok (.aload_n 0, 1) := by decide +kernel
theorem dX2_hedgeOf_21 : decode cX2_hedgeOf 21 = .ok (.getfield 9, 3) := by decide +kernel
theorem dX2_hedgeOf_24 : decode cX2_hedgeOf 24 = .ok (.iload_n 1, 1) := by decide +kernel
theorem dX2_hedgeOf_25 : decode cX2_hedgeOf 25 = .ok (.iaload, 1) := by decide +kernel
theorem dX2_hedgeOf_26 : decode cX2_hedgeOf 26 = .ok (.invokevirtual 45, 3) := by decide +kernel
theorem dX2_hedgeOf_29 : decode cX2_hedgeOf 29 = .ok (.ifCond .eq 82, 3) := by decide +kernel
theorem dX2_hedgeOf_32 : decode cX2_hedgeOf 32 = .ok (.aload_n 0, 1) := by decide +kernel
theorem dX2_hedgeOf_33 : decode cX2_hedgeOf 33 = .ok (.iload_n 3, 1) := by decide +kernel
theorem dX2_hedgeOf_34 : decode cX2_hedgeOf 34 = .ok (.iload_n 1, 1) := by decide +kernel
theorem dX2_hedgeOf_35 : decode cX2_hedgeOf 35 = .ok (.invokevirtual 60, 3) := by decide +kernel
theorem dX2_hedgeOf_38 : decode cX2_hedgeOf 38 = .ok (.ifCond .eq 6, 3) := by decide +kernel
theorem dX2_hedgeOf_41 : decode cX2_hedgeOf 41 = .ok (.goto 70, 3) := by decide +kernel
theorem dX2_hedgeOf_44 : decode cX2_hedgeOf 44 = .ok (.iconst 0, 1) := by decide +kernel
theorem dX2_hedgeOf_45 : decode cX2_hedgeOf 45 = .ok (.istore 4, 2) := by decide +kernel
theorem dX2_hedgeOf_47 : decode cX2_hedgeOf 47 = .ok (.iload 4, 2) := by decide +kernel
theorem dX2_hedgeOf_49 : decode cX2_hedgeOf 49 = .ok (.iconst 4, 1) := by decide +kernel
theorem dX2_hedgeOf_50 : decode cX2_hedgeOf 50 = .ok (.if_icmp .ge 61, 3) := by decide +kernel
theorem dX2_hedgeOf_53 : decode cX2_hedgeOf 53 = .ok (.aload_n 0, 1) := by decide +kernel
theorem dX2_hedgeOf_54 : decode cX2_hedgeOf 54 = .ok (.getfield 18, 3) := by decide +kernel
theorem dX2_hedgeOf_57 : decode cX2_hedgeOf 57 = .ok (.iload_n 3, 1) := by decide +kernel
theorem dX2_hedgeOf_58 : decode cX2_hedgeOf 58 = .ok (.iload 4, 2) := by decide +kernel
theorem dX2_hedgeOf_60 : decode cX2_hedgeOf 60 = .ok (.invokevirtual 79, 3) := by decide +kernel
theorem dX2_hedgeOf_63 : decode cX2_hedgeOf 63 = .ok (.istore 5, 2) := by decide +kernel
theorem dX2_hedgeOf_65 : decode cX2_hedgeOf 65 = .ok (.iload 5, 2) := by decide +kernel
theorem dX2_hedgeOf_67 : decode cX2_hedgeOf 67 = .ok (.iconst (-1), 1) := by decide +kernel
theorem dX2_hedgeOf_68 : decode cX2_hedgeOf 68 = .ok (.if_icmp .eq 37, 3) := by decide +kernel
theorem dX2_hedgeOf_71 : decode cX2_hedgeOf 71 = .ok (.aload_n 0, 1) := by decide +kernel
theorem dX2_hedgeOf_72 : decode cX2_hedgeOf 72 = .ok (.getfield 18, 3) := by decide +kernel
theorem dX2_hedgeOf_75 : decode cX2_hedgeOf 75 = .ok (.iload 5, 2) := by decide +kernel
theorem dX2_hedgeOf_77 : decode cX2_hedgeOf 77 = .ok (.aload_n 0, 1) := by decide +kernel
theorem dX2_hedgeOf_78 : decode cX2_hedgeOf 78 = .ok (.getfield 9, 3) := by decide +kernel
theorem dX2_hedgeOf_81 : decode cX2_hedgeOf 81 = .ok (.iload_n 1, 1) := by decide +kernel
theorem dX2_hedgeOf_82 : decode cX2_hedgeOf 82 = .ok (.iaload, 1) := by decide +kernel
theorem dX2_hedgeOf_83 : decode cX2_hedgeOf 83 = .ok (.invokevirtual 45, 3) := by decide +kernel
theorem dX2_hedgeOf_86 : decode cX2_hedgeOf 86 = .ok (.ifCond .eq 6, 3) := by decide +kernel
theorem dX2_hedgeOf_89 : decode cX2_hedgeOf 89 = .ok (.goto 16, 3) := by decide +kernel
theorem dX2_hedgeOf_92 : decode cX2_hedgeOf 92 = .ok (.aload_n 0, 1) := by decide +kernel
theorem dX2_hedgeOf_93 : decode cX2_hedgeOf 93 = .ok (.iload 5, 2) := by decide +kernel
theorem dX2_hedgeOf_95 : decode cX2_hedgeOf 95 = .ok (.iload_n 1, 1) := by decide +kernel
theorem dX2_hedgeOf_96 : decode cX2_hedgeOf 96 = .ok (.invokevirtual 60, 3) := by decide +kernel
theorem dX2_hedgeOf_99 : decode cX2_hedgeOf 99 = .ok (.ifCond .ne 6, 3) := by decide +kernel
theorem dX2_hedgeOf_102 : decode cX2_hedgeOf 102 = .ok (.iinc 2 1, 3) := by decide +kernel
theorem dX2_hedgeOf_105 : decode cX2_hedgeOf 105 = .ok (.iinc 4 1, 3) := by decide +kernel
theorem dX2_hedgeOf_108 : decode cX2_hedgeOf 108 = .ok (.goto (-61), 3) := by decide +kernel
theorem dX2_hedgeOf_111 : decode cX2_hedgeOf 111 = .ok (.iinc 3 1, 3) := by decide +kernel
theorem dX2_hedgeOf_114 : decode cX2_hedgeOf 114 = .ok (.goto (-110), 3) := by decide +kernel
theorem dX2_hedgeOf_117 : decode cX2_hedgeOf 117 = .ok (.iload_n 2, 1) := by decide +kernel
theorem dX2_hedgeOf_118 : decode cX2_hedgeOf 118 = .ok (.ireturn, 1) := by decide +kernel
theorem dX3_init_0 : decode cX3_init 0 = .ok (.aload_n 0, 1) := by decide +kernel
theorem dX3_init_1 : decode cX3_init 1 = .ok (.invokespecial 3, 3) := by decide +kernel
theorem dX3_init_4 : decode cX3_init 4 = .ok (.aload_n 0, 1) := by decide +kernel
theorem dX3_init_5 : decode cX3_init 5 = .ok (.bipush 80, 2) := by decide +kernel
theorem dX3_init_7 : decode cX3_init 7 = .ok (.newarray .int, 2) := by decide +kernel
theorem dX3_init_9 : decode cX3_init 9 = .ok (.putfield 9, 3) := by decide +kernel
theorem dX3_init_12 : decode cX3_init 12 = .ok (.aload_n 0, 1) := by decide +kernel
theorem dX3_init_13 : decode cX3_init 13 = .ok (.bipush 80, 2) := by decide +kernel
theorem dX3_init_15 : decode cX3_init 15 = .ok (.newarray .boolean, 2) := by decide +kernel
theorem dX3_init_17 : decode cX3_init 17 = .ok (.putfield 15, 3) := by decide +kernel
theorem dX3_init_20 : decode cX3_init 20 = .ok (.aload_n 0, 1) := by decide +kernel
theorem dX3_init_21 : decode cX3_init 21 = .ok (.aload_n 1, 1) := by decide +kernel
theorem dX3_init_22 : decode cX3_init 22 = .ok (.putfield 19, 3) := by decide +kernel
theorem dX3_init_25 : decode cX3_init 25 = .ok (.return_, 1) := by decide +kernel
theorem dX3_lay_0 : decode cX3_lay 0 = .ok (.aload_n 0, 1) := by decide +kernel
theorem dX3_lay_1 : decode cX3_lay 1 = .ok (.iload_n 1, 1) := by decide +kernel
theorem dX3_lay_2 : decode cX3_lay 2 = .ok (.invokevirtual 23, 3) := by decide +kernel
theorem dX3_lay_5 : decode cX3_lay 5 = .ok (.aload_n 0, 1) := by decide +kernel
theorem dX3_lay_6 : decode cX3_lay 6 = .ok (.getfield 9, 3) := by decide +kernel
theorem dX3_lay_9 : decode cX3_lay 9 = .ok (.iload_n 2, 1) := by decide +kernel
theorem dX3_lay_10 : decode cX3_lay 10 = .ok (.iaload, 1) := by decide +kernel
theorem dX3_lay_11 : decode cX3_lay 11 = .ok (.ldc 27, 2) := by decide +kernel
theorem dX3_lay_13 : decode cX3_lay 13 = .ok (.if_icmp .ne 6, 3) := by decide +kernel
theorem dX3_lay_16 : decode cX3_lay 16 = .ok (.bipush (-4), 2) := by decide +kernel
theorem dX3_lay_18 : decode cX3_lay 18 = .ok (.ireturn, 1) := by decide +kernel
theorem dX3_lay_19 : decode cX3_lay 19 = .ok (.iconst 0, 1) := by decide +kernel
theorem dX3_lay_20 : decode cX3_lay 20 = .ok (.istore_n 3, 1) := by decide +kernel
theorem dX3_lay_21 : decode cX3_lay 21 = .ok (.iload_n 2, 1) := by decide +kernel
theorem dX3_lay_22 : decode cX3_lay 22 = .ok (.istore 4, 2) := by decide +kernel
theorem dX3_lay_24 : decode cX3_lay 24 = .ok (.iconst 0, 1) := by decide +kernel
theorem dX3_lay_25 : decode cX3_lay 25 = .ok (.istore 5, 2) := by decide +kernel
theorem dX3_lay_27 : decode cX3_lay 27 = .ok (.iload 5, 2) := by decide +kernel
theorem dX3_lay_29 : decode cX3_lay 29 = .ok (.aload_n 0, 1) := by decide +kernel
theorem dX3_lay_30 : decode cX3_lay 30 = .ok (.getfield 19, 3) := by decide +kernel
theorem dX3_lay_33 : decode cX3_lay 33 = .ok (.getfield 28, 3) := by decide +kernel
theorem dX3_lay_36 : decode cX3_lay 36 = .ok (.if_icmp .ge 65, 3) := by decide +kernel
theorem dX3_lay_39 : decode cX3_lay 39 = .ok (.iload 4, 2) := by decide +kernel
theorem dX3_lay_41 : decode cX3_lay 41 = .ok (.iconst (-1), 1) := by decide +kernel
theorem dX3_lay_42 : decode cX3_lay 42 = .ok (.if_icmp .eq 59, 3) := by decide +kernel
theorem dX3_lay_45 : decode cX3_lay 45 = .ok (.iload 4, 2) := by decide +kernel
theorem dX3_lay_47 : decode cX3_lay 47 = .ok (.iload_n 1, 1) := by decide +kernel
theorem dX3_lay_48 : decode cX3_lay 48 = .ok (.if_icmp .ne 7, 3) := by decide +kernel
theorem dX3_lay_51 : decode cX3_lay 51 = .ok (.iconst (-1), 1) := by decide +kernel
theorem dX3_lay_52 : decode cX3_lay 52 = .ok (.goto 9, 3) := by decide +kernel
theorem dX3_lay_55 : decode cX3_lay 55 = .ok (.aload_n 0, 1) := by decide +kernel
theorem dX3_lay_56 : decode cX3_lay 56 = .ok (.iload 4, 2) := by decide +kernel
theorem dX3_lay_58 : decode cX3_lay 58 = .ok (.invokevirtual 34, 3) := by decide +kernel
theorem dX3_lay_61 : decode cX3_lay 61 = .ok (.istore 6, 2) := by decide +kernel
theorem dX3_lay_63 : decode cX3_lay 63 = .ok (.aload_n 0, 1) := by decide +kernel
theorem dX3_lay_64 : decode cX3_lay 64 = .ok (.getfield 19, 3) := by decide +kernel
theorem dX3_lay_67 : decode cX3_lay 67 = .ok (.iload 4, 2) := by decide +kernel
theorem dX3_lay_69 : decode cX3_lay 69 = .ok (.invokevirtual 38, 3) := by decide +kernel
theorem dX3_lay_72 : decode cX3_lay 72 = .ok (.ifCond .ne 6, 3) := by decide +kernel
theorem dX3_lay_75 : decode cX3_lay 75 = .ok (.iinc 3 1, 3) := by decide +kernel
theorem dX3_lay_78 : decode cX3_lay 78 = .ok (.aload_n 0, 1) := by decide +kernel
theorem dX3_lay_79 : decode cX3_lay 79 = .ok (.getfield 19, 3) := by decide +kernel
theorem dX3_lay_82 : decode cX3_lay 82 = .ok (.getfield 42, 3) := by decide +kernel
theorem dX3_lay_85 : decode cX3_lay 85 = .ok (.iconst 2, 1) := by decide +kernel
theorem dX3_lay_86 : decode cX3_lay 86 = .ok (.aaload, 1) := by decide +kernel
theorem dX3_lay_87 : decode cX3_lay 87 = .ok (.iload 4, 2) := by decide +kernel
theorem dX3_lay_89 : decode cX3_lay 89 = .ok (.iconst 1, 1) := by decide +kernel
theorem dX3_lay_90 : decode cX3_lay 90 = .ok (.iastore, 1) := by decide +kernel
theorem dX3_lay_91 : decode cX3_lay 91 = .ok (.iload 6, 2) := by decide +kernel
theorem dX3_lay_93 : decode cX3_lay 93 = .ok (.istore 4, 2) := by decide +kernel
theorem dX3_lay_95 : decode cX3_lay 95 = .ok (.iinc 5 1, 3) := by decide +kernel
theorem dX3_lay_98 : decode cX3_lay 98 = .ok (.goto (-71), 3) := by decide +kernel
theorem dX3_lay_101 : decode cX3_lay 101 = .ok (.aload_n 0, 1) := by decide +kernel
theorem dX3_lay_102 : decode cX3_lay 102 = .ok (.getfield 19, 3) := by decide +kernel
theorem dX3_lay_105 : decode cX3_lay 105 = .ok (.dup, 1) := by decide +kernel
theorem dX3_lay_106 : decode cX3_lay 106 = .ok (.getfield 46, 3) := by decide +kernel
theorem dX3_lay_109 : decode cX3_lay 109 = .ok (.bipush 10, 2) := by decide +kernel
theorem dX3_lay_111 : decode cX3_lay 111 = .ok (.iload_n 3, 1) := by decide +kernel
theorem dX3_lay_112 : decode cX3_lay 112 = .ok (.imul, 1) := by decide +kernel
theorem dX3_lay_113 : decode cX3_lay 113 = .ok (.iadd, 1) := by decide +kernel
theorem dX3_lay_114 : decode cX3_lay 114 = .ok (.putfield 46, 3) := by decide +kernel
theorem dX3_lay_117 : decode cX3_lay 117 = .ok (.iload_n 3, 1) := by decide +kernel
theorem dX3_lay_118 : decode cX3_lay 118 = .ok (.ireturn, 1) := by decide +kernel
theorem dX3_measure_0 : decode cX3_measure 0 = .ok (.aload_n 0, 1) := by decide +kernel
theorem dX3_measure_1 : decode cX3_measure 1 = .ok (.getfield 9, 3) := by decide +kernel
theorem dX3_measure_4 : decode cX3_measure 4 = .ok (.ldc 27, 2) := by decide +kernel
theorem dX3_measure_6 : decode cX3_measure 6 = .ok (.invokestatic 49, 3) := by decide +kernel
theorem dX3_measure_9 : decode cX3_measure 9 = .ok (.iconst 0, 1) := by decide +kernel
theorem dX3_measure_10 : decode cX3_measure 10 = .ok (.istore_n 2, 1) := by decide +kernel
theorem dX3_measure_11 : decode cX3_measure 11 = .ok (.iload_n 2, 1) := by decide +kernel
theorem dX3_measure_12 : decode cX3_measure 12 = .ok (.aload_n 0, 1) := by decide +kernel
theorem dX3_measure_13 : decode cX3_measure 13 = .ok (.getfield 19, 3) := by decide +kernel
theorem dX3_measure_16 : decode cX3_measure 16 = .ok (.getfield 28, 3) := by decide +kernel
theorem dX3_measure_19 : decode cX3_measure 19 = .ok (.if_icmp .ge 16, 3) := by decide +kernel
theorem dX3_measure_22 : decode cX3_measure 22 = .ok (.aload_n 0, 1) := by decide +kernel
theorem dX3_measure_23 : decode cX3_measure 23 = .ok (.getfield 15, 3) := by decide +kernel
theorem dX3_measure_26 : decode cX3_measure 26 = .ok (.iload_n 2, 1) := by decide +kernel
theorem dX3_measure_27 : decode cX3_measure 27 = .ok (.iconst 0, 1) := by decide +kernel
theorem dX3_measure_28 : decode cX3_measure 28 = .ok (.bastore, 1) := by decide +kernel
theorem dX3_measure_29 : decode cX3_measure 29 = .ok (.iinc 2 1, 3) := by decide +kernel
theorem dX3_measure_32 : decode cX3_measure 32 = .ok (.goto (-21), 3) := by decide +kernel
theorem dX3_measure_35 : decode cX3_measure 35 = .ok (.aload_n 0, 1) := by decide +kernel
theorem dX3_measure_36 : decode cX3_measure 36 = .ok (.getfield 9, 3) := by decide +kernel
theorem dX3_measure_39 : decode cX3_measure 39 = .ok (.iload_n 1, 1) := by decide +kernel
theorem dX3_measure_40 : decode cX3_measure 40 = .ok (.aload_n 0, 1) := by decide +kernel
theorem dX3_measure_41 : decode cX3_measure 41 = .ok (.iload_n 1, 1) := by decide +kernel
theorem dX3_measure_42 : decode cX3_measure 42 = .ok (.invokevirtual 55, 3) := by decide +kernel
theorem dX3_measure_45 : decode cX3_measure 45 = .ok (.iastore, 1) := by decide +kernel
theorem dX3_measure_46 : decode cX3_measure 46 = .ok (.iconst 0, 1) := by decide +kernel
theorem dX3_measure_47 : decode cX3_measure 47 = .ok (.istore_n 2, 1) := by decide +kernel
theorem dX3_measure_48 : decode cX3_measure 48 = .ok (.iload_n 2, 1) := by decide +kernel
theorem dX3_measure_49 : decode cX3_measure 49 = .ok (.aload_n 0, 1) := by decide +kernel
theorem dX3_measure_50 : decode cX3_measure 50 = .ok (.getfield 19, 3) := by decide +kernel
theorem dX3_measure_53 : decode cX3_measure 53 = .ok (.getfield 28, 3) := by decide +kernel
theorem dX3_measure_56 : decode cX3_measure 56 = .ok (.if_icmp .ge 115, 3) := by decide +kernel
theorem dX3_measure_59 : decode cX3_measure 59 = .ok (.aload_n 0, 1) := by decide +kernel
theorem dX3_measure_60 : decode cX3_measure 60 = .ok (.invokevirtual 58, 3) := by decide +kernel
theorem dX3_measure_63 : decode cX3_measure 63 = .ok (.istore_n 3, 1) := by decide +kernel
theorem dX3_measure_64 : decode cX3_measure 64 = .ok (.iload_n 3, 1) := by decide +kernel
theorem dX3_measure_65 : decode cX3_measure 65 = .ok (.iconst (-1), 1) := by decide +kernel
theorem dX3_measure_66 : decode cX3_measure 66 = .ok (.if_icmp .ne 4, 3) := by decide +kernel
theorem dX3_measure_69 : decode cX3_measure 69 = .ok (.return_, 1) := by decide +kernel
theorem dX3_measure_70 : decode cX3_measure 70 = .ok (.aload_n 0, 1) := by decide +kernel
theorem dX3_measure_71 : decode cX3_measure 71 = .ok (.getfield 15, 3) := by decide +kernel
theorem dX3_measure_74 : decode cX3_measure 74 = .ok (.iload_n 3, 1) := by decide +kernel
theorem dX3_measure_75 : decode cX3_measure 75 = .ok (.iconst 1, 1) := by decide +kernel
theorem dX3_measure_76 : decode cX3_measure 76 = .ok (.bastore, 1) := by decide +kernel
theorem dX3_measure_77 : decode cX3_measure 77 = .ok (.iconst 0, 1) := by decide +kernel
theorem dX3_measure_78 : decode cX3_measure 78 = .ok (.istore 4, 2) := by decide +kernel
theorem dX3_measure_80 : decode cX3_measure 80 = .ok (.iload 4, 2) := by decide +kernel
theorem dX3_measure_82 : decode cX3_measure 82 = .ok (.iconst 4, 1) := by decide +kernel
theorem dX3_measure_83 : decode cX3_measure 83 = .ok (.if_icmp .ge 82, 3) := by decide +kernel
theorem dX3_measure_86 : decode cX3_measure 86 = .ok (.aload_n 0, 1) := by decide +kernel
theorem dX3_measure_87 : decode cX3_measure 87 = .ok (.getfield 19, 3) := by decide +kernel
theorem dX3_measure_90 : decode cX3_measure 90 = .ok (.iload_n 3, 1) := by decide +kernel
theorem dX3_measure_91 : decode cX3_measure 91 = .ok (.iload 4, 2) := by decide +kernel
theorem dX3_measure_93 : decode cX3_measure 93 = .ok (.invokevirtual 62, 3) := by decide +kernel
theorem dX3_measure_96 : decode cX3_measure 96 = .ok (.istore 5, 2) := by decide +kernel
theorem dX3_measure_98 : decode cX3_measure 98 = .ok (.iload 5, 2) := by decide +kernel
theorem dX3_measure_100 : decode cX3_measure 100 = .ok (.iconst (-1), 1) := by decide +kernel
theorem dX3_measure_101 : decode cX3_measure 101 = .ok (.if_icmp .eq 58, 3) := by decide +kernel
theorem dX3_measure_104 : decode cX3_measure 104 = .ok (.aload_n 0, 1) := by decide +kernel
theorem dX3_measure_105 : decode cX3_measure 105 = .ok (.getfield 15, 3) := by decide +kernel
theorem dX3_measure_108 : decode cX3_measure 108 = .ok (.iload 5, 2) := by decide +kernel
theorem dX3_measure_110 : decode cX3_measure 110 = .ok (.baload, 1) := by decide +kernel
theorem dX3_measure_111 : decode cX3_measure 111 = .ok (.ifCond .ne 48, 3) := by decide +kernel
theorem dX3_measure_114 : decode cX3_measure 114 = .ok (.aload_n 0, 1) := by decide +kernel
theorem dX3_measure_115 : decode cX3_measure 115 = .ok (.getfield 19, 3) := by decide +kernel
theorem dX3_measure_118 : decode cX3_measure 118 = .ok (.iload 5, 2) := by decide +kernel
theorem dX3_measure_120 : decode cX3_measure 120 = .ok (.invokevirtual 66, 3) := by decide +kernel
theorem dX3_measure_123 : decode cX3_measure 123 = .ok (.ifCond .eq 6, 3) := by decide +kernel
theorem dX3_measure_126 : decode cX3_measure 126 = .ok (.goto 33, 3) := by decide +kernel
theorem dX3_measure_129 : decode cX3_measure 129 = .ok (.aload_n 0, 1) := by decide +kernel
theorem dX3_measure_130 : decode cX3_measure 130 = .ok (.getfield 9, 3) := by decide +kernel
theorem dX3_measure_133 : decode cX3_measure 133 = .ok (.iload 5, 2) := by decide +kernel
theorem dX3_measure_135 : decode cX3_measure 135 = .ok (.aload_n 0, 1) := by decide +kernel
theorem dX3_measure_136 : decode cX3_measure 136 = .ok (.getfield 9, 3) := by decide +kernel
theorem dX3_measure_139 : decode cX3_measure 139 = .ok (.iload 5, 2) := by decide +kernel
theorem dX3_measure_141 : decode cX3_measure 141 = .ok (.iaload, 1) := by decide +kernel
theorem dX3_measure_142 : decode cX3_measure 142 = .ok (.aload_n 0, 1) := by decide +kernel
theorem dX3_measure_143 : decode cX3_measure 143 = .ok (.getfield 9, 3) := by decide +kernel
theorem dX3_measure_146 : decode cX3_measure 146 = .ok (.iload_n 3, 1) := by decide +kernel
theorem dX3_measure_147 : decode cX3_measure 147 = .ok (.iaload, 1) := by decide +kernel
theorem dX3_measure_148 : decode cX3_measure 148 = .ok (.aload_n 0, 1) := by decide +kernel
theorem dX3_measure_149 : decode cX3_measure 149 = .ok (.iload 5, 2) := by decide +kernel
theorem dX3_measure_151 : decode cX3_measure 151 = .ok (.invokevirtual 55, 3) := by decide +kernel
theorem dX3_measure_154 : decode cX3_measure 154 = .ok (.iadd, 1) := by decide +kernel
theorem dX3_measure_155 : decode cX3_measure 155 = .ok (.invokestatic 69, 3) := by decide +kernel
theorem dX3_measure_158 : decode cX3_measure 158 = .ok (.iastore, 1) := by decide +kernel
theorem dX3_measure_159 : decode cX3_measure 159 = .ok (.iinc 4 1, 3) := by decide +kernel
theorem dX3_measure_162 : decode cX3_measure 162 = .ok (.goto (-82), 3) := by decide +kernel
theorem dX3_measure_165 : decode cX3_measure 165 = .ok (.iinc 2 1, 3) := by decide +kernel
