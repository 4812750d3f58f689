theorem dX9_has_85 : decode cX9_has 85 = .ok (.getfield 90, 3) := by decide +kernel
theorem dX9_has_88 : decode cX9_has 88 = .ok (.iload_n 1, 1) := by decide +kernel
theorem dX9_has_89 : decode cX9_has 89 = .ok (.iaload, 1) := by decide +kernel
theorem dX9_has_90 : decode cX9_has 90 = .ok (.ireturn, 1) := by decide +kernel
theorem dX9_has_91 : decode cX9_has 91 = .ok (.aload_n 0, 1) := by decide +kernel
theorem dX9_has_92 : decode cX9_has 92 = .ok (.getfield 93, 3) := by decide +kernel
theorem dX9_has_95 : decode cX9_has 95 = .ok (.iload_n 1, 1) := by decide +kernel
theorem dX9_has_96 : decode cX9_has 96 = .ok (.iaload, 1) := by decide +kernel
theorem dX9_has_97 : decode cX9_has 97 = .ok (.ireturn, 1) := by decide +kernel
theorem dX9_has_98 : decode cX9_has 98 = .ok (.aload_n 0, 1) := by decide +kernel
theorem dX9_has_99 : decode cX9_has 99 = .ok (.aload_n 0, 1) := by decide +kernel
theorem dX9_has_100 : decode cX9_has 100 = .ok (.getfield 136, 3) := by decide +kernel
theorem dX9_has_103 : decode cX9_has 103 = .ok (.aload_n 0, 1) := by decide +kernel
theorem dX9_has_104 : decode cX9_has 104 = .ok (.getfield 93, 3) := by decide +kernel
theorem dX9_has_107 : decode cX9_has 107 = .ok (.aload_n 0, 1) := by decide +kernel
theorem dX9_has_108 : decode cX9_has 108 = .ok (.getfield 99, 3) := by decide +kernel
theorem dX9_has_111 : decode cX9_has 111 = .ok (.invokevirtual 242, 3) := by decide +kernel
theorem dX9_has_114 : decode cX9_has 114 = .ok (.aload_n 0, 1) := by decide +kernel
theorem dX9_has_115 : decode cX9_has 115 = .ok (.getfield 99, 3) := by decide +kernel
theorem dX9_has_118 : decode cX9_has 118 = .ok (.iload_n 1, 1) := by decide +kernel
theorem dX9_has_119 : decode cX9_has 119 = .ok (.iaload, 1) := by decide +kernel
theorem dX9_has_120 : decode cX9_has 120 = .ok (.ireturn, 1) := by decide +kernel
theorem dX9_has_121 : decode cX9_has 121 = .ok (.aload_n 0, 1) := by decide +kernel
theorem dX9_has_122 : decode cX9_has 122 = .ok (.getfield 96, 3) := by decide +kernel
theorem dX9_has_125 : decode cX9_has 125 = .ok (.iload_n 1, 1) := by decide +kernel
theorem dX9_has_126 : decode cX9_has 126 = .ok (.iaload, 1) := by decide +kernel
theorem dX9_has_127 : decode cX9_has 127 = .ok (.aload_n 0, 1) := by decide +kernel
theorem dX9_has_128 : decode cX9_has 128 = .ok (.getfield 93, 3) := by decide +kernel
theorem dX9_has_131 : decode cX9_has 131 = .ok (.iload_n 1, 1) := by decide +kernel
theorem dX9_has_132 : decode cX9_has 132 = .ok (.iaload, 1) := by decide +kernel
theorem dX9_has_133 : decode cX9_has 133 = .ok (.if_icmp .le 21, 3) := by decide +kernel
theorem dX9_has_136 : decode cX9_has 136 = .ok (.iconst 3, 1) := by decide +kernel
theorem dX9_has_137 : decode cX9_has 137 = .ok (.aload_n 0, 1) := by decide +kernel
theorem dX9_has_138 : decode cX9_has 138 = .ok (.getfield 96, 3) := by decide +kernel
theorem dX9_has_141 : decode cX9_has 141 = .ok (.iload_n 1, 1) := by decide +kernel
theorem dX9_has_142 : decode cX9_has 142 = .ok (.iaload, 1) := by decide +kernel
theorem dX9_has_143 : decode cX9_has 143 = .ok (.aload_n 0, 1) := by decide +kernel
theorem dX9_has_144 : decode cX9_has 144 = .ok (.getfield 93, 3) := by decide +kernel
theorem dX9_has_147 : decode cX9_has 147 = .ok (.iload_n 1, 1) := by decide +kernel
theorem dX9_has_148 : decode cX9_has 148 = .ok (.iaload, 1) := by decide +kernel
theorem dX9_has_149 : decode cX9_has 149 = .ok (.isub, 1) := by decide +kernel
theorem dX9_has_150 : decode cX9_has 150 = .ok (.imul, 1) := by decide +kernel
theorem dX9_has_151 : decode cX9_has 151 = .ok (.goto 4, 3) := by decide +kernel
theorem dX9_has_154 : decode cX9_has 154 = .ok (.iconst 0, 1) := by decide +kernel
theorem dX9_has_155 : decode cX9_has 155 = .ok (.ireturn, 1) := by decide +kernel
theorem dX9_has_156 : decode cX9_has 156 = .ok (.aload_n 0, 1) := by decide +kernel
theorem dX9_has_157 : decode cX9_has 157 = .ok (.iload_n 1, 1) := by decide +kernel
theorem dX9_has_158 : decode cX9_has 158 = .ok (.iload_n 3, 1) := by decide +kernel
theorem dX9_has_159 : decode cX9_has 159 = .ok (.invokevirtual 224, 3) := by decide +kernel
theorem dX9_has_162 : decode cX9_has 162 = .ok (.ireturn, 1) := by decide +kernel
theorem dX9_allot_0 : decode cX9_allot 0 = .ok (.aload_n 0, 1) := by decide +kernel
theorem dX9_allot_1 : decode cX9_allot 1 = .ok (.iconst 0, 1) := by decide +kernel
theorem dX9_allot_2 : decode cX9_allot 2 = .ok (.putfield 133, 3) := by decide +kernel
theorem dX9_allot_5 : decode cX9_allot 5 = .ok (.aload_n 0, 1) := by decide +kernel
theorem dX9_allot_6 : decode cX9_allot 6 = .ok (.iload_n 1, 1) := by decide +kernel
theorem dX9_allot_7 : decode cX9_allot 7 = .ok (.invokevirtual 182, 3) := by decide +kernel
theorem dX9_allot_10 : decode cX9_allot 10 = .ok (.ifCond .eq 41, 3) := by decide +kernel
theorem dX9_allot_13 : decode cX9_allot 13 = .ok (.aload_n 0, 1) := by decide +kernel
theorem dX9_allot_14 : decode cX9_allot 14 = .ok (.iload_n 2, 1) := by decide +kernel
theorem dX9_allot_15 : decode cX9_allot 15 = .ok (.invokevirtual 156, 3) := by decide +kernel
theorem dX9_allot_18 : decode cX9_allot 18 = .ok (.ifCond .eq 33, 3) := by decide +kernel
theorem dX9_allot_21 : decode cX9_allot 21 = .ok (.iload_n 3, 1) := by decide +kernel
theorem dX9_allot_22 : decode cX9_allot 22 = .ok (.ifCond .lt 29, 3) := by decide +kernel
theorem dX9_allot_25 : decode cX9_allot 25 = .ok (.iload_n 3, 1) := by decide +kernel
theorem dX9_allot_26 : decode cX9_allot 26 = .ok (.bipush 11, 2) := by decide +kernel
theorem dX9_allot_28 : decode cX9_allot 28 = .ok (.idiv, 1) := by decide +kernel
theorem dX9_allot_29 : decode cX9_allot 29 = .ok (.iconst 1, 1) := by decide +kernel
theorem dX9_allot_30 : decode cX9_allot 30 = .ok (.bipush 10, 2) := by decide +kernel
theorem dX9_allot_32 : decode cX9_allot 32 = .ok (.invokestatic 152, 3) := by decide +kernel
theorem dX9_allot_35 : decode cX9_allot 35 = .ok (.ifCond .eq 16, 3) := by decide +kernel
theorem dX9_allot_38 : decode cX9_allot 38 = .ok (.iload_n 3, 1) := by decide +kernel
theorem dX9_allot_39 : decode cX9_allot 39 = .ok (.bipush 11, 2) := by decide +kernel
theorem dX9_allot_41 : decode cX9_allot 41 = .ok (.irem, 1) := by decide +kernel
theorem dX9_allot_42 : decode cX9_allot 42 = .ok (.iconst 1, 1) := by decide +kernel
theorem dX9_allot_43 : decode cX9_allot 43 = .ok (.bipush 10, 2) := by decide +kernel
theorem dX9_allot_45 : decode cX9_allot 45 = .ok (.invokestatic 152, 3) := by decide +kernel
theorem dX9_allot_48 : decode cX9_allot 48 = .ok (.ifCond .ne 6, 3) := by decide +kernel
theorem dX9_allot_51 : decode cX9_allot 51 = .ok (.bipush (-3), 2) := by decide +kernel
theorem dX9_allot_53 : decode cX9_allot 53 = .ok (.ireturn, 1) := by decide +kernel
theorem dX9_allot_54 : decode cX9_allot 54 = .ok (.aload_n 0, 1) := by decide +kernel
theorem dX9_allot_55 : decode cX9_allot 55 = .ok (.getfield 72, 3) := by decide +kernel
theorem dX9_allot_58 : decode cX9_allot 58 = .ok (.iload_n 1, 1) := by decide +kernel
theorem dX9_allot_59 : decode cX9_allot 59 = .ok (.iload_n 2, 1) := by decide +kernel
theorem dX9_allot_60 : decode cX9_allot 60 = .ok (.iastore, 1) := by decide +kernel
theorem dX9_allot_61 : decode cX9_allot 61 = .ok (.aload_n 0, 1) := by decide +kernel
theorem dX9_allot_62 : decode cX9_allot 62 = .ok (.getfield 75, 3) := by decide +kernel
theorem dX9_allot_65 : decode cX9_allot 65 = .ok (.iload_n 1, 1) := by decide +kernel
theorem dX9_allot_66 : decode cX9_allot 66 = .ok (.iload_n 3, 1) := by decide +kernel
theorem dX9_allot_67 : decode cX9_allot 67 = .ok (.bipush 11, 2) := by decide +kernel
theorem dX9_allot_69 : decode cX9_allot 69 = .ok (.idiv, 1) := by decide +kernel
theorem dX9_allot_70 : decode cX9_allot 70 = .ok (.iastore, 1) := by decide +kernel
theorem dX9_allot_71 : decode cX9_allot 71 = .ok (.aload_n 0, 1) := by decide +kernel
theorem dX9_allot_72 : decode cX9_allot 72 = .ok (.getfield 78, 3) := by decide +kernel
theorem dX9_allot_75 : decode cX9_allot 75 = .ok (.iload_n 1, 1) := by decide +kernel
theorem dX9_allot_76 : decode cX9_allot 76 = .ok (.iload_n 3, 1) := by decide +kernel
theorem dX9_allot_77 : decode cX9_allot 77 = .ok (.bipush 11, 2) := by decide +kernel
theorem dX9_allot_79 : decode cX9_allot 79 = .ok (.irem, 1) := by decide +kernel
theorem dX9_allot_80 : decode cX9_allot 80 = .ok (.iastore, 1) := by decide +kernel
theorem dX9_allot_81 : decode cX9_allot 81 = .ok (.iconst 0, 1) := by decide +kernel
theorem dX9_allot_82 : decode cX9_allot 82 = .ok (.ireturn, 1) := by decide +kernel
theorem dX9_take_0 : decode cX9_take 0 = .ok (.aload_n 0, 1) := by decide +kernel
theorem dX9_take_1 : decode cX9_take 1 = .ok (.iconst 0, 1) := by decide +kernel
theorem dX9_take_2 : decode cX9_take 2 = .ok (.putfield 133, 3) := by decide +kernel
theorem dX9_take_5 : decode cX9_take 5 = .ok (.aload_n 0, 1) := by decide +kernel
theorem dX9_take_6 : decode cX9_take 6 = .ok (.iload_n 1, 1) := by decide +kernel
theorem dX9_take_7 : decode cX9_take 7 = .ok (.invokevirtual 182, 3) := by decide +kernel
theorem dX9_take_10 : decode cX9_take 10 = .ok (.ifCond .ne 6, 3) := by decide +kernel
theorem dX9_take_13 : decode cX9_take 13 = .ok (.bipush (-3), 2) := by decide +kernel
theorem dX9_take_15 : decode cX9_take 15 = .ok (.ireturn, 1) := by decide +kernel
theorem dX9_take_16 : decode cX9_take 16 = .ok (.aload_n 0, 1) := by decide +kernel
theorem dX9_take_17 : decode cX9_take 17 = .ok (.getfield 75, 3) := by decide +kernel
theorem dX9_take_20 : decode cX9_take 20 = .ok (.iload_n 1, 1) := by decide +kernel
theorem dX9_take_21 : decode cX9_take 21 = .ok (.iaload, 1) := by decide +kernel
theorem dX9_take_22 : decode cX9_take 22 = .ok (.ifCond .le 7, 3) := by decide +kernel
theorem dX9_take_25 : decode cX9_take 25 = .ok (.iconst 1, 1) := by decide +kernel
theorem dX9_take_26 : decode cX9_take 26 = .ok (.goto 4, 3) := by decide +kernel
theorem dX9_take_29 : decode cX9_take 29 = .ok (.iconst 0, 1) := by decide +kernel
theorem dX9_take_30 : decode cX9_take 30 = .ok (.istore_n 2, 1) := by decide +kernel
theorem dX9_take_31 : decode cX9_take 31 = .ok (.aload_n 0, 1) := by decide +kernel
theorem dX9_take_32 : decode cX9_take 32 = .ok (.getfield 75, 3) := by decide +kernel
theorem dX9_take_35 : decode cX9_take 35 = .ok (.iload_n 1, 1) := by decide +kernel
theorem dX9_take_36 : decode cX9_take 36 = .ok (.iconst 0, 1) := by decide +kernel
theorem dX9_take_37 : decode cX9_take 37 = .ok (.iastore, 1) := by decide +kernel
theorem dX9_take_38 : decode cX9_take 38 = .ok (.iload_n 2, 1) := by decide +kernel
theorem dX9_take_39 : decode cX9_take 39 = .ok (.ireturn, 1) := by decide +kernel
theorem dX9_isIn_0 : decode cX9_isIn 0 = .ok (.aload_n 0, 1) := by decide +kernel
theorem dX9_isIn_1 : decode cX9_isIn 1 = .ok (.getfield 75, 3) := by decide +kernel
theorem dX9_isIn_4 : decode cX9_isIn 4 = .ok (.iload_n 1, 1) := by decide +kernel
theorem dX9_isIn_5 : decode cX9_isIn 5 = .ok (.iaload, 1) := by decide +kernel
theorem dX9_isIn_6 : decode cX9_isIn 6 = .ok (.ifCond .ne 5, 3) := by decide +kernel
theorem dX9_isIn_9 : decode cX9_isIn 9 = .ok (.iconst 0, 1) := by decide +kernel
theorem dX9_isIn_10 : decode cX9_isIn 10 = .ok (.ireturn, 1) := by decide +kernel
theorem dX9_isIn_11 : decode cX9_isIn 11 = .ok (.iload_n 2, 1) := by decide +kernel
theorem dX9_isIn_12 : decode cX9_isIn 12 = .ok (.aload_n 0, 1) := by decide +kernel
theorem dX9_isIn_13 : decode cX9_isIn 13 = .ok (.getfield 7, 3) := by decide +kernel
theorem dX9_isIn_16 : decode cX9_isIn 16 = .ok (.irem, 1) := by decide +kernel
theorem dX9_isIn_17 : decode cX9_isIn 17 = .ok (.aload_n 0, 1) := by decide +kernel
theorem dX9_isIn_18 : decode cX9_isIn 18 = .ok (.getfield 72, 3) := by decide +kernel
theorem dX9_isIn_21 : decode cX9_isIn 21 = .ok (.iload_n 1, 1) := by decide +kernel
theorem dX9_isIn_22 : decode cX9_isIn 22 = .ok (.iaload, 1) := by decide +kernel
theorem dX9_isIn_23 : decode cX9_isIn 23 = .ok (.aload_n 0, 1) := by decide +kernel
theorem dX9_isIn_24 : decode cX9_isIn 24 = .ok (.getfield 7, 3) := by decide +kernel
theorem dX9_isIn_27 : decode cX9_isIn 27 = .ok (.irem, 1) := by decide +kernel
theorem dX9_isIn_28 : decode cX9_isIn 28 = .ok (.isub, 1) := by decide +kernel
theorem dX9_isIn_29 : decode cX9_isIn 29 = .ok (.istore_n 3, 1) := by decide +kernel
theorem dX9_isIn_30 : decode cX9_isIn 30 = .ok (.iload_n 2, 1) := by decide +kernel
theorem dX9_isIn_31 : decode cX9_isIn 31 = .ok (.aload_n 0, 1) := by decide +kernel
theorem dX9_isIn_32 : decode cX9_isIn 32 = .ok (.getfield 7, 3) := by decide +kernel
theorem dX9_isIn_35 : decode cX9_isIn 35 = .ok (.idiv, 1) := by decide +kernel
theorem dX9_isIn_36 : decode cX9_isIn 36 = .ok (.aload_n 0, 1) := by decide +kernel
theorem dX9_isIn_37 : decode cX9_isIn 37 = .ok (.getfield 72, 3) := by decide +kernel
theorem dX9_isIn_40 : decode cX9_isIn 40 = .ok (.iload_n 1, 1) := by decide +kernel
theorem dX9_isIn_41 : decode cX9_isIn 41 = .ok (.iaload, 1) := by decide +kernel
theorem dX9_isIn_42 : decode cX9_isIn 42 = .ok (.aload_n 0, 1) := by decide +kernel
theorem dX9_isIn_43 : decode cX9_isIn 43 = .ok (.getfield 7, 3) := by decide +kernel
theorem dX9_isIn_46 : decode cX9_isIn 46 = .ok (.idiv, 1) := by decide +kernel
theorem dX9_isIn_47 : decode cX9_isIn 47 = .ok (.isub, 1) := by decide +kernel
theorem dX9_isIn_48 : decode cX9_isIn 48 = .ok (.istore 4, 2) := by decide +kernel
theorem dX9_isIn_50 : decode cX9_isIn 50 = .ok (.iload_n 3, 1) := by decide +kernel
theorem dX9_isIn_51 : decode cX9_isIn 51 = .ok (.iconst 0, 1) := by decide +kernel
theorem dX9_isIn_52 : decode cX9_isIn 52 = .ok (.aload_n 0, 1) := by decide +kernel
theorem dX9_isIn_53 : decode cX9_isIn 53 = .ok (.getfield 75, 3) := by decide +kernel
theorem dX9_isIn_56 : decode cX9_isIn 56 = .ok (.iload_n 1, 1) := by decide +kernel
theorem dX9_isIn_57 : decode cX9_isIn 57 = .ok (.iaload, 1) := by decide +kernel
theorem dX9_isIn_58 : decode cX9_isIn 58 = .ok (.iconst 1, 1) := by decide +kernel
theorem dX9_isIn_59 : decode cX9_isIn 59 = .ok (.isub, 1) := by decide +kernel
theorem dX9_isIn_60 : decode cX9_isIn 60 = .ok (.invokestatic 152, 3) := by decide +kernel
theorem dX9_isIn_63 : decode cX9_isIn 63 = .ok (.ifCond .eq 24, 3) := by decide +kernel
theorem dX9_isIn_66 : decode cX9_isIn 66 = .ok (.iload 4, 2) := by decide +kernel
theorem dX9_isIn_68 : decode cX9_isIn 68 = .ok (.iconst 0, 1) := by decide +kernel
theorem dX9_isIn_69 : decode cX9_isIn 69 = .ok (.aload_n 0, 1) := by decide +kernel
theorem dX9_isIn_70 : decode cX9_isIn 70 = .ok (.getfield 78, 3) := by decide +kernel
theorem dX9_isIn_73 : decode cX9_isIn 73 = .ok (.iload_n 1, 1) := by decide +kernel
theorem dX9_isIn_74 : decode cX9_isIn 74 = .ok (.iaload, 1) := by decide +kernel
theorem dX9_isIn_75 : decode cX9_isIn 75 = .ok (.iconst 1, 1) := by decide +kernel
theorem dX9_isIn_76 : decode cX9_isIn 76 = .ok (.isub, 1) := by decide +kernel
theorem dX9_isIn_77 : decode cX9_isIn 77 = .ok (.invokestatic 152, 3) := by decide +kernel
theorem dX9_isIn_80 : decode cX9_isIn 80 = .ok (.ifCond .eq 7, 3) := by decide +kernel
theorem dX9_isIn_83 : decode cX9_isIn 83 = .ok (.iconst 1, 1) := by decide +kernel
theorem dX9_isIn_84 : decode cX9_isIn 84 = .ok (.goto 4, 3) := by decide +kernel
theorem dX9_isIn_87 : decode cX9_isIn 87 = .ok (.iconst 0, 1) := by decide +kernel
theorem dX9_isIn_88 : decode cX9_isIn 88 = .ok (.ireturn, 1) := by decide +kernel
theorem dX9_isAhead_0 : decode cX9_isAhead 0 = .ok (.iconst 0, 1) := by decide +kernel
theorem dX9_isAhead_1 : decode cX9_isAhead 1 = .ok (.istore_n 3, 1) := by decide +kernel
theorem dX9_isAhead_2 : decode cX9_isAhead 2 = .ok (.iconst 0, 1) := by decide +kernel
theorem dX9_isAhead_3 : decode cX9_isAhead 3 = .ok (.istore 4, 2) := by decide +kernel
theorem dX9_isAhead_5 : decode cX9_isAhead 5 = .ok (.iload 4, 2) := by decide +kernel
theorem dX9_isAhead_7 : decode cX9_isAhead 7 = .ok (.iload_n 1, 1) := by decide +kernel
theorem dX9_isAhead_8 : decode cX9_isAhead 8 = .ok (.if_icmp .ge 29, 3) := by decide +kernel
theorem dX9_isAhead_11 : decode cX9_isAhead 11 = .ok (.iload_n 3, 1) := by decide +kernel
theorem dX9_isAhead_12 : decode cX9_isAhead 12 = .ok (.ifCond .ne 13, 3) := by decide +kernel
theorem dX9_isAhead_15 : decode cX9_isAhead 15 = .ok (.aload_n 0, 1) := by decide +kernel
theorem dX9_isAhead_16 : decode cX9_isAhead 16 = .ok (.iload 4, 2) := by decide +kernel
theorem dX9_isAhead_18 : decode cX9_isAhead 18 = .ok (.iload_n 2, 1) := by decide +kernel
theorem dX9_isAhead_19 : decode cX9_isAhead 19 = .ok (.invokevirtual 250, 3) := by decide +kernel
theorem dX9_isAhead_22 : decode cX9_isAhead 22 = .ok (.ifCond .eq 7, 3) := by decide +kernel
theorem dX9_isAhead_25 : decode cX9_isAhead 25 = .ok (.iconst 1, 1) := by decide +kernel
theorem dX9_isAhead_26 : decode cX9_isAhead 26 = .ok (.goto 4, 3) := by decide +kernel
theorem dX9_isAhead_29 : decode cX9_isAhead 29 = .ok (.iconst 0, 1) := by decide +kernel
theorem dX9_isAhead_30 : decode cX9_isAhead 30 = .ok (.istore_n 3, 1) := by decide +kernel
theorem dX9_isAhead_31 : decode cX9_isAhead 31 = .ok (.iinc 4 1, 3) := by decide +kernel
theorem dX9_isAhead_34 : decode cX9_isAhead 34 = .ok (.goto (-29), 3) := by decide +kernel
theorem dX9_isAhead_37 : decode cX9_isAhead 37 = .ok (.iload_n 3, 1) := by decide +kernel
theorem dX9_isAhead_38 : decode cX9_isAhead 38 = .ok (.ireturn, 1) := by decide +kernel
theorem dX9_worthOf_0 : decode cX9_worthOf 0 = .ok (.iconst 0, 1) := by decide +kernel
theorem dX9_worthOf_1 : decode cX9_worthOf 1 = .ok (.istore_n 2, 1) := by decide +kernel
theorem dX9_worthOf_2 : decode cX9_worthOf 2 = .ok (.iconst 0, 1) := by decide +kernel
theorem dX9_worthOf_3 : decode cX9_worthOf 3 = .ok (.istore_n 3, 1) := by decide +kernel
theorem dX9_worthOf_4 : decode cX9_worthOf 4 = .ok (.iload_n 3, 1) := by decide +kernel
theorem dX9_worthOf_5 : decode cX9_worthOf 5 = .ok (.aload_n 0, 1) := by decide +kernel
theorem dX9_worthOf_6 : decode cX9_worthOf 6 = .ok (.invokevirtual 148, 3) := by decide +kernel
theorem dX9_worthOf_9 : decode cX9_worthOf 9 = .ok (.if_icmp .ge 31, 3) := by decide +kernel
theorem dX9_worthOf_12 : decode cX9_worthOf 12 = .ok (.iload_n 2, 1) := by decide +kernel
theorem dX9_worthOf_13 : decode cX9_worthOf 13 = .ok (.aload_n 0, 1) := by decide +kernel
theorem dX9_worthOf_14 : decode cX9_worthOf 14 = .ok (.iload_n 1, 1) := by decide +kernel
theorem dX9_worthOf_15 : decode cX9_worthOf 15 = .ok (.iload_n 3, 1) := by decide +kernel
theorem dX9_worthOf_16 : decode cX9_worthOf 16 = .ok (.invokevirtual 250, 3) := by decide +kernel
theorem dX9_worthOf_19 : decode cX9_worthOf 19 = .ok (.ifCond .eq 12, 3) := by decide +kernel
theorem dX9_worthOf_22 : decode cX9_worthOf 22 = .ok (.aload_n 0, 1) := by decide +kernel
theorem dX9_worthOf_23 : decode cX9_worthOf 23 = .ok (.getfield 16, 3) := by decide +kernel
theorem dX9_worthOf_26 : decode cX9_worthOf 26 = .ok (.iload_n 3, 1) := by decide +kernel
theorem dX9_worthOf_27 : decode cX9_worthOf 27 = .ok (.iaload, 1) := by decide +kernel
theorem dX9_worthOf_28 : decode cX9_worthOf 28 = .ok (.goto 4, 3) := by decide +kernel
theorem dX9_worthOf_31 : decode cX9_worthOf 31 = .ok (.iconst 0, 1) := by decide +kernel
theorem dX9_worthOf_32 : decode cX9_worthOf 32 = .ok (.iadd, 1) := by decide +kernel
theorem dX9_worthOf_33 : decode cX9_worthOf 33 = .ok (.istore_n 2, 1) := by decide +kernel
theorem dX9_worthOf_34 : decode cX9_worthOf 34 = .ok (.iinc 3 1, 3) := by decide +kernel
theorem dX9_worthOf_37 : decode cX9_worthOf 37 = .ok (.goto (-33), 3) := by decide +kernel
theorem dX9_worthOf_40 : decode cX9_worthOf 40 = .ok (.iload_n 2, 1) := by decide +kernel
theorem dX9_worthOf_41 : decode cX9_worthOf 41 = .ok (.ireturn, 1) := by decide +kernel
theorem dX9_isByRoad_0 : decode cX9_isByRoad 0 = .ok (.iconst 0, 1) := by decide +kernel
theorem dX9_isByRoad_1 : decode cX9_isByRoad 1 = .ok (.istore_n 2, 1) := by decide +kernel
theorem dX9_isByRoad_2 : decode cX9_isByRoad 2 = .ok (.iconst 0, 1) := by decide +kernel
theorem dX9_isByRoad_3 : decode cX9_isByRoad 3 = .ok (.istore_n 3, 1) := by decide +kernel
theorem dX9_isByRoad_4 : decode cX9_isByRoad 4 = .ok (.iload_n 3, 1) := by decide +kernel
theorem dX9_isByRoad_5 : decode cX9_isByRoad 5 = .ok (.iconst 4, 1) := by decide +kernel
theorem dX9_isByRoad_6 : decode cX9_isByRoad 6 = .ok (.if_icmp .ge 43, 3) := by decide +kernel
theorem dX9_isByRoad_9 : decode cX9_isByRoad 9 = .ok (.aload_n 0, 1) := by decide +kernel
theorem dX9_isByRoad_10 : decode cX9_isByRoad 10 = .ok (.iload_n 1, 1) := by decide +kernel
theorem dX9_isByRoad_11 : decode cX9_isByRoad 11 = .ok (.iload_n 3, 1) := by decide +kernel
theorem dX9_isByRoad_12 : decode cX9_isByRoad 12 = .ok (.invokevirtual 172, 3) := by decide +kernel
theorem dX9_isByRoad_15 : decode cX9_isByRoad 15 = .ok (.istore 4, 2) := by decide +kernel
theorem dX9_isByRoad_17 : decode cX9_isByRoad 17 = .ok (.iload_n 2, 1) := by decide +kernel
theorem dX9_isByRoad_18 : decode cX9_isByRoad 18 = .ok (.ifCond .ne 19, 3) := by decide +kernel
theorem dX9_isByRoad_21 : decode cX9_isByRoad 21 = .ok (.iload 4, 2) := by decide +kernel
theorem dX9_isByRoad_23 : decode cX9_isByRoad 23 = .ok (.iconst (-1), 1) := by decide +kernel
theorem dX9_isByRoad_24 : decode cX9_isByRoad 24 = .ok (.if_icmp .eq 17, 3) := by decide +kernel
theorem dX9_isByRoad_27 : decode cX9_isByRoad 27 = .ok (.aload_n 0, 1) := by decide +kernel
theorem dX9_isByRoad_28 : decode cX9_isByRoad 28 = .ok (.getfield 23, 3) := by decide +kernel
theorem dX9_isByRoad_31 : decode cX9_isByRoad 31 = .ok (.iload 4, 2) := by decide +kernel
theorem dX9_isByRoad_33 : decode cX9_isByRoad 33 = .ok (.baload, 1) := by decide +kernel
theorem dX9_isByRoad_34 : decode cX9_isByRoad 34 = .ok (.ifCond .eq 7, 3) := by decide +kernel
theorem dX9_isByRoad_37 : decode cX9_isByRoad 37 = .ok (.iconst 1, 1) := by decide +kernel
theorem dX9_isByRoad_38 : decode cX9_isByRoad 38 = .ok (.goto 4, 3) := by decide +kernel
theorem dX9_isByRoad_41 : decode cX9_isByRoad 41 = .ok (.iconst 0, 1) := by decide +kernel
theorem dX9_isByRoad_42 : decode cX9_isByRoad 42 = .ok (.istore_n 2, 1) := by decide +kernel
theorem dX9_isByRoad_43 : decode cX9_isByRoad 43 = .ok (.iinc 3 1, 3) := by decide +kernel
theorem dX9_isByRoad_46 : decode cX9_isByRoad 46 = .ok (.goto (-42), 3) := by decide +kernel
theorem dX9_isByRoad_49 : decode cX9_isByRoad 49 = .ok (.iload_n 2, 1) := by decide +kernel
theorem dX9_isByRoad_50 : decode cX9_isByRoad 50 = .ok (.ireturn, 1) := by decide +kernel
theorem dX9_goodOf_0 : decode cX9_goodOf 0 = .ok (.aload_n 0, 1) := by decide +kernel
theorem dX9_goodOf_1 : decode cX9_goodOf 1 = .ok (.getfield 72, 3) := by decide +kernel
theorem dX9_goodOf_4 : decode cX9_goodOf 4 = .ok (.iload_n 1, 1) := by decide +kernel
theorem dX9_goodOf_5 : decode cX9_goodOf 5 = .ok (.iaload, 1) := by decide +kernel
theorem dX9_goodOf_6 : decode cX9_goodOf 6 = .ok (.aload_n 0, 1) := by decide +kernel
theorem dX9_goodOf_7 : decode cX9_goodOf 7 = .ok (.getfield 7, 3) := by decide +kernel
theorem dX9_goodOf_10 : decode cX9_goodOf 10 = .ok (.irem, 1) := by decide +kernel
theorem dX9_goodOf_11 : decode cX9_goodOf 11 = .ok (.aload_n 0, 1) := by decide +kernel
theorem dX9_goodOf_12 : decode cX9_goodOf 12 = .ok (.getfield 75, 3) := by decide +kernel
theorem dX9_goodOf_15 : decode cX9_goodOf 15 = .ok (.iload_n 1, 1) := by decide +kernel
theorem dX9_goodOf_16 : decode cX9_goodOf 16 = .ok (.iaload, 1) := by decide +kernel
theorem dX9_goodOf_17 : decode cX9_goodOf 17 = .ok (.iadd, 1) := by decide +kernel
theorem dX9_goodOf_18 : decode cX9_goodOf 18 = .ok (.aload_n 0, 1) := by decide +kernel
theorem dX9_goodOf_19 : decode cX9_goodOf 19 = .ok (.getfield 7, 3) := by decide +kernel
theorem dX9_goodOf_22 : decode cX9_goodOf 22 = .ok (.if_icmp .gt 32, 3) := by decide +kernel
theorem dX9_goodOf_25 : decode cX9_goodOf 25 = .ok (.aload_n 0, 1) := by decide +kernel
theorem dX9_goodOf_26 : decode cX9_goodOf 26 = .ok (.getfield 72, 3) := by decide +kernel
theorem dX9_goodOf_29 : decode cX9_goodOf 29 = .ok (.iload_n 1, 1) := by decide +kernel
theorem dX9_goodOf_30 : decode cX9_goodOf 30 = .ok (.iaload, 1) := by decide +kernel
theorem dX9_goodOf_31 : decode cX9_goodOf 31 = .ok (.aload_n 0, 1) := by decide +kernel
theorem dX9_goodOf_32 : decode cX9_goodOf 32 = .ok (.getfield 7, 3) := by decide +kernel
theorem dX9_goodOf_35 : decode cX9_goodOf 35 = .ok (.idiv, 1) := by decide +kernel
theorem dX9_goodOf_36 : decode cX9_goodOf 36 = .ok (.aload_n 0, 1) := by decide +kernel
theorem dX9_goodOf_37 : decode cX9_goodOf 37 = .ok (.getfield 78, 3) := by decide +kernel
theorem dX9_goodOf_40 : decode cX9_goodOf 40 = .ok (.iload_n 1, 1) := by decide +kernel
theorem dX9_goodOf_41 : decode cX9_goodOf 41 = .ok (.iaload, 1) := by decide +kernel
theorem dX9_goodOf_42 : decode cX9_goodOf 42 = .ok (.iadd, 1) := by decide +kernel
theorem dX9_goodOf_43 : decode cX9_goodOf 43 = .ok (.aload_n 0, 1) := by decide +kernel
theorem dX9_goodOf_44 : decode cX9_goodOf 44 = .ok (.getfield 13, 3) := by decide +kernel
theorem dX9_goodOf_47 : decode cX9_goodOf 47 = .ok (.if_icmp .gt 7, 3) := by decide +kernel
theorem dX9_goodOf_50 : decode cX9_goodOf 50 = .ok (.iconst 1, 1) := by decide +kernel
theorem dX9_goodOf_51 : decode cX9_goodOf 51 = .ok (.goto 4, 3) := by decide +kernel
theorem dX9_goodOf_54 : decode cX9_goodOf 54 = .ok (.iconst 0, 1) := by decide +kernel
theorem dX9_goodOf_55 : decode cX9_goodOf 55 = .ok (.istore_n 3, 1) := by decide +kernel
theorem dX9_goodOf_56 : decode cX9_goodOf 56 = .ok (.iconst 1, 1) := by decide +kernel
theorem dX9_goodOf_57 : decode cX9_goodOf 57 = .ok (.istore 4, 2) := by decide +kernel
theorem dX9_goodOf_59 : decode cX9_goodOf 59 = .ok (.iconst 0, 1) := by decide +kernel
theorem dX9_goodOf_60 : decode cX9_goodOf 60 = .ok (.istore 5, 2) := by decide +kernel
theorem dX9_goodOf_62 : decode cX9_goodOf 62 = .ok (.iconst 0, 1) := by decide +kernel
theorem dX9_goodOf_63 : decode cX9_goodOf 63 = .ok (.istore 6, 2) := by decide +kernel
theorem dX9_goodOf_65 : decode cX9_goodOf 65 = .ok (.iconst 0, 1) := by decide +kernel
theorem dX9_goodOf_66 : decode cX9_goodOf 66 = .ok (.istore 7, 2) := by decide +kernel
theorem dX9_goodOf_68 : decode cX9_goodOf 68 = .ok (.iload 7, 2) := by decide +kernel
theorem dX9_goodOf_70 : decode cX9_goodOf 70 = .ok (.aload_n 0, 1) := by decide +kernel
theorem dX9_goodOf_71 : decode cX9_goodOf 71 = .ok (.invokevirtual 148, 3) := by decide +kernel
theorem dX9_goodOf_74 : decode cX9_goodOf 74 = .ok (.if_icmp .ge 83, 3) := by decide +kernel
theorem dX9_goodOf_77 : decode cX9_goodOf 77 = .ok (.aload_n 0, 1) := by decide +kernel
theorem dX9_goodOf_78 : decode cX9_goodOf 78 = .ok (.iload_n 1, 1) := by decide +kernel
theorem dX9_goodOf_79 : decode cX9_goodOf 79 = .ok (.iload 7, 2) := by decide +kernel
theorem dX9_goodOf_81 : decode cX9_goodOf 81 = .ok (.invokevirtual 250, 3) := by decide +kernel
theorem dX9_goodOf_84 : decode cX9_goodOf 84 = .ok (.ifCond .eq 67, 3) := by decide +kernel
theorem dX9_goodOf_87 : decode cX9_goodOf 87 = .ok (.iload 4, 2) := by decide +kernel
theorem dX9_goodOf_89 : decode cX9_goodOf 89 = .ok (.ifCond .eq 16, 3) := by decide +kernel
theorem dX9_goodOf_92 : decode cX9_goodOf 92 = .ok (.aload_n 0, 1) := by decide +kernel
theorem dX9_goodOf_93 : decode cX9_goodOf 93 = .ok (.iload 7, 2) := by decide +kernel
theorem dX9_goodOf_95 : decode cX9_goodOf 95 = .ok (.invokevirtual 214, 3) := by decide +kernel
theorem dX9_goodOf_98 : decode cX9_goodOf 98 = .ok (.ifCond .eq 7, 3) := by decide +kernel
theorem dX9_goodOf_101 : decode cX9_goodOf 101 = .ok (.iconst 1, 1) := by decide +kernel
theorem dX9_goodOf_102 : decode cX9_goodOf 102 = .ok (.goto 4, 3) := by decide +kernel
theorem dX9_goodOf_105 : decode cX9_goodOf 105 = .ok (.iconst 0, 1) := by decide +kernel
theorem dX9_goodOf_106 : decode cX9_goodOf 106 = .ok (.istore 4, 2) := by decide +kernel
theorem dX9_goodOf_108 : decode cX9_goodOf 108 = .ok (.iload 5, 2) := by decide +kernel
theorem dX9_goodOf_110 : decode cX9_goodOf 110 = .ok (.ifCond .ne 13, 3) := by decide +kernel
theorem dX9_goodOf_113 : decode cX9_goodOf 113 = .ok (.aload_n 0, 1) := by decide +kernel
theorem dX9_goodOf_114 : decode cX9_goodOf 114 = .ok (.iload_n 1, 1) := by decide +kernel
theorem dX9_goodOf_115 : decode cX9_goodOf 115 = .ok (.iload 7, 2) := by decide +kernel
theorem dX9_goodOf_117 : decode cX9_goodOf 117 = .ok (.invokevirtual 253, 3) := by decide +kernel
theorem dX9_goodOf_120 : decode cX9_goodOf 120 = .ok (.ifCond .eq 7, 3) := by decide +kernel
theorem dX9_goodOf_123 : decode cX9_goodOf 123 = .ok (.iconst 1, 1) := by decide +kernel
theorem dX9_goodOf_124 : decode cX9_goodOf 124 = .ok (.goto 4, 3) := by decide +kernel
theorem dX9_goodOf_127 : decode cX9_goodOf 127 = .ok (.iconst 0, 1) := by decide +kernel
theorem dX9_goodOf_128 : decode cX9_goodOf 128 = .ok (.istore 5, 2) := by decide +kernel
theorem dX9_goodOf_130 : decode cX9_goodOf 130 = .ok (.iload 6, 2) := by decide +kernel
theorem dX9_goodOf_132 : decode cX9_goodOf 132 = .ok (.ifCond .ne 12, 3) := by decide +kernel
theorem dX9_goodOf_135 : decode cX9_goodOf 135 = .ok (.aload_n 0, 1) := by decide +kernel
theorem dX9_goodOf_136 : decode cX9_goodOf 136 = .ok (.iload 7, 2) := by decide +kernel
theorem dX9_goodOf_138 : decode cX9_goodOf 138 = .ok (.invokevirtual 256, 3) := by decide +kernel
theorem dX9_goodOf_141 : decode cX9_goodOf 141 = .ok (.ifCond .eq 7, 3) := by decide +kernel
theorem dX9_goodOf_144 : decode cX9_goodOf 144 = .ok (.iconst 1, 1) := by decide +kernel
theorem dX9_goodOf_145 : decode cX9_goodOf 145 = .ok (.goto 4, 3) := by decide +kernel
theorem dX9_goodOf_148 : decode cX9_goodOf 148 = .ok (.iconst 0, 1) := by decide +kernel
theorem dX9_goodOf_149 : decode cX9_goodOf 149 = .ok (.istore 6, 2) := by decide +kernel
theorem dX9_goodOf_151 : decode cX9_goodOf 151 = .ok (.iinc 7 1, 3) := by decide +kernel
theorem dX9_goodOf_154 : decode cX9_goodOf 154 = .ok (.goto (-86), 3) := by decide +kernel
theorem dX9_goodOf_157 : decode cX9_goodOf 157 = .ok (.aload_n 0, 1) := by decide +kernel
theorem dX9_goodOf_158 : decode cX9_goodOf 158 = .ok (.iload_n 1, 1) := by decide +kernel
theorem dX9_goodOf_159 : decode cX9_goodOf 159 = .ok (.invokevirtual 259, 3) := by decide +kernel
theorem dX9_goodOf_162 : decode cX9_goodOf 162 = .ok (.iload_n 2, 1) := by decide +kernel
theorem dX9_goodOf_163 : decode cX9_goodOf 163 = .ok (.isub, 1) := by decide +kernel
theorem dX9_goodOf_164 : decode cX9_goodOf 164 = .ok (.istore 7, 2) := by decide +kernel
theorem dX9_goodOf_166 : decode cX9_goodOf 166 = .ok (.iload_n 3, 1) := by decide +kernel
theorem dX9_goodOf_167 : decode cX9_goodOf 167 = .ok (.ifCond .eq 8, 3) := by decide +kernel
theorem dX9_goodOf_170 : decode cX9_goodOf 170 = .ok (.iload 4, 2) := by decide +kernel
theorem dX9_goodOf_172 : decode cX9_goodOf 172 = .ok (.ifCond .ne 7, 3) := by decide +kernel
theorem dX9_goodOf_175 : decode cX9_goodOf 175 = .ok (.iconst 1, 1) := by decide +kernel
theorem dX9_goodOf_176 : decode cX9_goodOf 176 = .ok (.goto 45, 3) := by decide +kernel
theorem dX9_goodOf_179 : decode cX9_goodOf 179 = .ok (.iload 5, 2) := by decide +kernel
theorem dX9_goodOf_181 : decode cX9_goodOf 181 = .ok (.ifCond .eq 7, 3) := by decide +kernel
theorem dX9_goodOf_184 : decode cX9_goodOf 184 = .ok (.iconst 2, 1) := by decide +kernel
theorem dX9_goodOf_185 : decode cX9_goodOf 185 = .ok (.goto 36, 3) := by decide +kernel
theorem dX9_goodOf_188 : decode cX9_goodOf 188 = .ok (.iload 7, 2) := by decide +kernel
theorem dX9_goodOf_190 : decode cX9_goodOf 190 = .ok (.aload_n 0, 1) := by decide +kernel
theorem dX9_goodOf_191 : decode cX9_goodOf 191 = .ok (.getfield 69, 3) := by decide +kernel
theorem dX9_goodOf_194 : decode cX9_goodOf 194 = .ok (.if_icmp .gt 13, 3) := by decide +kernel
theorem dX9_goodOf_197 : decode cX9_goodOf 197 = .ok (.iload 7, 2) := by decide +kernel
theorem dX9_goodOf_199 : decode cX9_goodOf 199 = .ok (.ineg, 1) := by decide +kernel
theorem dX9_goodOf_200 : decode cX9_goodOf 200 = .ok (.aload_n 0, 1) := by decide +kernel
theorem dX9_goodOf_201 : decode cX9_goodOf 201 = .ok (.getfield 69, 3) := by decide +kernel
theorem dX9_goodOf_204 : decode cX9_goodOf 204 = .ok (.if_icmp .le 7, 3) := by decide +kernel
theorem dX9_goodOf_207 : decode cX9_goodOf 207 = .ok (.iconst 3, 1) := by decide +kernel
theorem dX9_goodOf_208 : decode cX9_goodOf 208 = .ok (.goto 13, 3) := by decide +kernel
theorem dX9_goodOf_211 : decode cX9_goodOf 211 = .ok (.iload 6, 2) := by decide +kernel
theorem dX9_goodOf_213 : decode cX9_goodOf 213 = .ok (.ifCond .eq 7, 3) := by decide +kernel
theorem dX9_goodOf_216 : decode cX9_goodOf 216 = .ok (.iconst 0, 1) := by decide +kernel
theorem dX9_goodOf_217 : decode cX9_goodOf 217 = .ok (.goto 4, 3) := by decide +kernel
theorem dX9_goodOf_220 : decode cX9_goodOf 220 = .ok (.iconst 4, 1) := by decide +kernel
theorem dX9_goodOf_221 : decode cX9_goodOf 221 = .ok (.ireturn, 1) := by decide +kernel
theorem dX9_good_0 : decode cX9_good 0 = .ok (.aload_n 0, 1) := by decide +kernel
theorem dX9_good_1 : decode cX9_good 1 = .ok (.iconst 0, 1) := by decide +kernel
theorem dX9_good_2 : decode cX9_good 2 = .ok (.putfield 133, 3) := by decide +kernel
theorem dX9_good_5 : decode cX9_good 5 = .ok (.aload_n 0, 1) := by decide +kernel
theorem dX9_good_6 : decode cX9_good 6 = .ok (.iload_n 1, 1) := by decide +kernel
theorem dX9_good_7 : decode cX9_good 7 = .ok (.invokevirtual 182, 3) := by decide +kernel
theorem dX9_good_10 : decode cX9_good 10 = .ok (.ifCond .eq 10, 3) := by decide +kernel
theorem dX9_good_13 : decode cX9_good 13 = .ok (.iload_n 2, 1) := by decide +kernel
theorem dX9_good_14 : decode cX9_good 14 = .ok (.invokestatic 185, 3) := by decide +kernel
theorem dX9_good_17 : decode cX9_good 17 = .ok (.ifCond .ne 6, 3) := by decide +kernel
theorem dX9_good_20 : decode cX9_good 20 = .ok (.bipush (-3), 2) := by decide +kernel
theorem dX9_good_22 : decode cX9_good 22 = .ok (.ireturn, 1) := by decide +kernel
theorem dX9_good_23 : decode cX9_good 23 = .ok (.aload_n 0, 1) := by decide +kernel
theorem dX9_good_24 : decode cX9_good 24 = .ok (.getfield 75, 3) := by decide +kernel
theorem dX9_good_27 : decode cX9_good 27 = .ok (.iload_n 1, 1) := by decide +kernel
theorem dX9_good_28 : decode cX9_good 28 = .ok (.iaload, 1) := by decide +kernel
theorem dX9_good_29 : decode cX9_good 29 = .ok (.ifCond .ne 5, 3) := by decide +kernel
theorem dX9_good_32 : decode cX9_good 32 = .ok (.iconst (-1), 1) := by decide +kernel
theorem dX9_good_33 : decode cX9_good 33 = .ok (.ireturn, 1) := by decide +kernel
theorem dX9_good_34 : decode cX9_good 34 = .ok (.aload_n 0, 1) := by decide +kernel
theorem dX9_good_35 : decode cX9_good 35 = .ok (.iload_n 2, 1) := by decide +kernel
theorem dX9_good_36 : decode cX9_good 36 = .ok (.iconst 0, 1) := by decide +kernel
theorem dX9_good_37 : decode cX9_good 37 = .ok (.aload_n 0, 1) := by decide +kernel
theorem dX9_good_38 : decode cX9_good 38 = .ok (.getfield 93, 3) := by decide +kernel
theorem dX9_good_41 : decode cX9_good 41 = .ok (.invokevirtual 246, 3) := by decide +kernel
theorem dX9_good_44 : decode cX9_good 44 = .ok (.aload_n 0, 1) := by decide +kernel
theorem dX9_good_45 : decode cX9_good 45 = .ok (.iload_n 1, 1) := by decide +kernel
theorem dX9_good_46 : decode cX9_good 46 = .ok (.aload_n 0, 1) := by decide +kernel
theorem dX9_good_47 : decode cX9_good 47 = .ok (.getfield 93, 3) := by decide +kernel
theorem dX9_good_50 : decode cX9_good 50 = .ok (.iload_n 1, 1) := by decide +kernel
theorem dX9_good_51 : decode cX9_good 51 = .ok (.iaload, 1) := by decide +kernel
theorem dX9_good_52 : decode cX9_good 52 = .ok (.invokevirtual 262, 3) := by decide +kernel
theorem dX9_good_55 : decode cX9_good 55 = .ok (.ireturn, 1) := by decide +kernel
theorem dX9_farOf_0 : decode cX9_farOf 0 = .ok (.sipush 10000, 3) := by decide +kernel
theorem dX9_farOf_3 : decode cX9_farOf 3 = .ok (.istore_n 2, 1) := by decide +kernel
theorem dX9_farOf_4 : decode cX9_farOf 4 = .ok (.iconst 0, 1) := by decide +kernel
theorem dX9_farOf_5 : decode cX9_farOf 5 = .ok (.istore_n 3, 1) := by decide +kernel
theorem dX9_farOf_6 : decode cX9_farOf 6 = .ok (.iload_n 3, 1) := by decide +kernel
theorem dX9_farOf_7 : decode cX9_farOf 7 = .ok (.aload_n 0, 1) := by decide +kernel
theorem dX9_farOf_8 : decode cX9_farOf 8 = .ok (.invokevirtual 148, 3) := by decide +kernel
theorem dX9_farOf_11 : decode cX9_farOf 11 = .ok (.if_icmp .ge 100, 3) := by decide +kernel
theorem dX9_farOf_14 : decode cX9_farOf 14 = .ok (.aload_n 0, 1) := by decide +kernel
theorem dX9_farOf_15 : decode cX9_farOf 15 = .ok (.iload_n 1, 1) := by decide +kernel
theorem dX9_farOf_16 : decode cX9_farOf 16 = .ok (.iload_n 3, 1) := by decide +kernel
theorem dX9_farOf_17 : decode cX9_farOf 17 = .ok (.invokevirtual 250, 3) := by decide +kernel
theorem dX9_farOf_20 : decode cX9_farOf 20 = .ok (.ifCond .eq 85, 3) := by decide +kernel
theorem dX9_farOf_23 : decode cX9_farOf 23 = .ok (.iload_n 3, 1) := by decide +kernel
theorem dX9_farOf_24 : decode cX9_farOf 24 = .ok (.aload_n 0, 1) := by decide +kernel
theorem dX9_farOf_25 : decode cX9_farOf 25 = .ok (.getfield 7, 3) := by decide +kernel
theorem dX9_farOf_28 : decode cX9_farOf 28 = .ok (.irem, 1) := by decide +kernel
theorem dX9_farOf_29 : decode cX9_farOf 29 = .ok (.aload_n 0, 1) := by decide +kernel
theorem dX9_farOf_30 : decode cX9_farOf 30 = .ok (.getfield 39, 3) := by decide +kernel
theorem dX9_farOf_33 : decode cX9_farOf 33 = .ok (.iload_n 1, 1) := by decide +kernel
theorem dX9_farOf_34 : decode cX9_farOf 34 = .ok (.iaload, 1) := by decide +kernel
theorem dX9_farOf_35 : decode cX9_farOf 35 = .ok (.aload_n 0, 1) := by decide +kernel
theorem dX9_farOf_36 : decode cX9_farOf 36 = .ok (.getfield 7, 3) := by decide +kernel
theorem dX9_farOf_39 : decode cX9_farOf 39 = .ok (.irem, 1) := by decide +kernel
theorem dX9_farOf_40 : decode cX9_farOf 40 = .ok (.isub, 1) := by decide +kernel
theorem dX9_farOf_41 : decode cX9_farOf 41 = .ok (.istore 4, 2) := by decide +kernel
theorem dX9_farOf_43 : decode cX9_farOf 43 = .ok (.iload_n 3, 1) := by decide +kernel
theorem dX9_farOf_44 : decode cX9_farOf 44 = .ok (.aload_n 0, 1) := by decide +kernel
theorem dX9_farOf_45 : decode cX9_farOf 45 = .ok (.getfield 7, 3) := by decide +kernel
theorem dX9_farOf_48 : decode cX9_farOf 48 = .ok (.idiv, 1) := by decide +kernel
theorem dX9_farOf_49 : decode cX9_farOf 49 = .ok (.aload_n 0, 1) := by decide +kernel
theorem dX9_farOf_50 : decode cX9_farOf 50 = .ok (.getfield 39, 3) := by decide +kernel
theorem dX9_farOf_53 : decode cX9_farOf 53 = .ok (.iload_n 1, 1) := by decide +kernel
theorem dX9_farOf_54 : decode cX9_farOf 54 = .ok (.iaload, 1) := by decide +kernel
theorem dX9_farOf_55 : decode cX9_farOf 55 = .ok (.aload_n 0, 1) := by decide +kernel
theorem dX9_farOf_56 : decode cX9_farOf 56 = .ok (.getfield 7, 3) := by decide +kernel
theorem dX9_farOf_59 : decode cX9_farOf 59 = .ok (.idiv, 1) := by decide +kernel
theorem dX9_farOf_60 : decode cX9_farOf 60 = .ok (.isub, 1) := by decide +kernel
theorem dX9_farOf_61 : decode cX9_farOf 61 = .ok (.istore 5, 2) := by decide +kernel
theorem dX9_farOf_63 : decode cX9_farOf 63 = .ok (.iload 4, 2) := by decide +kernel
theorem dX9_farOf_65 : decode cX9_farOf 65 = .ok (.ifCond .ge 9, 3) := by decide +kernel
theorem dX9_farOf_68 : decode cX9_farOf 68 = .ok (.iload 4, 2) := by decide +kernel
theorem dX9_farOf_70 : decode cX9_farOf 70 = .ok (.ineg, 1) := by decide +kernel
theorem dX9_farOf_71 : decode cX9_farOf 71 = .ok (.goto 5, 3) := by decide +kernel
theorem dX9_farOf_74 : decode cX9_farOf 74 = .ok (.iload 4, 2) := by decide +kernel
theorem dX9_farOf_76 : decode cX9_farOf 76 = .ok (.iload 5, 2) := by decide +kernel
theorem dX9_farOf_78 : decode cX9_farOf 78 = .ok (.ifCond .ge 9, 3) := by decide +kernel
theorem dX9_farOf_81 : decode cX9_farOf 81 = .ok (.iload 5, 2) := by decide +kernel
theorem dX9_farOf_83 : decode cX9_farOf 83 = .ok (.ineg, 1) := by decide +kernel
theorem dX9_farOf_84 : decode cX9_farOf 84 = .ok (.goto 5, 3) := by decide +kernel
theorem dX9_farOf_87 : decode cX9_farOf 87 = .ok (.iload 5, 2) := by decide +kernel
theorem dX9_farOf_89 : decode cX9_farOf 89 = .ok (.iadd, 1) := by decide +kernel
theorem dX9_farOf_90 : decode cX9_farOf 90 = .ok (.istore 6, 2) := by decide +kernel
theorem dX9_farOf_92 : decode cX9_farOf 92 = .ok (.iload 6, 2) := by decide +kernel
theorem dX9_farOf_94 : decode cX9_farOf 94 = .ok (.iload_n 2, 1) := by decide +kernel
theorem dX9_farOf_95 : decode cX9_farOf 95 = .ok (.if_icmp .ge 8, 3) := by decide +kernel
theorem dX9_farOf_98 : decode cX9_farOf 98 = .ok (.iload 6, 2) := by decide +kernel
theorem dX9_farOf_100 : decode cX9_farOf 100 = .ok (.goto 4, 3) := by decide +kernel
theorem dX9_farOf_103 : decode cX9_farOf 103 = .ok (.iload_n 2, 1) := by decide +kernel
theorem dX9_farOf_104 : decode cX9_farOf 104 = .ok (.istore_n 2, 1) := by decide +kernel
theorem dX9_farOf_105 : decode cX9_farOf 105 = .ok (.iinc 3 1, 3) := by decide +kernel
theorem dX9_farOf_108 : decode cX9_farOf 108 = .ok (.goto (-102), 3) := by decide +kernel
theorem dX9_farOf_111 : decode cX9_farOf 111 = .ok (.iload_n 2, 1) := by decide +kernel
theorem dX9_farOf_112 : decode cX9_farOf 112 = .ok (.ireturn, 1) := by decide +kernel
theorem dX9_hedgeOf_0 : decode cX9_hedgeOf 0 = .ok (.iconst 0, 1) := by decide +kernel
theorem dX9_hedgeOf_1 : decode cX9_hedgeOf 1 = .ok (.istore_n 2, 1) := by decide +kernel
theorem dX9_hedgeOf_2 : decode cX9_hedgeOf 2 = .ok (.iconst 0, 1) := by decide +kernel
theorem dX9_hedgeOf_3 : decode cX9_hedgeOf 3 = .ok (.istore_n 3, 1) := by decide +kernel
theorem dX9_hedgeOf_4 : decode cX9_hedgeOf 4 = .ok (.iload_n 3, 1) := by decide +kernel
theorem dX9_hedgeOf_5 : decode cX9_hedgeOf 5 = .ok (.aload_n 0, 1) := by decide +kernel
theorem dX9_hedgeOf_6 : decode cX9_hedgeOf 6 = .ok (.invokevirtual 148, 3) := by decide +kernel
theorem dX9_hedgeOf_9 : decode cX9_hedgeOf 9 = .ok (.if_icmp .ge 85, 3) := by decide +kernel
theorem dX9_hedgeOf_12 : decode cX9_hedgeOf 12 = .ok (.iconst 0, 1) := by decide +kernel
theorem dX9_hedgeOf_13 : decode cX9_hedgeOf 13 = .ok (.istore 4, 2) := by decide +kernel
theorem dX9_hedgeOf_15 : decode cX9_hedgeOf 15 = .ok (.iload 4, 2) := by decide +kernel
theorem dX9_hedgeOf_17 : decode cX9_hedgeOf 17 = .ok (.iconst 4, 1) := by decide +kernel
theorem dX9_hedgeOf_18 : decode cX9_hedgeOf 18 = .ok (.if_icmp .ge 70, 3) := by decide +kernel
theorem dX9_hedgeOf_21 : decode cX9_hedgeOf 21 = .ok (.aload_n 0, 1) := by decide +kernel
theorem dX9_hedgeOf_22 : decode cX9_hedgeOf 22 = .ok (.iload_n 1, 1) := by decide +kernel
theorem dX9_hedgeOf_23 : decode cX9_hedgeOf 23 = .ok (.iload_n 3, 1) := by decide +kernel
theorem dX9_hedgeOf_24 : decode cX9_hedgeOf 24 = .ok (.invokevirtual 250, 3) := by decide +kernel
theorem dX9_hedgeOf_27 : decode cX9_hedgeOf 27 = .ok (.ifCond .eq 61, 3) := by decide +kernel
theorem dX9_hedgeOf_30 : decode cX9_hedgeOf 30 = .ok (.aload_n 0, 1) := by decide +kernel
theorem dX9_hedgeOf_31 : decode cX9_hedgeOf 31 = .ok (.iload_n 1, 1) := by decide +kernel
theorem dX9_hedgeOf_32 : decode cX9_hedgeOf 32 = .ok (.iload_n 3, 1) := by decide +kernel
theorem dX9_hedgeOf_33 : decode cX9_hedgeOf 33 = .ok (.invokevirtual 253, 3) := by decide +kernel
theorem dX9_hedgeOf_36 : decode cX9_hedgeOf 36 = .ok (.ifCond .ne 52, 3) := by decide +kernel
theorem dX9_hedgeOf_39 : decode cX9_hedgeOf 39 = .ok (.aload_n 0, 1) := by decide +kernel
theorem dX9_hedgeOf_40 : decode cX9_hedgeOf 40 = .ok (.iload_n 3, 1) := by decide +kernel
theorem dX9_hedgeOf_41 : decode cX9_hedgeOf 41 = .ok (.iload 4, 2) := by decide +kernel
theorem dX9_hedgeOf_43 : decode cX9_hedgeOf 43 = .ok (.invokevirtual 172, 3) := by decide +kernel
theorem dX9_hedgeOf_46 : decode cX9_hedgeOf 46 = .ok (.istore 5, 2) := by decide +kernel
theorem dX9_hedgeOf_48 : decode cX9_hedgeOf 48 = .ok (.iload_n 2, 1) := by decide +kernel
theorem dX9_hedgeOf_49 : decode cX9_hedgeOf 49 = .ok (.iload 5, 2) := by decide +kernel
theorem dX9_hedgeOf_51 : decode cX9_hedgeOf 51 = .ok (.iconst (-1), 1) := by decide +kernel
theorem dX9_hedgeOf_52 : decode cX9_hedgeOf 52 = .ok (.if_icmp .eq 27, 3) := by decide +kernel
theorem dX9_hedgeOf_55 : decode cX9_hedgeOf 55 = .ok (.aload_n 0, 1) := by decide +kernel
theorem dX9_hedgeOf_56 : decode cX9_hedgeOf 56 = .ok (.iload_n 1, 1) := by decide +kernel
theorem dX9_hedgeOf_57 : decode cX9_hedgeOf 57 = .ok (.iload 5, 2) := by decide +kernel
theorem dX9_hedgeOf_59 : decode cX9_hedgeOf 59 = .ok (.invokevirtual 250, 3) := by decide +kernel
theorem dX9_hedgeOf_62 : decode cX9_hedgeOf 62 = .ok (.ifCond .ne 17, 3) := by decide +kernel
theorem dX9_hedgeOf_65 : decode cX9_hedgeOf 65 = .ok (.aload_n 0, 1) := by decide +kernel
theorem dX9_hedgeOf_66 : decode cX9_hedgeOf 66 = .ok (.iload_n 1, 1) := by decide +kernel
theorem dX9_hedgeOf_67 : decode cX9_hedgeOf 67 = .ok (.iload 5, 2) := by decide +kernel
theorem dX9_hedgeOf_69 : decode cX9_hedgeOf 69 = .ok (.invokevirtual 253, 3) := by decide +kernel
theorem dX9_hedgeOf_72 : decode cX9_hedgeOf 72 = .ok (.ifCond .ne 7, 3) := by decide +kernel
theorem dX9_hedgeOf_75 : decode cX9_hedgeOf 75 = .ok (.iconst 1, 1) := by decide +kernel
theorem dX9_hedgeOf_76 : decode cX9_hedgeOf 76 = .ok (.goto 4, 3) := by decide +kernel
theorem dX9_hedgeOf_79 : decode cX9_hedgeOf 79 = .ok (.iconst 0, 1) := by decide +kernel
theorem dX9_hedgeOf_80 : decode cX9_hedgeOf 80 = .ok (.iadd, 1) := by decide +kernel
theorem dX9_hedgeOf_81 : decode cX9_hedgeOf 81 = .ok (.istore_n 2, 1) := by decide +kernel
theorem dX9_hedgeOf_82 : decode cX9_hedgeOf 82 = .ok (.iinc 4 1, 3) := by decide +kernel
theorem dX9_hedgeOf_85 : decode cX9_hedgeOf 85 = .ok (.goto (-70), 3) := by decide +kernel
theorem dX9_hedgeOf_88 : decode cX9_hedgeOf 88 = .ok (.iinc 3 1, 3) := by decide +kernel
theorem dX9_hedgeOf_91 : decode cX9_hedgeOf 91 = .ok (.goto (-87), 3) := by decide +kernel
theorem dX9_hedgeOf_94 : decode cX9_hedgeOf 94 = .ok (.iload_n 2, 1) := by decide +kernel
theorem dX9_hedgeOf_95 : decode cX9_hedgeOf 95 = .ok (.ireturn, 1) := by decide +kernel
theorem dX9_plot_0 : decode cX9_plot 0 = .ok (.aload_n 0, 1) := by decide +kernel
theorem dX9_plot_1 : decode cX9_plot 1 = .ok (.iconst 0, 1) := by decide +kernel
theorem dX9_plot_2 : decode cX9_plot 2 = .ok (.putfield 133, 3) := by decide +kernel
theorem dX9_plot_5 : decode cX9_plot 5 = .ok (.aload_n 0, 1) := by decide +kernel
theorem dX9_plot_6 : decode cX9_plot 6 = .ok (.iload_n 1, 1) := by decide +kernel
theorem dX9_plot_7 : decode cX9_plot 7 = .ok (.invokevirtual 182, 3) := by decide +kernel
theorem dX9_plot_10 : decode cX9_plot 10 = .ok (.ifCond .eq 12, 3) := by decide +kernel
theorem dX9_plot_13 : decode cX9_plot 13 = .ok (.iload_n 2, 1) := by decide +kernel
theorem dX9_plot_14 : decode cX9_plot 14 = .ok (.iconst 0, 1) := by decide +kernel
theorem dX9_plot_15 : decode cX9_plot 15 = .ok (.iconst 5, 1) := by decide +kernel
theorem dX9_plot_16 : decode cX9_plot 16 = .ok (.invokestatic 152, 3) := by decide +kernel
theorem dX9_plot_19 : decode cX9_plot 19 = .ok (.ifCond .ne 6, 3) := by decide +kernel
theorem dX9_plot_22 : decode cX9_plot 22 = .ok (.bipush (-3), 2) := by decide +kernel
theorem dX9_plot_24 : decode cX9_plot 24 = .ok (.ireturn, 1) := by decide +kernel
theorem dX9_plot_25 : decode cX9_plot 25 = .ok (.aload_n 0, 1) := by decide +kernel
theorem dX9_plot_26 : decode cX9_plot 26 = .ok (.getfield 75, 3) := by decide +kernel
theorem dX9_plot_29 : decode cX9_plot 29 = .ok (.iload_n 1, 1) := by decide +kernel
theorem dX9_plot_30 : decode cX9_plot 30 = .ok (.iaload, 1) := by decide +kernel
theorem dX9_plot_31 : decode cX9_plot 31 = .ok (.ifCond .ne 5, 3) := by decide +kernel
theorem dX9_plot_34 : decode cX9_plot 34 = .ok (.iconst (-1), 1) := by decide +kernel
theorem dX9_plot_35 : decode cX9_plot 35 = .ok (.ireturn, 1) := by decide +kernel
theorem dX9_plot_36 : decode cX9_plot 36 = .ok (.iload_n 2, 1) := by decide +kernel
theorem dX9_plot_37 : decode cX9_plot 37 = .ok (.tableswitch 68 0 4 #[35, 42, 49, 56, 62], 35) := by decide +kernel
theorem dX9_plot_72 : decode cX9_plot 72 = .ok (.aload_n 0, 1) := by decide +kernel
theorem dX9_plot_73 : decode cX9_plot 73 = .ok (.getfield 72, 3) := by decide +kernel
theorem dX9_plot_76 : decode cX9_plot 76 = .ok (.iload_n 1, 1) := by decide +kernel
theorem dX9_plot_77 : decode cX9_plot 77 = .ok (.iaload, 1) := by decide +kernel
theorem dX9_plot_78 : decode cX9_plot 78 = .ok (.ireturn, 1) := by decide +kernel
theorem dX9_plot_79 : decode cX9_plot 79 = .ok (.aload_n 0, 1) := by decide +kernel
theorem dX9_plot_80 : decode cX9_plot 80 = .ok (.getfield 75, 3) := by decide +kernel
theorem dX9_plot_83 : decode cX9_plot 83 = .ok (.iload_n 1, 1) := by decide +kernel
theorem dX9_plot_84 : decode cX9_plot 84 = .ok (.iaload, 1) := by decide +kernel
theorem dX9_plot_85 : decode cX9_plot 85 = .ok (.ireturn, 1) := by decide +kernel
theorem dX9_plot_86 : decode cX9_plot 86 = .ok (.aload_n 0, 1) := by decide +kernel
theorem dX9_plot_87 : decode cX9_plot 87 = .ok (.getfield 78, 3) := by decide +kernel
theorem dX9_plot_90 : decode cX9_plot 90 = .ok (.iload_n 1, 1) := by decide +kernel
theorem dX9_plot_91 : decode cX9_plot 91 = .ok (.iaload, 1) := by decide +kernel
theorem dX9_plot_92 : decode cX9_plot 92 = .ok (.ireturn, 1) := by decide +kernel
theorem dX9_plot_93 : decode cX9_plot 93 = .ok (.aload_n 0, 1) := by decide +kernel
theorem dX9_plot_94 : decode cX9_plot 94 = .ok (.iload_n 1, 1) := by decide +kernel
theorem dX9_plot_95 : decode cX9_plot 95 = .ok (.invokevirtual 259, 3) := by decide +kernel
theorem dX9_plot_98 : decode cX9_plot 98 = .ok (.ireturn, 1) := by decide +kernel
theorem dX9_plot_99 : decode cX9_plot 99 = .ok (.aload_n 0, 1) := by decide +kernel
theorem dX9_plot_100 : decode cX9_plot 100 = .ok (.iload_n 1, 1) := by decide +kernel
theorem dX9_plot_101 : decode cX9_plot 101 = .ok (.invokevirtual 265, 3) := by decide +kernel
theorem dX9_plot_104 : decode cX9_plot 104 = .ok (.ireturn, 1) := by decide +kernel
theorem dX9_plot_105 : decode cX9_plot 105 = .ok (.aload_n 0, 1) := by decide +kernel
theorem dX9_plot_106 : decode cX9_plot 106 = .ok (.iload_n 1, 1) := by decide +kernel
theorem dX9_plot_107 : decode cX9_plot 107 = .ok (.invokevirtual 268, 3) := by decide +kernel
theorem dX9_plot_110 : decode cX9_plot 110 = .ok (.ireturn, 1) := by decide +kernel
theorem dX9_addRect_0 : decode cX9_addRect 0 = .ok (.iconst 0, 1) := by decide +kernel
theorem dX9_addRect_1 : decode cX9_addRect 1 = .ok (.istore 4, 2) := by decide +kernel
theorem dX9_addRect_3 : decode cX9_addRect 3 = .ok (.iconst 1, 1) := by decide +kernel
theorem dX9_addRect_4 : decode cX9_addRect 4 = .ok (.istore 5, 2) := by decide +kernel
theorem dX9_addRect_6 : decode cX9_addRect 6 = .ok (.iconst 0, 1) := by decide +kernel
theorem dX9_addRect_7 : decode cX9_addRect 7 = .ok (.istore 6, 2) := by decide +kernel
theorem dX9_addRect_9 : decode cX9_addRect 9 = .ok (.lconst 0, 1) := by decide +kernel
theorem dX9_addRect_10 : decode cX9_addRect 10 = .ok (.lstore 7, 2) := by decide +kernel
theorem dX9_addRect_12 : decode cX9_addRect 12 = .ok (.lconst 0, 1) := by decide +kernel
theorem dX9_addRect_13 : decode cX9_addRect 13 = .ok (.lstore 9, 2) := by decide +kernel
theorem dX9_addRect_15 : decode cX9_addRect 15 = .ok (.iconst 0, 1) := by decide +kernel
theorem dX9_addRect_16 : decode cX9_addRect 16 = .ok (.istore 11, 2) := by decide +kernel
theorem dX9_addRect_18 : decode cX9_addRect 18 = .ok (.iload 11, 2) := by decide +kernel
theorem dX9_addRect_20 : decode cX9_addRect 20 = .ok (.iload_n 3, 1) := by decide +kernel
theorem dX9_addRect_21 : decode cX9_addRect 21 = .ok (.if_icmp .ge 135, 3) := by decide +kernel
theorem dX9_addRect_24 : decode cX9_addRect 24 = .ok (.iconst 0, 1) := by decide +kernel
theorem dX9_addRect_25 : decode cX9_addRect 25 = .ok (.istore 12, 2) := by decide +kernel
theorem dX9_addRect_27 : decode cX9_addRect 27 = .ok (.iload 12, 2) := by decide +kernel
theorem dX9_addRect_29 : decode cX9_addRect 29 = .ok (.iload_n 2, 1) := by decide +kernel
theorem dX9_addRect_30 : decode cX9_addRect 30 = .ok (.if_icmp .ge 120, 3) := by decide +kernel
theorem dX9_addRect_33 : decode cX9_addRect 33 = .ok (.iload_n 1, 1) := by decide +kernel
theorem dX9_addRect_34 : decode cX9_addRect 34 = .ok (.aload_n 0, 1) := by decide +kernel
theorem dX9_addRect_35 : decode cX9_addRect 35 = .ok (.getfield 7, 3) := by decide +kernel
theorem dX9_addRect_38 : decode cX9_addRect 38 = .ok (.iload 11, 2) := by decide +kernel
theorem dX9_addRect_40 : decode cX9_addRect 40 = .ok (.imul, 1) := by decide +kernel
theorem dX9_addRect_41 : decode cX9_addRect 41 = .ok (.iadd, 1) := by decide +kernel
theorem dX9_addRect_42 : decode cX9_addRect 42 = .ok (.iload 12, 2) := by decide +kernel
theorem dX9_addRect_44 : decode cX9_addRect 44 = .ok (.iadd, 1) := by decide +kernel
theorem dX9_addRect_45 : decode cX9_addRect 45 = .ok (.istore 13, 2) := by decide +kernel
theorem dX9_addRect_47 : decode cX9_addRect 47 = .ok (.iload 4, 2) := by decide +kernel
theorem dX9_addRect_49 : decode cX9_addRect 49 = .ok (.aload_n 0, 1) := by decide +kernel
theorem dX9_addRect_50 : decode cX9_addRect 50 = .ok (.getfield 16, 3) := by decide +kernel
theorem dX9_addRect_53 : decode cX9_addRect 53 = .ok (.iload 13, 2) := by decide +kernel
theorem dX9_addRect_55 : decode cX9_addRect 55 = .ok (.iaload, 1) := by decide +kernel
theorem dX9_addRect_56 : decode cX9_addRect 56 = .ok (.iadd, 1) := by decide +kernel
theorem dX9_addRect_57 : decode cX9_addRect 57 = .ok (.istore 4, 2) := by decide +kernel
theorem dX9_addRect_59 : decode cX9_addRect 59 = .ok (.iload 5, 2) := by decide +kernel
theorem dX9_addRect_61 : decode cX9_addRect 61 = .ok (.ifCond .eq 16, 3) := by decide +kernel
theorem dX9_addRect_64 : decode cX9_addRect 64 = .ok (.aload_n 0, 1) := by decide +kernel
theorem dX9_addRect_65 : decode cX9_addRect 65 = .ok (.iload 13, 2) := by decide +kernel
theorem dX9_addRect_67 : decode cX9_addRect 67 = .ok (.invokevirtual 214, 3) := by decide +kernel
theorem dX9_addRect_70 : decode cX9_addRect 70 = .ok (.ifCond .eq 7, 3) := by decide +kernel
theorem dX9_addRect_73 : decode cX9_addRect 73 = .ok (.iconst 1, 1) := by decide +kernel
theorem dX9_addRect_74 : decode cX9_addRect 74 = .ok (.goto 4, 3) := by decide +kernel
theorem dX9_addRect_77 : decode cX9_addRect 77 = .ok (.iconst 0, 1) := by decide +kernel
theorem dX9_addRect_78 : decode cX9_addRect 78 = .ok (.istore 5, 2) := by decide +kernel
theorem dX9_addRect_80 : decode cX9_addRect 80 = .ok (.iload 6, 2) := by decide +kernel
theorem dX9_addRect_82 : decode cX9_addRect 82 = .ok (.ifCond .ne 12, 3) := by decide +kernel
theorem dX9_addRect_85 : decode cX9_addRect 85 = .ok (.aload_n 0, 1) := by decide +kernel
theorem dX9_addRect_86 : decode cX9_addRect 86 = .ok (.iload 13, 2) := by decide +kernel
theorem dX9_addRect_88 : decode cX9_addRect 88 = .ok (.invokevirtual 256, 3) := by decide +kernel
theorem dX9_addRect_91 : decode cX9_addRect 91 = .ok (.ifCond .eq 7, 3) := by decide +kernel
theorem dX9_addRect_94 : decode cX9_addRect 94 = .ok (.iconst 1, 1) := by decide +kernel
theorem dX9_addRect_95 : decode cX9_addRect 95 = .ok (.goto 4, 3) := by decide +kernel
theorem dX9_addRect_98 : decode cX9_addRect 98 = .ok (.iconst 0, 1) := by decide +kernel
theorem dX9_addRect_99 : decode cX9_addRect 99 = .ok (.istore 6, 2) := by decide +kernel
theorem dX9_addRect_101 : decode cX9_addRect 101 = .ok (.lload 7, 2) := by decide +kernel
theorem dX9_addRect_103 : decode cX9_addRect 103 = .ok (.iload 13, 2) := by decide +kernel
theorem dX9_addRect_105 : decode cX9_addRect 105 = .ok (.bipush 40, 2) := by decide +kernel
theorem dX9_addRect_107 : decode cX9_addRect 107 = .ok (.if_icmp .ge 10, 3) := by decide +kernel
theorem dX9_addRect_110 : decode cX9_addRect 110 = .ok (.lconst 1, 1) := by decide +kernel
theorem dX9_addRect_111 : decode cX9_addRect 111 = .ok (.iload 13, 2) := by decide +kernel
theorem dX9_addRect_113 : decode cX9_addRect 113 = .ok (.lshl, 1) := by decide +kernel
theorem dX9_addRect_114 : decode cX9_addRect 114 = .ok (.goto 4, 3) := by decide +kernel
theorem dX9_addRect_117 : decode cX9_addRect 117 = .ok (.lconst 0, 1) := by decide +kernel
theorem dX9_addRect_118 : decode cX9_addRect 118 = .ok (.lor, 1) := by decide +kernel
theorem dX9_addRect_119 : decode cX9_addRect 119 = .ok (.lstore 7, 2) := by decide +kernel
theorem dX9_addRect_121 : decode cX9_addRect 121 = .ok (.lload 9, 2) := by decide +kernel
theorem dX9_addRect_123 : decode cX9_addRect 123 = .ok (.iload 13, 2) := by decide +kernel
theorem dX9_addRect_125 : decode cX9_addRect 125 = .ok (.bipush 40, 2) := by decide +kernel
theorem dX9_addRect_127 : decode cX9_addRect 127 = .ok (.if_icmp .ge 7, 3) := by decide +kernel
theorem dX9_addRect_130 : decode cX9_addRect 130 = .ok (.lconst 0, 1) := by decide +kernel
theorem dX9_addRect_131 : decode cX9_addRect 131 = .ok (.goto 10, 3) := by decide +kernel
theorem dX9_addRect_134 : decode cX9_addRect 134 = .ok (.lconst 1, 1) := by decide +kernel
theorem dX9_addRect_135 : decode cX9_addRect 135 = .ok (.iload 13, 2) := by decide +kernel
theorem dX9_addRect_137 : decode cX9_addRect 137 = .ok (.bipush 40, 2) := by decide +kernel
theorem dX9_addRect_139 : decode cX9_addRect 139 = .ok (.isub, 1) := by decide +kernel
theorem dX9_addRect_140 : decode cX9_addRect 140 = .ok (.lshl, 1) := by decide +kernel
theorem dX9_addRect_141 : decode cX9_addRect 141 = .ok (.lor, 1) := by decide +kernel
theorem dX9_addRect_142 : decode cX9_addRect 142 = .ok (.lstore 9, 2) := by decide +kernel
theorem dX9_addRect_144 : decode cX9_addRect 144 = .ok (.iinc 12 1, 3) := by decide +kernel
theorem dX9_addRect_147 : decode cX9_addRect 147 = .ok (.goto (-120), 3) := by decide +kernel
theorem dX9_addRect_150 : decode cX9_addRect 150 = .ok (.iinc 11 1, 3) := by decide +kernel
theorem dX9_addRect_153 : decode cX9_addRect 153 = .ok (.goto (-135), 3) := by decide +kernel
theorem dX9_addRect_156 : decode cX9_addRect 156 = .ok (.iload 5, 2) := by decide +kernel
theorem dX9_addRect_158 : decode cX9_addRect 158 = .ok (.ifCond .eq 81, 3) := by decide +kernel
theorem dX9_addRect_161 : decode cX9_addRect 161 = .ok (.iload 6, 2) := by decide +kernel
theorem dX9_addRect_163 : decode cX9_addRect 163 = .ok (.ifCond .eq 76, 3) := by decide +kernel
theorem dX9_addRect_166 : decode cX9_addRect 166 = .ok (.aload_n 0, 1) := by decide +kernel
theorem dX9_addRect_167 : decode cX9_addRect 167 = .ok (.getfield 105, 3) := by decide +kernel
theorem dX9_addRect_170 : decode cX9_addRect 170 = .ok (.aload_n 0, 1) := by decide +kernel
theorem dX9_addRect_171 : decode cX9_addRect 171 = .ok (.getfield 271, 3) := by decide +kernel
theorem dX9_addRect_174 : decode cX9_addRect 174 = .ok (.iload_n 1, 1) := by decide +kernel
theorem dX9_addRect_175 : decode cX9_addRect 175 = .ok (.iastore, 1) := by decide +kernel
theorem dX9_addRect_176 : decode cX9_addRect 176 = .ok (.aload_n 0, 1) := by decide +kernel
theorem dX9_addRect_177 : decode cX9_addRect 177 = .ok (.getfield 108, 3) := by decide +kernel
theorem dX9_addRect_180 : decode cX9_addRect 180 = .ok (.aload_n 0, 1) := by decide +kernel
theorem dX9_addRect_181 : decode cX9_addRect 181 = .ok (.getfield 271, 3) := by decide +kernel
theorem dX9_addRect_184 : decode cX9_addRect 184 = .ok (.iload_n 2, 1) := by decide +kernel
theorem dX9_addRect_185 : decode cX9_addRect 185 = .ok (.iastore, 1) := by decide +kernel
theorem dX9_addRect_186 : decode cX9_addRect 186 = .ok (.aload_n 0, 1) := by decide +kernel
theorem dX9_addRect_187 : decode cX9_addRect 187 = .ok (.getfield 111, 3) := by decide +kernel
theorem dX9_addRect_190 : decode cX9_addRect 190 = .ok (.aload_n 0, 1) := by decide +kernel
theorem dX9_addRect_191 : decode cX9_addRect 191 = .ok (.getfield 271, 3) := by decide +kernel
theorem dX9_addRect_194 : decode cX9_addRect 194 = .ok (.iload_n 3, 1) := by decide +kernel
theorem dX9_addRect_195 : decode cX9_addRect 195 = .ok (.iastore, 1) := by decide +kernel
theorem dX9_addRect_196 : decode cX9_addRect 196 = .ok (.aload_n 0, 1) := by decide +kernel
theorem dX9_addRect_197 : decode cX9_addRect 197 = .ok (.getfield 114, 3) := by decide +kernel
theorem dX9_addRect_200 : decode cX9_addRect 200 = .ok (.aload_n 0, 1) := by decide +kernel
theorem dX9_addRect_201 : decode cX9_addRect 201 = .ok (.getfield 271, 3) := by decide +kernel
theorem dX9_addRect_204 : decode cX9_addRect 204 = .ok (.iload 4, 2) := by decide +kernel
theorem dX9_addRect_206 : decode cX9_addRect 206 = .ok (.iastore, 1) := by decide +kernel
theorem dX9_addRect_207 : decode cX9_addRect 207 = .ok (.aload_n 0, 1) := by decide +kernel
theorem dX9_addRect_208 : decode cX9_addRect 208 = .ok (.getfield 117, 3) := by decide +kernel
theorem dX9_addRect_211 : decode cX9_addRect 211 = .ok (.aload_n 0, 1) := by decide +kernel
theorem dX9_addRect_212 : decode cX9_addRect 212 = .ok (.getfield 271, 3) := by decide +kernel
theorem dX9_addRect_215 : decode cX9_addRect 215 = .ok (.lload 7, 2) := by decide +kernel
theorem dX9_addRect_217 : decode cX9_addRect 217 = .ok (.lastore, 1) := by decide +kernel
theorem dX9_addRect_218 : decode cX9_addRect 218 = .ok (.aload_n 0, 1) := by decide +kernel
theorem dX9_addRect_219 : decode cX9_addRect 219 = .ok (.getfield 121, 3) := by decide +kernel
theorem dX9_addRect_222 : decode cX9_addRect 222 = .ok (.aload_n 0, 1) := by decide +kernel
theorem dX9_addRect_223 : decode cX9_addRect 223 = .ok (.getfield 271, 3) := by decide +kernel
theorem dX9_addRect_226 : decode cX9_addRect 226 = .ok (.lload 9, 2) := by decide +kernel
theorem dX9_addRect_228 : decode cX9_addRect 228 = .ok (.lastore, 1) := by decide +kernel
theorem dX9_addRect_229 : decode cX9_addRect 229 = .ok (.aload_n 0, 1) := by decide +kernel
theorem dX9_addRect_230 : decode cX9_addRect 230 = .ok (.dup, 1) := by decide +kernel
theorem dX9_addRect_231 : decode cX9_addRect 231 = .ok (.getfield 271, 3) := by decide +kernel
theorem dX9_addRect_234 : decode cX9_addRect 234 = .ok (.iconst 1, 1) := by decide +kernel
theorem dX9_addRect_235 : decode cX9_addRect 235 = .ok (.iadd, 1) := by decide +kernel
theorem dX9_addRect_236 : decode cX9_addRect 236 = .ok (.putfield 271, 3) := by decide +kernel
theorem dX9_addRect_239 : decode cX9_addRect 239 = .ok (.return_, 1) := by decide +kernel
theorem dX9_findRects_0 : decode cX9_findRects 0 = .ok (.aload_n 0, 1) := by decide +kernel
theorem dX9_findRects_1 : decode cX9_findRects 1 = .ok (.iconst 0, 1) := by decide +kernel
theorem dX9_findRects_2 : decode cX9_findRects 2 = .ok (.putfield 271, 3) := by decide +kernel
theorem dX9_findRects_5 : decode cX9_findRects 5 = .ok (.iconst 0, 1) := by decide +kernel
theorem dX9_findRects_6 : decode cX9_findRects 6 = .ok (.istore_n 1, 1) := by decide +kernel
theorem dX9_findRects_7 : decode cX9_findRects 7 = .ok (.iload_n 1, 1) := by decide +kernel
theorem dX9_findRects_8 : decode cX9_findRects 8 = .ok (.aload_n 0, 1) := by decide +kernel
theorem dX9_findRects_9 : decode cX9_findRects 9 = .ok (.invokevirtual 148, 3) := by decide +kernel
theorem dX9_findRects_12 : decode cX9_findRects 12 = .ok (.if_icmp .ge 62, 3) := by decide +kernel
theorem dX9_findRects_15 : decode cX9_findRects 15 = .ok (.iconst 1, 1) := by decide +kernel
theorem dX9_findRects_16 : decode cX9_findRects 16 = .ok (.istore_n 2, 1) := by decide +kernel
theorem dX9_findRects_17 : decode cX9_findRects 17 = .ok (.iload_n 1, 1) := by decide +kernel
theorem dX9_findRects_18 : decode cX9_findRects 18 = .ok (.aload_n 0, 1) := by decide +kernel
theorem dX9_findRects_19 : decode cX9_findRects 19 = .ok (.getfield 7, 3) := by decide +kernel
theorem dX9_findRects_22 : decode cX9_findRects 22 = .ok (.irem, 1) := by decide +kernel
theorem dX9_findRects_23 : decode cX9_findRects 23 = .ok (.iload_n 2, 1) := by decide +kernel
theorem dX9_findRects_24 : decode cX9_findRects 24 = .ok (.iadd, 1) := by decide +kernel
theorem dX9_findRects_25 : decode cX9_findRects 25 = .ok (.aload_n 0, 1) := by decide +kernel
theorem dX9_findRects_26 : decode cX9_findRects 26 = .ok (.getfield 7, 3) := by decide +kernel
theorem dX9_findRects_29 : decode cX9_findRects 29 = .ok (.if_icmp .gt 39, 3) := by decide +kernel
theorem dX9_findRects_32 : decode cX9_findRects 32 = .ok (.iconst 1, 1) := by decide +kernel
theorem dX9_findRects_33 : decode cX9_findRects 33 = .ok (.istore_n 3, 1) := by decide +kernel
theorem dX9_findRects_34 : decode cX9_findRects 34 = .ok (.iload_n 1, 1) := by decide +kernel
theorem dX9_findRects_35 : decode cX9_findRects 35 = .ok (.aload_n 0, 1) := by decide +kernel
theorem dX9_findRects_36 : decode cX9_findRects 36 = .ok (.getfield 7, 3) := by decide +kernel
theorem dX9_findRects_39 : decode cX9_findRects 39 = .ok (.idiv, 1) := by decide +kernel
theorem dX9_findRects_40 : decode cX9_findRects 40 = .ok (.iload_n 3, 1) := by decide +kernel
theorem dX9_findRects_41 : decode cX9_findRects 41 = .ok (.iadd, 1) := by decide +kernel
theorem dX9_findRects_42 : decode cX9_findRects 42 = .ok (.aload_n 0, 1) := by decide +kernel
theorem dX9_findRects_43 : decode cX9_findRects 43 = .ok (.getfield 13, 3) := by decide +kernel
theorem dX9_findRects_46 : decode cX9_findRects 46 = .ok (.if_icmp .gt 16, 3) := by decide +kernel
theorem dX9_findRects_49 : decode cX9_findRects 49 = .ok (.aload_n 0, 1) := by decide +kernel
theorem dX9_findRects_50 : decode cX9_findRects 50 = .ok (.iload_n 1, 1) := by decide +kernel
theorem dX9_findRects_51 : decode cX9_findRects 51 = .ok (.iload_n 2, 1) := by decide +kernel
theorem dX9_findRects_52 : decode cX9_findRects 52 = .ok (.iload_n 3, 1) := by decide +kernel
theorem dX9_findRects_53 : decode cX9_findRects 53 = .ok (.invokevirtual 274, 3) := by decide +kernel
theorem dX9_findRects_56 : decode cX9_findRects 56 = .ok (.iinc 3 1, 3) := by decide +kernel
theorem dX9_findRects_59 : decode cX9_findRects 59 = .ok (.goto (-25), 3) := by decide +kernel
theorem dX9_findRects_62 : decode cX9_findRects 62 = .ok (.iinc 2 1, 3) := by decide +kernel
theorem dX9_findRects_65 : decode cX9_findRects 65 = .ok (.goto (-48), 3) := by decide +kernel
theorem dX9_findRects_68 : decode cX9_findRects 68 = .ok (.iinc 1 1, 3) := by decide +kernel
theorem dX9_findRects_71 : decode cX9_findRects 71 = .ok (.goto (-64), 3) := by decide +kernel
theorem dX9_findRects_74 : decode cX9_findRects 74 = .ok (.return_, 1) := by decide +kernel
theorem dX9_away_0 : decode cX9_away 0 = .ok (.iload_n 0, 1) := by decide +kernel
theorem dX9_away_1 : decode cX9_away 1 = .ok (.iload_n 1, 1) := by decide +kernel
theorem dX9_away_2 : decode cX9_away 2 = .ok (.if_icmp .ge 9, 3) := by decide +kernel
theorem dX9_away_5 : decode cX9_away 5 = .ok (.iload_n 1, 1) := by decide +kernel
theorem dX9_away_6 : decode cX9_away 6 = .ok (.iload_n 0, 1) := by decide +kernel
theorem dX9_away_7 : decode cX9_away 7 = .ok (.isub, 1) := by decide +kernel
theorem dX9_away_8 : decode cX9_away 8 = .ok (.goto 21, 3) := by decide +kernel
theorem dX9_away_11 : decode cX9_away 11 = .ok (.iload_n 0, 1) := by decide +kernel
theorem dX9_away_12 : decode cX9_away 12 = .ok (.iload_n 1, 1) := by decide +kernel
theorem dX9_away_13 : decode cX9_away 13 = .ok (.iload_n 2, 1) := by decide +kernel
theorem dX9_away_14 : decode cX9_away 14 = .ok (.iadd, 1) := by decide +kernel
theorem dX9_away_15 : decode cX9_away 15 = .ok (.if_icmp .lt 13, 3) := by decide +kernel
theorem dX9_away_18 : decode cX9_away 18 = .ok (.iload_n 0, 1) := by decide +kernel
theorem dX9_away_19 : decode cX9_away 19 = .ok (.iload_n 1, 1) := by decide +kernel
theorem dX9_away_20 : decode cX9_away 20 = .ok (.isub, 1) := by decide +kernel
theorem dX9_away_21 : decode cX9_away 21 = .ok (.iload_n 2, 1) := by decide +kernel
theorem dX9_away_22 : decode cX9_away 22 = .ok (.isub, 1) := by decide +kernel
theorem dX9_away_23 : decode cX9_away 23 = .ok (.iconst 1, 1) := by decide +kernel
theorem dX9_away_24 : decode cX9_away 24 = .ok (.iadd, 1) := by decide +kernel
theorem dX9_away_25 : decode cX9_away 25 = .ok (.goto 4, 3) := by decide +kernel
theorem dX9_away_28 : decode cX9_away 28 = .ok (.iconst 0, 1) := by decide +kernel
theorem dX9_away_29 : decode cX9_away 29 = .ok (.ireturn, 1) := by decide +kernel
theorem dX9_costOf_0 : decode cX9_costOf 0 = .ok (.aload_n 0, 1) := by decide +kernel
theorem dX9_costOf_1 : decode cX9_costOf 1 = .ok (.getfield 39, 3) := by decide +kernel
theorem dX9_costOf_4 : decode cX9_costOf 4 = .ok (.iload_n 1, 1) := by decide +kernel
theorem dX9_costOf_5 : decode cX9_costOf 5 = .ok (.iaload, 1) := by decide +kernel
theorem dX9_costOf_6 : decode cX9_costOf 6 = .ok (.aload_n 0, 1) := by decide +kernel
theorem dX9_costOf_7 : decode cX9_costOf 7 = .ok (.getfield 7, 3) := by decide +kernel
theorem dX9_costOf_10 : decode cX9_costOf 10 = .ok (.irem, 1) := by decide +kernel
theorem dX9_costOf_11 : decode cX9_costOf 11 = .ok (.aload_n 0, 1) := by decide +kernel
theorem dX9_costOf_12 : decode cX9_costOf 12 = .ok (.getfield 105, 3) := by decide +kernel
theorem dX9_costOf_15 : decode cX9_costOf 15 = .ok (.iload_n 2, 1) := by decide +kernel
theorem dX9_costOf_16 : decode cX9_costOf 16 = .ok (.iaload, 1) := by decide +kernel
theorem dX9_costOf_17 : decode cX9_costOf 17 = .ok (.aload_n 0, 1) := by decide +kernel
theorem dX9_costOf_18 : decode cX9_costOf 18 = .ok (.getfield 7, 3) := by decide +kernel
theorem dX9_costOf_21 : decode cX9_costOf 21 = .ok (.irem, 1) := by decide +kernel
theorem dX9_costOf_22 : decode cX9_costOf 22 = .ok (.aload_n 0, 1) := by decide +kernel
theorem dX9_costOf_23 : decode cX9_costOf 23 = .ok (.getfield 108, 3) := by decide +kernel
theorem dX9_costOf_26 : decode cX9_costOf 26 = .ok (.iload_n 2, 1) := by decide +kernel
theorem dX9_costOf_27 : decode cX9_costOf 27 = .ok (.iaload, 1) := by decide +kernel
theorem dX9_costOf_28 : decode cX9_costOf 28 = .ok (.invokestatic 278, 3) := by decide +kernel
theorem dX9_costOf_31 : decode cX9_costOf 31 = .ok (.istore_n 3, 1) := by decide +kernel
theorem dX9_costOf_32 : decode cX9_costOf 32 = .ok (.aload_n 0, 1) := by decide +kernel
theorem dX9_costOf_33 : decode cX9_costOf 33 = .ok (.getfield 39, 3) := by decide +kernel
theorem dX9_costOf_36 : decode cX9_costOf 36 = .ok (.iload_n 1, 1) := by decide +kernel
theorem dX9_costOf_37 : decode cX9_costOf 37 = .ok (.iaload, 1) := by decide +kernel
theorem dX9_costOf_38 : decode cX9_costOf 38 = .ok (.aload_n 0, 1) := by decide +kernel
theorem dX9_costOf_39 : decode cX9_costOf 39 = .ok (.getfield 7, 3) := by decide +kernel
theorem dX9_costOf_42 : decode cX9_costOf 42 = .ok (.idiv, 1) := by decide +kernel
theorem dX9_costOf_43 : decode cX9_costOf 43 = .ok (.aload_n 0, 1) := by decide +kernel
theorem dX9_costOf_44 : decode cX9_costOf 44 = .ok (.getfield 105, 3) := by decide +kernel
theorem dX9_costOf_47 : decode cX9_costOf 47 = .ok (.iload_n 2, 1) := by decide +kernel
theorem dX9_costOf_48 : decode cX9_costOf 48 = .ok (.iaload, 1) := by decide +kernel
theorem dX9_costOf_49 : decode cX9_costOf 49 = .ok (.aload_n 0, 1) := by decide +kernel
theorem dX9_costOf_50 : decode cX9_costOf 50 = .ok (.getfield 7, 3) := by decide +kernel
theorem dX9_costOf_53 : decode cX9_costOf 53 = .ok (.idiv, 1) := by decide +kernel
theorem dX9_costOf_54 : decode cX9_costOf 54 = .ok (.aload_n 0, 1) := by decide +kernel
theorem dX9_costOf_55 : decode cX9_costOf 55 = .ok (.getfield 111, 3) := by decide +kernel
theorem dX9_costOf_58 : decode cX9_costOf 58 = .ok (.iload_n 2, 1) := by decide +kernel
theorem dX9_costOf_59 : decode cX9_costOf 59 = .ok (.iaload, 1) := by decide +kernel
theorem dX9_costOf_60 : decode cX9_costOf 60 = .ok (.invokestatic 278, 3) := by decide +kernel
theorem dX9_costOf_63 : decode cX9_costOf 63 = .ok (.istore 4, 2) := by decide +kernel
theorem dX9_costOf_65 : decode cX9_costOf 65 = .ok (.aload_n 0, 1) := by decide +kernel
theorem dX9_costOf_66 : decode cX9_costOf 66 = .ok (.getfield 75, 3) := by decide +kernel
theorem dX9_costOf_69 : decode cX9_costOf 69 = .ok (.iload_n 1, 1) := by decide +kernel
theorem dX9_costOf_70 : decode cX9_costOf 70 = .ok (.iaload, 1) := by decide +kernel
theorem dX9_costOf_71 : decode cX9_costOf 71 = .ok (.aload_n 0, 1) := by decide +kernel
theorem dX9_costOf_72 : decode cX9_costOf 72 = .ok (.getfield 108, 3) := by decide +kernel
theorem dX9_costOf_75 : decode cX9_costOf 75 = .ok (.iload_n 2, 1) := by decide +kernel
theorem dX9_costOf_76 : decode cX9_costOf 76 = .ok (.iaload, 1) := by decide +kernel
theorem dX9_costOf_77 : decode cX9_costOf 77 = .ok (.if_icmp .ne 37, 3) := by decide +kernel
theorem dX9_costOf_80 : decode cX9_costOf 80 = .ok (.aload_n 0, 1) := by decide +kernel
theorem dX9_costOf_81 : decode cX9_costOf 81 = .ok (.getfield 78, 3) := by decide +kernel
theorem dX9_costOf_84 : decode cX9_costOf 84 = .ok (.iload_n 1, 1) := by decide +kernel
theorem dX9_costOf_85 : decode cX9_costOf 85 = .ok (.iaload, 1) := by decide +kernel
theorem dX9_costOf_86 : decode cX9_costOf 86 = .ok (.aload_n 0, 1) := by decide +kernel
theorem dX9_costOf_87 : decode cX9_costOf 87 = .ok (.getfield 111, 3) := by decide +kernel
theorem dX9_costOf_90 : decode cX9_costOf 90 = .ok (.iload_n 2, 1) := by decide +kernel
theorem dX9_costOf_91 : decode cX9_costOf 91 = .ok (.iaload, 1) := by decide +kernel
theorem dX9_costOf_92 : decode cX9_costOf 92 = .ok (.if_icmp .ne 22, 3) := by decide +kernel
theorem dX9_costOf_95 : decode cX9_costOf 95 = .ok (.aload_n 0, 1) := by decide +kernel
theorem dX9_costOf_96 : decode cX9_costOf 96 = .ok (.getfield 72, 3) := by decide +kernel
theorem dX9_costOf_99 : decode cX9_costOf 99 = .ok (.iload_n 1, 1) := by decide +kernel
theorem dX9_costOf_100 : decode cX9_costOf 100 = .ok (.iaload, 1) := by decide +kernel
theorem dX9_costOf_101 : decode cX9_costOf 101 = .ok (.aload_n 0, 1) := by decide +kernel
theorem dX9_costOf_102 : decode cX9_costOf 102 = .ok (.getfield 105, 3) := by decide +kernel
theorem dX9_costOf_105 : decode cX9_costOf 105 = .ok (.iload_n 2, 1) := by decide +kernel
theorem dX9_costOf_106 : decode cX9_costOf 106 = .ok (.iaload, 1) := by decide +kernel
theorem dX9_costOf_107 : decode cX9_costOf 107 = .ok (.if_icmp .ne 7, 3) := by decide +kernel
theorem dX9_costOf_110 : decode cX9_costOf 110 = .ok (.iconst 1, 1) := by decide +kernel
theorem dX9_costOf_111 : decode cX9_costOf 111 = .ok (.goto 4, 3) := by decide +kernel
theorem dX9_costOf_114 : decode cX9_costOf 114 = .ok (.iconst 0, 1) := by decide +kernel
theorem dX9_costOf_115 : decode cX9_costOf 115 = .ok (.istore 5, 2) := by decide +kernel
theorem dX9_costOf_117 : decode cX9_costOf 117 = .ok (.iload_n 3, 1) := by decide +kernel
theorem dX9_costOf_118 : decode cX9_costOf 118 = .ok (.iload 4, 2) := by decide +kernel
theorem dX9_costOf_120 : decode cX9_costOf 120 = .ok (.iadd, 1) := by decide +kernel
theorem dX9_costOf_121 : decode cX9_costOf 121 = .ok (.aload_n 0, 1) := by decide +kernel
theorem dX9_costOf_122 : decode cX9_costOf 122 = .ok (.getfield 282, 3) := by decide +kernel
theorem dX9_costOf_125 : decode cX9_costOf 125 = .ok (.ifCond .eq 14, 3) := by decide +kernel
theorem dX9_costOf_128 : decode cX9_costOf 128 = .ok (.iload 5, 2) := by decide +kernel
theorem dX9_costOf_130 : decode cX9_costOf 130 = .ok (.ifCond .ne 9, 3) := by decide +kernel
theorem dX9_costOf_133 : decode cX9_costOf 133 = .ok (.sipush 1000, 3) := by decide +kernel
theorem dX9_costOf_136 : decode cX9_costOf 136 = .ok (.goto 4, 3) := by decide +kernel
theorem dX9_costOf_139 : decode cX9_costOf 139 = .ok (.iconst 0, 1) := by decide +kernel
theorem dX9_costOf_140 : decode cX9_costOf 140 = .ok (.iadd, 1) := by decide +kernel
theorem dX9_costOf_141 : decode cX9_costOf 141 = .ok (.ireturn, 1) := by decide +kernel
theorem dX9_drawFrom_0 : decode cX9_drawFrom 0 = .ok (.iload_n 1, 1) := by decide +kernel
theorem dX9_drawFrom_1 : decode cX9_drawFrom 1 = .ok (.aload_n 0, 1) := by decide +kernel
theorem dX9_drawFrom_2 : decode cX9_drawFrom 2 = .ok (.getfield 139, 3) := by decide +kernel
theorem dX9_drawFrom_5 : decode cX9_drawFrom 5 = .ok (.if_icmp .ne 42, 3) := by decide +kernel
theorem dX9_drawFrom_8 : decode cX9_drawFrom 8 = .ok (.aload_n 0, 1) := by decide +kernel
theorem dX9_drawFrom_9 : decode cX9_drawFrom 9 = .ok (.iload 6, 2) := by decide +kernel
theorem dX9_drawFrom_11 : decode cX9_drawFrom 11 = .ok (.putfield 285, 3) := by decide +kernel
theorem dX9_drawFrom_14 : decode cX9_drawFrom 14 = .ok (.iconst 0, 1) := by decide +kernel
theorem dX9_drawFrom_15 : decode cX9_drawFrom 15 = .ok (.istore 7, 2) := by decide +kernel
theorem dX9_drawFrom_17 : decode cX9_drawFrom 17 = .ok (.iload 7, 2) := by decide +kernel
theorem dX9_drawFrom_19 : decode cX9_drawFrom 19 = .ok (.aload_n 0, 1) := by decide +kernel
theorem dX9_drawFrom_20 : decode cX9_drawFrom 20 = .ok (.getfield 139, 3) := by decide +kernel
theorem dX9_drawFrom_23 : decode cX9_drawFrom 23 = .ok (.if_icmp .ge 23, 3) := by decide +kernel
theorem dX9_drawFrom_26 : decode cX9_drawFrom 26 = .ok (.aload_n 0, 1) := by decide +kernel
theorem dX9_drawFrom_27 : decode cX9_drawFrom 27 = .ok (.getfield 127, 3) := by decide +kernel
theorem dX9_drawFrom_30 : decode cX9_drawFrom 30 = .ok (.iload 7, 2) := by decide +kernel
theorem dX9_drawFrom_32 : decode cX9_drawFrom 32 = .ok (.aload_n 0, 1) := by decide +kernel
theorem dX9_drawFrom_33 : decode cX9_drawFrom 33 = .ok (.getfield 124, 3) := by decide +kernel
theorem dX9_drawFrom_36 : decode cX9_drawFrom 36 = .ok (.iload 7, 2) := by decide +kernel
theorem dX9_drawFrom_38 : decode cX9_drawFrom 38 = .ok (.iaload, 1) := by decide +kernel
theorem dX9_drawFrom_39 : decode cX9_drawFrom 39 = .ok (.iastore, 1) := by decide +kernel
theorem dX9_drawFrom_40 : decode cX9_drawFrom 40 = .ok (.iinc 7 1, 3) := by decide +kernel
theorem dX9_drawFrom_43 : decode cX9_drawFrom 43 = .ok (.goto (-26), 3) := by decide +kernel
theorem dX9_drawFrom_46 : decode cX9_drawFrom 46 = .ok (.return_, 1) := by decide +kernel
theorem dX9_drawFrom_47 : decode cX9_drawFrom 47 = .ok (.aload_n 0, 1) := by decide +kernel
theorem dX9_drawFrom_48 : decode cX9_drawFrom 48 = .ok (.getfield 124, 3) := by decide +kernel
theorem dX9_drawFrom_51 : decode cX9_drawFrom 51 = .ok (.iload_n 1, 1) := by decide +kernel
theorem dX9_drawFrom_52 : decode cX9_drawFrom 52 = .ok (.iconst (-1), 1) := by decide +kernel
theorem dX9_drawFrom_53 : decode cX9_drawFrom 53 = .ok (.iastore, 1) := by decide +kernel
theorem dX9_drawFrom_54 : decode cX9_drawFrom 54 = .ok (.aload_n 0, 1) := by decide +kernel
theorem dX9_drawFrom_55 : decode cX9_drawFrom 55 = .ok (.getfield 93, 3) := by decide +kernel
theorem dX9_drawFrom_58 : decode cX9_drawFrom 58 = .ok (.iload_n 1, 1) := by decide +kernel
theorem dX9_drawFrom_59 : decode cX9_drawFrom 59 = .ok (.iaload, 1) := by decide +kernel
theorem dX9_drawFrom_60 : decode cX9_drawFrom 60 = .ok (.ifCond .gt 16, 3) := by decide +kernel
theorem dX9_drawFrom_63 : decode cX9_drawFrom 63 = .ok (.aload_n 0, 1) := by decide +kernel
theorem dX9_drawFrom_64 : decode cX9_drawFrom 64 = .ok (.iload_n 1, 1) := by decide +kernel
theorem dX9_drawFrom_65 : decode cX9_drawFrom 65 = .ok (.iconst 1, 1) := by decide +kernel
theorem dX9_drawFrom_66 : decode cX9_drawFrom 66 = .ok (.iadd, 1) := by decide +kernel
theorem dX9_drawFrom_67 : decode cX9_drawFrom 67 = .ok (.lload_n 2, 1) := by decide +kernel
theorem dX9_drawFrom_68 : decode cX9_drawFrom 68 = .ok (.lload 4, 2) := by decide +kernel
theorem dX9_drawFrom_70 : decode cX9_drawFrom 70 = .ok (.iload 6, 2) := by decide +kernel
theorem dX9_drawFrom_72 : decode cX9_drawFrom 72 = .ok (.invokevirtual 288, 3) := by decide +kernel
theorem dX9_drawFrom_75 : decode cX9_drawFrom 75 = .ok (.return_, 1) := by decide +kernel
theorem dX9_drawFrom_76 : decode cX9_drawFrom 76 = .ok (.iconst 0, 1) := by decide +kernel
theorem dX9_drawFrom_77 : decode cX9_drawFrom 77 = .ok (.istore 7, 2) := by decide +kernel
theorem dX9_drawFrom_79 : decode cX9_drawFrom 79 = .ok (.iload 7, 2) := by decide +kernel
theorem dX9_drawFrom_81 : decode cX9_drawFrom 81 = .ok (.aload_n 0, 1) := by decide +kernel
theorem dX9_drawFrom_82 : decode cX9_drawFrom 82 = .ok (.getfield 271, 3) := by decide +kernel
theorem dX9_drawFrom_85 : decode cX9_drawFrom 85 = .ok (.if_icmp .ge 190, 3) := by decide +kernel
theorem dX9_drawFrom_88 : decode cX9_drawFrom 88 = .ok (.aload_n 0, 1) := by decide +kernel
theorem dX9_drawFrom_89 : decode cX9_drawFrom 89 = .ok (.getfield 292, 3) := by decide +kernel
theorem dX9_drawFrom_92 : decode cX9_drawFrom 92 = .ok (.ifCond .ne 183, 3) := by decide +kernel
theorem dX9_drawFrom_95 : decode cX9_drawFrom 95 = .ok (.aload_n 0, 1) := by decide +kernel
theorem dX9_drawFrom_96 : decode cX9_drawFrom 96 = .ok (.getfield 114, 3) := by decide +kernel
theorem dX9_drawFrom_99 : decode cX9_drawFrom 99 = .ok (.iload 7, 2) := by decide +kernel
theorem dX9_drawFrom_101 : decode cX9_drawFrom 101 = .ok (.iaload, 1) := by decide +kernel
theorem dX9_drawFrom_102 : decode cX9_drawFrom 102 = .ok (.aload_n 0, 1) := by decide +kernel
theorem dX9_drawFrom_103 : decode cX9_drawFrom 103 = .ok (.getfield 93, 3) := by decide +kernel
theorem dX9_drawFrom_106 : decode cX9_drawFrom 106 = .ok (.iload_n 1, 1) := by decide +kernel
theorem dX9_drawFrom_107 : decode cX9_drawFrom 107 = .ok (.iaload, 1) := by decide +kernel
theorem dX9_drawFrom_108 : decode cX9_drawFrom 108 = .ok (.isub, 1) := by decide +kernel
theorem dX9_drawFrom_109 : decode cX9_drawFrom 109 = .ok (.istore 8, 2) := by decide +kernel
theorem dX9_drawFrom_111 : decode cX9_drawFrom 111 = .ok (.aload_n 0, 1) := by decide +kernel
theorem dX9_drawFrom_112 : decode cX9_drawFrom 112 = .ok (.getfield 117, 3) := by decide +kernel
theorem dX9_drawFrom_115 : decode cX9_drawFrom 115 = .ok (.iload 7, 2) := by decide +kernel
theorem dX9_drawFrom_117 : decode cX9_drawFrom 117 = .ok (.laload, 1) := by decide +kernel
theorem dX9_drawFrom_118 : decode cX9_drawFrom 118 = .ok (.lload_n 2, 1) := by decide +kernel
theorem dX9_drawFrom_119 : decode cX9_drawFrom 119 = .ok (.land, 1) := by decide +kernel
theorem dX9_drawFrom_120 : decode cX9_drawFrom 120 = .ok (.lconst 0, 1) := by decide +kernel
theorem dX9_drawFrom_121 : decode cX9_drawFrom 121 = .ok (.lcmp, 1) := by decide +kernel
theorem dX9_drawFrom_122 : decode cX9_drawFrom 122 = .ok (.ifCond .ne 41, 3) := by decide +kernel
theorem dX9_drawFrom_125 : decode cX9_drawFrom 125 = .ok (.aload_n 0, 1) := by decide +kernel
theorem dX9_drawFrom_126 : decode cX9_drawFrom 126 = .ok (.getfield 121, 3) := by decide +kernel
theorem dX9_drawFrom_129 : decode cX9_drawFrom 129 = .ok (.iload 7, 2) := by decide +kernel
theorem dX9_drawFrom_131 : decode cX9_drawFrom 131 = .ok (.laload, 1) := by decide +kernel
theorem dX9_drawFrom_132 : decode cX9_drawFrom 132 = .ok (.lload 4, 2) := by decide +kernel
theorem dX9_drawFrom_134 : decode cX9_drawFrom 134 = .ok (.land, 1) := by decide +kernel
theorem dX9_drawFrom_135 : decode cX9_drawFrom 135 = .ok (.lconst 0, 1) := by decide +kernel
theorem dX9_drawFrom_136 : decode cX9_drawFrom 136 = .ok (.lcmp, 1) := by decide +kernel
theorem dX9_drawFrom_137 : decode cX9_drawFrom 137 = .ok (.ifCond .ne 26, 3) := by decide +kernel
theorem dX9_drawFrom_140 : decode cX9_drawFrom 140 = .ok (.iload 8, 2) := by decide +kernel
theorem dX9_drawFrom_142 : decode cX9_drawFrom 142 = .ok (.aload_n 0, 1) := by decide +kernel
theorem dX9_drawFrom_143 : decode cX9_drawFrom 143 = .ok (.getfield 69, 3) := by decide +kernel
theorem dX9_drawFrom_146 : decode cX9_drawFrom 146 = .ok (.if_icmp .gt 17, 3) := by decide +kernel
theorem dX9_drawFrom_149 : decode cX9_drawFrom 149 = .ok (.iload 8, 2) := by decide +kernel
theorem dX9_drawFrom_151 : decode cX9_drawFrom 151 = .ok (.ineg, 1) := by decide +kernel
theorem dX9_drawFrom_152 : decode cX9_drawFrom 152 = .ok (.aload_n 0, 1) := by decide +kernel
theorem dX9_drawFrom_153 : decode cX9_drawFrom 153 = .ok (.getfield 69, 3) := by decide +kernel
theorem dX9_drawFrom_156 : decode cX9_drawFrom 156 = .ok (.if_icmp .gt 7, 3) := by decide +kernel
theorem dX9_drawFrom_159 : decode cX9_drawFrom 159 = .ok (.iconst 1, 1) := by decide +kernel
theorem dX9_drawFrom_160 : decode cX9_drawFrom 160 = .ok (.goto 4, 3) := by decide +kernel
theorem dX9_drawFrom_163 : decode cX9_drawFrom 163 = .ok (.iconst 0, 1) := by decide +kernel
theorem dX9_drawFrom_164 : decode cX9_drawFrom 164 = .ok (.istore 9, 2) := by decide +kernel
theorem dX9_drawFrom_166 : decode cX9_drawFrom 166 = .ok (.iload 9, 2) := by decide +kernel
theorem dX9_drawFrom_168 : decode cX9_drawFrom 168 = .ok (.ifCond .eq 16, 3) := by decide +kernel
theorem dX9_drawFrom_171 : decode cX9_drawFrom 171 = .ok (.iload 6, 2) := by decide +kernel
theorem dX9_drawFrom_173 : decode cX9_drawFrom 173 = .ok (.aload_n 0, 1) := by decide +kernel
theorem dX9_drawFrom_174 : decode cX9_drawFrom 174 = .ok (.iload_n 1, 1) := by decide +kernel
theorem dX9_drawFrom_175 : decode cX9_drawFrom 175 = .ok (.iload 7, 2) := by decide +kernel
theorem dX9_drawFrom_177 : decode cX9_drawFrom 177 = .ok (.invokevirtual 295, 3) := by decide +kernel
theorem dX9_drawFrom_180 : decode cX9_drawFrom 180 = .ok (.iadd, 1) := by decide +kernel
theorem dX9_drawFrom_181 : decode cX9_drawFrom 181 = .ok (.goto 4, 3) := by decide +kernel
theorem dX9_drawFrom_184 : decode cX9_drawFrom 184 = .ok (.iconst 0, 1) := by decide +kernel
theorem dX9_drawFrom_185 : decode cX9_drawFrom 185 = .ok (.istore 10, 2) := by decide +kernel
theorem dX9_drawFrom_187 : decode cX9_drawFrom 187 = .ok (.iload 9, 2) := by decide +kernel
theorem dX9_drawFrom_189 : decode cX9_drawFrom 189 = .ok (.ifCond .eq 80, 3) := by decide +kernel
theorem dX9_drawFrom_192 : decode cX9_drawFrom 192 = .ok (.aload_n 0, 1) := by decide +kernel
theorem dX9_drawFrom_193 : decode cX9_drawFrom 193 = .ok (.getfield 285, 3) := by decide +kernel
theorem dX9_drawFrom_196 : decode cX9_drawFrom 196 = .ok (.ifCond .lt 12, 3) := by decide +kernel
theorem dX9_drawFrom_199 : decode cX9_drawFrom 199 = .ok (.iload 10, 2) := by decide +kernel
theorem dX9_drawFrom_201 : decode cX9_drawFrom 201 = .ok (.aload_n 0, 1) := by decide +kernel
theorem dX9_drawFrom_202 : decode cX9_drawFrom 202 = .ok (.getfield 285, 3) := by decide +kernel
theorem dX9_drawFrom_205 : decode cX9_drawFrom 205 = .ok (.if_icmp .ge 64, 3) := by decide +kernel
theorem dX9_drawFrom_208 : decode cX9_drawFrom 208 = .ok (.aload_n 0, 1) := by decide +kernel
theorem dX9_drawFrom_209 : decode cX9_drawFrom 209 = .ok (.getfield 298, 3) := by decide +kernel
theorem dX9_drawFrom_212 : decode cX9_drawFrom 212 = .ok (.ifCond .ne 11, 3) := by decide +kernel
theorem dX9_drawFrom_215 : decode cX9_drawFrom 215 = .ok (.aload_n 0, 1) := by decide +kernel
theorem dX9_drawFrom_216 : decode cX9_drawFrom 216 = .ok (.iconst 1, 1) := by decide +kernel
theorem dX9_drawFrom_217 : decode cX9_drawFrom 217 = .ok (.putfield 292, 3) := by decide +kernel
theorem dX9_drawFrom_220 : decode cX9_drawFrom 220 = .ok (.goto 49, 3) := by decide +kernel
theorem dX9_drawFrom_223 : decode cX9_drawFrom 223 = .ok (.aload_n 0, 1) := by decide +kernel
theorem dX9_drawFrom_224 : decode cX9_drawFrom 224 = .ok (.dup, 1) := by decide +kernel
theorem dX9_drawFrom_225 : decode cX9_drawFrom 225 = .ok (.getfield 298, 3) := by decide +kernel
theorem dX9_drawFrom_228 : decode cX9_drawFrom 228 = .ok (.iconst 1, 1) := by decide +kernel
theorem dX9_drawFrom_229 : decode cX9_drawFrom 229 = .ok (.isub, 1) := by decide +kernel
theorem dX9_drawFrom_230 : decode cX9_drawFrom 230 = .ok (.putfield 298, 3) := by decide +kernel
theorem dX9_drawFrom_233 : decode cX9_drawFrom 233 = .ok (.aload_n 0, 1) := by decide +kernel
theorem dX9_drawFrom_234 : decode cX9_drawFrom 234 = .ok (.getfield 124, 3) := by decide +kernel
theorem dX9_drawFrom_237 : decode cX9_drawFrom 237 = .ok (.iload_n 1, 1) := by decide +kernel
theorem dX9_drawFrom_238 : decode cX9_drawFrom 238 = .ok (.iload 7, 2) := by decide +kernel
theorem dX9_drawFrom_240 : decode cX9_drawFrom 240 = .ok (.iastore, 1) := by decide +kernel
theorem dX9_drawFrom_241 : decode cX9_drawFrom 241 = .ok (.aload_n 0, 1) := by decide +kernel
theorem dX9_drawFrom_242 : decode cX9_drawFrom 242 = .ok (.iload_n 1, 1) := by decide +kernel
theorem dX9_drawFrom_243 : decode cX9_drawFrom 243 = .ok (.iconst 1, 1) := by decide +kernel
theorem dX9_drawFrom_244 : decode cX9_drawFrom 244 = .ok (.iadd, 1) := by decide +kernel
theorem dX9_drawFrom_245 : decode cX9_drawFrom 245 = .ok (.lload_n 2, 1) := by decide +kernel
theorem dX9_drawFrom_246 : decode cX9_drawFrom 246 = .ok (.aload_n 0, 1) := by decide +kernel
theorem dX9_drawFrom_247 : decode cX9_drawFrom 247 = .ok (.getfield 117, 3) := by decide +kernel
theorem dX9_drawFrom_250 : decode cX9_drawFrom 250 = .ok (.iload 7, 2) := by decide +kernel
theorem dX9_drawFrom_252 : decode cX9_drawFrom 252 = .ok (.laload, 1) := by decide +kernel
theorem dX9_drawFrom_253 : decode cX9_drawFrom 253 = .ok (.lor, 1) := by decide +kernel
theorem dX9_drawFrom_254 : decode cX9_drawFrom 254 = .ok (.lload 4, 2) := by decide +kernel
theorem dX9_drawFrom_256 : decode cX9_drawFrom 256 = .ok (.aload_n 0, 1) := by decide +kernel
theorem dX9_drawFrom_257 : decode cX9_drawFrom 257 = .ok (.getfield 121, 3) := by decide +kernel
theorem dX9_drawFrom_260 : decode cX9_drawFrom 260 = .ok (.iload 7, 2) := by decide +kernel
theorem dX9_drawFrom_262 : decode cX9_drawFrom 262 = .ok (.laload, 1) := by decide +kernel
theorem dX9_drawFrom_263 : decode cX9_drawFrom 263 = .ok (.lor, 1) := by decide +kernel
theorem dX9_drawFrom_264 : decode cX9_drawFrom 264 = .ok (.iload 10, 2) := by decide +kernel
theorem dX9_drawFrom_266 : decode cX9_drawFrom 266 = .ok (.invokevirtual 288, 3) := by decide +kernel
theorem dX9_drawFrom_269 : decode cX9_drawFrom 269 = .ok (.iinc 7 1, 3) := by decide +kernel
theorem dX9_drawFrom_272 : decode cX9_drawFrom 272 = .ok (.goto (-193), 3) := by decide +kernel
theorem dX9_drawFrom_275 : decode cX9_drawFrom 275 = .ok (.return_, 1) := by decide +kernel
theorem dX9_draw_0 : decode cX9_draw 0 = .ok (.aload_n 0, 1) := by decide +kernel
theorem dX9_draw_1 : decode cX9_draw 1 = .ok (.iconst 0, 1) := by decide +kernel
theorem dX9_draw_2 : decode cX9_draw 2 = .ok (.putfield 133, 3) := by decide +kernel
theorem dX9_draw_5 : decode cX9_draw 5 = .ok (.iload_n 1, 1) := by decide +kernel
theorem dX9_draw_6 : decode cX9_draw 6 = .ok (.invokestatic 185, 3) := by decide +kernel
theorem dX9_draw_9 : decode cX9_draw 9 = .ok (.ifCond .eq 23, 3) := by decide +kernel
theorem dX9_draw_12 : decode cX9_draw 12 = .ok (.iload_n 2, 1) := by decide +kernel
theorem dX9_draw_13 : decode cX9_draw 13 = .ok (.iconst 1, 1) := by decide +kernel
theorem dX9_draw_14 : decode cX9_draw 14 = .ok (.sipush 20000, 3) := by decide +kernel
theorem dX9_draw_17 : decode cX9_draw 17 = .ok (.invokestatic 152, 3) := by decide +kernel
theorem dX9_draw_20 : decode cX9_draw 20 = .ok (.ifCond .eq 12, 3) := by decide +kernel
theorem dX9_draw_23 : decode cX9_draw 23 = .ok (.iload_n 3, 1) := by decide +kernel
theorem dX9_draw_24 : decode cX9_draw 24 = .ok (.iconst 0, 1) := by decide +kernel
theorem dX9_draw_25 : decode cX9_draw 25 = .ok (.iconst 1, 1) := by decide +kernel
theorem dX9_draw_26 : decode cX9_draw 26 = .ok (.invokestatic 152, 3) := by decide +kernel
theorem dX9_draw_29 : decode cX9_draw 29 = .ok (.ifCond .ne 6, 3) := by decide +kernel
theorem dX9_draw_32 : decode cX9_draw 32 = .ok (.bipush (-3), 2) := by decide +kernel
theorem dX9_draw_34 : decode cX9_draw 34 = .ok (.ireturn, 1) := by decide +kernel
theorem dX9_draw_35 : decode cX9_draw 35 = .ok (.aload_n 0, 1) := by decide +kernel
theorem dX9_draw_36 : decode cX9_draw 36 = .ok (.iload_n 1, 1) := by decide +kernel
theorem dX9_draw_37 : decode cX9_draw 37 = .ok (.iconst 0, 1) := by decide +kernel
theorem dX9_draw_38 : decode cX9_draw 38 = .ok (.aload_n 0, 1) := by decide +kernel
theorem dX9_draw_39 : decode cX9_draw 39 = .ok (.getfield 93, 3) := by decide +kernel
theorem dX9_draw_42 : decode cX9_draw 42 = .ok (.invokevirtual 246, 3) := by decide +kernel
theorem dX9_draw_45 : decode cX9_draw 45 = .ok (.aload_n 0, 1) := by decide +kernel
theorem dX9_draw_46 : decode cX9_draw 46 = .ok (.invokevirtual 301, 3) := by decide +kernel
theorem dX9_draw_49 : decode cX9_draw 49 = .ok (.aload_n 0, 1) := by decide +kernel
theorem dX9_draw_50 : decode cX9_draw 50 = .ok (.iconst (-1), 1) := by decide +kernel
theorem dX9_draw_51 : decode cX9_draw 51 = .ok (.putfield 285, 3) := by decide +kernel
theorem dX9_draw_54 : decode cX9_draw 54 = .ok (.aload_n 0, 1) := by decide +kernel
theorem dX9_draw_55 : decode cX9_draw 55 = .ok (.iload_n 2, 1) := by decide +kernel
theorem dX9_draw_56 : decode cX9_draw 56 = .ok (.putfield 298, 3) := by decide +kernel
theorem dX9_draw_59 : decode cX9_draw 59 = .ok (.aload_n 0, 1) := by decide +kernel
theorem dX9_draw_60 : decode cX9_draw 60 = .ok (.iconst 0, 1) := by decide +kernel
theorem dX9_draw_61 : decode cX9_draw 61 = .ok (.putfield 292, 3) := by decide +kernel
theorem dX9_draw_64 : decode cX9_draw 64 = .ok (.aload_n 0, 1) := by decide +kernel
theorem dX9_draw_65 : decode cX9_draw 65 = .ok (.iload_n 3, 1) := by decide +kernel
theorem dX9_draw_66 : decode cX9_draw 66 = .ok (.iconst 1, 1) := by decide +kernel
theorem dX9_draw_67 : decode cX9_draw 67 = .ok (.if_icmp .ne 7, 3) := by decide +kernel
theorem dX9_draw_70 : decode cX9_draw 70 = .ok (.iconst 1, 1) := by decide +kernel
theorem dX9_draw_71 : decode cX9_draw 71 = .ok (.goto 4, 3) := by decide +kernel
theorem dX9_draw_74 : decode cX9_draw 74 = .ok (.iconst 0, 1) := by decide +kernel
theorem dX9_draw_75 : decode cX9_draw 75 = .ok (.putfield 282, 3) := by decide +kernel
theorem dX9_draw_78 : decode cX9_draw 78 = .ok (.aload_n 0, 1) := by decide +kernel
theorem dX9_draw_79 : decode cX9_draw 79 = .ok (.iconst 0, 1) := by decide +kernel
theorem dX9_draw_80 : decode cX9_draw 80 = .ok (.lconst 0, 1) := by decide +kernel
theorem dX9_draw_81 : decode cX9_draw 81 = .ok (.lconst 0, 1) := by decide +kernel
theorem dX9_draw_82 : decode cX9_draw 82 = .ok (.iconst 0, 1) := by decide +kernel
theorem dX9_draw_83 : decode cX9_draw 83 = .ok (.invokevirtual 288, 3) := by decide +kernel
theorem dX9_draw_86 : decode cX9_draw 86 = .ok (.aload_n 0, 1) := by decide +kernel
theorem dX9_draw_87 : decode cX9_draw 87 = .ok (.getfield 292, 3) := by decide +kernel
theorem dX9_draw_90 : decode cX9_draw 90 = .ok (.ifCond .eq 6, 3) := by decide +kernel
theorem dX9_draw_93 : decode cX9_draw 93 = .ok (.bipush (-6), 2) := by decide +kernel
theorem dX9_draw_95 : decode cX9_draw 95 = .ok (.ireturn, 1) := by decide +kernel
theorem dX9_draw_96 : decode cX9_draw 96 = .ok (.aload_n 0, 1) := by decide +kernel
theorem dX9_draw_97 : decode cX9_draw 97 = .ok (.getfield 285, 3) := by decide +kernel
theorem dX9_draw_100 : decode cX9_draw 100 = .ok (.ifCond .ge 5, 3) := by decide +kernel
theorem dX9_draw_103 : decode cX9_draw 103 = .ok (.iconst (-1), 1) := by decide +kernel
theorem dX9_draw_104 : decode cX9_draw 104 = .ok (.ireturn, 1) := by decide +kernel
theorem dX9_draw_105 : decode cX9_draw 105 = .ok (.iconst 0, 1) := by decide +kernel
theorem dX9_draw_106 : decode cX9_draw 106 = .ok (.istore 4, 2) := by decide +kernel
theorem dX9_draw_108 : decode cX9_draw 108 = .ok (.iload 4, 2) := by decide +kernel
theorem dX9_draw_110 : decode cX9_draw 110 = .ok (.aload_n 0, 1) := by decide +kernel
theorem dX9_draw_111 : decode cX9_draw 111 = .ok (.getfield 139, 3) := by decide +kernel
theorem dX9_draw_114 : decode cX9_draw 114 = .ok (.if_icmp .ge 90, 3) := by decide +kernel
theorem dX9_draw_117 : decode cX9_draw 117 = .ok (.aload_n 0, 1) := by decide +kernel
theorem dX9_draw_118 : decode cX9_draw 118 = .ok (.getfield 127, 3) := by decide +kernel
theorem dX9_draw_121 : decode cX9_draw 121 = .ok (.iload 4, 2) := by decide +kernel
theorem dX9_draw_123 : decode cX9_draw 123 = .ok (.iaload, 1) := by decide +kernel
theorem dX9_draw_124 : decode cX9_draw 124 = .ok (.istore 5, 2) := by decide +kernel
theorem dX9_draw_126 : decode cX9_draw 126 = .ok (.aload_n 0, 1) := by decide +kernel
theorem dX9_draw_127 : decode cX9_draw 127 = .ok (.getfield 75, 3) := by decide +kernel
theorem dX9_draw_130 : decode cX9_draw 130 = .ok (.iload 4, 2) := by decide +kernel
theorem dX9_draw_132 : decode cX9_draw 132 = .ok (.iload 5, 2) := by decide +kernel
theorem dX9_draw_134 : decode cX9_draw 134 = .ok (.iconst (-1), 1) := by decide +kernel
theorem dX9_draw_135 : decode cX9_draw 135 = .ok (.if_icmp .ne 7, 3) := by decide +kernel
theorem dX9_draw_138 : decode cX9_draw 138 = .ok (.iconst 0, 1) := by decide +kernel
theorem dX9_draw_139 : decode cX9_draw 139 = .ok (.goto 10, 3) := by decide +kernel
theorem dX9_draw_142 : decode cX9_draw 142 = .ok (.aload_n 0, 1) := by decide +kernel
theorem dX9_draw_143 : decode cX9_draw 143 = .ok (.getfield 108, 3) := by decide +kernel
theorem dX9_draw_146 : decode cX9_draw 146 = .ok (.iload 5, 2) := by decide +kernel
theorem dX9_draw_148 : decode cX9_draw 148 = .ok (.iaload, 1) := by decide +kernel
theorem dX9_draw_149 : decode cX9_draw 149 = .ok (.iastore, 1) := by decide +kernel
theorem dX9_draw_150 : decode cX9_draw 150 = .ok (.aload_n 0, 1) := by decide +kernel
theorem dX9_draw_151 : decode cX9_draw 151 = .ok (.getfield 78, 3) := by decide +kernel
theorem dX9_draw_154 : decode cX9_draw 154 = .ok (.iload 4, 2) := by decide +kernel
theorem dX9_draw_156 : decode cX9_draw 156 = .ok (.iload 5, 2) := by decide +kernel
theorem dX9_draw_158 : decode cX9_draw 158 = .ok (.iconst (-1), 1) := by decide +kernel
theorem dX9_draw_159 : decode cX9_draw 159 = .ok (.if_icmp .ne 7, 3) := by decide +kernel
theorem dX9_draw_162 : decode cX9_draw 162 = .ok (.iconst 0, 1) := by decide +kernel
theorem dX9_draw_163 : decode cX9_draw 163 = .ok (.goto 10, 3) := by decide +kernel
