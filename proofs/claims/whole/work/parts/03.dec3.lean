theorem dX7_reaches_19 : decode cX7_reaches 19 = .ok (.aload_n 0, 1) := by decide +kernel
theorem dX7_reaches_20 : decode cX7_reaches 20 = .ok (.getfield 20, 3) := by decide +kernel
theorem dX7_reaches_23 : decode cX7_reaches 23 = .ok (.iload_n 1, 1) := by decide +kernel
theorem dX7_reaches_24 : decode cX7_reaches 24 = .ok (.iaload, 1) := by decide +kernel
theorem dX7_reaches_25 : decode cX7_reaches 25 = .ok (.iload_n 3, 1) := by decide +kernel
theorem dX7_reaches_26 : decode cX7_reaches 26 = .ok (.isub, 1) := by decide +kernel
theorem dX7_reaches_27 : decode cX7_reaches 27 = .ok (.if_icmp .gt 7, 3) := by decide +kernel
theorem dX7_reaches_30 : decode cX7_reaches 30 = .ok (.iconst 1, 1) := by decide +kernel
theorem dX7_reaches_31 : decode cX7_reaches 31 = .ok (.goto 4, 3) := by decide +kernel
theorem dX7_reaches_34 : decode cX7_reaches 34 = .ok (.iconst 0, 1) := by decide +kernel
theorem dX7_reaches_35 : decode cX7_reaches 35 = .ok (.ireturn, 1) := by decide +kernel
theorem dX7_cut_0 : decode cX7_cut 0 = .ok (.aload_n 0, 1) := by decide +kernel
theorem dX7_cut_1 : decode cX7_cut 1 = .ok (.getfield 16, 3) := by decide +kernel
theorem dX7_cut_4 : decode cX7_cut 4 = .ok (.iload_n 1, 1) := by decide +kernel
theorem dX7_cut_5 : decode cX7_cut 5 = .ok (.iaload, 1) := by decide +kernel
theorem dX7_cut_6 : decode cX7_cut 6 = .ok (.ifCond .ne 6, 3) := by decide +kernel
theorem dX7_cut_9 : decode cX7_cut 9 = .ok (.iload_n 2, 1) := by decide +kernel
theorem dX7_cut_10 : decode cX7_cut 10 = .ok (.i2b, 1) := by decide +kernel
theorem dX7_cut_11 : decode cX7_cut 11 = .ok (.ireturn, 1) := by decide +kernel
theorem dX7_cut_12 : decode cX7_cut 12 = .ok (.aload_n 0, 1) := by decide +kernel
theorem dX7_cut_13 : decode cX7_cut 13 = .ok (.getfield 16, 3) := by decide +kernel
theorem dX7_cut_16 : decode cX7_cut 16 = .ok (.iload_n 1, 1) := by decide +kernel
theorem dX7_cut_17 : decode cX7_cut 17 = .ok (.iaload, 1) := by decide +kernel
theorem dX7_cut_18 : decode cX7_cut 18 = .ok (.iconst 1, 1) := by decide +kernel
theorem dX7_cut_19 : decode cX7_cut 19 = .ok (.if_icmp .ne 6, 3) := by decide +kernel
theorem dX7_cut_22 : decode cX7_cut 22 = .ok (.iload_n 2, 1) := by decide +kernel
theorem dX7_cut_23 : decode cX7_cut 23 = .ok (.i2s, 1) := by decide +kernel
theorem dX7_cut_24 : decode cX7_cut 24 = .ok (.ireturn, 1) := by decide +kernel
theorem dX7_cut_25 : decode cX7_cut 25 = .ok (.iload_n 2, 1) := by decide +kernel
theorem dX7_cut_26 : decode cX7_cut 26 = .ok (.ireturn, 1) := by decide +kernel
theorem dX7_present_0 : decode cX7_present 0 = .ok (.iconst 0, 1) := by decide +kernel
theorem dX7_present_1 : decode cX7_present 1 = .ok (.istore_n 1, 1) := by decide +kernel
theorem dX7_present_2 : decode cX7_present 2 = .ok (.iconst 0, 1) := by decide +kernel
theorem dX7_present_3 : decode cX7_present 3 = .ok (.istore_n 2, 1) := by decide +kernel
theorem dX7_present_4 : decode cX7_present 4 = .ok (.iload_n 2, 1) := by decide +kernel
theorem dX7_present_5 : decode cX7_present 5 = .ok (.iconst 3, 1) := by decide +kernel
theorem dX7_present_6 : decode cX7_present 6 = .ok (.if_icmp .ge 20, 3) := by decide +kernel
theorem dX7_present_9 : decode cX7_present 9 = .ok (.aload_n 0, 1) := by decide +kernel
theorem dX7_present_10 : decode cX7_present 10 = .ok (.iload_n 2, 1) := by decide +kernel
theorem dX7_present_11 : decode cX7_present 11 = .ok (.invokevirtual 29, 3) := by decide +kernel
theorem dX7_present_14 : decode cX7_present 14 = .ok (.ifCond .ne 6, 3) := by decide +kernel
theorem dX7_present_17 : decode cX7_present 17 = .ok (.iinc 1 1, 3) := by decide +kernel
theorem dX7_present_20 : decode cX7_present 20 = .ok (.iinc 2 1, 3) := by decide +kernel
theorem dX7_present_23 : decode cX7_present 23 = .ok (.goto (-19), 3) := by decide +kernel
theorem dX7_present_26 : decode cX7_present 26 = .ok (.iload_n 1, 1) := by decide +kernel
theorem dX7_present_27 : decode cX7_present 27 = .ok (.ireturn, 1) := by decide +kernel
theorem dX8_init_0 : decode cX8_init 0 = .ok (.aload_n 0, 1) := by decide +kernel
theorem dX8_init_1 : decode cX8_init 1 = .ok (.invokespecial 1, 3) := by decide +kernel
theorem dX8_init_4 : decode cX8_init 4 = .ok (.aload_n 0, 1) := by decide +kernel
theorem dX8_init_5 : decode cX8_init 5 = .ok (.iconst 5, 1) := by decide +kernel
theorem dX8_init_6 : decode cX8_init 6 = .ok (.newarray .int, 2) := by decide +kernel
theorem dX8_init_8 : decode cX8_init 8 = .ok (.dup, 1) := by decide +kernel
theorem dX8_init_9 : decode cX8_init 9 = .ok (.iconst 0, 1) := by decide +kernel
theorem dX8_init_10 : decode cX8_init 10 = .ok (.sipush 500, 3) := by decide +kernel
theorem dX8_init_13 : decode cX8_init 13 = .ok (.iastore, 1) := by decide +kernel
theorem dX8_init_14 : decode cX8_init 14 = .ok (.dup, 1) := by decide +kernel
theorem dX8_init_15 : decode cX8_init 15 = .ok (.iconst 1, 1) := by decide +kernel
theorem dX8_init_16 : decode cX8_init 16 = .ok (.sipush 900, 3) := by decide +kernel
theorem dX8_init_19 : decode cX8_init 19 = .ok (.iastore, 1) := by decide +kernel
theorem dX8_init_20 : decode cX8_init 20 = .ok (.dup, 1) := by decide +kernel
theorem dX8_init_21 : decode cX8_init 21 = .ok (.iconst 2, 1) := by decide +kernel
theorem dX8_init_22 : decode cX8_init 22 = .ok (.iconst 0, 1) := by decide +kernel
theorem dX8_init_23 : decode cX8_init 23 = .ok (.iastore, 1) := by decide +kernel
theorem dX8_init_24 : decode cX8_init 24 = .ok (.dup, 1) := by decide +kernel
theorem dX8_init_25 : decode cX8_init 25 = .ok (.iconst 3, 1) := by decide +kernel
theorem dX8_init_26 : decode cX8_init 26 = .ok (.iconst 0, 1) := by decide +kernel
theorem dX8_init_27 : decode cX8_init 27 = .ok (.iastore, 1) := by decide +kernel
theorem dX8_init_28 : decode cX8_init 28 = .ok (.dup, 1) := by decide +kernel
theorem dX8_init_29 : decode cX8_init 29 = .ok (.iconst 4, 1) := by decide +kernel
theorem dX8_init_30 : decode cX8_init 30 = .ok (.iconst 2, 1) := by decide +kernel
theorem dX8_init_31 : decode cX8_init 31 = .ok (.iastore, 1) := by decide +kernel
theorem dX8_init_32 : decode cX8_init 32 = .ok (.putfield 7, 3) := by decide +kernel
theorem dX8_init_35 : decode cX8_init 35 = .ok (.aload_n 0, 1) := by decide +kernel
theorem dX8_init_36 : decode cX8_init 36 = .ok (.new 13, 3) := by decide +kernel
theorem dX8_init_39 : decode cX8_init 39 = .ok (.dup, 1) := by decide +kernel
theorem dX8_init_40 : decode cX8_init 40 = .ok (.invokespecial 15, 3) := by decide +kernel
theorem dX8_init_43 : decode cX8_init 43 = .ok (.putfield 16, 3) := by decide +kernel
theorem dX8_init_46 : decode cX8_init 46 = .ok (.aload_n 0, 1) := by decide +kernel
theorem dX8_init_47 : decode cX8_init 47 = .ok (.new 20, 3) := by decide +kernel
theorem dX8_init_50 : decode cX8_init 50 = .ok (.dup, 1) := by decide +kernel
theorem dX8_init_51 : decode cX8_init 51 = .ok (.aload_n 0, 1) := by decide +kernel
theorem dX8_init_52 : decode cX8_init 52 = .ok (.getfield 16, 3) := by decide +kernel
theorem dX8_init_55 : decode cX8_init 55 = .ok (.invokespecial 22, 3) := by decide +kernel
theorem dX8_init_58 : decode cX8_init 58 = .ok (.putfield 25, 3) := by decide +kernel
theorem dX8_init_61 : decode cX8_init 61 = .ok (.aload_n 0, 1) := by decide +kernel
theorem dX8_init_62 : decode cX8_init 62 = .ok (.new 29, 3) := by decide +kernel
theorem dX8_init_65 : decode cX8_init 65 = .ok (.dup, 1) := by decide +kernel
theorem dX8_init_66 : decode cX8_init 66 = .ok (.invokespecial 31, 3) := by decide +kernel
theorem dX8_init_69 : decode cX8_init 69 = .ok (.putfield 32, 3) := by decide +kernel
theorem dX8_init_72 : decode cX8_init 72 = .ok (.aload_n 0, 1) := by decide +kernel
theorem dX8_init_73 : decode cX8_init 73 = .ok (.new 36, 3) := by decide +kernel
theorem dX8_init_76 : decode cX8_init 76 = .ok (.dup, 1) := by decide +kernel
theorem dX8_init_77 : decode cX8_init 77 = .ok (.aload_n 0, 1) := by decide +kernel
theorem dX8_init_78 : decode cX8_init 78 = .ok (.getfield 16, 3) := by decide +kernel
theorem dX8_init_81 : decode cX8_init 81 = .ok (.invokespecial 38, 3) := by decide +kernel
theorem dX8_init_84 : decode cX8_init 84 = .ok (.putfield 39, 3) := by decide +kernel
theorem dX8_init_87 : decode cX8_init 87 = .ok (.aload_n 0, 1) := by decide +kernel
theorem dX8_init_88 : decode cX8_init 88 = .ok (.new 43, 3) := by decide +kernel
theorem dX8_init_91 : decode cX8_init 91 = .ok (.dup, 1) := by decide +kernel
theorem dX8_init_92 : decode cX8_init 92 = .ok (.aload_n 0, 1) := by decide +kernel
theorem dX8_init_93 : decode cX8_init 93 = .ok (.getfield 16, 3) := by decide +kernel
theorem dX8_init_96 : decode cX8_init 96 = .ok (.aload_n 0, 1) := by decide +kernel
theorem dX8_init_97 : decode cX8_init 97 = .ok (.getfield 39, 3) := by decide +kernel
theorem dX8_init_100 : decode cX8_init 100 = .ok (.aload_n 0, 1) := by decide +kernel
theorem dX8_init_101 : decode cX8_init 101 = .ok (.getfield 7, 3) := by decide +kernel
theorem dX8_init_104 : decode cX8_init 104 = .ok (.invokespecial 45, 3) := by decide +kernel
theorem dX8_init_107 : decode cX8_init 107 = .ok (.putfield 48, 3) := by decide +kernel
theorem dX8_init_110 : decode cX8_init 110 = .ok (.aload_n 0, 1) := by decide +kernel
theorem dX8_init_111 : decode cX8_init 111 = .ok (.new 52, 3) := by decide +kernel
theorem dX8_init_114 : decode cX8_init 114 = .ok (.dup, 1) := by decide +kernel
theorem dX8_init_115 : decode cX8_init 115 = .ok (.aload_n 0, 1) := by decide +kernel
theorem dX8_init_116 : decode cX8_init 116 = .ok (.getfield 16, 3) := by decide +kernel
theorem dX8_init_119 : decode cX8_init 119 = .ok (.aload_n 0, 1) := by decide +kernel
theorem dX8_init_120 : decode cX8_init 120 = .ok (.getfield 39, 3) := by decide +kernel
theorem dX8_init_123 : decode cX8_init 123 = .ok (.invokespecial 54, 3) := by decide +kernel
theorem dX8_init_126 : decode cX8_init 126 = .ok (.putfield 57, 3) := by decide +kernel
theorem dX8_init_129 : decode cX8_init 129 = .ok (.aload_n 0, 1) := by decide +kernel
theorem dX8_init_130 : decode cX8_init 130 = .ok (.aconst_null, 1) := by decide +kernel
theorem dX8_init_131 : decode cX8_init 131 = .ok (.putfield 61, 3) := by decide +kernel
theorem dX8_init_134 : decode cX8_init 134 = .ok (.return_, 1) := by decide +kernel
theorem dX8_land_0 : decode cX8_land 0 = .ok (.iload_n 1, 1) := by decide +kernel
theorem dX8_land_1 : decode cX8_land 1 = .ok (.iconst 2, 1) := by decide +kernel
theorem dX8_land_2 : decode cX8_land 2 = .ok (.bipush 10, 2) := by decide +kernel
theorem dX8_land_4 : decode cX8_land 4 = .ok (.invokestatic 65, 3) := by decide +kernel
theorem dX8_land_7 : decode cX8_land 7 = .ok (.ifCond .eq 13, 3) := by decide +kernel
theorem dX8_land_10 : decode cX8_land 10 = .ok (.iload_n 2, 1) := by decide +kernel
theorem dX8_land_11 : decode cX8_land 11 = .ok (.iconst 2, 1) := by decide +kernel
theorem dX8_land_12 : decode cX8_land 12 = .ok (.bipush 8, 2) := by decide +kernel
theorem dX8_land_14 : decode cX8_land 14 = .ok (.invokestatic 65, 3) := by decide +kernel
theorem dX8_land_17 : decode cX8_land 17 = .ok (.ifCond .ne 6, 3) := by decide +kernel
theorem dX8_land_20 : decode cX8_land 20 = .ok (.bipush (-3), 2) := by decide +kernel
theorem dX8_land_22 : decode cX8_land 22 = .ok (.ireturn, 1) := by decide +kernel
theorem dX8_land_23 : decode cX8_land 23 = .ok (.aload_n 0, 1) := by decide +kernel
theorem dX8_land_24 : decode cX8_land 24 = .ok (.getfield 16, 3) := by decide +kernel
theorem dX8_land_27 : decode cX8_land 27 = .ok (.iload_n 1, 1) := by decide +kernel
theorem dX8_land_28 : decode cX8_land 28 = .ok (.iload_n 2, 1) := by decide +kernel
theorem dX8_land_29 : decode cX8_land 29 = .ok (.invokevirtual 69, 3) := by decide +kernel
theorem dX8_land_32 : decode cX8_land 32 = .ok (.aload_n 0, 1) := by decide +kernel
theorem dX8_land_33 : decode cX8_land 33 = .ok (.getfield 39, 3) := by decide +kernel
theorem dX8_land_36 : decode cX8_land 36 = .ok (.invokevirtual 73, 3) := by decide +kernel
theorem dX8_land_39 : decode cX8_land 39 = .ok (.aload_n 0, 1) := by decide +kernel
theorem dX8_land_40 : decode cX8_land 40 = .ok (.getfield 57, 3) := by decide +kernel
theorem dX8_land_43 : decode cX8_land 43 = .ok (.invokevirtual 76, 3) := by decide +kernel
theorem dX8_land_46 : decode cX8_land 46 = .ok (.aload_n 0, 1) := by decide +kernel
theorem dX8_land_47 : decode cX8_land 47 = .ok (.getfield 16, 3) := by decide +kernel
theorem dX8_land_50 : decode cX8_land 50 = .ok (.getfield 77, 3) := by decide +kernel
theorem dX8_land_53 : decode cX8_land 53 = .ok (.ireturn, 1) := by decide +kernel
theorem dX8_cell_0 : decode cX8_cell 0 = .ok (.aload_n 0, 1) := by decide +kernel
theorem dX8_cell_1 : decode cX8_cell 1 = .ok (.getfield 16, 3) := by decide +kernel
theorem dX8_cell_4 : decode cX8_cell 4 = .ok (.iload_n 1, 1) := by decide +kernel
theorem dX8_cell_5 : decode cX8_cell 5 = .ok (.invokevirtual 81, 3) := by decide +kernel
theorem dX8_cell_8 : decode cX8_cell 8 = .ok (.ifCond .eq 23, 3) := by decide +kernel
theorem dX8_cell_11 : decode cX8_cell 11 = .ok (.iload_n 2, 1) := by decide +kernel
theorem dX8_cell_12 : decode cX8_cell 12 = .ok (.invokestatic 85, 3) := by decide +kernel
theorem dX8_cell_15 : decode cX8_cell 15 = .ok (.ifCond .eq 16, 3) := by decide +kernel
theorem dX8_cell_18 : decode cX8_cell 18 = .ok (.iload_n 3, 1) := by decide +kernel
theorem dX8_cell_19 : decode cX8_cell 19 = .ok (.iconst 0, 1) := by decide +kernel
theorem dX8_cell_20 : decode cX8_cell 20 = .ok (.getstatic 88, 3) := by decide +kernel
theorem dX8_cell_23 : decode cX8_cell 23 = .ok (.iload_n 2, 1) := by decide +kernel
theorem dX8_cell_24 : decode cX8_cell 24 = .ok (.iaload, 1) := by decide +kernel
theorem dX8_cell_25 : decode cX8_cell 25 = .ok (.invokestatic 65, 3) := by decide +kernel
theorem dX8_cell_28 : decode cX8_cell 28 = .ok (.ifCond .ne 6, 3) := by decide +kernel
theorem dX8_cell_31 : decode cX8_cell 31 = .ok (.bipush (-3), 2) := by decide +kernel
theorem dX8_cell_33 : decode cX8_cell 33 = .ok (.ireturn, 1) := by decide +kernel
theorem dX8_cell_34 : decode cX8_cell 34 = .ok (.aload_n 0, 1) := by decide +kernel
theorem dX8_cell_35 : decode cX8_cell 35 = .ok (.getfield 16, 3) := by decide +kernel
theorem dX8_cell_38 : decode cX8_cell 38 = .ok (.getfield 91, 3) := by decide +kernel
theorem dX8_cell_41 : decode cX8_cell 41 = .ok (.iload_n 2, 1) := by decide +kernel
theorem dX8_cell_42 : decode cX8_cell 42 = .ok (.aaload, 1) := by decide +kernel
theorem dX8_cell_43 : decode cX8_cell 43 = .ok (.iload_n 1, 1) := by decide +kernel
theorem dX8_cell_44 : decode cX8_cell 44 = .ok (.iaload, 1) := by decide +kernel
theorem dX8_cell_45 : decode cX8_cell 45 = .ok (.istore 4, 2) := by decide +kernel
theorem dX8_cell_47 : decode cX8_cell 47 = .ok (.aload_n 0, 1) := by decide +kernel
theorem dX8_cell_48 : decode cX8_cell 48 = .ok (.getfield 16, 3) := by decide +kernel
theorem dX8_cell_51 : decode cX8_cell 51 = .ok (.getfield 91, 3) := by decide +kernel
theorem dX8_cell_54 : decode cX8_cell 54 = .ok (.iload_n 2, 1) := by decide +kernel
theorem dX8_cell_55 : decode cX8_cell 55 = .ok (.aaload, 1) := by decide +kernel
theorem dX8_cell_56 : decode cX8_cell 56 = .ok (.iload_n 1, 1) := by decide +kernel
theorem dX8_cell_57 : decode cX8_cell 57 = .ok (.iload_n 3, 1) := by decide +kernel
theorem dX8_cell_58 : decode cX8_cell 58 = .ok (.iastore, 1) := by decide +kernel
theorem dX8_cell_59 : decode cX8_cell 59 = .ok (.iload 4, 2) := by decide +kernel
theorem dX8_cell_61 : decode cX8_cell 61 = .ok (.ireturn, 1) := by decide +kernel
theorem dX8_told_0 : decode cX8_told 0 = .ok (.aload_n 0, 1) := by decide +kernel
theorem dX8_told_1 : decode cX8_told 1 = .ok (.getfield 16, 3) := by decide +kernel
theorem dX8_told_4 : decode cX8_told 4 = .ok (.iload_n 1, 1) := by decide +kernel
theorem dX8_told_5 : decode cX8_told 5 = .ok (.invokevirtual 81, 3) := by decide +kernel
theorem dX8_told_8 : decode cX8_told 8 = .ok (.ifCond .eq 10, 3) := by decide +kernel
theorem dX8_told_11 : decode cX8_told 11 = .ok (.iload_n 2, 1) := by decide +kernel
theorem dX8_told_12 : decode cX8_told 12 = .ok (.invokestatic 85, 3) := by decide +kernel
theorem dX8_told_15 : decode cX8_told 15 = .ok (.ifCond .ne 6, 3) := by decide +kernel
theorem dX8_told_18 : decode cX8_told 18 = .ok (.bipush (-3), 2) := by decide +kernel
theorem dX8_told_20 : decode cX8_told 20 = .ok (.ireturn, 1) := by decide +kernel
theorem dX8_told_21 : decode cX8_told 21 = .ok (.aload_n 0, 1) := by decide +kernel
theorem dX8_told_22 : decode cX8_told 22 = .ok (.getfield 16, 3) := by decide +kernel
theorem dX8_told_25 : decode cX8_told 25 = .ok (.getfield 91, 3) := by decide +kernel
theorem dX8_told_28 : decode cX8_told 28 = .ok (.iload_n 2, 1) := by decide +kernel
theorem dX8_told_29 : decode cX8_told 29 = .ok (.aaload, 1) := by decide +kernel
theorem dX8_told_30 : decode cX8_told 30 = .ok (.iload_n 1, 1) := by decide +kernel
theorem dX8_told_31 : decode cX8_told 31 = .ok (.iaload, 1) := by decide +kernel
theorem dX8_told_32 : decode cX8_told 32 = .ok (.ireturn, 1) := by decide +kernel
theorem dX8_survey_0 : decode cX8_survey 0 = .ok (.iload_n 1, 1) := by decide +kernel
theorem dX8_survey_1 : decode cX8_survey 1 = .ok (.invokestatic 95, 3) := by decide +kernel
theorem dX8_survey_4 : decode cX8_survey 4 = .ok (.ifCond .eq 18, 3) := by decide +kernel
theorem dX8_survey_7 : decode cX8_survey 7 = .ok (.iload_n 2, 1) := by decide +kernel
theorem dX8_survey_8 : decode cX8_survey 8 = .ok (.iconst 0, 1) := by decide +kernel
theorem dX8_survey_9 : decode cX8_survey 9 = .ok (.iconst 2, 1) := by decide +kernel
theorem dX8_survey_10 : decode cX8_survey 10 = .ok (.invokestatic 65, 3) := by decide +kernel
theorem dX8_survey_13 : decode cX8_survey 13 = .ok (.ifCond .eq 9, 3) := by decide +kernel
theorem dX8_survey_16 : decode cX8_survey 16 = .ok (.iload_n 3, 1) := by decide +kernel
theorem dX8_survey_17 : decode cX8_survey 17 = .ok (.bipush 80, 2) := by decide +kernel
theorem dX8_survey_19 : decode cX8_survey 19 = .ok (.if_icmp .le 6, 3) := by decide +kernel
theorem dX8_survey_22 : decode cX8_survey 22 = .ok (.bipush (-3), 2) := by decide +kernel
theorem dX8_survey_24 : decode cX8_survey 24 = .ok (.ireturn, 1) := by decide +kernel
theorem dX8_survey_25 : decode cX8_survey 25 = .ok (.iload_n 3, 1) := by decide +kernel
theorem dX8_survey_26 : decode cX8_survey 26 = .ok (.ifCond .ge 6, 3) := by decide +kernel
theorem dX8_survey_29 : decode cX8_survey 29 = .ok (.bipush (-14), 2) := by decide +kernel
theorem dX8_survey_31 : decode cX8_survey 31 = .ok (.ireturn, 1) := by decide +kernel
theorem dX8_survey_32 : decode cX8_survey 32 = .ok (.aload_n 0, 1) := by decide +kernel
theorem dX8_survey_33 : decode cX8_survey 33 = .ok (.getfield 32, 3) := by decide +kernel
theorem dX8_survey_36 : decode cX8_survey 36 = .ok (.iload_n 1, 1) := by decide +kernel
theorem dX8_survey_37 : decode cX8_survey 37 = .ok (.iload_n 2, 1) := by decide +kernel
theorem dX8_survey_38 : decode cX8_survey 38 = .ok (.iload_n 3, 1) := by decide +kernel
theorem dX8_survey_39 : decode cX8_survey 39 = .ok (.invokevirtual 98, 3) := by decide +kernel
theorem dX8_survey_42 : decode cX8_survey 42 = .ok (.iload_n 3, 1) := by decide +kernel
theorem dX8_survey_43 : decode cX8_survey 43 = .ok (.ireturn, 1) := by decide +kernel
theorem dX8_lose_0 : decode cX8_lose 0 = .ok (.iload_n 1, 1) := by decide +kernel
theorem dX8_lose_1 : decode cX8_lose 1 = .ok (.invokestatic 95, 3) := by decide +kernel
theorem dX8_lose_4 : decode cX8_lose 4 = .ok (.ifCond .ne 6, 3) := by decide +kernel
theorem dX8_lose_7 : decode cX8_lose 7 = .ok (.bipush (-3), 2) := by decide +kernel
theorem dX8_lose_9 : decode cX8_lose 9 = .ok (.ireturn, 1) := by decide +kernel
theorem dX8_lose_10 : decode cX8_lose 10 = .ok (.aload_n 0, 1) := by decide +kernel
theorem dX8_lose_11 : decode cX8_lose 11 = .ok (.getfield 32, 3) := by decide +kernel
theorem dX8_lose_14 : decode cX8_lose 14 = .ok (.iload_n 1, 1) := by decide +kernel
theorem dX8_lose_15 : decode cX8_lose 15 = .ok (.invokevirtual 102, 3) := by decide +kernel
theorem dX8_lose_18 : decode cX8_lose 18 = .ok (.ifCond .eq 6, 3) := by decide +kernel
theorem dX8_lose_21 : decode cX8_lose 21 = .ok (.bipush (-11), 2) := by decide +kernel
theorem dX8_lose_23 : decode cX8_lose 23 = .ok (.ireturn, 1) := by decide +kernel
theorem dX8_lose_24 : decode cX8_lose 24 = .ok (.aload_n 0, 1) := by decide +kernel
theorem dX8_lose_25 : decode cX8_lose 25 = .ok (.getfield 32, 3) := by decide +kernel
theorem dX8_lose_28 : decode cX8_lose 28 = .ok (.getfield 105, 3) := by decide +kernel
theorem dX8_lose_31 : decode cX8_lose 31 = .ok (.iload_n 1, 1) := by decide +kernel
theorem dX8_lose_32 : decode cX8_lose 32 = .ok (.iaload, 1) := by decide +kernel
theorem dX8_lose_33 : decode cX8_lose 33 = .ok (.istore_n 2, 1) := by decide +kernel
theorem dX8_lose_34 : decode cX8_lose 34 = .ok (.aload_n 0, 1) := by decide +kernel
theorem dX8_lose_35 : decode cX8_lose 35 = .ok (.getfield 32, 3) := by decide +kernel
theorem dX8_lose_38 : decode cX8_lose 38 = .ok (.getfield 105, 3) := by decide +kernel
theorem dX8_lose_41 : decode cX8_lose 41 = .ok (.iload_n 1, 1) := by decide +kernel
theorem dX8_lose_42 : decode cX8_lose 42 = .ok (.iconst (-1), 1) := by decide +kernel
theorem dX8_lose_43 : decode cX8_lose 43 = .ok (.iastore, 1) := by decide +kernel
theorem dX8_lose_44 : decode cX8_lose 44 = .ok (.iload_n 2, 1) := by decide +kernel
theorem dX8_lose_45 : decode cX8_lose 45 = .ok (.ireturn, 1) := by decide +kernel
theorem dX8_mark_0 : decode cX8_mark 0 = .ok (.iload_n 1, 1) := by decide +kernel
theorem dX8_mark_1 : decode cX8_mark 1 = .ok (.invokestatic 95, 3) := by decide +kernel
theorem dX8_mark_4 : decode cX8_mark 4 = .ok (.ifCond .ne 6, 3) := by decide +kernel
theorem dX8_mark_7 : decode cX8_mark 7 = .ok (.bipush (-3), 2) := by decide +kernel
theorem dX8_mark_9 : decode cX8_mark 9 = .ok (.ireturn, 1) := by decide +kernel
theorem dX8_mark_10 : decode cX8_mark 10 = .ok (.aload_n 0, 1) := by decide +kernel
theorem dX8_mark_11 : decode cX8_mark 11 = .ok (.getfield 32, 3) := by decide +kernel
theorem dX8_mark_14 : decode cX8_mark 14 = .ok (.iload_n 1, 1) := by decide +kernel
theorem dX8_mark_15 : decode cX8_mark 15 = .ok (.invokevirtual 102, 3) := by decide +kernel
theorem dX8_mark_18 : decode cX8_mark 18 = .ok (.ifCond .eq 6, 3) := by decide +kernel
theorem dX8_mark_21 : decode cX8_mark 21 = .ok (.bipush (-11), 2) := by decide +kernel
theorem dX8_mark_23 : decode cX8_mark 23 = .ok (.ireturn, 1) := by decide +kernel
theorem dX8_mark_24 : decode cX8_mark 24 = .ok (.aload_n 0, 1) := by decide +kernel
theorem dX8_mark_25 : decode cX8_mark 25 = .ok (.getfield 32, 3) := by decide +kernel
theorem dX8_mark_28 : decode cX8_mark 28 = .ok (.iload_n 1, 1) := by decide +kernel
theorem dX8_mark_29 : decode cX8_mark 29 = .ok (.iload_n 2, 1) := by decide +kernel
theorem dX8_mark_30 : decode cX8_mark 30 = .ok (.iconst 1, 1) := by decide +kernel
theorem dX8_mark_31 : decode cX8_mark 31 = .ok (.invokevirtual 108, 3) := by decide +kernel
theorem dX8_mark_34 : decode cX8_mark 34 = .ok (.ifCond .ne 6, 3) := by decide +kernel
theorem dX8_mark_37 : decode cX8_mark 37 = .ok (.bipush (-13), 2) := by decide +kernel
theorem dX8_mark_39 : decode cX8_mark 39 = .ok (.ireturn, 1) := by decide +kernel
theorem dX8_mark_40 : decode cX8_mark 40 = .ok (.aload_n 0, 1) := by decide +kernel
theorem dX8_mark_41 : decode cX8_mark 41 = .ok (.getfield 32, 3) := by decide +kernel
theorem dX8_mark_44 : decode cX8_mark 44 = .ok (.getfield 111, 3) := by decide +kernel
theorem dX8_mark_47 : decode cX8_mark 47 = .ok (.iload_n 1, 1) := by decide +kernel
theorem dX8_mark_48 : decode cX8_mark 48 = .ok (.aaload, 1) := by decide +kernel
theorem dX8_mark_49 : decode cX8_mark 49 = .ok (.iload_n 2, 1) := by decide +kernel
theorem dX8_mark_50 : decode cX8_mark 50 = .ok (.iaload, 1) := by decide +kernel
theorem dX8_mark_51 : decode cX8_mark 51 = .ok (.istore 4, 2) := by decide +kernel
theorem dX8_mark_53 : decode cX8_mark 53 = .ok (.aload_n 0, 1) := by decide +kernel
theorem dX8_mark_54 : decode cX8_mark 54 = .ok (.getfield 32, 3) := by decide +kernel
theorem dX8_mark_57 : decode cX8_mark 57 = .ok (.getfield 111, 3) := by decide +kernel
theorem dX8_mark_60 : decode cX8_mark 60 = .ok (.iload_n 1, 1) := by decide +kernel
theorem dX8_mark_61 : decode cX8_mark 61 = .ok (.aaload, 1) := by decide +kernel
theorem dX8_mark_62 : decode cX8_mark 62 = .ok (.iload_n 2, 1) := by decide +kernel
theorem dX8_mark_63 : decode cX8_mark 63 = .ok (.aload_n 0, 1) := by decide +kernel
theorem dX8_mark_64 : decode cX8_mark 64 = .ok (.getfield 32, 3) := by decide +kernel
theorem dX8_mark_67 : decode cX8_mark 67 = .ok (.iload_n 1, 1) := by decide +kernel
theorem dX8_mark_68 : decode cX8_mark 68 = .ok (.iload_n 3, 1) := by decide +kernel
theorem dX8_mark_69 : decode cX8_mark 69 = .ok (.invokevirtual 114, 3) := by decide +kernel
theorem dX8_mark_72 : decode cX8_mark 72 = .ok (.iastore, 1) := by decide +kernel
theorem dX8_mark_73 : decode cX8_mark 73 = .ok (.iload 4, 2) := by decide +kernel
theorem dX8_mark_75 : decode cX8_mark 75 = .ok (.ireturn, 1) := by decide +kernel
theorem dX8_copy_0 : decode cX8_copy 0 = .ok (.iload_n 1, 1) := by decide +kernel
theorem dX8_copy_1 : decode cX8_copy 1 = .ok (.invokestatic 95, 3) := by decide +kernel
theorem dX8_copy_4 : decode cX8_copy 4 = .ok (.ifCond .eq 10, 3) := by decide +kernel
theorem dX8_copy_7 : decode cX8_copy 7 = .ok (.iload_n 3, 1) := by decide +kernel
theorem dX8_copy_8 : decode cX8_copy 8 = .ok (.invokestatic 95, 3) := by decide +kernel
theorem dX8_copy_11 : decode cX8_copy 11 = .ok (.ifCond .ne 6, 3) := by decide +kernel
theorem dX8_copy_14 : decode cX8_copy 14 = .ok (.bipush (-3), 2) := by decide +kernel
theorem dX8_copy_16 : decode cX8_copy 16 = .ok (.ireturn, 1) := by decide +kernel
theorem dX8_copy_17 : decode cX8_copy 17 = .ok (.aload_n 0, 1) := by decide +kernel
theorem dX8_copy_18 : decode cX8_copy 18 = .ok (.getfield 32, 3) := by decide +kernel
theorem dX8_copy_21 : decode cX8_copy 21 = .ok (.iload_n 1, 1) := by decide +kernel
theorem dX8_copy_22 : decode cX8_copy 22 = .ok (.invokevirtual 102, 3) := by decide +kernel
theorem dX8_copy_25 : decode cX8_copy 25 = .ok (.ifCond .ne 14, 3) := by decide +kernel
theorem dX8_copy_28 : decode cX8_copy 28 = .ok (.aload_n 0, 1) := by decide +kernel
theorem dX8_copy_29 : decode cX8_copy 29 = .ok (.getfield 32, 3) := by decide +kernel
theorem dX8_copy_32 : decode cX8_copy 32 = .ok (.iload_n 3, 1) := by decide +kernel
theorem dX8_copy_33 : decode cX8_copy 33 = .ok (.invokevirtual 102, 3) := by decide +kernel
theorem dX8_copy_36 : decode cX8_copy 36 = .ok (.ifCond .eq 6, 3) := by decide +kernel
theorem dX8_copy_39 : decode cX8_copy 39 = .ok (.bipush (-11), 2) := by decide +kernel
theorem dX8_copy_41 : decode cX8_copy 41 = .ok (.ireturn, 1) := by decide +kernel
theorem dX8_copy_42 : decode cX8_copy 42 = .ok (.aload_n 0, 1) := by decide +kernel
theorem dX8_copy_43 : decode cX8_copy 43 = .ok (.getfield 32, 3) := by decide +kernel
theorem dX8_copy_46 : decode cX8_copy 46 = .ok (.getfield 118, 3) := by decide +kernel
theorem dX8_copy_49 : decode cX8_copy 49 = .ok (.iload_n 1, 1) := by decide +kernel
theorem dX8_copy_50 : decode cX8_copy 50 = .ok (.iaload, 1) := by decide +kernel
theorem dX8_copy_51 : decode cX8_copy 51 = .ok (.aload_n 0, 1) := by decide +kernel
theorem dX8_copy_52 : decode cX8_copy 52 = .ok (.getfield 32, 3) := by decide +kernel
theorem dX8_copy_55 : decode cX8_copy 55 = .ok (.getfield 118, 3) := by decide +kernel
theorem dX8_copy_58 : decode cX8_copy 58 = .ok (.iload_n 3, 1) := by decide +kernel
theorem dX8_copy_59 : decode cX8_copy 59 = .ok (.iaload, 1) := by decide +kernel
theorem dX8_copy_60 : decode cX8_copy 60 = .ok (.if_icmp .eq 6, 3) := by decide +kernel
theorem dX8_copy_63 : decode cX8_copy 63 = .ok (.bipush (-4), 2) := by decide +kernel
theorem dX8_copy_65 : decode cX8_copy 65 = .ok (.ireturn, 1) := by decide +kernel
theorem dX8_copy_66 : decode cX8_copy 66 = .ok (.aload_n 0, 1) := by decide +kernel
theorem dX8_copy_67 : decode cX8_copy 67 = .ok (.getfield 32, 3) := by decide +kernel
theorem dX8_copy_70 : decode cX8_copy 70 = .ok (.iload_n 1, 1) := by decide +kernel
theorem dX8_copy_71 : decode cX8_copy 71 = .ok (.iload_n 2, 1) := by decide +kernel
theorem dX8_copy_72 : decode cX8_copy 72 = .ok (.iload 5, 2) := by decide +kernel
theorem dX8_copy_74 : decode cX8_copy 74 = .ok (.invokevirtual 108, 3) := by decide +kernel
theorem dX8_copy_77 : decode cX8_copy 77 = .ok (.ifCond .eq 18, 3) := by decide +kernel
theorem dX8_copy_80 : decode cX8_copy 80 = .ok (.aload_n 0, 1) := by decide +kernel
theorem dX8_copy_81 : decode cX8_copy 81 = .ok (.getfield 32, 3) := by decide +kernel
theorem dX8_copy_84 : decode cX8_copy 84 = .ok (.iload_n 3, 1) := by decide +kernel
theorem dX8_copy_85 : decode cX8_copy 85 = .ok (.iload 4, 2) := by decide +kernel
theorem dX8_copy_87 : decode cX8_copy 87 = .ok (.iload 5, 2) := by decide +kernel
theorem dX8_copy_89 : decode cX8_copy 89 = .ok (.invokevirtual 108, 3) := by decide +kernel
theorem dX8_copy_92 : decode cX8_copy 92 = .ok (.ifCond .ne 6, 3) := by decide +kernel
theorem dX8_copy_95 : decode cX8_copy 95 = .ok (.bipush (-13), 2) := by decide +kernel
theorem dX8_copy_97 : decode cX8_copy 97 = .ok (.ireturn, 1) := by decide +kernel
theorem dX8_copy_98 : decode cX8_copy 98 = .ok (.aload_n 0, 1) := by decide +kernel
theorem dX8_copy_99 : decode cX8_copy 99 = .ok (.getfield 32, 3) := by decide +kernel
theorem dX8_copy_102 : decode cX8_copy 102 = .ok (.getfield 111, 3) := by decide +kernel
theorem dX8_copy_105 : decode cX8_copy 105 = .ok (.iload_n 1, 1) := by decide +kernel
theorem dX8_copy_106 : decode cX8_copy 106 = .ok (.aaload, 1) := by decide +kernel
theorem dX8_copy_107 : decode cX8_copy 107 = .ok (.iload_n 2, 1) := by decide +kernel
theorem dX8_copy_108 : decode cX8_copy 108 = .ok (.aload_n 0, 1) := by decide +kernel
theorem dX8_copy_109 : decode cX8_copy 109 = .ok (.getfield 32, 3) := by decide +kernel
theorem dX8_copy_112 : decode cX8_copy 112 = .ok (.getfield 111, 3) := by decide +kernel
theorem dX8_copy_115 : decode cX8_copy 115 = .ok (.iload_n 3, 1) := by decide +kernel
theorem dX8_copy_116 : decode cX8_copy 116 = .ok (.aaload, 1) := by decide +kernel
theorem dX8_copy_117 : decode cX8_copy 117 = .ok (.iload 4, 2) := by decide +kernel
theorem dX8_copy_119 : decode cX8_copy 119 = .ok (.iload 5, 2) := by decide +kernel
theorem dX8_copy_121 : decode cX8_copy 121 = .ok (.invokestatic 121, 3) := by decide +kernel
theorem dX8_copy_124 : decode cX8_copy 124 = .ok (.iload 5, 2) := by decide +kernel
theorem dX8_copy_126 : decode cX8_copy 126 = .ok (.ireturn, 1) := by decide +kernel
theorem dX8_read_0 : decode cX8_read 0 = .ok (.iload_n 1, 1) := by decide +kernel
theorem dX8_read_1 : decode cX8_read 1 = .ok (.invokestatic 95, 3) := by decide +kernel
theorem dX8_read_4 : decode cX8_read 4 = .ok (.ifCond .ne 6, 3) := by decide +kernel
theorem dX8_read_7 : decode cX8_read 7 = .ok (.bipush (-3), 2) := by decide +kernel
theorem dX8_read_9 : decode cX8_read 9 = .ok (.ireturn, 1) := by decide +kernel
theorem dX8_read_10 : decode cX8_read 10 = .ok (.aload_n 0, 1) := by decide +kernel
theorem dX8_read_11 : decode cX8_read 11 = .ok (.getfield 32, 3) := by decide +kernel
theorem dX8_read_14 : decode cX8_read 14 = .ok (.iload_n 1, 1) := by decide +kernel
theorem dX8_read_15 : decode cX8_read 15 = .ok (.invokevirtual 102, 3) := by decide +kernel
theorem dX8_read_18 : decode cX8_read 18 = .ok (.ifCond .eq 6, 3) := by decide +kernel
theorem dX8_read_21 : decode cX8_read 21 = .ok (.bipush (-11), 2) := by decide +kernel
theorem dX8_read_23 : decode cX8_read 23 = .ok (.ireturn, 1) := by decide +kernel
theorem dX8_read_24 : decode cX8_read 24 = .ok (.aload_n 0, 1) := by decide +kernel
theorem dX8_read_25 : decode cX8_read 25 = .ok (.getfield 32, 3) := by decide +kernel
theorem dX8_read_28 : decode cX8_read 28 = .ok (.getfield 105, 3) := by decide +kernel
theorem dX8_read_31 : decode cX8_read 31 = .ok (.iload_n 1, 1) := by decide +kernel
theorem dX8_read_32 : decode cX8_read 32 = .ok (.iaload, 1) := by decide +kernel
theorem dX8_read_33 : decode cX8_read 33 = .ok (.aload_n 0, 1) := by decide +kernel
theorem dX8_read_34 : decode cX8_read 34 = .ok (.getfield 16, 3) := by decide +kernel
theorem dX8_read_37 : decode cX8_read 37 = .ok (.getfield 77, 3) := by decide +kernel
theorem dX8_read_40 : decode cX8_read 40 = .ok (.invokestatic 127, 3) := by decide +kernel
theorem dX8_read_43 : decode cX8_read 43 = .ok (.istore_n 2, 1) := by decide +kernel
theorem dX8_read_44 : decode cX8_read 44 = .ok (.iconst 0, 1) := by decide +kernel
theorem dX8_read_45 : decode cX8_read 45 = .ok (.istore_n 3, 1) := by decide +kernel
theorem dX8_read_46 : decode cX8_read 46 = .ok (.iload_n 3, 1) := by decide +kernel
theorem dX8_read_47 : decode cX8_read 47 = .ok (.iload_n 2, 1) := by decide +kernel
theorem dX8_read_48 : decode cX8_read 48 = .ok (.if_icmp .ge 35, 3) := by decide +kernel
theorem dX8_read_51 : decode cX8_read 51 = .ok (.aload_n 0, 1) := by decide +kernel
theorem dX8_read_52 : decode cX8_read 52 = .ok (.getfield 32, 3) := by decide +kernel
theorem dX8_read_55 : decode cX8_read 55 = .ok (.getfield 111, 3) := by decide +kernel
theorem dX8_read_58 : decode cX8_read 58 = .ok (.iload_n 1, 1) := by decide +kernel
theorem dX8_read_59 : decode cX8_read 59 = .ok (.aaload, 1) := by decide +kernel
theorem dX8_read_60 : decode cX8_read 60 = .ok (.iload_n 3, 1) := by decide +kernel
theorem dX8_read_61 : decode cX8_read 61 = .ok (.iaload, 1) := by decide +kernel
theorem dX8_read_62 : decode cX8_read 62 = .ok (.iconst 0, 1) := by decide +kernel
theorem dX8_read_63 : decode cX8_read 63 = .ok (.getstatic 88, 3) := by decide +kernel
theorem dX8_read_66 : decode cX8_read 66 = .ok (.iconst 0, 1) := by decide +kernel
theorem dX8_read_67 : decode cX8_read 67 = .ok (.iaload, 1) := by decide +kernel
theorem dX8_read_68 : decode cX8_read 68 = .ok (.invokestatic 65, 3) := by decide +kernel
theorem dX8_read_71 : decode cX8_read 71 = .ok (.ifCond .ne 6, 3) := by decide +kernel
theorem dX8_read_74 : decode cX8_read 74 = .ok (.bipush (-4), 2) := by decide +kernel
theorem dX8_read_76 : decode cX8_read 76 = .ok (.ireturn, 1) := by decide +kernel
theorem dX8_read_77 : decode cX8_read 77 = .ok (.iinc 3 1, 3) := by decide +kernel
theorem dX8_read_80 : decode cX8_read 80 = .ok (.goto (-34), 3) := by decide +kernel
theorem dX8_read_83 : decode cX8_read 83 = .ok (.aload_n 0, 1) := by decide +kernel
theorem dX8_read_84 : decode cX8_read 84 = .ok (.getfield 32, 3) := by decide +kernel
theorem dX8_read_87 : decode cX8_read 87 = .ok (.getfield 111, 3) := by decide +kernel
theorem dX8_read_90 : decode cX8_read 90 = .ok (.iload_n 1, 1) := by decide +kernel
theorem dX8_read_91 : decode cX8_read 91 = .ok (.aaload, 1) := by decide +kernel
theorem dX8_read_92 : decode cX8_read 92 = .ok (.iconst 0, 1) := by decide +kernel
theorem dX8_read_93 : decode cX8_read 93 = .ok (.aload_n 0, 1) := by decide +kernel
theorem dX8_read_94 : decode cX8_read 94 = .ok (.getfield 16, 3) := by decide +kernel
theorem dX8_read_97 : decode cX8_read 97 = .ok (.getfield 91, 3) := by decide +kernel
theorem dX8_read_100 : decode cX8_read 100 = .ok (.iconst 0, 1) := by decide +kernel
theorem dX8_read_101 : decode cX8_read 101 = .ok (.aaload, 1) := by decide +kernel
theorem dX8_read_102 : decode cX8_read 102 = .ok (.iconst 0, 1) := by decide +kernel
theorem dX8_read_103 : decode cX8_read 103 = .ok (.iload_n 2, 1) := by decide +kernel
theorem dX8_read_104 : decode cX8_read 104 = .ok (.invokestatic 121, 3) := by decide +kernel
theorem dX8_read_107 : decode cX8_read 107 = .ok (.iload_n 2, 1) := by decide +kernel
theorem dX8_read_108 : decode cX8_read 108 = .ok (.ireturn, 1) := by decide +kernel
theorem dX8_road_0 : decode cX8_road 0 = .ok (.aload_n 0, 1) := by decide +kernel
theorem dX8_road_1 : decode cX8_road 1 = .ok (.getfield 16, 3) := by decide +kernel
theorem dX8_road_4 : decode cX8_road 4 = .ok (.iload_n 1, 1) := by decide +kernel
theorem dX8_road_5 : decode cX8_road 5 = .ok (.invokevirtual 81, 3) := by decide +kernel
theorem dX8_road_8 : decode cX8_road 8 = .ok (.ifCond .eq 19, 3) := by decide +kernel
theorem dX8_road_11 : decode cX8_road 11 = .ok (.aload_n 0, 1) := by decide +kernel
theorem dX8_road_12 : decode cX8_road 12 = .ok (.getfield 16, 3) := by decide +kernel
theorem dX8_road_15 : decode cX8_road 15 = .ok (.iload_n 2, 1) := by decide +kernel
theorem dX8_road_16 : decode cX8_road 16 = .ok (.invokevirtual 81, 3) := by decide +kernel
theorem dX8_road_19 : decode cX8_road 19 = .ok (.ifCond .eq 8, 3) := by decide +kernel
theorem dX8_road_22 : decode cX8_road 22 = .ok (.iload_n 1, 1) := by decide +kernel
theorem dX8_road_23 : decode cX8_road 23 = .ok (.iload_n 2, 1) := by decide +kernel
theorem dX8_road_24 : decode cX8_road 24 = .ok (.if_icmp .ne 6, 3) := by decide +kernel
theorem dX8_road_27 : decode cX8_road 27 = .ok (.bipush (-3), 2) := by decide +kernel
theorem dX8_road_29 : decode cX8_road 29 = .ok (.ireturn, 1) := by decide +kernel
theorem dX8_road_30 : decode cX8_road 30 = .ok (.aload_n 0, 1) := by decide +kernel
theorem dX8_road_31 : decode cX8_road 31 = .ok (.getfield 16, 3) := by decide +kernel
theorem dX8_road_34 : decode cX8_road 34 = .ok (.iload_n 1, 1) := by decide +kernel
theorem dX8_road_35 : decode cX8_road 35 = .ok (.invokevirtual 132, 3) := by decide +kernel
theorem dX8_road_38 : decode cX8_road 38 = .ok (.ifCond .ne 14, 3) := by decide +kernel
theorem dX8_road_41 : decode cX8_road 41 = .ok (.aload_n 0, 1) := by decide +kernel
theorem dX8_road_42 : decode cX8_road 42 = .ok (.getfield 16, 3) := by decide +kernel
theorem dX8_road_45 : decode cX8_road 45 = .ok (.iload_n 2, 1) := by decide +kernel
theorem dX8_road_46 : decode cX8_road 46 = .ok (.invokevirtual 132, 3) := by decide +kernel
theorem dX8_road_49 : decode cX8_road 49 = .ok (.ifCond .eq 6, 3) := by decide +kernel
theorem dX8_road_52 : decode cX8_road 52 = .ok (.bipush (-4), 2) := by decide +kernel
theorem dX8_road_54 : decode cX8_road 54 = .ok (.ireturn, 1) := by decide +kernel
theorem dX8_road_55 : decode cX8_road 55 = .ok (.aload_n 0, 1) := by decide +kernel
theorem dX8_road_56 : decode cX8_road 56 = .ok (.getfield 25, 3) := by decide +kernel
theorem dX8_road_59 : decode cX8_road 59 = .ok (.iload_n 1, 1) := by decide +kernel
theorem dX8_road_60 : decode cX8_road 60 = .ok (.iload_n 2, 1) := by decide +kernel
theorem dX8_road_61 : decode cX8_road 61 = .ok (.invokevirtual 135, 3) := by decide +kernel
theorem dX8_road_64 : decode cX8_road 64 = .ok (.ireturn, 1) := by decide +kernel
theorem dX8_claimant_0 : decode cX8_claimant 0 = .ok (.iload_n 1, 1) := by decide +kernel
theorem dX8_claimant_1 : decode cX8_claimant 1 = .ok (.invokestatic 138, 3) := by decide +kernel
theorem dX8_claimant_4 : decode cX8_claimant 4 = .ok (.ifCond .eq 14, 3) := by decide +kernel
theorem dX8_claimant_7 : decode cX8_claimant 7 = .ok (.aload_n 0, 1) := by decide +kernel
theorem dX8_claimant_8 : decode cX8_claimant 8 = .ok (.getfield 16, 3) := by decide +kernel
theorem dX8_claimant_11 : decode cX8_claimant 11 = .ok (.iload_n 2, 1) := by decide +kernel
theorem dX8_claimant_12 : decode cX8_claimant 12 = .ok (.invokevirtual 81, 3) := by decide +kernel
theorem dX8_claimant_15 : decode cX8_claimant 15 = .ok (.ifCond .ne 6, 3) := by decide +kernel
theorem dX8_claimant_18 : decode cX8_claimant 18 = .ok (.bipush (-3), 2) := by decide +kernel
theorem dX8_claimant_20 : decode cX8_claimant 20 = .ok (.ireturn, 1) := by decide +kernel
theorem dX8_claimant_21 : decode cX8_claimant 21 = .ok (.aload_n 0, 1) := by decide +kernel
theorem dX8_claimant_22 : decode cX8_claimant 22 = .ok (.getfield 39, 3) := by decide +kernel
theorem dX8_claimant_25 : decode cX8_claimant 25 = .ok (.getfield 141, 3) := by decide +kernel
theorem dX8_claimant_28 : decode cX8_claimant 28 = .ok (.bipush 8, 2) := by decide +kernel
theorem dX8_claimant_30 : decode cX8_claimant 30 = .ok (.if_icmp .lt 6, 3) := by decide +kernel
theorem dX8_claimant_33 : decode cX8_claimant 33 = .ok (.bipush (-5), 2) := by decide +kernel
theorem dX8_claimant_35 : decode cX8_claimant 35 = .ok (.ireturn, 1) := by decide +kernel
theorem dX8_claimant_36 : decode cX8_claimant 36 = .ok (.aload_n 0, 1) := by decide +kernel
theorem dX8_claimant_37 : decode cX8_claimant 37 = .ok (.getfield 39, 3) := by decide +kernel
theorem dX8_claimant_40 : decode cX8_claimant 40 = .ok (.iload_n 1, 1) := by decide +kernel
theorem dX8_claimant_41 : decode cX8_claimant 41 = .ok (.iload_n 2, 1) := by decide +kernel
theorem dX8_claimant_42 : decode cX8_claimant 42 = .ok (.invokevirtual 144, 3) := by decide +kernel
theorem dX8_claimant_45 : decode cX8_claimant 45 = .ok (.ireturn, 1) := by decide +kernel
theorem dX8_isOf_0 : decode cX8_isOf 0 = .ok (.aload_n 0, 1) := by decide +kernel
theorem dX8_isOf_1 : decode cX8_isOf 1 = .ok (.getfield 39, 3) := by decide +kernel
theorem dX8_isOf_4 : decode cX8_isOf 4 = .ok (.iload_n 1, 1) := by decide +kernel
theorem dX8_isOf_5 : decode cX8_isOf 5 = .ok (.invokevirtual 147, 3) := by decide +kernel
theorem dX8_isOf_8 : decode cX8_isOf 8 = .ok (.ifCond .eq 10, 3) := by decide +kernel
theorem dX8_isOf_11 : decode cX8_isOf 11 = .ok (.iload_n 2, 1) := by decide +kernel
theorem dX8_isOf_12 : decode cX8_isOf 12 = .ok (.invokestatic 138, 3) := by decide +kernel
theorem dX8_isOf_15 : decode cX8_isOf 15 = .ok (.ifCond .ne 6, 3) := by decide +kernel
theorem dX8_isOf_18 : decode cX8_isOf 18 = .ok (.bipush (-3), 2) := by decide +kernel
theorem dX8_isOf_20 : decode cX8_isOf 20 = .ok (.ireturn, 1) := by decide +kernel
theorem dX8_isOf_21 : decode cX8_isOf 21 = .ok (.aload_n 0, 1) := by decide +kernel
theorem dX8_isOf_22 : decode cX8_isOf 22 = .ok (.getfield 39, 3) := by decide +kernel
theorem dX8_isOf_25 : decode cX8_isOf 25 = .ok (.getfield 150, 3) := by decide +kernel
theorem dX8_isOf_28 : decode cX8_isOf 28 = .ok (.iload_n 1, 1) := by decide +kernel
theorem dX8_isOf_29 : decode cX8_isOf 29 = .ok (.iaload, 1) := by decide +kernel
theorem dX8_isOf_30 : decode cX8_isOf 30 = .ok (.istore_n 3, 1) := by decide +kernel
theorem dX8_isOf_31 : decode cX8_isOf 31 = .ok (.iload_n 2, 1) := by decide +kernel
theorem dX8_isOf_32 : decode cX8_isOf 32 = .ok (.ifCond .eq 18, 3) := by decide +kernel
theorem dX8_isOf_35 : decode cX8_isOf 35 = .ok (.iload_n 2, 1) := by decide +kernel
theorem dX8_isOf_36 : decode cX8_isOf 36 = .ok (.iload_n 3, 1) := by decide +kernel
theorem dX8_isOf_37 : decode cX8_isOf 37 = .ok (.if_icmp .eq 13, 3) := by decide +kernel
theorem dX8_isOf_40 : decode cX8_isOf 40 = .ok (.iload_n 2, 1) := by decide +kernel
theorem dX8_isOf_41 : decode cX8_isOf 41 = .ok (.iconst 1, 1) := by decide +kernel
theorem dX8_isOf_42 : decode cX8_isOf 42 = .ok (.if_icmp .ne 12, 3) := by decide +kernel
theorem dX8_isOf_45 : decode cX8_isOf 45 = .ok (.iload_n 3, 1) := by decide +kernel
theorem dX8_isOf_46 : decode cX8_isOf 46 = .ok (.iconst 3, 1) := by decide +kernel
theorem dX8_isOf_47 : decode cX8_isOf 47 = .ok (.if_icmp .ne 7, 3) := by decide +kernel
theorem dX8_isOf_50 : decode cX8_isOf 50 = .ok (.iconst 1, 1) := by decide +kernel
theorem dX8_isOf_51 : decode cX8_isOf 51 = .ok (.goto 4, 3) := by decide +kernel
theorem dX8_isOf_54 : decode cX8_isOf 54 = .ok (.iconst 0, 1) := by decide +kernel
theorem dX8_isOf_55 : decode cX8_isOf 55 = .ok (.istore 4, 2) := by decide +kernel
theorem dX8_isOf_57 : decode cX8_isOf 57 = .ok (.iload 4, 2) := by decide +kernel
theorem dX8_isOf_59 : decode cX8_isOf 59 = .ok (.ifCond .eq 7, 3) := by decide +kernel
theorem dX8_isOf_62 : decode cX8_isOf 62 = .ok (.iconst 1, 1) := by decide +kernel
theorem dX8_isOf_63 : decode cX8_isOf 63 = .ok (.goto 4, 3) := by decide +kernel
theorem dX8_isOf_66 : decode cX8_isOf 66 = .ok (.iconst 0, 1) := by decide +kernel
theorem dX8_isOf_67 : decode cX8_isOf 67 = .ok (.ireturn, 1) := by decide +kernel
theorem dX8_claim_0 : decode cX8_claim 0 = .ok (.iload_n 2, 1) := by decide +kernel
theorem dX8_claim_1 : decode cX8_claim 1 = .ok (.bipush 101, 2) := by decide +kernel
theorem dX8_claim_3 : decode cX8_claim 3 = .ok (.sipush 150, 3) := by decide +kernel
theorem dX8_claim_6 : decode cX8_claim 6 = .ok (.invokestatic 65, 3) := by decide +kernel
theorem dX8_claim_9 : decode cX8_claim 9 = .ok (.istore 5, 2) := by decide +kernel
theorem dX8_claim_11 : decode cX8_claim 11 = .ok (.aload_n 0, 1) := by decide +kernel
theorem dX8_claim_12 : decode cX8_claim 12 = .ok (.getfield 39, 3) := by decide +kernel
theorem dX8_claim_15 : decode cX8_claim 15 = .ok (.iload_n 1, 1) := by decide +kernel
theorem dX8_claim_16 : decode cX8_claim 16 = .ok (.invokevirtual 147, 3) := by decide +kernel
theorem dX8_claim_19 : decode cX8_claim 19 = .ok (.ifCond .eq 19, 3) := by decide +kernel
theorem dX8_claim_22 : decode cX8_claim 22 = .ok (.iload 5, 2) := by decide +kernel
theorem dX8_claim_24 : decode cX8_claim 24 = .ok (.ifCond .ne 17, 3) := by decide +kernel
theorem dX8_claim_27 : decode cX8_claim 27 = .ok (.aload_n 0, 1) := by decide +kernel
theorem dX8_claim_28 : decode cX8_claim 28 = .ok (.getfield 16, 3) := by decide +kernel
theorem dX8_claim_31 : decode cX8_claim 31 = .ok (.iload_n 2, 1) := by decide +kernel
theorem dX8_claim_32 : decode cX8_claim 32 = .ok (.invokevirtual 81, 3) := by decide +kernel
theorem dX8_claim_35 : decode cX8_claim 35 = .ok (.ifCond .ne 6, 3) := by decide +kernel
theorem dX8_claim_38 : decode cX8_claim 38 = .ok (.bipush (-3), 2) := by decide +kernel
theorem dX8_claim_40 : decode cX8_claim 40 = .ok (.ireturn, 1) := by decide +kernel
theorem dX8_claim_41 : decode cX8_claim 41 = .ok (.iload_n 3, 1) := by decide +kernel
theorem dX8_claim_42 : decode cX8_claim 42 = .ok (.iconst 0, 1) := by decide +kernel
theorem dX8_claim_43 : decode cX8_claim 43 = .ok (.iconst 3, 1) := by decide +kernel
theorem dX8_claim_44 : decode cX8_claim 44 = .ok (.invokestatic 65, 3) := by decide +kernel
theorem dX8_claim_47 : decode cX8_claim 47 = .ok (.ifCond .eq 11, 3) := by decide +kernel
theorem dX8_claim_50 : decode cX8_claim 50 = .ok (.iload 4, 2) := by decide +kernel
theorem dX8_claim_52 : decode cX8_claim 52 = .ok (.invokestatic 153, 3) := by decide +kernel
theorem dX8_claim_55 : decode cX8_claim 55 = .ok (.ifCond .ne 6, 3) := by decide +kernel
theorem dX8_claim_58 : decode cX8_claim 58 = .ok (.bipush (-3), 2) := by decide +kernel
theorem dX8_claim_60 : decode cX8_claim 60 = .ok (.ireturn, 1) := by decide +kernel
theorem dX8_claim_61 : decode cX8_claim 61 = .ok (.aload_n 0, 1) := by decide +kernel
theorem dX8_claim_62 : decode cX8_claim 62 = .ok (.getfield 39, 3) := by decide +kernel
theorem dX8_claim_65 : decode cX8_claim 65 = .ok (.getfield 156, 3) := by decide +kernel
theorem dX8_claim_68 : decode cX8_claim 68 = .ok (.bipush 40, 2) := by decide +kernel
theorem dX8_claim_70 : decode cX8_claim 70 = .ok (.if_icmp .lt 6, 3) := by decide +kernel
theorem dX8_claim_73 : decode cX8_claim 73 = .ok (.bipush (-5), 2) := by decide +kernel
theorem dX8_claim_75 : decode cX8_claim 75 = .ok (.ireturn, 1) := by decide +kernel
theorem dX8_claim_76 : decode cX8_claim 76 = .ok (.aload_n 0, 1) := by decide +kernel
theorem dX8_claim_77 : decode cX8_claim 77 = .ok (.getfield 39, 3) := by decide +kernel
theorem dX8_claim_80 : decode cX8_claim 80 = .ok (.iload_n 1, 1) := by decide +kernel
theorem dX8_claim_81 : decode cX8_claim 81 = .ok (.iload_n 2, 1) := by decide +kernel
theorem dX8_claim_82 : decode cX8_claim 82 = .ok (.iload_n 3, 1) := by decide +kernel
theorem dX8_claim_83 : decode cX8_claim 83 = .ok (.iload 4, 2) := by decide +kernel
theorem dX8_claim_85 : decode cX8_claim 85 = .ok (.invokevirtual 159, 3) := by decide +kernel
theorem dX8_claim_88 : decode cX8_claim 88 = .ok (.ireturn, 1) := by decide +kernel
theorem dX8_withdraw_0 : decode cX8_withdraw 0 = .ok (.aload_n 0, 1) := by decide +kernel
theorem dX8_withdraw_1 : decode cX8_withdraw 1 = .ok (.getfield 39, 3) := by decide +kernel
theorem dX8_withdraw_4 : decode cX8_withdraw 4 = .ok (.getfield 156, 3) := by decide +kernel
theorem dX8_withdraw_7 : decode cX8_withdraw 7 = .ok (.ifCond .ne 6, 3) := by decide +kernel
theorem dX8_withdraw_10 : decode cX8_withdraw 10 = .ok (.bipush (-4), 2) := by decide +kernel
theorem dX8_withdraw_12 : decode cX8_withdraw 12 = .ok (.ireturn, 1) := by decide +kernel
theorem dX8_withdraw_13 : decode cX8_withdraw 13 = .ok (.aload_n 0, 1) := by decide +kernel
theorem dX8_withdraw_14 : decode cX8_withdraw 14 = .ok (.getfield 39, 3) := by decide +kernel
theorem dX8_withdraw_17 : decode cX8_withdraw 17 = .ok (.dup, 1) := by decide +kernel
theorem dX8_withdraw_18 : decode cX8_withdraw 18 = .ok (.getfield 156, 3) := by decide +kernel
theorem dX8_withdraw_21 : decode cX8_withdraw 21 = .ok (.iconst 1, 1) := by decide +kernel
theorem dX8_withdraw_22 : decode cX8_withdraw 22 = .ok (.isub, 1) := by decide +kernel
theorem dX8_withdraw_23 : decode cX8_withdraw 23 = .ok (.putfield 156, 3) := by decide +kernel
theorem dX8_withdraw_26 : decode cX8_withdraw 26 = .ok (.aload_n 0, 1) := by decide +kernel
theorem dX8_withdraw_27 : decode cX8_withdraw 27 = .ok (.getfield 39, 3) := by decide +kernel
theorem dX8_withdraw_30 : decode cX8_withdraw 30 = .ok (.getfield 156, 3) := by decide +kernel
theorem dX8_withdraw_33 : decode cX8_withdraw 33 = .ok (.ireturn, 1) := by decide +kernel
theorem dX8_rule_0 : decode cX8_rule 0 = .ok (.iload_n 1, 1) := by decide +kernel
theorem dX8_rule_1 : decode cX8_rule 1 = .ok (.iconst 0, 1) := by decide +kernel
theorem dX8_rule_2 : decode cX8_rule 2 = .ok (.iconst 4, 1) := by decide +kernel
theorem dX8_rule_3 : decode cX8_rule 3 = .ok (.invokestatic 65, 3) := by decide +kernel
theorem dX8_rule_6 : decode cX8_rule 6 = .ok (.ifCond .eq 16, 3) := by decide +kernel
theorem dX8_rule_9 : decode cX8_rule 9 = .ok (.iload_n 2, 1) := by decide +kernel
theorem dX8_rule_10 : decode cX8_rule 10 = .ok (.iconst 0, 1) := by decide +kernel
theorem dX8_rule_11 : decode cX8_rule 11 = .ok (.getstatic 163, 3) := by decide +kernel
theorem dX8_rule_14 : decode cX8_rule 14 = .ok (.iload_n 1, 1) := by decide +kernel
theorem dX8_rule_15 : decode cX8_rule 15 = .ok (.iaload, 1) := by decide +kernel
theorem dX8_rule_16 : decode cX8_rule 16 = .ok (.invokestatic 65, 3) := by decide +kernel
theorem dX8_rule_19 : decode cX8_rule 19 = .ok (.ifCond .ne 6, 3) := by decide +kernel
theorem dX8_rule_22 : decode cX8_rule 22 = .ok (.bipush (-3), 2) := by decide +kernel
theorem dX8_rule_24 : decode cX8_rule 24 = .ok (.ireturn, 1) := by decide +kernel
theorem dX8_rule_25 : decode cX8_rule 25 = .ok (.aload_n 0, 1) := by decide +kernel
theorem dX8_rule_26 : decode cX8_rule 26 = .ok (.getfield 7, 3) := by decide +kernel
theorem dX8_rule_29 : decode cX8_rule 29 = .ok (.iload_n 1, 1) := by decide +kernel
theorem dX8_rule_30 : decode cX8_rule 30 = .ok (.iaload, 1) := by decide +kernel
theorem dX8_rule_31 : decode cX8_rule 31 = .ok (.istore_n 3, 1) := by decide +kernel
theorem dX8_rule_32 : decode cX8_rule 32 = .ok (.aload_n 0, 1) := by decide +kernel
theorem dX8_rule_33 : decode cX8_rule 33 = .ok (.getfield 7, 3) := by decide +kernel
theorem dX8_rule_36 : decode cX8_rule 36 = .ok (.iload_n 1, 1) := by decide +kernel
theorem dX8_rule_37 : decode cX8_rule 37 = .ok (.iload_n 2, 1) := by decide +kernel
theorem dX8_rule_38 : decode cX8_rule 38 = .ok (.iastore, 1) := by decide +kernel
theorem dX8_rule_39 : decode cX8_rule 39 = .ok (.iload_n 3, 1) := by decide +kernel
theorem dX8_rule_40 : decode cX8_rule 40 = .ok (.ireturn, 1) := by decide +kernel
theorem dX8_object_0 : decode cX8_object 0 = .ok (.aload_n 0, 1) := by decide +kernel
theorem dX8_object_1 : decode cX8_object 1 = .ok (.getfield 39, 3) := by decide +kernel
theorem dX8_object_4 : decode cX8_object 4 = .ok (.iload_n 1, 1) := by decide +kernel
theorem dX8_object_5 : decode cX8_object 5 = .ok (.invokevirtual 147, 3) := by decide +kernel
theorem dX8_object_8 : decode cX8_object 8 = .ok (.ifCond .eq 21, 3) := by decide +kernel
theorem dX8_object_11 : decode cX8_object 11 = .ok (.aload_n 0, 1) := by decide +kernel
theorem dX8_object_12 : decode cX8_object 12 = .ok (.getfield 16, 3) := by decide +kernel
theorem dX8_object_15 : decode cX8_object 15 = .ok (.iload_n 2, 1) := by decide +kernel
theorem dX8_object_16 : decode cX8_object 16 = .ok (.invokevirtual 81, 3) := by decide +kernel
theorem dX8_object_19 : decode cX8_object 19 = .ok (.ifCond .eq 10, 3) := by decide +kernel
theorem dX8_object_22 : decode cX8_object 22 = .ok (.iload_n 3, 1) := by decide +kernel
theorem dX8_object_23 : decode cX8_object 23 = .ok (.invokestatic 153, 3) := by decide +kernel
theorem dX8_object_26 : decode cX8_object 26 = .ok (.ifCond .ne 6, 3) := by decide +kernel
theorem dX8_object_29 : decode cX8_object 29 = .ok (.bipush (-3), 2) := by decide +kernel
theorem dX8_object_31 : decode cX8_object 31 = .ok (.ireturn, 1) := by decide +kernel
theorem dX8_object_32 : decode cX8_object 32 = .ok (.aload_n 0, 1) := by decide +kernel
theorem dX8_object_33 : decode cX8_object 33 = .ok (.getfield 39, 3) := by decide +kernel
theorem dX8_object_36 : decode cX8_object 36 = .ok (.getfield 166, 3) := by decide +kernel
theorem dX8_object_39 : decode cX8_object 39 = .ok (.bipush 20, 2) := by decide +kernel
theorem dX8_object_41 : decode cX8_object 41 = .ok (.if_icmp .lt 6, 3) := by decide +kernel
theorem dX8_object_44 : decode cX8_object 44 = .ok (.bipush (-5), 2) := by decide +kernel
theorem dX8_object_46 : decode cX8_object 46 = .ok (.ireturn, 1) := by decide +kernel
theorem dX8_object_47 : decode cX8_object 47 = .ok (.aload_n 0, 1) := by decide +kernel
theorem dX8_object_48 : decode cX8_object 48 = .ok (.getfield 39, 3) := by decide +kernel
theorem dX8_object_51 : decode cX8_object 51 = .ok (.iload_n 1, 1) := by decide +kernel
theorem dX8_object_52 : decode cX8_object 52 = .ok (.iload_n 2, 1) := by decide +kernel
theorem dX8_object_53 : decode cX8_object 53 = .ok (.iload_n 3, 1) := by decide +kernel
theorem dX8_object_54 : decode cX8_object 54 = .ok (.invokevirtual 169, 3) := by decide +kernel
theorem dX8_object_57 : decode cX8_object 57 = .ok (.ireturn, 1) := by decide +kernel
theorem dX8_upheld_0 : decode cX8_upheld 0 = .ok (.iload_n 1, 1) := by decide +kernel
theorem dX8_upheld_1 : decode cX8_upheld 1 = .ok (.iconst 0, 1) := by decide +kernel
theorem dX8_upheld_2 : decode cX8_upheld 2 = .ok (.aload_n 0, 1) := by decide +kernel
theorem dX8_upheld_3 : decode cX8_upheld 3 = .ok (.getfield 39, 3) := by decide +kernel
theorem dX8_upheld_6 : decode cX8_upheld 6 = .ok (.getfield 166, 3) := by decide +kernel
theorem dX8_upheld_9 : decode cX8_upheld 9 = .ok (.iconst 1, 1) := by decide +kernel
theorem dX8_upheld_10 : decode cX8_upheld 10 = .ok (.isub, 1) := by decide +kernel
theorem dX8_upheld_11 : decode cX8_upheld 11 = .ok (.invokestatic 65, 3) := by decide +kernel
theorem dX8_upheld_14 : decode cX8_upheld 14 = .ok (.ifCond .ne 6, 3) := by decide +kernel
theorem dX8_upheld_17 : decode cX8_upheld 17 = .ok (.bipush (-3), 2) := by decide +kernel
theorem dX8_upheld_19 : decode cX8_upheld 19 = .ok (.ireturn, 1) := by decide +kernel
theorem dX8_upheld_20 : decode cX8_upheld 20 = .ok (.aload_n 0, 1) := by decide +kernel
theorem dX8_upheld_21 : decode cX8_upheld 21 = .ok (.getfield 39, 3) := by decide +kernel
theorem dX8_upheld_24 : decode cX8_upheld 24 = .ok (.iload_n 1, 1) := by decide +kernel
theorem dX8_upheld_25 : decode cX8_upheld 25 = .ok (.aload_n 0, 1) := by decide +kernel
theorem dX8_upheld_26 : decode cX8_upheld 26 = .ok (.getfield 7, 3) := by decide +kernel
theorem dX8_upheld_29 : decode cX8_upheld 29 = .ok (.iconst 0, 1) := by decide +kernel
theorem dX8_upheld_30 : decode cX8_upheld 30 = .ok (.iaload, 1) := by decide +kernel
theorem dX8_upheld_31 : decode cX8_upheld 31 = .ok (.invokevirtual 173, 3) := by decide +kernel
theorem dX8_upheld_34 : decode cX8_upheld 34 = .ok (.ifCond .eq 7, 3) := by decide +kernel
theorem dX8_upheld_37 : decode cX8_upheld 37 = .ok (.iconst 1, 1) := by decide +kernel
theorem dX8_upheld_38 : decode cX8_upheld 38 = .ok (.goto 4, 3) := by decide +kernel
theorem dX8_upheld_41 : decode cX8_upheld 41 = .ok (.iconst 0, 1) := by decide +kernel
theorem dX8_upheld_42 : decode cX8_upheld 42 = .ok (.ireturn, 1) := by decide +kernel
theorem dX8_holder_0 : decode cX8_holder 0 = .ok (.aload_n 0, 1) := by decide +kernel
theorem dX8_holder_1 : decode cX8_holder 1 = .ok (.getfield 16, 3) := by decide +kernel
theorem dX8_holder_4 : decode cX8_holder 4 = .ok (.iload_n 1, 1) := by decide +kernel
theorem dX8_holder_5 : decode cX8_holder 5 = .ok (.invokevirtual 81, 3) := by decide +kernel
theorem dX8_holder_8 : decode cX8_holder 8 = .ok (.ifCond .eq 10, 3) := by decide +kernel
theorem dX8_holder_11 : decode cX8_holder 11 = .ok (.iload_n 2, 1) := by decide +kernel
theorem dX8_holder_12 : decode cX8_holder 12 = .ok (.invokestatic 153, 3) := by decide +kernel
theorem dX8_holder_15 : decode cX8_holder 15 = .ok (.ifCond .ne 6, 3) := by decide +kernel
theorem dX8_holder_18 : decode cX8_holder 18 = .ok (.bipush (-3), 2) := by decide +kernel
theorem dX8_holder_20 : decode cX8_holder 20 = .ok (.ireturn, 1) := by decide +kernel
theorem dX8_holder_21 : decode cX8_holder 21 = .ok (.aload_n 0, 1) := by decide +kernel
theorem dX8_holder_22 : decode cX8_holder 22 = .ok (.getfield 39, 3) := by decide +kernel
theorem dX8_holder_25 : decode cX8_holder 25 = .ok (.iload_n 1, 1) := by decide +kernel
theorem dX8_holder_26 : decode cX8_holder 26 = .ok (.iload_n 2, 1) := by decide +kernel
theorem dX8_holder_27 : decode cX8_holder 27 = .ok (.aload_n 0, 1) := by decide +kernel
theorem dX8_holder_28 : decode cX8_holder 28 = .ok (.getfield 7, 3) := by decide +kernel
theorem dX8_holder_31 : decode cX8_holder 31 = .ok (.iconst 0, 1) := by decide +kernel
theorem dX8_holder_32 : decode cX8_holder 32 = .ok (.iaload, 1) := by decide +kernel
theorem dX8_holder_33 : decode cX8_holder 33 = .ok (.invokevirtual 177, 3) := by decide +kernel
theorem dX8_holder_36 : decode cX8_holder 36 = .ok (.ireturn, 1) := by decide +kernel
theorem dX8_sum_0 : decode cX8_sum 0 = .ok (.iload_n 1, 1) := by decide +kernel
theorem dX8_sum_1 : decode cX8_sum 1 = .ok (.iconst 0, 1) := by decide +kernel
theorem dX8_sum_2 : decode cX8_sum 2 = .ok (.iconst 5, 1) := by decide +kernel
theorem dX8_sum_3 : decode cX8_sum 3 = .ok (.invokestatic 65, 3) := by decide +kernel
theorem dX8_sum_6 : decode cX8_sum 6 = .ok (.ifCond .eq 10, 3) := by decide +kernel
theorem dX8_sum_9 : decode cX8_sum 9 = .ok (.iload_n 2, 1) := by decide +kernel
theorem dX8_sum_10 : decode cX8_sum 10 = .ok (.invokestatic 153, 3) := by decide +kernel
theorem dX8_sum_13 : decode cX8_sum 13 = .ok (.ifCond .ne 6, 3) := by decide +kernel
theorem dX8_sum_16 : decode cX8_sum 16 = .ok (.bipush (-3), 2) := by decide +kernel
theorem dX8_sum_18 : decode cX8_sum 18 = .ok (.ireturn, 1) := by decide +kernel
theorem dX8_sum_19 : decode cX8_sum 19 = .ok (.iload_n 1, 1) := by decide +kernel
theorem dX8_sum_20 : decode cX8_sum 20 = .ok (.tableswitch 121 0 4 #[36, 44, 59, 74, 89], 36) := by decide +kernel
theorem dX8_sum_56 : decode cX8_sum 56 = .ok (.aload_n 0, 1) := by decide +kernel
theorem dX8_sum_57 : decode cX8_sum 57 = .ok (.getfield 48, 3) := by decide +kernel
theorem dX8_sum_60 : decode cX8_sum 60 = .ok (.invokevirtual 180, 3) := by decide +kernel
theorem dX8_sum_63 : decode cX8_sum 63 = .ok (.ireturn, 1) := by decide +kernel
theorem dX8_sum_64 : decode cX8_sum 64 = .ok (.aload_n 0, 1) := by decide +kernel
theorem dX8_sum_65 : decode cX8_sum 65 = .ok (.getfield 48, 3) := by decide +kernel
theorem dX8_sum_68 : decode cX8_sum 68 = .ok (.aload_n 0, 1) := by decide +kernel
theorem dX8_sum_69 : decode cX8_sum 69 = .ok (.getfield 48, 3) := by decide +kernel
theorem dX8_sum_72 : decode cX8_sum 72 = .ok (.invokevirtual 180, 3) := by decide +kernel
theorem dX8_sum_75 : decode cX8_sum 75 = .ok (.invokevirtual 184, 3) := by decide +kernel
theorem dX8_sum_78 : decode cX8_sum 78 = .ok (.ireturn, 1) := by decide +kernel
theorem dX8_sum_79 : decode cX8_sum 79 = .ok (.aload_n 0, 1) := by decide +kernel
theorem dX8_sum_80 : decode cX8_sum 80 = .ok (.getfield 48, 3) := by decide +kernel
theorem dX8_sum_83 : decode cX8_sum 83 = .ok (.aload_n 0, 1) := by decide +kernel
theorem dX8_sum_84 : decode cX8_sum 84 = .ok (.getfield 48, 3) := by decide +kernel
theorem dX8_sum_87 : decode cX8_sum 87 = .ok (.invokevirtual 180, 3) := by decide +kernel
theorem dX8_sum_90 : decode cX8_sum 90 = .ok (.invokevirtual 188, 3) := by decide +kernel
theorem dX8_sum_93 : decode cX8_sum 93 = .ok (.ireturn, 1) := by decide +kernel
theorem dX8_sum_94 : decode cX8_sum 94 = .ok (.aload_n 0, 1) := by decide +kernel
theorem dX8_sum_95 : decode cX8_sum 95 = .ok (.getfield 48, 3) := by decide +kernel
theorem dX8_sum_98 : decode cX8_sum 98 = .ok (.aload_n 0, 1) := by decide +kernel
theorem dX8_sum_99 : decode cX8_sum 99 = .ok (.getfield 48, 3) := by decide +kernel
theorem dX8_sum_102 : decode cX8_sum 102 = .ok (.invokevirtual 180, 3) := by decide +kernel
theorem dX8_sum_105 : decode cX8_sum 105 = .ok (.invokevirtual 191, 3) := by decide +kernel
theorem dX8_sum_108 : decode cX8_sum 108 = .ok (.ireturn, 1) := by decide +kernel
theorem dX8_sum_109 : decode cX8_sum 109 = .ok (.aload_n 0, 1) := by decide +kernel
theorem dX8_sum_110 : decode cX8_sum 110 = .ok (.getfield 48, 3) := by decide +kernel
theorem dX8_sum_113 : decode cX8_sum 113 = .ok (.iload_n 2, 1) := by decide +kernel
theorem dX8_sum_114 : decode cX8_sum 114 = .ok (.aload_n 0, 1) := by decide +kernel
theorem dX8_sum_115 : decode cX8_sum 115 = .ok (.getfield 7, 3) := by decide +kernel
theorem dX8_sum_118 : decode cX8_sum 118 = .ok (.iconst 0, 1) := by decide +kernel
theorem dX8_sum_119 : decode cX8_sum 119 = .ok (.iaload, 1) := by decide +kernel
theorem dX8_sum_120 : decode cX8_sum 120 = .ok (.invokevirtual 194, 3) := by decide +kernel
theorem dX8_sum_123 : decode cX8_sum 123 = .ok (.aload_n 0, 1) := by decide +kernel
theorem dX8_sum_124 : decode cX8_sum 124 = .ok (.getfield 48, 3) := by decide +kernel
theorem dX8_sum_127 : decode cX8_sum 127 = .ok (.getfield 197, 3) := by decide +kernel
theorem dX8_sum_130 : decode cX8_sum 130 = .ok (.aload_n 0, 1) := by decide +kernel
theorem dX8_sum_131 : decode cX8_sum 131 = .ok (.getfield 39, 3) := by decide +kernel
theorem dX8_sum_134 : decode cX8_sum 134 = .ok (.getfield 141, 3) := by decide +kernel
theorem dX8_sum_137 : decode cX8_sum 137 = .ok (.invokestatic 200, 3) := by decide +kernel
theorem dX8_sum_140 : decode cX8_sum 140 = .ok (.ireturn, 1) := by decide +kernel
theorem dX8_sum_141 : decode cX8_sum 141 = .ok (.aload_n 0, 1) := by decide +kernel
theorem dX8_sum_142 : decode cX8_sum 142 = .ok (.getfield 16, 3) := by decide +kernel
theorem dX8_sum_145 : decode cX8_sum 145 = .ok (.getfield 204, 3) := by decide +kernel
theorem dX8_sum_148 : decode cX8_sum 148 = .ok (.ireturn, 1) := by decide +kernel
theorem dX8_has_0 : decode cX8_has 0 = .ok (.aload_n 0, 1) := by decide +kernel
theorem dX8_has_1 : decode cX8_has 1 = .ok (.getfield 39, 3) := by decide +kernel
theorem dX8_has_4 : decode cX8_has 4 = .ok (.iload_n 1, 1) := by decide +kernel
theorem dX8_has_5 : decode cX8_has 5 = .ok (.invokevirtual 147, 3) := by decide +kernel
theorem dX8_has_8 : decode cX8_has 8 = .ok (.ifCond .eq 19, 3) := by decide +kernel
theorem dX8_has_11 : decode cX8_has 11 = .ok (.iload_n 2, 1) := by decide +kernel
theorem dX8_has_12 : decode cX8_has 12 = .ok (.iconst 0, 1) := by decide +kernel
theorem dX8_has_13 : decode cX8_has 13 = .ok (.iconst 4, 1) := by decide +kernel
theorem dX8_has_14 : decode cX8_has 14 = .ok (.invokestatic 65, 3) := by decide +kernel
theorem dX8_has_17 : decode cX8_has 17 = .ok (.ifCond .eq 10, 3) := by decide +kernel
theorem dX8_has_20 : decode cX8_has 20 = .ok (.iload_n 3, 1) := by decide +kernel
theorem dX8_has_21 : decode cX8_has 21 = .ok (.invokestatic 153, 3) := by decide +kernel
theorem dX8_has_24 : decode cX8_has 24 = .ok (.ifCond .ne 6, 3) := by decide +kernel
theorem dX8_has_27 : decode cX8_has 27 = .ok (.bipush (-3), 2) := by decide +kernel
theorem dX8_has_29 : decode cX8_has 29 = .ok (.ireturn, 1) := by decide +kernel
theorem dX8_has_30 : decode cX8_has 30 = .ok (.aload_n 0, 1) := by decide +kernel
theorem dX8_has_31 : decode cX8_has 31 = .ok (.getfield 7, 3) := by decide +kernel
theorem dX8_has_34 : decode cX8_has 34 = .ok (.iconst 0, 1) := by decide +kernel
theorem dX8_has_35 : decode cX8_has 35 = .ok (.iaload, 1) := by decide +kernel
theorem dX8_has_36 : decode cX8_has 36 = .ok (.istore 4, 2) := by decide +kernel
theorem dX8_has_38 : decode cX8_has 38 = .ok (.iload_n 2, 1) := by decide +kernel
theorem dX8_has_39 : decode cX8_has 39 = .ok (.tableswitch 93 0 3 #[29, 49, 61, 81], 29) := by decide +kernel
theorem dX8_has_68 : decode cX8_has 68 = .ok (.aload_n 0, 1) := by decide +kernel
theorem dX8_has_69 : decode cX8_has 69 = .ok (.getfield 48, 3) := by decide +kernel
theorem dX8_has_72 : decode cX8_has 72 = .ok (.iload_n 3, 1) := by decide +kernel
theorem dX8_has_73 : decode cX8_has 73 = .ok (.iload 4, 2) := by decide +kernel
theorem dX8_has_75 : decode cX8_has 75 = .ok (.invokevirtual 194, 3) := by decide +kernel
theorem dX8_has_78 : decode cX8_has 78 = .ok (.aload_n 0, 1) := by decide +kernel
theorem dX8_has_79 : decode cX8_has 79 = .ok (.getfield 48, 3) := by decide +kernel
theorem dX8_has_82 : decode cX8_has 82 = .ok (.getfield 197, 3) := by decide +kernel
theorem dX8_has_85 : decode cX8_has 85 = .ok (.iload_n 1, 1) := by decide +kernel
theorem dX8_has_86 : decode cX8_has 86 = .ok (.iaload, 1) := by decide +kernel
theorem dX8_has_87 : decode cX8_has 87 = .ok (.ireturn, 1) := by decide +kernel
theorem dX8_has_88 : decode cX8_has 88 = .ok (.aload_n 0, 1) := by decide +kernel
theorem dX8_has_89 : decode cX8_has 89 = .ok (.getfield 48, 3) := by decide +kernel
theorem dX8_has_92 : decode cX8_has 92 = .ok (.iload_n 1, 1) := by decide +kernel
theorem dX8_has_93 : decode cX8_has 93 = .ok (.iload_n 3, 1) := by decide +kernel
theorem dX8_has_94 : decode cX8_has 94 = .ok (.iload 4, 2) := by decide +kernel
theorem dX8_has_96 : decode cX8_has 96 = .ok (.invokevirtual 207, 3) := by decide +kernel
theorem dX8_has_99 : decode cX8_has 99 = .ok (.ireturn, 1) := by decide +kernel
theorem dX8_has_100 : decode cX8_has 100 = .ok (.aload_n 0, 1) := by decide +kernel
theorem dX8_has_101 : decode cX8_has 101 = .ok (.getfield 48, 3) := by decide +kernel
theorem dX8_has_104 : decode cX8_has 104 = .ok (.iload_n 3, 1) := by decide +kernel
theorem dX8_has_105 : decode cX8_has 105 = .ok (.iload 4, 2) := by decide +kernel
theorem dX8_has_107 : decode cX8_has 107 = .ok (.invokevirtual 210, 3) := by decide +kernel
theorem dX8_has_110 : decode cX8_has 110 = .ok (.aload_n 0, 1) := by decide +kernel
theorem dX8_has_111 : decode cX8_has 111 = .ok (.getfield 48, 3) := by decide +kernel
theorem dX8_has_114 : decode cX8_has 114 = .ok (.getfield 213, 3) := by decide +kernel
theorem dX8_has_117 : decode cX8_has 117 = .ok (.iload_n 1, 1) := by decide +kernel
theorem dX8_has_118 : decode cX8_has 118 = .ok (.iaload, 1) := by decide +kernel
theorem dX8_has_119 : decode cX8_has 119 = .ok (.ireturn, 1) := by decide +kernel
theorem dX8_has_120 : decode cX8_has 120 = .ok (.aload_n 0, 1) := by decide +kernel
theorem dX8_has_121 : decode cX8_has 121 = .ok (.getfield 48, 3) := by decide +kernel
theorem dX8_has_124 : decode cX8_has 124 = .ok (.iload_n 1, 1) := by decide +kernel
theorem dX8_has_125 : decode cX8_has 125 = .ok (.iload_n 3, 1) := by decide +kernel
theorem dX8_has_126 : decode cX8_has 126 = .ok (.iload 4, 2) := by decide +kernel
theorem dX8_has_128 : decode cX8_has 128 = .ok (.invokevirtual 216, 3) := by decide +kernel
theorem dX8_has_131 : decode cX8_has 131 = .ok (.ireturn, 1) := by decide +kernel
theorem dX8_has_132 : decode cX8_has 132 = .ok (.aload_n 0, 1) := by decide +kernel
theorem dX8_has_133 : decode cX8_has 133 = .ok (.getfield 39, 3) := by decide +kernel
theorem dX8_has_136 : decode cX8_has 136 = .ok (.iload_n 1, 1) := by decide +kernel
theorem dX8_has_137 : decode cX8_has 137 = .ok (.iload_n 3, 1) := by decide +kernel
theorem dX8_has_138 : decode cX8_has 138 = .ok (.iload 4, 2) := by decide +kernel
theorem dX8_has_140 : decode cX8_has 140 = .ok (.invokevirtual 219, 3) := by decide +kernel
theorem dX8_has_143 : decode cX8_has 143 = .ok (.ireturn, 1) := by decide +kernel
theorem dX8_allot_0 : decode cX8_allot 0 = .ok (.aload_n 0, 1) := by decide +kernel
theorem dX8_allot_1 : decode cX8_allot 1 = .ok (.getfield 39, 3) := by decide +kernel
theorem dX8_allot_4 : decode cX8_allot 4 = .ok (.iload_n 1, 1) := by decide +kernel
theorem dX8_allot_5 : decode cX8_allot 5 = .ok (.invokevirtual 147, 3) := by decide +kernel
theorem dX8_allot_8 : decode cX8_allot 8 = .ok (.ifCond .eq 18, 3) := by decide +kernel
theorem dX8_allot_11 : decode cX8_allot 11 = .ok (.aload_n 0, 1) := by decide +kernel
theorem dX8_allot_12 : decode cX8_allot 12 = .ok (.getfield 16, 3) := by decide +kernel
theorem dX8_allot_15 : decode cX8_allot 15 = .ok (.iload_n 2, 1) := by decide +kernel
theorem dX8_allot_16 : decode cX8_allot 16 = .ok (.invokevirtual 81, 3) := by decide +kernel
theorem dX8_allot_19 : decode cX8_allot 19 = .ok (.ifCond .eq 7, 3) := by decide +kernel
theorem dX8_allot_22 : decode cX8_allot 22 = .ok (.iload_n 3, 1) := by decide +kernel
theorem dX8_allot_23 : decode cX8_allot 23 = .ok (.ifCond .ge 6, 3) := by decide +kernel
theorem dX8_allot_26 : decode cX8_allot 26 = .ok (.bipush (-3), 2) := by decide +kernel
theorem dX8_allot_28 : decode cX8_allot 28 = .ok (.ireturn, 1) := by decide +kernel
theorem dX8_allot_29 : decode cX8_allot 29 = .ok (.iload_n 3, 1) := by decide +kernel
theorem dX8_allot_30 : decode cX8_allot 30 = .ok (.bipush 11, 2) := by decide +kernel
theorem dX8_allot_32 : decode cX8_allot 32 = .ok (.idiv, 1) := by decide +kernel
theorem dX8_allot_33 : decode cX8_allot 33 = .ok (.istore 4, 2) := by decide +kernel
theorem dX8_allot_35 : decode cX8_allot 35 = .ok (.iload_n 3, 1) := by decide +kernel
theorem dX8_allot_36 : decode cX8_allot 36 = .ok (.bipush 11, 2) := by decide +kernel
theorem dX8_allot_38 : decode cX8_allot 38 = .ok (.irem, 1) := by decide +kernel
theorem dX8_allot_39 : decode cX8_allot 39 = .ok (.istore 5, 2) := by decide +kernel
theorem dX8_allot_41 : decode cX8_allot 41 = .ok (.iload 4, 2) := by decide +kernel
theorem dX8_allot_43 : decode cX8_allot 43 = .ok (.iconst 1, 1) := by decide +kernel
theorem dX8_allot_44 : decode cX8_allot 44 = .ok (.bipush 10, 2) := by decide +kernel
theorem dX8_allot_46 : decode cX8_allot 46 = .ok (.invokestatic 65, 3) := by decide +kernel
theorem dX8_allot_49 : decode cX8_allot 49 = .ok (.ifCond .eq 14, 3) := by decide +kernel
theorem dX8_allot_52 : decode cX8_allot 52 = .ok (.iload 5, 2) := by decide +kernel
theorem dX8_allot_54 : decode cX8_allot 54 = .ok (.iconst 1, 1) := by decide +kernel
theorem dX8_allot_55 : decode cX8_allot 55 = .ok (.bipush 10, 2) := by decide +kernel
theorem dX8_allot_57 : decode cX8_allot 57 = .ok (.invokestatic 65, 3) := by decide +kernel
theorem dX8_allot_60 : decode cX8_allot 60 = .ok (.ifCond .ne 6, 3) := by decide +kernel
theorem dX8_allot_63 : decode cX8_allot 63 = .ok (.bipush (-3), 2) := by decide +kernel
theorem dX8_allot_65 : decode cX8_allot 65 = .ok (.ireturn, 1) := by decide +kernel
theorem dX8_allot_66 : decode cX8_allot 66 = .ok (.aload_n 0, 1) := by decide +kernel
theorem dX8_allot_67 : decode cX8_allot 67 = .ok (.getfield 57, 3) := by decide +kernel
theorem dX8_allot_70 : decode cX8_allot 70 = .ok (.getfield 222, 3) := by decide +kernel
theorem dX8_allot_73 : decode cX8_allot 73 = .ok (.iload_n 1, 1) := by decide +kernel
theorem dX8_allot_74 : decode cX8_allot 74 = .ok (.iload_n 2, 1) := by decide +kernel
theorem dX8_allot_75 : decode cX8_allot 75 = .ok (.iload 4, 2) := by decide +kernel
theorem dX8_allot_77 : decode cX8_allot 77 = .ok (.iload 5, 2) := by decide +kernel
theorem dX8_allot_79 : decode cX8_allot 79 = .ok (.invokestatic 225, 3) := by decide +kernel
theorem dX8_allot_82 : decode cX8_allot 82 = .ok (.iastore, 1) := by decide +kernel
theorem dX8_allot_83 : decode cX8_allot 83 = .ok (.iconst 0, 1) := by decide +kernel
theorem dX8_allot_84 : decode cX8_allot 84 = .ok (.ireturn, 1) := by decide +kernel
theorem dX8_take_0 : decode cX8_take 0 = .ok (.aload_n 0, 1) := by decide +kernel
theorem dX8_take_1 : decode cX8_take 1 = .ok (.getfield 39, 3) := by decide +kernel
theorem dX8_take_4 : decode cX8_take 4 = .ok (.iload_n 1, 1) := by decide +kernel
theorem dX8_take_5 : decode cX8_take 5 = .ok (.invokevirtual 147, 3) := by decide +kernel
theorem dX8_take_8 : decode cX8_take 8 = .ok (.ifCond .ne 6, 3) := by decide +kernel
theorem dX8_take_11 : decode cX8_take 11 = .ok (.bipush (-3), 2) := by decide +kernel
theorem dX8_take_13 : decode cX8_take 13 = .ok (.ireturn, 1) := by decide +kernel
theorem dX8_take_14 : decode cX8_take 14 = .ok (.aload_n 0, 1) := by decide +kernel
theorem dX8_take_15 : decode cX8_take 15 = .ok (.getfield 57, 3) := by decide +kernel
theorem dX8_take_18 : decode cX8_take 18 = .ok (.iload_n 1, 1) := by decide +kernel
theorem dX8_take_19 : decode cX8_take 19 = .ok (.invokevirtual 230, 3) := by decide +kernel
theorem dX8_take_22 : decode cX8_take 22 = .ok (.ifCond .eq 7, 3) := by decide +kernel
theorem dX8_take_25 : decode cX8_take 25 = .ok (.iconst 1, 1) := by decide +kernel
theorem dX8_take_26 : decode cX8_take 26 = .ok (.goto 4, 3) := by decide +kernel
theorem dX8_take_29 : decode cX8_take 29 = .ok (.iconst 0, 1) := by decide +kernel
theorem dX8_take_30 : decode cX8_take 30 = .ok (.istore_n 2, 1) := by decide +kernel
theorem dX8_take_31 : decode cX8_take 31 = .ok (.aload_n 0, 1) := by decide +kernel
theorem dX8_take_32 : decode cX8_take 32 = .ok (.getfield 57, 3) := by decide +kernel
theorem dX8_take_35 : decode cX8_take 35 = .ok (.getfield 222, 3) := by decide +kernel
theorem dX8_take_38 : decode cX8_take 38 = .ok (.iload_n 1, 1) := by decide +kernel
theorem dX8_take_39 : decode cX8_take 39 = .ok (.iconst (-1), 1) := by decide +kernel
theorem dX8_take_40 : decode cX8_take 40 = .ok (.iastore, 1) := by decide +kernel
theorem dX8_take_41 : decode cX8_take 41 = .ok (.iload_n 2, 1) := by decide +kernel
theorem dX8_take_42 : decode cX8_take 42 = .ok (.ireturn, 1) := by decide +kernel
theorem dX8_good_0 : decode cX8_good 0 = .ok (.aload_n 0, 1) := by decide +kernel
theorem dX8_good_1 : decode cX8_good 1 = .ok (.getfield 39, 3) := by decide +kernel
theorem dX8_good_4 : decode cX8_good 4 = .ok (.iload_n 1, 1) := by decide +kernel
theorem dX8_good_5 : decode cX8_good 5 = .ok (.invokevirtual 147, 3) := by decide +kernel
theorem dX8_good_8 : decode cX8_good 8 = .ok (.ifCond .eq 10, 3) := by decide +kernel
theorem dX8_good_11 : decode cX8_good 11 = .ok (.iload_n 2, 1) := by decide +kernel
theorem dX8_good_12 : decode cX8_good 12 = .ok (.invokestatic 153, 3) := by decide +kernel
theorem dX8_good_15 : decode cX8_good 15 = .ok (.ifCond .ne 6, 3) := by decide +kernel
theorem dX8_good_18 : decode cX8_good 18 = .ok (.bipush (-3), 2) := by decide +kernel
theorem dX8_good_20 : decode cX8_good 20 = .ok (.ireturn, 1) := by decide +kernel
theorem dX8_good_21 : decode cX8_good 21 = .ok (.aload_n 0, 1) := by decide +kernel
theorem dX8_good_22 : decode cX8_good 22 = .ok (.getfield 57, 3) := by decide +kernel
theorem dX8_good_25 : decode cX8_good 25 = .ok (.iload_n 1, 1) := by decide +kernel
theorem dX8_good_26 : decode cX8_good 26 = .ok (.invokevirtual 230, 3) := by decide +kernel
theorem dX8_good_29 : decode cX8_good 29 = .ok (.ifCond .ne 5, 3) := by decide +kernel
theorem dX8_good_32 : decode cX8_good 32 = .ok (.iconst (-1), 1) := by decide +kernel
theorem dX8_good_33 : decode cX8_good 33 = .ok (.ireturn, 1) := by decide +kernel
theorem dX8_good_34 : decode cX8_good 34 = .ok (.aload_n 0, 1) := by decide +kernel
theorem dX8_good_35 : decode cX8_good 35 = .ok (.getfield 48, 3) := by decide +kernel
theorem dX8_good_38 : decode cX8_good 38 = .ok (.iload_n 1, 1) := by decide +kernel
theorem dX8_good_39 : decode cX8_good 39 = .ok (.iload_n 2, 1) := by decide +kernel
theorem dX8_good_40 : decode cX8_good 40 = .ok (.aload_n 0, 1) := by decide +kernel
theorem dX8_good_41 : decode cX8_good 41 = .ok (.getfield 7, 3) := by decide +kernel
theorem dX8_good_44 : decode cX8_good 44 = .ok (.iconst 0, 1) := by decide +kernel
theorem dX8_good_45 : decode cX8_good 45 = .ok (.iaload, 1) := by decide +kernel
theorem dX8_good_46 : decode cX8_good 46 = .ok (.invokevirtual 207, 3) := by decide +kernel
theorem dX8_good_49 : decode cX8_good 49 = .ok (.istore_n 3, 1) := by decide +kernel
theorem dX8_good_50 : decode cX8_good 50 = .ok (.aload_n 0, 1) := by decide +kernel
theorem dX8_good_51 : decode cX8_good 51 = .ok (.getfield 57, 3) := by decide +kernel
theorem dX8_good_54 : decode cX8_good 54 = .ok (.iload_n 1, 1) := by decide +kernel
theorem dX8_good_55 : decode cX8_good 55 = .ok (.iload_n 3, 1) := by decide +kernel
theorem dX8_good_56 : decode cX8_good 56 = .ok (.aload_n 0, 1) := by decide +kernel
theorem dX8_good_57 : decode cX8_good 57 = .ok (.getfield 7, 3) := by decide +kernel
theorem dX8_good_60 : decode cX8_good 60 = .ok (.iconst 4, 1) := by decide +kernel
theorem dX8_good_61 : decode cX8_good 61 = .ok (.iaload, 1) := by decide +kernel
theorem dX8_good_62 : decode cX8_good 62 = .ok (.invokevirtual 233, 3) := by decide +kernel
theorem dX8_good_65 : decode cX8_good 65 = .ok (.ireturn, 1) := by decide +kernel
theorem dX8_plot_0 : decode cX8_plot 0 = .ok (.aload_n 0, 1) := by decide +kernel
theorem dX8_plot_1 : decode cX8_plot 1 = .ok (.getfield 39, 3) := by decide +kernel
theorem dX8_plot_4 : decode cX8_plot 4 = .ok (.iload_n 1, 1) := by decide +kernel
theorem dX8_plot_5 : decode cX8_plot 5 = .ok (.invokevirtual 147, 3) := by decide +kernel
theorem dX8_plot_8 : decode cX8_plot 8 = .ok (.ifCond .eq 12, 3) := by decide +kernel
theorem dX8_plot_11 : decode cX8_plot 11 = .ok (.iload_n 2, 1) := by decide +kernel
theorem dX8_plot_12 : decode cX8_plot 12 = .ok (.iconst 0, 1) := by decide +kernel
theorem dX8_plot_13 : decode cX8_plot 13 = .ok (.iconst 5, 1) := by decide +kernel
theorem dX8_plot_14 : decode cX8_plot 14 = .ok (.invokestatic 65, 3) := by decide +kernel
theorem dX8_plot_17 : decode cX8_plot 17 = .ok (.ifCond .ne 6, 3) := by decide +kernel
theorem dX8_plot_20 : decode cX8_plot 20 = .ok (.bipush (-3), 2) := by decide +kernel
theorem dX8_plot_22 : decode cX8_plot 22 = .ok (.ireturn, 1) := by decide +kernel
theorem dX8_plot_23 : decode cX8_plot 23 = .ok (.aload_n 0, 1) := by decide +kernel
theorem dX8_plot_24 : decode cX8_plot 24 = .ok (.getfield 57, 3) := by decide +kernel
theorem dX8_plot_27 : decode cX8_plot 27 = .ok (.iload_n 1, 1) := by decide +kernel
theorem dX8_plot_28 : decode cX8_plot 28 = .ok (.invokevirtual 230, 3) := by decide +kernel
theorem dX8_plot_31 : decode cX8_plot 31 = .ok (.ifCond .ne 5, 3) := by decide +kernel
theorem dX8_plot_34 : decode cX8_plot 34 = .ok (.iconst (-1), 1) := by decide +kernel
theorem dX8_plot_35 : decode cX8_plot 35 = .ok (.ireturn, 1) := by decide +kernel
theorem dX8_plot_36 : decode cX8_plot 36 = .ok (.aload_n 0, 1) := by decide +kernel
theorem dX8_plot_37 : decode cX8_plot 37 = .ok (.getfield 57, 3) := by decide +kernel
theorem dX8_plot_40 : decode cX8_plot 40 = .ok (.getfield 222, 3) := by decide +kernel
theorem dX8_plot_43 : decode cX8_plot 43 = .ok (.iload_n 1, 1) := by decide +kernel
theorem dX8_plot_44 : decode cX8_plot 44 = .ok (.iaload, 1) := by decide +kernel
theorem dX8_plot_45 : decode cX8_plot 45 = .ok (.istore_n 3, 1) := by decide +kernel
theorem dX8_plot_46 : decode cX8_plot 46 = .ok (.iload_n 2, 1) := by decide +kernel
theorem dX8_plot_47 : decode cX8_plot 47 = .ok (.tableswitch 75 0 4 #[33, 38, 43, 48, 57], 33) := by decide +kernel
theorem dX8_plot_80 : decode cX8_plot 80 = .ok (.iload_n 3, 1) := by decide +kernel
theorem dX8_plot_81 : decode cX8_plot 81 = .ok (.invokestatic 236, 3) := by decide +kernel
theorem dX8_plot_84 : decode cX8_plot 84 = .ok (.ireturn, 1) := by decide +kernel
theorem dX8_plot_85 : decode cX8_plot 85 = .ok (.iload_n 3, 1) := by decide +kernel
theorem dX8_plot_86 : decode cX8_plot 86 = .ok (.invokestatic 239, 3) := by decide +kernel
theorem dX8_plot_89 : decode cX8_plot 89 = .ok (.ireturn, 1) := by decide +kernel
theorem dX8_plot_90 : decode cX8_plot 90 = .ok (.iload_n 3, 1) := by decide +kernel
theorem dX8_plot_91 : decode cX8_plot 91 = .ok (.invokestatic 242, 3) := by decide +kernel
theorem dX8_plot_94 : decode cX8_plot 94 = .ok (.ireturn, 1) := by decide +kernel
theorem dX8_plot_95 : decode cX8_plot 95 = .ok (.aload_n 0, 1) := by decide +kernel
theorem dX8_plot_96 : decode cX8_plot 96 = .ok (.getfield 57, 3) := by decide +kernel
theorem dX8_plot_99 : decode cX8_plot 99 = .ok (.iload_n 1, 1) := by decide +kernel
theorem dX8_plot_100 : decode cX8_plot 100 = .ok (.invokevirtual 245, 3) := by decide +kernel
theorem dX8_plot_103 : decode cX8_plot 103 = .ok (.ireturn, 1) := by decide +kernel
theorem dX8_plot_104 : decode cX8_plot 104 = .ok (.aload_n 0, 1) := by decide +kernel
theorem dX8_plot_105 : decode cX8_plot 105 = .ok (.getfield 16, 3) := by decide +kernel
theorem dX8_plot_108 : decode cX8_plot 108 = .ok (.aload_n 0, 1) := by decide +kernel
theorem dX8_plot_109 : decode cX8_plot 109 = .ok (.getfield 39, 3) := by decide +kernel
theorem dX8_plot_112 : decode cX8_plot 112 = .ok (.getfield 248, 3) := by decide +kernel
theorem dX8_plot_115 : decode cX8_plot 115 = .ok (.iload_n 1, 1) := by decide +kernel
theorem dX8_plot_116 : decode cX8_plot 116 = .ok (.iaload, 1) := by decide +kernel
theorem dX8_plot_117 : decode cX8_plot 117 = .ok (.iload_n 3, 1) := by decide +kernel
theorem dX8_plot_118 : decode cX8_plot 118 = .ok (.invokevirtual 251, 3) := by decide +kernel
theorem dX8_plot_121 : decode cX8_plot 121 = .ok (.ireturn, 1) := by decide +kernel
theorem dX8_plot_122 : decode cX8_plot 122 = .ok (.aload_n 0, 1) := by decide +kernel
theorem dX8_plot_123 : decode cX8_plot 123 = .ok (.getfield 57, 3) := by decide +kernel
theorem dX8_plot_126 : decode cX8_plot 126 = .ok (.iload_n 1, 1) := by decide +kernel
theorem dX8_plot_127 : decode cX8_plot 127 = .ok (.invokevirtual 254, 3) := by decide +kernel
theorem dX8_plot_130 : decode cX8_plot 130 = .ok (.ireturn, 1) := by decide +kernel
theorem dX8_draw_0 : decode cX8_draw 0 = .ok (.iload_n 1, 1) := by decide +kernel
theorem dX8_draw_1 : decode cX8_draw 1 = .ok (.invokestatic 153, 3) := by decide +kernel
theorem dX8_draw_4 : decode cX8_draw 4 = .ok (.ifCond .eq 23, 3) := by decide +kernel
theorem dX8_draw_7 : decode cX8_draw 7 = .ok (.iload_n 2, 1) := by decide +kernel
theorem dX8_draw_8 : decode cX8_draw 8 = .ok (.iconst 1, 1) := by decide +kernel
theorem dX8_draw_9 : decode cX8_draw 9 = .ok (.sipush 20000, 3) := by decide +kernel
theorem dX8_draw_12 : decode cX8_draw 12 = .ok (.invokestatic 65, 3) := by decide +kernel
theorem dX8_draw_15 : decode cX8_draw 15 = .ok (.ifCond .eq 12, 3) := by decide +kernel
theorem dX8_draw_18 : decode cX8_draw 18 = .ok (.iload_n 3, 1) := by decide +kernel
theorem dX8_draw_19 : decode cX8_draw 19 = .ok (.iconst 0, 1) := by decide +kernel
theorem dX8_draw_20 : decode cX8_draw 20 = .ok (.iconst 1, 1) := by decide +kernel
theorem dX8_draw_21 : decode cX8_draw 21 = .ok (.invokestatic 65, 3) := by decide +kernel
theorem dX8_draw_24 : decode cX8_draw 24 = .ok (.ifCond .ne 6, 3) := by decide +kernel
theorem dX8_draw_27 : decode cX8_draw 27 = .ok (.bipush (-3), 2) := by decide +kernel
theorem dX8_draw_29 : decode cX8_draw 29 = .ok (.ireturn, 1) := by decide +kernel
theorem dX8_draw_30 : decode cX8_draw 30 = .ok (.aload_n 0, 1) := by decide +kernel
theorem dX8_draw_31 : decode cX8_draw 31 = .ok (.getfield 61, 3) := by decide +kernel
theorem dX8_draw_34 : decode cX8_draw 34 = .ok (.ifnonnull 26, 3) := by decide +kernel
theorem dX8_draw_37 : decode cX8_draw 37 = .ok (.aload_n 0, 1) := by decide +kernel
theorem dX8_draw_38 : decode cX8_draw 38 = .ok (.new 257, 3) := by decide +kernel
theorem dX8_draw_41 : decode cX8_draw 41 = .ok (.dup, 1) := by decide +kernel
theorem dX8_draw_42 : decode cX8_draw 42 = .ok (.aload_n 0, 1) := by decide +kernel
theorem dX8_draw_43 : decode cX8_draw 43 = .ok (.getfield 16, 3) := by decide +kernel
theorem dX8_draw_46 : decode cX8_draw 46 = .ok (.aload_n 0, 1) := by decide +kernel
theorem dX8_draw_47 : decode cX8_draw 47 = .ok (.getfield 39, 3) := by decide +kernel
theorem dX8_draw_50 : decode cX8_draw 50 = .ok (.aload_n 0, 1) := by decide +kernel
theorem dX8_draw_51 : decode cX8_draw 51 = .ok (.getfield 57, 3) := by decide +kernel
theorem dX8_draw_54 : decode cX8_draw 54 = .ok (.invokespecial 259, 3) := by decide +kernel
theorem dX8_draw_57 : decode cX8_draw 57 = .ok (.putfield 61, 3) := by decide +kernel
theorem dX8_draw_60 : decode cX8_draw 60 = .ok (.aload_n 0, 1) := by decide +kernel
theorem dX8_draw_61 : decode cX8_draw 61 = .ok (.getfield 48, 3) := by decide +kernel
theorem dX8_draw_64 : decode cX8_draw 64 = .ok (.iload_n 1, 1) := by decide +kernel
theorem dX8_draw_65 : decode cX8_draw 65 = .ok (.aload_n 0, 1) := by decide +kernel
theorem dX8_draw_66 : decode cX8_draw 66 = .ok (.getfield 7, 3) := by decide +kernel
theorem dX8_draw_69 : decode cX8_draw 69 = .ok (.iconst 0, 1) := by decide +kernel
theorem dX8_draw_70 : decode cX8_draw 70 = .ok (.iaload, 1) := by decide +kernel
theorem dX8_draw_71 : decode cX8_draw 71 = .ok (.invokevirtual 262, 3) := by decide +kernel
theorem dX8_draw_74 : decode cX8_draw 74 = .ok (.aload_n 0, 1) := by decide +kernel
theorem dX8_draw_75 : decode cX8_draw 75 = .ok (.getfield 61, 3) := by decide +kernel
theorem dX8_draw_78 : decode cX8_draw 78 = .ok (.aload_n 0, 1) := by decide +kernel
theorem dX8_draw_79 : decode cX8_draw 79 = .ok (.getfield 48, 3) := by decide +kernel
theorem dX8_draw_82 : decode cX8_draw 82 = .ok (.getfield 265, 3) := by decide +kernel
theorem dX8_draw_85 : decode cX8_draw 85 = .ok (.aload_n 0, 1) := by decide +kernel
theorem dX8_draw_86 : decode cX8_draw 86 = .ok (.getfield 7, 3) := by decide +kernel
theorem dX8_draw_89 : decode cX8_draw 89 = .ok (.iconst 4, 1) := by decide +kernel
theorem dX8_draw_90 : decode cX8_draw 90 = .ok (.iaload, 1) := by decide +kernel
theorem dX8_draw_91 : decode cX8_draw 91 = .ok (.iload_n 2, 1) := by decide +kernel
theorem dX8_draw_92 : decode cX8_draw 92 = .ok (.iload_n 3, 1) := by decide +kernel
theorem dX8_draw_93 : decode cX8_draw 93 = .ok (.iconst 1, 1) := by decide +kernel
theorem dX8_draw_94 : decode cX8_draw 94 = .ok (.if_icmp .ne 7, 3) := by decide +kernel
theorem dX8_draw_97 : decode cX8_draw 97 = .ok (.iconst 1, 1) := by decide +kernel
theorem dX8_draw_98 : decode cX8_draw 98 = .ok (.goto 4, 3) := by decide +kernel
theorem dX8_draw_101 : decode cX8_draw 101 = .ok (.iconst 0, 1) := by decide +kernel
theorem dX8_draw_102 : decode cX8_draw 102 = .ok (.invokevirtual 268, 3) := by decide +kernel
theorem dX8_draw_105 : decode cX8_draw 105 = .ok (.ireturn, 1) := by decide +kernel
theorem dX8_hedge_0 : decode cX8_hedge 0 = .ok (.aload_n 0, 1) := by decide +kernel
theorem dX8_hedge_1 : decode cX8_hedge 1 = .ok (.getfield 39, 3) := by decide +kernel
theorem dX8_hedge_4 : decode cX8_hedge 4 = .ok (.iload_n 1, 1) := by decide +kernel
theorem dX8_hedge_5 : decode cX8_hedge 5 = .ok (.invokevirtual 147, 3) := by decide +kernel
theorem dX8_hedge_8 : decode cX8_hedge 8 = .ok (.ifCond .eq 14, 3) := by decide +kernel
theorem dX8_hedge_11 : decode cX8_hedge 11 = .ok (.iload_n 2, 1) := by decide +kernel
theorem dX8_hedge_12 : decode cX8_hedge 12 = .ok (.iconst (-1), 1) := by decide +kernel
theorem dX8_hedge_13 : decode cX8_hedge 13 = .ok (.sipush 999, 3) := by decide +kernel
theorem dX8_hedge_16 : decode cX8_hedge 16 = .ok (.invokestatic 65, 3) := by decide +kernel
theorem dX8_hedge_19 : decode cX8_hedge 19 = .ok (.ifCond .ne 6, 3) := by decide +kernel
theorem dX8_hedge_22 : decode cX8_hedge 22 = .ok (.bipush (-3), 2) := by decide +kernel
theorem dX8_hedge_24 : decode cX8_hedge 24 = .ok (.ireturn, 1) := by decide +kernel
theorem dX8_hedge_25 : decode cX8_hedge 25 = .ok (.aload_n 0, 1) := by decide +kernel
theorem dX8_hedge_26 : decode cX8_hedge 26 = .ok (.getfield 57, 3) := by decide +kernel
theorem dX8_hedge_29 : decode cX8_hedge 29 = .ok (.getfield 272, 3) := by decide +kernel
theorem dX8_hedge_32 : decode cX8_hedge 32 = .ok (.iload_n 1, 1) := by decide +kernel
theorem dX8_hedge_33 : decode cX8_hedge 33 = .ok (.iaload, 1) := by decide +kernel
theorem dX8_hedge_34 : decode cX8_hedge 34 = .ok (.istore_n 3, 1) := by decide +kernel
theorem dX8_hedge_35 : decode cX8_hedge 35 = .ok (.aload_n 0, 1) := by decide +kernel
theorem dX8_hedge_36 : decode cX8_hedge 36 = .ok (.getfield 57, 3) := by decide +kernel
theorem dX8_hedge_39 : decode cX8_hedge 39 = .ok (.getfield 272, 3) := by decide +kernel
theorem dX8_hedge_42 : decode cX8_hedge 42 = .ok (.iload_n 1, 1) := by decide +kernel
theorem dX8_hedge_43 : decode cX8_hedge 43 = .ok (.iload_n 2, 1) := by decide +kernel
theorem dX8_hedge_44 : decode cX8_hedge 44 = .ok (.iastore, 1) := by decide +kernel
theorem dX8_hedge_45 : decode cX8_hedge 45 = .ok (.iload_n 3, 1) := by decide +kernel
theorem dX8_hedge_46 : decode cX8_hedge 46 = .ok (.ireturn, 1) := by decide +kernel
theorem dX8_fine_0 : decode cX8_fine 0 = .ok (.aload_n 0, 1) := by decide +kernel
theorem dX8_fine_1 : decode cX8_fine 1 = .ok (.getfield 39, 3) := by decide +kernel
theorem dX8_fine_4 : decode cX8_fine 4 = .ok (.iload_n 1, 1) := by decide +kernel
theorem dX8_fine_5 : decode cX8_fine 5 = .ok (.invokevirtual 147, 3) := by decide +kernel
theorem dX8_fine_8 : decode cX8_fine 8 = .ok (.ifCond .eq 10, 3) := by decide +kernel
theorem dX8_fine_11 : decode cX8_fine 11 = .ok (.iload_n 2, 1) := by decide +kernel
theorem dX8_fine_12 : decode cX8_fine 12 = .ok (.invokestatic 153, 3) := by decide +kernel
theorem dX8_fine_15 : decode cX8_fine 15 = .ok (.ifCond .ne 6, 3) := by decide +kernel
theorem dX8_fine_18 : decode cX8_fine 18 = .ok (.bipush (-3), 2) := by decide +kernel
theorem dX8_fine_20 : decode cX8_fine 20 = .ok (.ireturn, 1) := by decide +kernel
theorem dX8_fine_21 : decode cX8_fine 21 = .ok (.aload_n 0, 1) := by decide +kernel
theorem dX8_fine_22 : decode cX8_fine 22 = .ok (.getfield 57, 3) := by decide +kernel
theorem dX8_fine_25 : decode cX8_fine 25 = .ok (.iload_n 1, 1) := by decide +kernel
theorem dX8_fine_26 : decode cX8_fine 26 = .ok (.invokevirtual 230, 3) := by decide +kernel
theorem dX8_fine_29 : decode cX8_fine 29 = .ok (.ifCond .ne 5, 3) := by decide +kernel
theorem dX8_fine_32 : decode cX8_fine 32 = .ok (.iconst 0, 1) := by decide +kernel
theorem dX8_fine_33 : decode cX8_fine 33 = .ok (.ireturn, 1) := by decide +kernel
theorem dX8_fine_34 : decode cX8_fine 34 = .ok (.aload_n 0, 1) := by decide +kernel
theorem dX8_fine_35 : decode cX8_fine 35 = .ok (.getfield 57, 3) := by decide +kernel
theorem dX8_fine_38 : decode cX8_fine 38 = .ok (.getfield 272, 3) := by decide +kernel
theorem dX8_fine_41 : decode cX8_fine 41 = .ok (.iload_n 1, 1) := by decide +kernel
theorem dX8_fine_42 : decode cX8_fine 42 = .ok (.iaload, 1) := by decide +kernel
theorem dX8_fine_43 : decode cX8_fine 43 = .ok (.istore_n 3, 1) := by decide +kernel
theorem dX8_fine_44 : decode cX8_fine 44 = .ok (.iload_n 3, 1) := by decide +kernel
theorem dX8_fine_45 : decode cX8_fine 45 = .ok (.iconst (-1), 1) := by decide +kernel
theorem dX8_fine_46 : decode cX8_fine 46 = .ok (.if_icmp .ne 7, 3) := by decide +kernel
theorem dX8_fine_49 : decode cX8_fine 49 = .ok (.iload_n 2, 1) := by decide +kernel
theorem dX8_fine_50 : decode cX8_fine 50 = .ok (.goto 8, 3) := by decide +kernel
theorem dX8_fine_53 : decode cX8_fine 53 = .ok (.iload_n 3, 1) := by decide +kernel
theorem dX8_fine_54 : decode cX8_fine 54 = .ok (.iload_n 2, 1) := by decide +kernel
theorem dX8_fine_55 : decode cX8_fine 55 = .ok (.invokestatic 127, 3) := by decide +kernel
theorem dX8_fine_58 : decode cX8_fine 58 = .ok (.istore 4, 2) := by decide +kernel
theorem dX8_fine_60 : decode cX8_fine 60 = .ok (.aload_n 0, 1) := by decide +kernel
theorem dX8_fine_61 : decode cX8_fine 61 = .ok (.getfield 57, 3) := by decide +kernel
theorem dX8_fine_64 : decode cX8_fine 64 = .ok (.iload_n 1, 1) := by decide +kernel
theorem dX8_fine_65 : decode cX8_fine 65 = .ok (.invokevirtual 254, 3) := by decide +kernel
theorem dX8_fine_68 : decode cX8_fine 68 = .ok (.iconst 0, 1) := by decide +kernel
theorem dX8_fine_69 : decode cX8_fine 69 = .ok (.iload 4, 2) := by decide +kernel
theorem dX8_fine_71 : decode cX8_fine 71 = .ok (.aload_n 0, 1) := by decide +kernel
theorem dX8_fine_72 : decode cX8_fine 72 = .ok (.getfield 7, 3) := by decide +kernel
theorem dX8_fine_75 : decode cX8_fine 75 = .ok (.iconst 1, 1) := by decide +kernel
theorem dX8_fine_76 : decode cX8_fine 76 = .ok (.iaload, 1) := by decide +kernel
theorem dX8_fine_77 : decode cX8_fine 77 = .ok (.isub, 1) := by decide +kernel
theorem dX8_fine_78 : decode cX8_fine 78 = .ok (.invokestatic 275, 3) := by decide +kernel
theorem dX8_fine_81 : decode cX8_fine 81 = .ok (.imul, 1) := by decide +kernel
theorem dX8_fine_82 : decode cX8_fine 82 = .ok (.ireturn, 1) := by decide +kernel
theorem dX8_count_0 : decode cX8_count 0 = .ok (.iload_n 1, 1) := by decide +kernel
theorem dX8_count_1 : decode cX8_count 1 = .ok (.tableswitch 105 0 6 #[43, 51, 59, 73, 81, 89, 97], 43) := by decide +kernel
theorem dX8_count_44 : decode cX8_count 44 = .ok (.aload_n 0, 1) := by decide +kernel
theorem dX8_count_45 : decode cX8_count 45 = .ok (.getfield 39, 3) := by decide +kernel
theorem dX8_count_48 : decode cX8_count 48 = .ok (.getfield 141, 3) := by decide +kernel
theorem dX8_count_51 : decode cX8_count 51 = .ok (.ireturn, 1) := by decide +kernel
theorem dX8_count_52 : decode cX8_count 52 = .ok (.aload_n 0, 1) := by decide +kernel
theorem dX8_count_53 : decode cX8_count 53 = .ok (.getfield 39, 3) := by decide +kernel
theorem dX8_count_56 : decode cX8_count 56 = .ok (.getfield 156, 3) := by decide +kernel
theorem dX8_count_59 : decode cX8_count 59 = .ok (.ireturn, 1) := by decide +kernel
theorem dX8_count_60 : decode cX8_count 60 = .ok (.aload_n 0, 1) := by decide +kernel
theorem dX8_count_61 : decode cX8_count 61 = .ok (.getfield 39, 3) := by decide +kernel
theorem dX8_count_64 : decode cX8_count 64 = .ok (.aload_n 0, 1) := by decide +kernel
theorem dX8_count_65 : decode cX8_count 65 = .ok (.getfield 7, 3) := by decide +kernel
theorem dX8_count_68 : decode cX8_count 68 = .ok (.iconst 0, 1) := by decide +kernel
theorem dX8_count_69 : decode cX8_count 69 = .ok (.iaload, 1) := by decide +kernel
theorem dX8_count_70 : decode cX8_count 70 = .ok (.invokevirtual 278, 3) := by decide +kernel
