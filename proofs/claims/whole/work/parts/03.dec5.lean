theorem dX9_claimant_6 : decode cX9_claimant 6 = .ok (.iconst 0, 1) := by decide +kernel
theorem dX9_claimant_7 : decode cX9_claimant 7 = .ok (.iconst 4, 1) := by decide +kernel
theorem dX9_claimant_8 : decode cX9_claimant 8 = .ok (.invokestatic 152, 3) := by decide +kernel
theorem dX9_claimant_11 : decode cX9_claimant 11 = .ok (.ifCond .eq 11, 3) := by decide +kernel
theorem dX9_claimant_14 : decode cX9_claimant 14 = .ok (.aload_n 0, 1) := by decide +kernel
theorem dX9_claimant_15 : decode cX9_claimant 15 = .ok (.iload_n 2, 1) := by decide +kernel
theorem dX9_claimant_16 : decode cX9_claimant 16 = .ok (.invokevirtual 156, 3) := by decide +kernel
theorem dX9_claimant_19 : decode cX9_claimant 19 = .ok (.ifCond .ne 6, 3) := by decide +kernel
theorem dX9_claimant_22 : decode cX9_claimant 22 = .ok (.bipush (-3), 2) := by decide +kernel
theorem dX9_claimant_24 : decode cX9_claimant 24 = .ok (.ireturn, 1) := by decide +kernel
theorem dX9_claimant_25 : decode cX9_claimant 25 = .ok (.aload_n 0, 1) := by decide +kernel
theorem dX9_claimant_26 : decode cX9_claimant 26 = .ok (.getfield 139, 3) := by decide +kernel
theorem dX9_claimant_29 : decode cX9_claimant 29 = .ok (.bipush 8, 2) := by decide +kernel
theorem dX9_claimant_31 : decode cX9_claimant 31 = .ok (.if_icmp .ne 6, 3) := by decide +kernel
theorem dX9_claimant_34 : decode cX9_claimant 34 = .ok (.bipush (-5), 2) := by decide +kernel
theorem dX9_claimant_36 : decode cX9_claimant 36 = .ok (.ireturn, 1) := by decide +kernel
theorem dX9_claimant_37 : decode cX9_claimant 37 = .ok (.aload_n 0, 1) := by decide +kernel
theorem dX9_claimant_38 : decode cX9_claimant 38 = .ok (.getfield 36, 3) := by decide +kernel
theorem dX9_claimant_41 : decode cX9_claimant 41 = .ok (.aload_n 0, 1) := by decide +kernel
theorem dX9_claimant_42 : decode cX9_claimant 42 = .ok (.getfield 139, 3) := by decide +kernel
theorem dX9_claimant_45 : decode cX9_claimant 45 = .ok (.iload_n 1, 1) := by decide +kernel
theorem dX9_claimant_46 : decode cX9_claimant 46 = .ok (.iastore, 1) := by decide +kernel
theorem dX9_claimant_47 : decode cX9_claimant 47 = .ok (.aload_n 0, 1) := by decide +kernel
theorem dX9_claimant_48 : decode cX9_claimant 48 = .ok (.getfield 39, 3) := by decide +kernel
theorem dX9_claimant_51 : decode cX9_claimant 51 = .ok (.aload_n 0, 1) := by decide +kernel
theorem dX9_claimant_52 : decode cX9_claimant 52 = .ok (.getfield 139, 3) := by decide +kernel
theorem dX9_claimant_55 : decode cX9_claimant 55 = .ok (.iload_n 2, 1) := by decide +kernel
theorem dX9_claimant_56 : decode cX9_claimant 56 = .ok (.iastore, 1) := by decide +kernel
theorem dX9_claimant_57 : decode cX9_claimant 57 = .ok (.aload_n 0, 1) := by decide +kernel
theorem dX9_claimant_58 : decode cX9_claimant 58 = .ok (.getfield 75, 3) := by decide +kernel
theorem dX9_claimant_61 : decode cX9_claimant 61 = .ok (.aload_n 0, 1) := by decide +kernel
theorem dX9_claimant_62 : decode cX9_claimant 62 = .ok (.getfield 139, 3) := by decide +kernel
theorem dX9_claimant_65 : decode cX9_claimant 65 = .ok (.iconst 0, 1) := by decide +kernel
theorem dX9_claimant_66 : decode cX9_claimant 66 = .ok (.iastore, 1) := by decide +kernel
theorem dX9_claimant_67 : decode cX9_claimant 67 = .ok (.aload_n 0, 1) := by decide +kernel
theorem dX9_claimant_68 : decode cX9_claimant 68 = .ok (.getfield 81, 3) := by decide +kernel
theorem dX9_claimant_71 : decode cX9_claimant 71 = .ok (.aload_n 0, 1) := by decide +kernel
theorem dX9_claimant_72 : decode cX9_claimant 72 = .ok (.getfield 139, 3) := by decide +kernel
theorem dX9_claimant_75 : decode cX9_claimant 75 = .ok (.iconst (-1), 1) := by decide +kernel
theorem dX9_claimant_76 : decode cX9_claimant 76 = .ok (.iastore, 1) := by decide +kernel
theorem dX9_claimant_77 : decode cX9_claimant 77 = .ok (.aload_n 0, 1) := by decide +kernel
theorem dX9_claimant_78 : decode cX9_claimant 78 = .ok (.dup, 1) := by decide +kernel
theorem dX9_claimant_79 : decode cX9_claimant 79 = .ok (.getfield 139, 3) := by decide +kernel
theorem dX9_claimant_82 : decode cX9_claimant 82 = .ok (.iconst 1, 1) := by decide +kernel
theorem dX9_claimant_83 : decode cX9_claimant 83 = .ok (.iadd, 1) := by decide +kernel
theorem dX9_claimant_84 : decode cX9_claimant 84 = .ok (.putfield 139, 3) := by decide +kernel
theorem dX9_claimant_87 : decode cX9_claimant 87 = .ok (.aload_n 0, 1) := by decide +kernel
theorem dX9_claimant_88 : decode cX9_claimant 88 = .ok (.getfield 139, 3) := by decide +kernel
theorem dX9_claimant_91 : decode cX9_claimant 91 = .ok (.iconst 1, 1) := by decide +kernel
theorem dX9_claimant_92 : decode cX9_claimant 92 = .ok (.isub, 1) := by decide +kernel
theorem dX9_claimant_93 : decode cX9_claimant 93 = .ok (.ireturn, 1) := by decide +kernel
theorem dX9_isOf_0 : decode cX9_isOf 0 = .ok (.aload_n 0, 1) := by decide +kernel
theorem dX9_isOf_1 : decode cX9_isOf 1 = .ok (.iconst 0, 1) := by decide +kernel
theorem dX9_isOf_2 : decode cX9_isOf 2 = .ok (.putfield 133, 3) := by decide +kernel
theorem dX9_isOf_5 : decode cX9_isOf 5 = .ok (.aload_n 0, 1) := by decide +kernel
theorem dX9_isOf_6 : decode cX9_isOf 6 = .ok (.iload_n 1, 1) := by decide +kernel
theorem dX9_isOf_7 : decode cX9_isOf 7 = .ok (.invokevirtual 182, 3) := by decide +kernel
theorem dX9_isOf_10 : decode cX9_isOf 10 = .ok (.ifCond .eq 12, 3) := by decide +kernel
theorem dX9_isOf_13 : decode cX9_isOf 13 = .ok (.iload_n 2, 1) := by decide +kernel
theorem dX9_isOf_14 : decode cX9_isOf 14 = .ok (.iconst 0, 1) := by decide +kernel
theorem dX9_isOf_15 : decode cX9_isOf 15 = .ok (.iconst 4, 1) := by decide +kernel
theorem dX9_isOf_16 : decode cX9_isOf 16 = .ok (.invokestatic 152, 3) := by decide +kernel
theorem dX9_isOf_19 : decode cX9_isOf 19 = .ok (.ifCond .ne 6, 3) := by decide +kernel
theorem dX9_isOf_22 : decode cX9_isOf 22 = .ok (.bipush (-3), 2) := by decide +kernel
theorem dX9_isOf_24 : decode cX9_isOf 24 = .ok (.ireturn, 1) := by decide +kernel
theorem dX9_isOf_25 : decode cX9_isOf 25 = .ok (.iload_n 2, 1) := by decide +kernel
theorem dX9_isOf_26 : decode cX9_isOf 26 = .ok (.ifCond .eq 28, 3) := by decide +kernel
theorem dX9_isOf_29 : decode cX9_isOf 29 = .ok (.aload_n 0, 1) := by decide +kernel
theorem dX9_isOf_30 : decode cX9_isOf 30 = .ok (.getfield 36, 3) := by decide +kernel
theorem dX9_isOf_33 : decode cX9_isOf 33 = .ok (.iload_n 1, 1) := by decide +kernel
theorem dX9_isOf_34 : decode cX9_isOf 34 = .ok (.iaload, 1) := by decide +kernel
theorem dX9_isOf_35 : decode cX9_isOf 35 = .ok (.iload_n 2, 1) := by decide +kernel
theorem dX9_isOf_36 : decode cX9_isOf 36 = .ok (.if_icmp .eq 18, 3) := by decide +kernel
theorem dX9_isOf_39 : decode cX9_isOf 39 = .ok (.iload_n 2, 1) := by decide +kernel
theorem dX9_isOf_40 : decode cX9_isOf 40 = .ok (.iconst 1, 1) := by decide +kernel
theorem dX9_isOf_41 : decode cX9_isOf 41 = .ok (.if_icmp .ne 17, 3) := by decide +kernel
theorem dX9_isOf_44 : decode cX9_isOf 44 = .ok (.aload_n 0, 1) := by decide +kernel
theorem dX9_isOf_45 : decode cX9_isOf 45 = .ok (.getfield 36, 3) := by decide +kernel
theorem dX9_isOf_48 : decode cX9_isOf 48 = .ok (.iload_n 1, 1) := by decide +kernel
theorem dX9_isOf_49 : decode cX9_isOf 49 = .ok (.iaload, 1) := by decide +kernel
theorem dX9_isOf_50 : decode cX9_isOf 50 = .ok (.iconst 3, 1) := by decide +kernel
theorem dX9_isOf_51 : decode cX9_isOf 51 = .ok (.if_icmp .ne 7, 3) := by decide +kernel
theorem dX9_isOf_54 : decode cX9_isOf 54 = .ok (.iconst 1, 1) := by decide +kernel
theorem dX9_isOf_55 : decode cX9_isOf 55 = .ok (.goto 4, 3) := by decide +kernel
theorem dX9_isOf_58 : decode cX9_isOf 58 = .ok (.iconst 0, 1) := by decide +kernel
theorem dX9_isOf_59 : decode cX9_isOf 59 = .ok (.ireturn, 1) := by decide +kernel
theorem dX9_firstOf_0 : decode cX9_firstOf 0 = .ok (.iconst 0, 1) := by decide +kernel
theorem dX9_firstOf_1 : decode cX9_firstOf 1 = .ok (.istore_n 2, 1) := by decide +kernel
theorem dX9_firstOf_2 : decode cX9_firstOf 2 = .ok (.iload_n 2, 1) := by decide +kernel
theorem dX9_firstOf_3 : decode cX9_firstOf 3 = .ok (.aload_n 0, 1) := by decide +kernel
theorem dX9_firstOf_4 : decode cX9_firstOf 4 = .ok (.getfield 139, 3) := by decide +kernel
theorem dX9_firstOf_7 : decode cX9_firstOf 7 = .ok (.if_icmp .ge 21, 3) := by decide +kernel
theorem dX9_firstOf_10 : decode cX9_firstOf 10 = .ok (.aload_n 0, 1) := by decide +kernel
theorem dX9_firstOf_11 : decode cX9_firstOf 11 = .ok (.getfield 36, 3) := by decide +kernel
theorem dX9_firstOf_14 : decode cX9_firstOf 14 = .ok (.iload_n 2, 1) := by decide +kernel
theorem dX9_firstOf_15 : decode cX9_firstOf 15 = .ok (.iaload, 1) := by decide +kernel
theorem dX9_firstOf_16 : decode cX9_firstOf 16 = .ok (.iload_n 1, 1) := by decide +kernel
theorem dX9_firstOf_17 : decode cX9_firstOf 17 = .ok (.if_icmp .ne 5, 3) := by decide +kernel
theorem dX9_firstOf_20 : decode cX9_firstOf 20 = .ok (.iload_n 2, 1) := by decide +kernel
theorem dX9_firstOf_21 : decode cX9_firstOf 21 = .ok (.ireturn, 1) := by decide +kernel
theorem dX9_firstOf_22 : decode cX9_firstOf 22 = .ok (.iinc 2 1, 3) := by decide +kernel
theorem dX9_firstOf_25 : decode cX9_firstOf 25 = .ok (.goto (-23), 3) := by decide +kernel
theorem dX9_firstOf_28 : decode cX9_firstOf 28 = .ok (.iconst (-1), 1) := by decide +kernel
theorem dX9_firstOf_29 : decode cX9_firstOf 29 = .ok (.ireturn, 1) := by decide +kernel
theorem dX9_claim_0 : decode cX9_claim 0 = .ok (.aload_n 0, 1) := by decide +kernel
theorem dX9_claim_1 : decode cX9_claim 1 = .ok (.iconst 0, 1) := by decide +kernel
theorem dX9_claim_2 : decode cX9_claim 2 = .ok (.putfield 133, 3) := by decide +kernel
theorem dX9_claim_5 : decode cX9_claim 5 = .ok (.aload_n 0, 1) := by decide +kernel
theorem dX9_claim_6 : decode cX9_claim 6 = .ok (.iload_n 1, 1) := by decide +kernel
theorem dX9_claim_7 : decode cX9_claim 7 = .ok (.invokevirtual 182, 3) := by decide +kernel
theorem dX9_claim_10 : decode cX9_claim 10 = .ok (.ifCond .eq 40, 3) := by decide +kernel
theorem dX9_claim_13 : decode cX9_claim 13 = .ok (.aload_n 0, 1) := by decide +kernel
theorem dX9_claim_14 : decode cX9_claim 14 = .ok (.iload_n 2, 1) := by decide +kernel
theorem dX9_claim_15 : decode cX9_claim 15 = .ok (.invokevirtual 156, 3) := by decide +kernel
theorem dX9_claim_18 : decode cX9_claim 18 = .ok (.ifCond .ne 15, 3) := by decide +kernel
theorem dX9_claim_21 : decode cX9_claim 21 = .ok (.iload_n 2, 1) := by decide +kernel
theorem dX9_claim_22 : decode cX9_claim 22 = .ok (.bipush 101, 2) := by decide +kernel
theorem dX9_claim_24 : decode cX9_claim 24 = .ok (.sipush 150, 3) := by decide +kernel
theorem dX9_claim_27 : decode cX9_claim 27 = .ok (.invokestatic 152, 3) := by decide +kernel
theorem dX9_claim_30 : decode cX9_claim 30 = .ok (.ifCond .eq 20, 3) := by decide +kernel
theorem dX9_claim_33 : decode cX9_claim 33 = .ok (.iload_n 3, 1) := by decide +kernel
theorem dX9_claim_34 : decode cX9_claim 34 = .ok (.iconst 0, 1) := by decide +kernel
theorem dX9_claim_35 : decode cX9_claim 35 = .ok (.iconst 3, 1) := by decide +kernel
theorem dX9_claim_36 : decode cX9_claim 36 = .ok (.invokestatic 152, 3) := by decide +kernel
theorem dX9_claim_39 : decode cX9_claim 39 = .ok (.ifCond .eq 11, 3) := by decide +kernel
theorem dX9_claim_42 : decode cX9_claim 42 = .ok (.iload 4, 2) := by decide +kernel
theorem dX9_claim_44 : decode cX9_claim 44 = .ok (.invokestatic 185, 3) := by decide +kernel
theorem dX9_claim_47 : decode cX9_claim 47 = .ok (.ifCond .ne 6, 3) := by decide +kernel
theorem dX9_claim_50 : decode cX9_claim 50 = .ok (.bipush (-3), 2) := by decide +kernel
theorem dX9_claim_52 : decode cX9_claim 52 = .ok (.ireturn, 1) := by decide +kernel
theorem dX9_claim_53 : decode cX9_claim 53 = .ok (.aload_n 0, 1) := by decide +kernel
theorem dX9_claim_54 : decode cX9_claim 54 = .ok (.getfield 142, 3) := by decide +kernel
theorem dX9_claim_57 : decode cX9_claim 57 = .ok (.bipush 40, 2) := by decide +kernel
theorem dX9_claim_59 : decode cX9_claim 59 = .ok (.if_icmp .ne 6, 3) := by decide +kernel
theorem dX9_claim_62 : decode cX9_claim 62 = .ok (.bipush (-5), 2) := by decide +kernel
theorem dX9_claim_64 : decode cX9_claim 64 = .ok (.ireturn, 1) := by decide +kernel
theorem dX9_claim_65 : decode cX9_claim 65 = .ok (.aload_n 0, 1) := by decide +kernel
theorem dX9_claim_66 : decode cX9_claim 66 = .ok (.getfield 42, 3) := by decide +kernel
theorem dX9_claim_69 : decode cX9_claim 69 = .ok (.aload_n 0, 1) := by decide +kernel
theorem dX9_claim_70 : decode cX9_claim 70 = .ok (.getfield 142, 3) := by decide +kernel
theorem dX9_claim_73 : decode cX9_claim 73 = .ok (.iload_n 1, 1) := by decide +kernel
theorem dX9_claim_74 : decode cX9_claim 74 = .ok (.iastore, 1) := by decide +kernel
theorem dX9_claim_75 : decode cX9_claim 75 = .ok (.aload_n 0, 1) := by decide +kernel
theorem dX9_claim_76 : decode cX9_claim 76 = .ok (.getfield 45, 3) := by decide +kernel
theorem dX9_claim_79 : decode cX9_claim 79 = .ok (.aload_n 0, 1) := by decide +kernel
theorem dX9_claim_80 : decode cX9_claim 80 = .ok (.getfield 142, 3) := by decide +kernel
theorem dX9_claim_83 : decode cX9_claim 83 = .ok (.iload_n 2, 1) := by decide +kernel
theorem dX9_claim_84 : decode cX9_claim 84 = .ok (.iastore, 1) := by decide +kernel
theorem dX9_claim_85 : decode cX9_claim 85 = .ok (.aload_n 0, 1) := by decide +kernel
theorem dX9_claim_86 : decode cX9_claim 86 = .ok (.getfield 48, 3) := by decide +kernel
theorem dX9_claim_89 : decode cX9_claim 89 = .ok (.aload_n 0, 1) := by decide +kernel
theorem dX9_claim_90 : decode cX9_claim 90 = .ok (.getfield 142, 3) := by decide +kernel
theorem dX9_claim_93 : decode cX9_claim 93 = .ok (.iload_n 3, 1) := by decide +kernel
theorem dX9_claim_94 : decode cX9_claim 94 = .ok (.iastore, 1) := by decide +kernel
theorem dX9_claim_95 : decode cX9_claim 95 = .ok (.aload_n 0, 1) := by decide +kernel
theorem dX9_claim_96 : decode cX9_claim 96 = .ok (.getfield 51, 3) := by decide +kernel
theorem dX9_claim_99 : decode cX9_claim 99 = .ok (.aload_n 0, 1) := by decide +kernel
theorem dX9_claim_100 : decode cX9_claim 100 = .ok (.getfield 142, 3) := by decide +kernel
theorem dX9_claim_103 : decode cX9_claim 103 = .ok (.iload 4, 2) := by decide +kernel
theorem dX9_claim_105 : decode cX9_claim 105 = .ok (.iastore, 1) := by decide +kernel
theorem dX9_claim_106 : decode cX9_claim 106 = .ok (.aload_n 0, 1) := by decide +kernel
theorem dX9_claim_107 : decode cX9_claim 107 = .ok (.dup, 1) := by decide +kernel
theorem dX9_claim_108 : decode cX9_claim 108 = .ok (.getfield 142, 3) := by decide +kernel
theorem dX9_claim_111 : decode cX9_claim 111 = .ok (.iconst 1, 1) := by decide +kernel
theorem dX9_claim_112 : decode cX9_claim 112 = .ok (.iadd, 1) := by decide +kernel
theorem dX9_claim_113 : decode cX9_claim 113 = .ok (.putfield 142, 3) := by decide +kernel
theorem dX9_claim_116 : decode cX9_claim 116 = .ok (.aload_n 0, 1) := by decide +kernel
theorem dX9_claim_117 : decode cX9_claim 117 = .ok (.getfield 142, 3) := by decide +kernel
theorem dX9_claim_120 : decode cX9_claim 120 = .ok (.iconst 1, 1) := by decide +kernel
theorem dX9_claim_121 : decode cX9_claim 121 = .ok (.isub, 1) := by decide +kernel
theorem dX9_claim_122 : decode cX9_claim 122 = .ok (.ireturn, 1) := by decide +kernel
theorem dX9_withdraw_0 : decode cX9_withdraw 0 = .ok (.aload_n 0, 1) := by decide +kernel
theorem dX9_withdraw_1 : decode cX9_withdraw 1 = .ok (.iconst 0, 1) := by decide +kernel
theorem dX9_withdraw_2 : decode cX9_withdraw 2 = .ok (.putfield 133, 3) := by decide +kernel
theorem dX9_withdraw_5 : decode cX9_withdraw 5 = .ok (.aload_n 0, 1) := by decide +kernel
theorem dX9_withdraw_6 : decode cX9_withdraw 6 = .ok (.getfield 142, 3) := by decide +kernel
theorem dX9_withdraw_9 : decode cX9_withdraw 9 = .ok (.ifCond .ne 6, 3) := by decide +kernel
theorem dX9_withdraw_12 : decode cX9_withdraw 12 = .ok (.bipush (-4), 2) := by decide +kernel
theorem dX9_withdraw_14 : decode cX9_withdraw 14 = .ok (.ireturn, 1) := by decide +kernel
theorem dX9_withdraw_15 : decode cX9_withdraw 15 = .ok (.aload_n 0, 1) := by decide +kernel
theorem dX9_withdraw_16 : decode cX9_withdraw 16 = .ok (.dup, 1) := by decide +kernel
theorem dX9_withdraw_17 : decode cX9_withdraw 17 = .ok (.getfield 142, 3) := by decide +kernel
theorem dX9_withdraw_20 : decode cX9_withdraw 20 = .ok (.iconst 1, 1) := by decide +kernel
theorem dX9_withdraw_21 : decode cX9_withdraw 21 = .ok (.isub, 1) := by decide +kernel
theorem dX9_withdraw_22 : decode cX9_withdraw 22 = .ok (.putfield 142, 3) := by decide +kernel
theorem dX9_withdraw_25 : decode cX9_withdraw 25 = .ok (.aload_n 0, 1) := by decide +kernel
theorem dX9_withdraw_26 : decode cX9_withdraw 26 = .ok (.getfield 142, 3) := by decide +kernel
theorem dX9_withdraw_29 : decode cX9_withdraw 29 = .ok (.ireturn, 1) := by decide +kernel
theorem dX9_rule_0 : decode cX9_rule 0 = .ok (.aload_n 0, 1) := by decide +kernel
theorem dX9_rule_1 : decode cX9_rule 1 = .ok (.iconst 0, 1) := by decide +kernel
theorem dX9_rule_2 : decode cX9_rule 2 = .ok (.putfield 133, 3) := by decide +kernel
theorem dX9_rule_5 : decode cX9_rule 5 = .ok (.iload_n 1, 1) := by decide +kernel
theorem dX9_rule_6 : decode cX9_rule 6 = .ok (.iconst 2, 1) := by decide +kernel
theorem dX9_rule_7 : decode cX9_rule 7 = .ok (.if_icmp .ge 9, 3) := by decide +kernel
theorem dX9_rule_10 : decode cX9_rule 10 = .ok (.sipush 999, 3) := by decide +kernel
theorem dX9_rule_13 : decode cX9_rule 13 = .ok (.goto 26, 3) := by decide +kernel
theorem dX9_rule_16 : decode cX9_rule 16 = .ok (.iload_n 1, 1) := by decide +kernel
theorem dX9_rule_17 : decode cX9_rule 17 = .ok (.iconst 2, 1) := by decide +kernel
theorem dX9_rule_18 : decode cX9_rule 18 = .ok (.if_icmp .ne 8, 3) := by decide +kernel
theorem dX9_rule_21 : decode cX9_rule 21 = .ok (.bipush 50, 2) := by decide +kernel
theorem dX9_rule_23 : decode cX9_rule 23 = .ok (.goto 16, 3) := by decide +kernel
theorem dX9_rule_26 : decode cX9_rule 26 = .ok (.iload_n 1, 1) := by decide +kernel
theorem dX9_rule_27 : decode cX9_rule 27 = .ok (.iconst 3, 1) := by decide +kernel
theorem dX9_rule_28 : decode cX9_rule 28 = .ok (.if_icmp .ne 9, 3) := by decide +kernel
theorem dX9_rule_31 : decode cX9_rule 31 = .ok (.sipush 1000, 3) := by decide +kernel
theorem dX9_rule_34 : decode cX9_rule 34 = .ok (.goto 5, 3) := by decide +kernel
theorem dX9_rule_37 : decode cX9_rule 37 = .ok (.bipush 50, 2) := by decide +kernel
theorem dX9_rule_39 : decode cX9_rule 39 = .ok (.istore_n 3, 1) := by decide +kernel
theorem dX9_rule_40 : decode cX9_rule 40 = .ok (.iload_n 1, 1) := by decide +kernel
theorem dX9_rule_41 : decode cX9_rule 41 = .ok (.iconst 0, 1) := by decide +kernel
theorem dX9_rule_42 : decode cX9_rule 42 = .ok (.iconst 4, 1) := by decide +kernel
theorem dX9_rule_43 : decode cX9_rule 43 = .ok (.invokestatic 152, 3) := by decide +kernel
theorem dX9_rule_46 : decode cX9_rule 46 = .ok (.ifCond .eq 12, 3) := by decide +kernel
theorem dX9_rule_49 : decode cX9_rule 49 = .ok (.iload_n 2, 1) := by decide +kernel
theorem dX9_rule_50 : decode cX9_rule 50 = .ok (.iconst 0, 1) := by decide +kernel
theorem dX9_rule_51 : decode cX9_rule 51 = .ok (.iload_n 3, 1) := by decide +kernel
theorem dX9_rule_52 : decode cX9_rule 52 = .ok (.invokestatic 152, 3) := by decide +kernel
theorem dX9_rule_55 : decode cX9_rule 55 = .ok (.ifCond .ne 6, 3) := by decide +kernel
theorem dX9_rule_58 : decode cX9_rule 58 = .ok (.bipush (-3), 2) := by decide +kernel
theorem dX9_rule_60 : decode cX9_rule 60 = .ok (.ireturn, 1) := by decide +kernel
theorem dX9_rule_61 : decode cX9_rule 61 = .ok (.iload_n 1, 1) := by decide +kernel
theorem dX9_rule_62 : decode cX9_rule 62 = .ok (.ifCond .ne 10, 3) := by decide +kernel
theorem dX9_rule_65 : decode cX9_rule 65 = .ok (.aload_n 0, 1) := by decide +kernel
theorem dX9_rule_66 : decode cX9_rule 66 = .ok (.getfield 63, 3) := by decide +kernel
theorem dX9_rule_69 : decode cX9_rule 69 = .ok (.goto 43, 3) := by decide +kernel
theorem dX9_rule_72 : decode cX9_rule 72 = .ok (.iload_n 1, 1) := by decide +kernel
theorem dX9_rule_73 : decode cX9_rule 73 = .ok (.iconst 1, 1) := by decide +kernel
theorem dX9_rule_74 : decode cX9_rule 74 = .ok (.if_icmp .ne 10, 3) := by decide +kernel
theorem dX9_rule_77 : decode cX9_rule 77 = .ok (.aload_n 0, 1) := by decide +kernel
theorem dX9_rule_78 : decode cX9_rule 78 = .ok (.getfield 66, 3) := by decide +kernel
theorem dX9_rule_81 : decode cX9_rule 81 = .ok (.goto 31, 3) := by decide +kernel
theorem dX9_rule_84 : decode cX9_rule 84 = .ok (.iload_n 1, 1) := by decide +kernel
theorem dX9_rule_85 : decode cX9_rule 85 = .ok (.iconst 2, 1) := by decide +kernel
theorem dX9_rule_86 : decode cX9_rule 86 = .ok (.if_icmp .ne 10, 3) := by decide +kernel
theorem dX9_rule_89 : decode cX9_rule 89 = .ok (.aload_n 0, 1) := by decide +kernel
theorem dX9_rule_90 : decode cX9_rule 90 = .ok (.getfield 188, 3) := by decide +kernel
theorem dX9_rule_93 : decode cX9_rule 93 = .ok (.goto 19, 3) := by decide +kernel
theorem dX9_rule_96 : decode cX9_rule 96 = .ok (.iload_n 1, 1) := by decide +kernel
theorem dX9_rule_97 : decode cX9_rule 97 = .ok (.iconst 3, 1) := by decide +kernel
theorem dX9_rule_98 : decode cX9_rule 98 = .ok (.if_icmp .ne 10, 3) := by decide +kernel
theorem dX9_rule_101 : decode cX9_rule 101 = .ok (.aload_n 0, 1) := by decide +kernel
theorem dX9_rule_102 : decode cX9_rule 102 = .ok (.getfield 191, 3) := by decide +kernel
theorem dX9_rule_105 : decode cX9_rule 105 = .ok (.goto 7, 3) := by decide +kernel
theorem dX9_rule_108 : decode cX9_rule 108 = .ok (.aload_n 0, 1) := by decide +kernel
theorem dX9_rule_109 : decode cX9_rule 109 = .ok (.getfield 69, 3) := by decide +kernel
theorem dX9_rule_112 : decode cX9_rule 112 = .ok (.istore 4, 2) := by decide +kernel
theorem dX9_rule_114 : decode cX9_rule 114 = .ok (.aload_n 0, 1) := by decide +kernel
theorem dX9_rule_115 : decode cX9_rule 115 = .ok (.iload_n 1, 1) := by decide +kernel
theorem dX9_rule_116 : decode cX9_rule 116 = .ok (.ifCond .ne 7, 3) := by decide +kernel
theorem dX9_rule_119 : decode cX9_rule 119 = .ok (.iload_n 2, 1) := by decide +kernel
theorem dX9_rule_120 : decode cX9_rule 120 = .ok (.goto 7, 3) := by decide +kernel
theorem dX9_rule_123 : decode cX9_rule 123 = .ok (.aload_n 0, 1) := by decide +kernel
theorem dX9_rule_124 : decode cX9_rule 124 = .ok (.getfield 63, 3) := by decide +kernel
theorem dX9_rule_127 : decode cX9_rule 127 = .ok (.putfield 63, 3) := by decide +kernel
theorem dX9_rule_130 : decode cX9_rule 130 = .ok (.aload_n 0, 1) := by decide +kernel
theorem dX9_rule_131 : decode cX9_rule 131 = .ok (.iload_n 1, 1) := by decide +kernel
theorem dX9_rule_132 : decode cX9_rule 132 = .ok (.iconst 1, 1) := by decide +kernel
theorem dX9_rule_133 : decode cX9_rule 133 = .ok (.if_icmp .ne 7, 3) := by decide +kernel
theorem dX9_rule_136 : decode cX9_rule 136 = .ok (.iload_n 2, 1) := by decide +kernel
theorem dX9_rule_137 : decode cX9_rule 137 = .ok (.goto 7, 3) := by decide +kernel
theorem dX9_rule_140 : decode cX9_rule 140 = .ok (.aload_n 0, 1) := by decide +kernel
theorem dX9_rule_141 : decode cX9_rule 141 = .ok (.getfield 66, 3) := by decide +kernel
theorem dX9_rule_144 : decode cX9_rule 144 = .ok (.putfield 66, 3) := by decide +kernel
theorem dX9_rule_147 : decode cX9_rule 147 = .ok (.aload_n 0, 1) := by decide +kernel
theorem dX9_rule_148 : decode cX9_rule 148 = .ok (.iload_n 1, 1) := by decide +kernel
theorem dX9_rule_149 : decode cX9_rule 149 = .ok (.iconst 2, 1) := by decide +kernel
theorem dX9_rule_150 : decode cX9_rule 150 = .ok (.if_icmp .ne 7, 3) := by decide +kernel
theorem dX9_rule_153 : decode cX9_rule 153 = .ok (.iload_n 2, 1) := by decide +kernel
theorem dX9_rule_154 : decode cX9_rule 154 = .ok (.goto 7, 3) := by decide +kernel
theorem dX9_rule_157 : decode cX9_rule 157 = .ok (.aload_n 0, 1) := by decide +kernel
theorem dX9_rule_158 : decode cX9_rule 158 = .ok (.getfield 188, 3) := by decide +kernel
theorem dX9_rule_161 : decode cX9_rule 161 = .ok (.putfield 188, 3) := by decide +kernel
theorem dX9_rule_164 : decode cX9_rule 164 = .ok (.aload_n 0, 1) := by decide +kernel
theorem dX9_rule_165 : decode cX9_rule 165 = .ok (.iload_n 1, 1) := by decide +kernel
theorem dX9_rule_166 : decode cX9_rule 166 = .ok (.iconst 3, 1) := by decide +kernel
theorem dX9_rule_167 : decode cX9_rule 167 = .ok (.if_icmp .ne 7, 3) := by decide +kernel
theorem dX9_rule_170 : decode cX9_rule 170 = .ok (.iload_n 2, 1) := by decide +kernel
theorem dX9_rule_171 : decode cX9_rule 171 = .ok (.goto 7, 3) := by decide +kernel
theorem dX9_rule_174 : decode cX9_rule 174 = .ok (.aload_n 0, 1) := by decide +kernel
theorem dX9_rule_175 : decode cX9_rule 175 = .ok (.getfield 191, 3) := by decide +kernel
theorem dX9_rule_178 : decode cX9_rule 178 = .ok (.putfield 191, 3) := by decide +kernel
theorem dX9_rule_181 : decode cX9_rule 181 = .ok (.aload_n 0, 1) := by decide +kernel
theorem dX9_rule_182 : decode cX9_rule 182 = .ok (.iload_n 1, 1) := by decide +kernel
theorem dX9_rule_183 : decode cX9_rule 183 = .ok (.iconst 4, 1) := by decide +kernel
theorem dX9_rule_184 : decode cX9_rule 184 = .ok (.if_icmp .ne 7, 3) := by decide +kernel
theorem dX9_rule_187 : decode cX9_rule 187 = .ok (.iload_n 2, 1) := by decide +kernel
theorem dX9_rule_188 : decode cX9_rule 188 = .ok (.goto 7, 3) := by decide +kernel
theorem dX9_rule_191 : decode cX9_rule 191 = .ok (.aload_n 0, 1) := by decide +kernel
theorem dX9_rule_192 : decode cX9_rule 192 = .ok (.getfield 69, 3) := by decide +kernel
theorem dX9_rule_195 : decode cX9_rule 195 = .ok (.putfield 69, 3) := by decide +kernel
theorem dX9_rule_198 : decode cX9_rule 198 = .ok (.iload 4, 2) := by decide +kernel
theorem dX9_rule_200 : decode cX9_rule 200 = .ok (.ireturn, 1) := by decide +kernel
theorem dX9_object_0 : decode cX9_object 0 = .ok (.aload_n 0, 1) := by decide +kernel
theorem dX9_object_1 : decode cX9_object 1 = .ok (.iconst 0, 1) := by decide +kernel
theorem dX9_object_2 : decode cX9_object 2 = .ok (.putfield 133, 3) := by decide +kernel
theorem dX9_object_5 : decode cX9_object 5 = .ok (.aload_n 0, 1) := by decide +kernel
theorem dX9_object_6 : decode cX9_object 6 = .ok (.iload_n 1, 1) := by decide +kernel
theorem dX9_object_7 : decode cX9_object 7 = .ok (.invokevirtual 182, 3) := by decide +kernel
theorem dX9_object_10 : decode cX9_object 10 = .ok (.ifCond .eq 18, 3) := by decide +kernel
theorem dX9_object_13 : decode cX9_object 13 = .ok (.aload_n 0, 1) := by decide +kernel
theorem dX9_object_14 : decode cX9_object 14 = .ok (.iload_n 2, 1) := by decide +kernel
theorem dX9_object_15 : decode cX9_object 15 = .ok (.invokevirtual 156, 3) := by decide +kernel
theorem dX9_object_18 : decode cX9_object 18 = .ok (.ifCond .eq 10, 3) := by decide +kernel
theorem dX9_object_21 : decode cX9_object 21 = .ok (.iload_n 3, 1) := by decide +kernel
theorem dX9_object_22 : decode cX9_object 22 = .ok (.invokestatic 185, 3) := by decide +kernel
theorem dX9_object_25 : decode cX9_object 25 = .ok (.ifCond .ne 6, 3) := by decide +kernel
theorem dX9_object_28 : decode cX9_object 28 = .ok (.bipush (-3), 2) := by decide +kernel
theorem dX9_object_30 : decode cX9_object 30 = .ok (.ireturn, 1) := by decide +kernel
theorem dX9_object_31 : decode cX9_object 31 = .ok (.aload_n 0, 1) := by decide +kernel
theorem dX9_object_32 : decode cX9_object 32 = .ok (.getfield 145, 3) := by decide +kernel
theorem dX9_object_35 : decode cX9_object 35 = .ok (.bipush 20, 2) := by decide +kernel
theorem dX9_object_37 : decode cX9_object 37 = .ok (.if_icmp .ne 6, 3) := by decide +kernel
theorem dX9_object_40 : decode cX9_object 40 = .ok (.bipush (-5), 2) := by decide +kernel
theorem dX9_object_42 : decode cX9_object 42 = .ok (.ireturn, 1) := by decide +kernel
theorem dX9_object_43 : decode cX9_object 43 = .ok (.aload_n 0, 1) := by decide +kernel
theorem dX9_object_44 : decode cX9_object 44 = .ok (.getfield 54, 3) := by decide +kernel
theorem dX9_object_47 : decode cX9_object 47 = .ok (.aload_n 0, 1) := by decide +kernel
theorem dX9_object_48 : decode cX9_object 48 = .ok (.getfield 145, 3) := by decide +kernel
theorem dX9_object_51 : decode cX9_object 51 = .ok (.iload_n 1, 1) := by decide +kernel
theorem dX9_object_52 : decode cX9_object 52 = .ok (.iastore, 1) := by decide +kernel
theorem dX9_object_53 : decode cX9_object 53 = .ok (.aload_n 0, 1) := by decide +kernel
theorem dX9_object_54 : decode cX9_object 54 = .ok (.getfield 57, 3) := by decide +kernel
theorem dX9_object_57 : decode cX9_object 57 = .ok (.aload_n 0, 1) := by decide +kernel
theorem dX9_object_58 : decode cX9_object 58 = .ok (.getfield 145, 3) := by decide +kernel
theorem dX9_object_61 : decode cX9_object 61 = .ok (.iload_n 2, 1) := by decide +kernel
theorem dX9_object_62 : decode cX9_object 62 = .ok (.iastore, 1) := by decide +kernel
theorem dX9_object_63 : decode cX9_object 63 = .ok (.aload_n 0, 1) := by decide +kernel
theorem dX9_object_64 : decode cX9_object 64 = .ok (.getfield 60, 3) := by decide +kernel
theorem dX9_object_67 : decode cX9_object 67 = .ok (.aload_n 0, 1) := by decide +kernel
theorem dX9_object_68 : decode cX9_object 68 = .ok (.getfield 145, 3) := by decide +kernel
theorem dX9_object_71 : decode cX9_object 71 = .ok (.iload_n 3, 1) := by decide +kernel
theorem dX9_object_72 : decode cX9_object 72 = .ok (.iastore, 1) := by decide +kernel
theorem dX9_object_73 : decode cX9_object 73 = .ok (.aload_n 0, 1) := by decide +kernel
theorem dX9_object_74 : decode cX9_object 74 = .ok (.dup, 1) := by decide +kernel
theorem dX9_object_75 : decode cX9_object 75 = .ok (.getfield 145, 3) := by decide +kernel
theorem dX9_object_78 : decode cX9_object 78 = .ok (.iconst 1, 1) := by decide +kernel
theorem dX9_object_79 : decode cX9_object 79 = .ok (.iadd, 1) := by decide +kernel
theorem dX9_object_80 : decode cX9_object 80 = .ok (.putfield 145, 3) := by decide +kernel
theorem dX9_object_83 : decode cX9_object 83 = .ok (.aload_n 0, 1) := by decide +kernel
theorem dX9_object_84 : decode cX9_object 84 = .ok (.getfield 145, 3) := by decide +kernel
theorem dX9_object_87 : decode cX9_object 87 = .ok (.iconst 1, 1) := by decide +kernel
theorem dX9_object_88 : decode cX9_object 88 = .ok (.isub, 1) := by decide +kernel
theorem dX9_object_89 : decode cX9_object 89 = .ok (.ireturn, 1) := by decide +kernel
theorem dX9_counts_0 : decode cX9_counts 0 = .ok (.aload_n 0, 1) := by decide +kernel
theorem dX9_counts_1 : decode cX9_counts 1 = .ok (.getfield 51, 3) := by decide +kernel
theorem dX9_counts_4 : decode cX9_counts 4 = .ok (.iload_n 1, 1) := by decide +kernel
theorem dX9_counts_5 : decode cX9_counts 5 = .ok (.iaload, 1) := by decide +kernel
theorem dX9_counts_6 : decode cX9_counts 6 = .ok (.iload_n 2, 1) := by decide +kernel
theorem dX9_counts_7 : decode cX9_counts 7 = .ok (.if_icmp .gt 27, 3) := by decide +kernel
theorem dX9_counts_10 : decode cX9_counts 10 = .ok (.aload_n 0, 1) := by decide +kernel
theorem dX9_counts_11 : decode cX9_counts 11 = .ok (.getfield 194, 3) := by decide +kernel
theorem dX9_counts_14 : decode cX9_counts 14 = .ok (.ifCond .ne 16, 3) := by decide +kernel
theorem dX9_counts_17 : decode cX9_counts 17 = .ok (.aload_n 0, 1) := by decide +kernel
theorem dX9_counts_18 : decode cX9_counts 18 = .ok (.getfield 51, 3) := by decide +kernel
theorem dX9_counts_21 : decode cX9_counts 21 = .ok (.iload_n 1, 1) := by decide +kernel
theorem dX9_counts_22 : decode cX9_counts 22 = .ok (.iaload, 1) := by decide +kernel
theorem dX9_counts_23 : decode cX9_counts 23 = .ok (.aload_n 0, 1) := by decide +kernel
theorem dX9_counts_24 : decode cX9_counts 24 = .ok (.getfield 63, 3) := by decide +kernel
theorem dX9_counts_27 : decode cX9_counts 27 = .ok (.if_icmp .gt 7, 3) := by decide +kernel
theorem dX9_counts_30 : decode cX9_counts 30 = .ok (.iconst 1, 1) := by decide +kernel
theorem dX9_counts_31 : decode cX9_counts 31 = .ok (.goto 4, 3) := by decide +kernel
theorem dX9_counts_34 : decode cX9_counts 34 = .ok (.iconst 0, 1) := by decide +kernel
theorem dX9_counts_35 : decode cX9_counts 35 = .ok (.ireturn, 1) := by decide +kernel
theorem dX9_holderOf_0 : decode cX9_holderOf 0 = .ok (.iconst (-1), 1) := by decide +kernel
theorem dX9_holderOf_1 : decode cX9_holderOf 1 = .ok (.istore_n 3, 1) := by decide +kernel
theorem dX9_holderOf_2 : decode cX9_holderOf 2 = .ok (.aload_n 0, 1) := by decide +kernel
theorem dX9_holderOf_3 : decode cX9_holderOf 3 = .ok (.getfield 20, 3) := by decide +kernel
theorem dX9_holderOf_6 : decode cX9_holderOf 6 = .ok (.iload_n 1, 1) := by decide +kernel
theorem dX9_holderOf_7 : decode cX9_holderOf 7 = .ok (.iaload, 1) := by decide +kernel
theorem dX9_holderOf_8 : decode cX9_holderOf 8 = .ok (.iconst 1, 1) := by decide +kernel
theorem dX9_holderOf_9 : decode cX9_holderOf 9 = .ok (.if_icmp .ne 12, 3) := by decide +kernel
theorem dX9_holderOf_12 : decode cX9_holderOf 12 = .ok (.aload_n 0, 1) := by decide +kernel
theorem dX9_holderOf_13 : decode cX9_holderOf 13 = .ok (.getfield 23, 3) := by decide +kernel
theorem dX9_holderOf_16 : decode cX9_holderOf 16 = .ok (.iload_n 1, 1) := by decide +kernel
theorem dX9_holderOf_17 : decode cX9_holderOf 17 = .ok (.baload, 1) := by decide +kernel
theorem dX9_holderOf_18 : decode cX9_holderOf 18 = .ok (.ifCond .eq 5, 3) := by decide +kernel
theorem dX9_holderOf_21 : decode cX9_holderOf 21 = .ok (.iconst (-1), 1) := by decide +kernel
theorem dX9_holderOf_22 : decode cX9_holderOf 22 = .ok (.ireturn, 1) := by decide +kernel
theorem dX9_holderOf_23 : decode cX9_holderOf 23 = .ok (.iconst 0, 1) := by decide +kernel
theorem dX9_holderOf_24 : decode cX9_holderOf 24 = .ok (.istore 4, 2) := by decide +kernel
theorem dX9_holderOf_26 : decode cX9_holderOf 26 = .ok (.iload 4, 2) := by decide +kernel
theorem dX9_holderOf_28 : decode cX9_holderOf 28 = .ok (.aload_n 0, 1) := by decide +kernel
theorem dX9_holderOf_29 : decode cX9_holderOf 29 = .ok (.getfield 142, 3) := by decide +kernel
theorem dX9_holderOf_32 : decode cX9_holderOf 32 = .ok (.if_icmp .ge 102, 3) := by decide +kernel
theorem dX9_holderOf_35 : decode cX9_holderOf 35 = .ok (.aload_n 0, 1) := by decide +kernel
theorem dX9_holderOf_36 : decode cX9_holderOf 36 = .ok (.getfield 45, 3) := by decide +kernel
theorem dX9_holderOf_39 : decode cX9_holderOf 39 = .ok (.iload 4, 2) := by decide +kernel
theorem dX9_holderOf_41 : decode cX9_holderOf 41 = .ok (.iaload, 1) := by decide +kernel
theorem dX9_holderOf_42 : decode cX9_holderOf 42 = .ok (.iload_n 1, 1) := by decide +kernel
theorem dX9_holderOf_43 : decode cX9_holderOf 43 = .ok (.if_icmp .ne 85, 3) := by decide +kernel
theorem dX9_holderOf_46 : decode cX9_holderOf 46 = .ok (.aload_n 0, 1) := by decide +kernel
theorem dX9_holderOf_47 : decode cX9_holderOf 47 = .ok (.iload 4, 2) := by decide +kernel
theorem dX9_holderOf_49 : decode cX9_holderOf 49 = .ok (.iload_n 2, 1) := by decide +kernel
theorem dX9_holderOf_50 : decode cX9_holderOf 50 = .ok (.invokevirtual 198, 3) := by decide +kernel
theorem dX9_holderOf_53 : decode cX9_holderOf 53 = .ok (.ifCond .eq 75, 3) := by decide +kernel
theorem dX9_holderOf_56 : decode cX9_holderOf 56 = .ok (.iload_n 3, 1) := by decide +kernel
theorem dX9_holderOf_57 : decode cX9_holderOf 57 = .ok (.iconst (-1), 1) := by decide +kernel
theorem dX9_holderOf_58 : decode cX9_holderOf 58 = .ok (.if_icmp .eq 51, 3) := by decide +kernel
theorem dX9_holderOf_61 : decode cX9_holderOf 61 = .ok (.aload_n 0, 1) := by decide +kernel
theorem dX9_holderOf_62 : decode cX9_holderOf 62 = .ok (.getfield 48, 3) := by decide +kernel
theorem dX9_holderOf_65 : decode cX9_holderOf 65 = .ok (.iload 4, 2) := by decide +kernel
theorem dX9_holderOf_67 : decode cX9_holderOf 67 = .ok (.iaload, 1) := by decide +kernel
theorem dX9_holderOf_68 : decode cX9_holderOf 68 = .ok (.aload_n 0, 1) := by decide +kernel
theorem dX9_holderOf_69 : decode cX9_holderOf 69 = .ok (.getfield 48, 3) := by decide +kernel
theorem dX9_holderOf_72 : decode cX9_holderOf 72 = .ok (.iload_n 3, 1) := by decide +kernel
theorem dX9_holderOf_73 : decode cX9_holderOf 73 = .ok (.iaload, 1) := by decide +kernel
theorem dX9_holderOf_74 : decode cX9_holderOf 74 = .ok (.if_icmp .gt 35, 3) := by decide +kernel
theorem dX9_holderOf_77 : decode cX9_holderOf 77 = .ok (.aload_n 0, 1) := by decide +kernel
theorem dX9_holderOf_78 : decode cX9_holderOf 78 = .ok (.getfield 48, 3) := by decide +kernel
theorem dX9_holderOf_81 : decode cX9_holderOf 81 = .ok (.iload 4, 2) := by decide +kernel
theorem dX9_holderOf_83 : decode cX9_holderOf 83 = .ok (.iaload, 1) := by decide +kernel
theorem dX9_holderOf_84 : decode cX9_holderOf 84 = .ok (.aload_n 0, 1) := by decide +kernel
theorem dX9_holderOf_85 : decode cX9_holderOf 85 = .ok (.getfield 48, 3) := by decide +kernel
theorem dX9_holderOf_88 : decode cX9_holderOf 88 = .ok (.iload_n 3, 1) := by decide +kernel
theorem dX9_holderOf_89 : decode cX9_holderOf 89 = .ok (.iaload, 1) := by decide +kernel
theorem dX9_holderOf_90 : decode cX9_holderOf 90 = .ok (.if_icmp .ne 23, 3) := by decide +kernel
theorem dX9_holderOf_93 : decode cX9_holderOf 93 = .ok (.aload_n 0, 1) := by decide +kernel
theorem dX9_holderOf_94 : decode cX9_holderOf 94 = .ok (.getfield 51, 3) := by decide +kernel
theorem dX9_holderOf_97 : decode cX9_holderOf 97 = .ok (.iload 4, 2) := by decide +kernel
theorem dX9_holderOf_99 : decode cX9_holderOf 99 = .ok (.iaload, 1) := by decide +kernel
theorem dX9_holderOf_100 : decode cX9_holderOf 100 = .ok (.aload_n 0, 1) := by decide +kernel
theorem dX9_holderOf_101 : decode cX9_holderOf 101 = .ok (.getfield 51, 3) := by decide +kernel
theorem dX9_holderOf_104 : decode cX9_holderOf 104 = .ok (.iload_n 3, 1) := by decide +kernel
theorem dX9_holderOf_105 : decode cX9_holderOf 105 = .ok (.iaload, 1) := by decide +kernel
theorem dX9_holderOf_106 : decode cX9_holderOf 106 = .ok (.if_icmp .ge 7, 3) := by decide +kernel
theorem dX9_holderOf_109 : decode cX9_holderOf 109 = .ok (.iconst 1, 1) := by decide +kernel
theorem dX9_holderOf_110 : decode cX9_holderOf 110 = .ok (.goto 4, 3) := by decide +kernel
theorem dX9_holderOf_113 : decode cX9_holderOf 113 = .ok (.iconst 0, 1) := by decide +kernel
theorem dX9_holderOf_114 : decode cX9_holderOf 114 = .ok (.istore 5, 2) := by decide +kernel
theorem dX9_holderOf_116 : decode cX9_holderOf 116 = .ok (.iload 5, 2) := by decide +kernel
theorem dX9_holderOf_118 : decode cX9_holderOf 118 = .ok (.ifCond .eq 8, 3) := by decide +kernel
theorem dX9_holderOf_121 : decode cX9_holderOf 121 = .ok (.iload 4, 2) := by decide +kernel
theorem dX9_holderOf_123 : decode cX9_holderOf 123 = .ok (.goto 4, 3) := by decide +kernel
theorem dX9_holderOf_126 : decode cX9_holderOf 126 = .ok (.iload_n 3, 1) := by decide +kernel
theorem dX9_holderOf_127 : decode cX9_holderOf 127 = .ok (.istore_n 3, 1) := by decide +kernel
theorem dX9_holderOf_128 : decode cX9_holderOf 128 = .ok (.iinc 4 1, 3) := by decide +kernel
theorem dX9_holderOf_131 : decode cX9_holderOf 131 = .ok (.goto (-105), 3) := by decide +kernel
theorem dX9_holderOf_134 : decode cX9_holderOf 134 = .ok (.iload_n 3, 1) := by decide +kernel
theorem dX9_holderOf_135 : decode cX9_holderOf 135 = .ok (.ireturn, 1) := by decide +kernel
theorem dX9_isUpheld_0 : decode cX9_isUpheld 0 = .ok (.aload_n 0, 1) := by decide +kernel
theorem dX9_isUpheld_1 : decode cX9_isUpheld 1 = .ok (.aload_n 0, 1) := by decide +kernel
theorem dX9_isUpheld_2 : decode cX9_isUpheld 2 = .ok (.getfield 57, 3) := by decide +kernel
theorem dX9_isUpheld_5 : decode cX9_isUpheld 5 = .ok (.iload_n 1, 1) := by decide +kernel
theorem dX9_isUpheld_6 : decode cX9_isUpheld 6 = .ok (.iaload, 1) := by decide +kernel
theorem dX9_isUpheld_7 : decode cX9_isUpheld 7 = .ok (.aload_n 0, 1) := by decide +kernel
theorem dX9_isUpheld_8 : decode cX9_isUpheld 8 = .ok (.getfield 60, 3) := by decide +kernel
theorem dX9_isUpheld_11 : decode cX9_isUpheld 11 = .ok (.iload_n 1, 1) := by decide +kernel
theorem dX9_isUpheld_12 : decode cX9_isUpheld 12 = .ok (.iaload, 1) := by decide +kernel
theorem dX9_isUpheld_13 : decode cX9_isUpheld 13 = .ok (.invokevirtual 202, 3) := by decide +kernel
theorem dX9_isUpheld_16 : decode cX9_isUpheld 16 = .ok (.istore_n 2, 1) := by decide +kernel
theorem dX9_isUpheld_17 : decode cX9_isUpheld 17 = .ok (.iload_n 2, 1) := by decide +kernel
theorem dX9_isUpheld_18 : decode cX9_isUpheld 18 = .ok (.iconst (-1), 1) := by decide +kernel
theorem dX9_isUpheld_19 : decode cX9_isUpheld 19 = .ok (.if_icmp .eq 18, 3) := by decide +kernel
theorem dX9_isUpheld_22 : decode cX9_isUpheld 22 = .ok (.aload_n 0, 1) := by decide +kernel
theorem dX9_isUpheld_23 : decode cX9_isUpheld 23 = .ok (.getfield 42, 3) := by decide +kernel
theorem dX9_isUpheld_26 : decode cX9_isUpheld 26 = .ok (.iload_n 2, 1) := by decide +kernel
theorem dX9_isUpheld_27 : decode cX9_isUpheld 27 = .ok (.iaload, 1) := by decide +kernel
theorem dX9_isUpheld_28 : decode cX9_isUpheld 28 = .ok (.aload_n 0, 1) := by decide +kernel
theorem dX9_isUpheld_29 : decode cX9_isUpheld 29 = .ok (.getfield 54, 3) := by decide +kernel
theorem dX9_isUpheld_32 : decode cX9_isUpheld 32 = .ok (.iload_n 1, 1) := by decide +kernel
theorem dX9_isUpheld_33 : decode cX9_isUpheld 33 = .ok (.iaload, 1) := by decide +kernel
theorem dX9_isUpheld_34 : decode cX9_isUpheld 34 = .ok (.if_icmp .ne 5, 3) := by decide +kernel
theorem dX9_isUpheld_37 : decode cX9_isUpheld 37 = .ok (.iconst 0, 1) := by decide +kernel
theorem dX9_isUpheld_38 : decode cX9_isUpheld 38 = .ok (.ireturn, 1) := by decide +kernel
theorem dX9_isUpheld_39 : decode cX9_isUpheld 39 = .ok (.iconst 0, 1) := by decide +kernel
theorem dX9_isUpheld_40 : decode cX9_isUpheld 40 = .ok (.istore_n 3, 1) := by decide +kernel
theorem dX9_isUpheld_41 : decode cX9_isUpheld 41 = .ok (.iconst 0, 1) := by decide +kernel
theorem dX9_isUpheld_42 : decode cX9_isUpheld 42 = .ok (.istore 4, 2) := by decide +kernel
theorem dX9_isUpheld_44 : decode cX9_isUpheld 44 = .ok (.iload 4, 2) := by decide +kernel
theorem dX9_isUpheld_46 : decode cX9_isUpheld 46 = .ok (.aload_n 0, 1) := by decide +kernel
theorem dX9_isUpheld_47 : decode cX9_isUpheld 47 = .ok (.getfield 142, 3) := by decide +kernel
theorem dX9_isUpheld_50 : decode cX9_isUpheld 50 = .ok (.if_icmp .ge 82, 3) := by decide +kernel
theorem dX9_isUpheld_53 : decode cX9_isUpheld 53 = .ok (.iload_n 3, 1) := by decide +kernel
theorem dX9_isUpheld_54 : decode cX9_isUpheld 54 = .ok (.ifCond .ne 66, 3) := by decide +kernel
theorem dX9_isUpheld_57 : decode cX9_isUpheld 57 = .ok (.aload_n 0, 1) := by decide +kernel
theorem dX9_isUpheld_58 : decode cX9_isUpheld 58 = .ok (.getfield 42, 3) := by decide +kernel
theorem dX9_isUpheld_61 : decode cX9_isUpheld 61 = .ok (.iload 4, 2) := by decide +kernel
theorem dX9_isUpheld_63 : decode cX9_isUpheld 63 = .ok (.iaload, 1) := by decide +kernel
theorem dX9_isUpheld_64 : decode cX9_isUpheld 64 = .ok (.aload_n 0, 1) := by decide +kernel
theorem dX9_isUpheld_65 : decode cX9_isUpheld 65 = .ok (.getfield 54, 3) := by decide +kernel
theorem dX9_isUpheld_68 : decode cX9_isUpheld 68 = .ok (.iload_n 1, 1) := by decide +kernel
theorem dX9_isUpheld_69 : decode cX9_isUpheld 69 = .ok (.iaload, 1) := by decide +kernel
theorem dX9_isUpheld_70 : decode cX9_isUpheld 70 = .ok (.if_icmp .ne 54, 3) := by decide +kernel
theorem dX9_isUpheld_73 : decode cX9_isUpheld 73 = .ok (.aload_n 0, 1) := by decide +kernel
theorem dX9_isUpheld_74 : decode cX9_isUpheld 74 = .ok (.getfield 45, 3) := by decide +kernel
theorem dX9_isUpheld_77 : decode cX9_isUpheld 77 = .ok (.iload 4, 2) := by decide +kernel
theorem dX9_isUpheld_79 : decode cX9_isUpheld 79 = .ok (.iaload, 1) := by decide +kernel
theorem dX9_isUpheld_80 : decode cX9_isUpheld 80 = .ok (.aload_n 0, 1) := by decide +kernel
theorem dX9_isUpheld_81 : decode cX9_isUpheld 81 = .ok (.getfield 57, 3) := by decide +kernel
theorem dX9_isUpheld_84 : decode cX9_isUpheld 84 = .ok (.iload_n 1, 1) := by decide +kernel
theorem dX9_isUpheld_85 : decode cX9_isUpheld 85 = .ok (.iaload, 1) := by decide +kernel
theorem dX9_isUpheld_86 : decode cX9_isUpheld 86 = .ok (.if_icmp .ne 38, 3) := by decide +kernel
theorem dX9_isUpheld_89 : decode cX9_isUpheld 89 = .ok (.aload_n 0, 1) := by decide +kernel
theorem dX9_isUpheld_90 : decode cX9_isUpheld 90 = .ok (.iload 4, 2) := by decide +kernel
theorem dX9_isUpheld_92 : decode cX9_isUpheld 92 = .ok (.aload_n 0, 1) := by decide +kernel
theorem dX9_isUpheld_93 : decode cX9_isUpheld 93 = .ok (.getfield 60, 3) := by decide +kernel
theorem dX9_isUpheld_96 : decode cX9_isUpheld 96 = .ok (.iload_n 1, 1) := by decide +kernel
theorem dX9_isUpheld_97 : decode cX9_isUpheld 97 = .ok (.iaload, 1) := by decide +kernel
theorem dX9_isUpheld_98 : decode cX9_isUpheld 98 = .ok (.invokevirtual 198, 3) := by decide +kernel
theorem dX9_isUpheld_101 : decode cX9_isUpheld 101 = .ok (.ifCond .eq 23, 3) := by decide +kernel
theorem dX9_isUpheld_104 : decode cX9_isUpheld 104 = .ok (.aload_n 0, 1) := by decide +kernel
theorem dX9_isUpheld_105 : decode cX9_isUpheld 105 = .ok (.getfield 48, 3) := by decide +kernel
theorem dX9_isUpheld_108 : decode cX9_isUpheld 108 = .ok (.iload 4, 2) := by decide +kernel
theorem dX9_isUpheld_110 : decode cX9_isUpheld 110 = .ok (.iaload, 1) := by decide +kernel
theorem dX9_isUpheld_111 : decode cX9_isUpheld 111 = .ok (.aload_n 0, 1) := by decide +kernel
theorem dX9_isUpheld_112 : decode cX9_isUpheld 112 = .ok (.getfield 48, 3) := by decide +kernel
theorem dX9_isUpheld_115 : decode cX9_isUpheld 115 = .ok (.iload_n 2, 1) := by decide +kernel
theorem dX9_isUpheld_116 : decode cX9_isUpheld 116 = .ok (.iaload, 1) := by decide +kernel
theorem dX9_isUpheld_117 : decode cX9_isUpheld 117 = .ok (.if_icmp .lt 7, 3) := by decide +kernel
theorem dX9_isUpheld_120 : decode cX9_isUpheld 120 = .ok (.iconst 1, 1) := by decide +kernel
theorem dX9_isUpheld_121 : decode cX9_isUpheld 121 = .ok (.goto 4, 3) := by decide +kernel
theorem dX9_isUpheld_124 : decode cX9_isUpheld 124 = .ok (.iconst 0, 1) := by decide +kernel
theorem dX9_isUpheld_125 : decode cX9_isUpheld 125 = .ok (.istore_n 3, 1) := by decide +kernel
theorem dX9_isUpheld_126 : decode cX9_isUpheld 126 = .ok (.iinc 4 1, 3) := by decide +kernel
theorem dX9_isUpheld_129 : decode cX9_isUpheld 129 = .ok (.goto (-85), 3) := by decide +kernel
theorem dX9_isUpheld_132 : decode cX9_isUpheld 132 = .ok (.iload_n 3, 1) := by decide +kernel
theorem dX9_isUpheld_133 : decode cX9_isUpheld 133 = .ok (.ireturn, 1) := by decide +kernel
theorem dX9_upheld_0 : decode cX9_upheld 0 = .ok (.aload_n 0, 1) := by decide +kernel
theorem dX9_upheld_1 : decode cX9_upheld 1 = .ok (.iconst 0, 1) := by decide +kernel
theorem dX9_upheld_2 : decode cX9_upheld 2 = .ok (.putfield 133, 3) := by decide +kernel
theorem dX9_upheld_5 : decode cX9_upheld 5 = .ok (.iload_n 1, 1) := by decide +kernel
theorem dX9_upheld_6 : decode cX9_upheld 6 = .ok (.iconst 0, 1) := by decide +kernel
theorem dX9_upheld_7 : decode cX9_upheld 7 = .ok (.aload_n 0, 1) := by decide +kernel
theorem dX9_upheld_8 : decode cX9_upheld 8 = .ok (.getfield 145, 3) := by decide +kernel
theorem dX9_upheld_11 : decode cX9_upheld 11 = .ok (.iconst 1, 1) := by decide +kernel
theorem dX9_upheld_12 : decode cX9_upheld 12 = .ok (.isub, 1) := by decide +kernel
theorem dX9_upheld_13 : decode cX9_upheld 13 = .ok (.invokestatic 152, 3) := by decide +kernel
theorem dX9_upheld_16 : decode cX9_upheld 16 = .ok (.ifCond .ne 6, 3) := by decide +kernel
theorem dX9_upheld_19 : decode cX9_upheld 19 = .ok (.bipush (-3), 2) := by decide +kernel
theorem dX9_upheld_21 : decode cX9_upheld 21 = .ok (.ireturn, 1) := by decide +kernel
theorem dX9_upheld_22 : decode cX9_upheld 22 = .ok (.aload_n 0, 1) := by decide +kernel
theorem dX9_upheld_23 : decode cX9_upheld 23 = .ok (.iconst 0, 1) := by decide +kernel
theorem dX9_upheld_24 : decode cX9_upheld 24 = .ok (.putfield 194, 3) := by decide +kernel
theorem dX9_upheld_27 : decode cX9_upheld 27 = .ok (.aload_n 0, 1) := by decide +kernel
theorem dX9_upheld_28 : decode cX9_upheld 28 = .ok (.iload_n 1, 1) := by decide +kernel
theorem dX9_upheld_29 : decode cX9_upheld 29 = .ok (.invokevirtual 205, 3) := by decide +kernel
theorem dX9_upheld_32 : decode cX9_upheld 32 = .ok (.ifCond .eq 7, 3) := by decide +kernel
theorem dX9_upheld_35 : decode cX9_upheld 35 = .ok (.iconst 1, 1) := by decide +kernel
theorem dX9_upheld_36 : decode cX9_upheld 36 = .ok (.goto 4, 3) := by decide +kernel
theorem dX9_upheld_39 : decode cX9_upheld 39 = .ok (.iconst 0, 1) := by decide +kernel
theorem dX9_upheld_40 : decode cX9_upheld 40 = .ok (.ireturn, 1) := by decide +kernel
theorem dX9_holder_0 : decode cX9_holder 0 = .ok (.aload_n 0, 1) := by decide +kernel
theorem dX9_holder_1 : decode cX9_holder 1 = .ok (.iconst 0, 1) := by decide +kernel
theorem dX9_holder_2 : decode cX9_holder 2 = .ok (.putfield 133, 3) := by decide +kernel
theorem dX9_holder_5 : decode cX9_holder 5 = .ok (.aload_n 0, 1) := by decide +kernel
theorem dX9_holder_6 : decode cX9_holder 6 = .ok (.iload_n 1, 1) := by decide +kernel
theorem dX9_holder_7 : decode cX9_holder 7 = .ok (.invokevirtual 156, 3) := by decide +kernel
theorem dX9_holder_10 : decode cX9_holder 10 = .ok (.ifCond .eq 10, 3) := by decide +kernel
theorem dX9_holder_13 : decode cX9_holder 13 = .ok (.iload_n 2, 1) := by decide +kernel
theorem dX9_holder_14 : decode cX9_holder 14 = .ok (.invokestatic 185, 3) := by decide +kernel
theorem dX9_holder_17 : decode cX9_holder 17 = .ok (.ifCond .ne 6, 3) := by decide +kernel
theorem dX9_holder_20 : decode cX9_holder 20 = .ok (.bipush (-3), 2) := by decide +kernel
theorem dX9_holder_22 : decode cX9_holder 22 = .ok (.ireturn, 1) := by decide +kernel
theorem dX9_holder_23 : decode cX9_holder 23 = .ok (.aload_n 0, 1) := by decide +kernel
theorem dX9_holder_24 : decode cX9_holder 24 = .ok (.iconst 0, 1) := by decide +kernel
theorem dX9_holder_25 : decode cX9_holder 25 = .ok (.putfield 194, 3) := by decide +kernel
theorem dX9_holder_28 : decode cX9_holder 28 = .ok (.aload_n 0, 1) := by decide +kernel
theorem dX9_holder_29 : decode cX9_holder 29 = .ok (.iload_n 1, 1) := by decide +kernel
theorem dX9_holder_30 : decode cX9_holder 30 = .ok (.iload_n 2, 1) := by decide +kernel
theorem dX9_holder_31 : decode cX9_holder 31 = .ok (.invokevirtual 202, 3) := by decide +kernel
theorem dX9_holder_34 : decode cX9_holder 34 = .ok (.ireturn, 1) := by decide +kernel
theorem dX9_gatesOf_0 : decode cX9_gatesOf 0 = .ok (.iconst 0, 1) := by decide +kernel
theorem dX9_gatesOf_1 : decode cX9_gatesOf 1 = .ok (.istore_n 3, 1) := by decide +kernel
theorem dX9_gatesOf_2 : decode cX9_gatesOf 2 = .ok (.iconst 0, 1) := by decide +kernel
theorem dX9_gatesOf_3 : decode cX9_gatesOf 3 = .ok (.istore 4, 2) := by decide +kernel
theorem dX9_gatesOf_5 : decode cX9_gatesOf 5 = .ok (.iload 4, 2) := by decide +kernel
theorem dX9_gatesOf_7 : decode cX9_gatesOf 7 = .ok (.aload_n 0, 1) := by decide +kernel
theorem dX9_gatesOf_8 : decode cX9_gatesOf 8 = .ok (.getfield 142, 3) := by decide +kernel
theorem dX9_gatesOf_11 : decode cX9_gatesOf 11 = .ok (.if_icmp .ge 77, 3) := by decide +kernel
theorem dX9_gatesOf_14 : decode cX9_gatesOf 14 = .ok (.aload_n 0, 1) := by decide +kernel
theorem dX9_gatesOf_15 : decode cX9_gatesOf 15 = .ok (.getfield 42, 3) := by decide +kernel
theorem dX9_gatesOf_18 : decode cX9_gatesOf 18 = .ok (.iload 4, 2) := by decide +kernel
theorem dX9_gatesOf_20 : decode cX9_gatesOf 20 = .ok (.iaload, 1) := by decide +kernel
theorem dX9_gatesOf_21 : decode cX9_gatesOf 21 = .ok (.iload_n 1, 1) := by decide +kernel
theorem dX9_gatesOf_22 : decode cX9_gatesOf 22 = .ok (.if_icmp .ne 60, 3) := by decide +kernel
theorem dX9_gatesOf_25 : decode cX9_gatesOf 25 = .ok (.aload_n 0, 1) := by decide +kernel
theorem dX9_gatesOf_26 : decode cX9_gatesOf 26 = .ok (.getfield 45, 3) := by decide +kernel
theorem dX9_gatesOf_29 : decode cX9_gatesOf 29 = .ok (.iload 4, 2) := by decide +kernel
theorem dX9_gatesOf_31 : decode cX9_gatesOf 31 = .ok (.iaload, 1) := by decide +kernel
theorem dX9_gatesOf_32 : decode cX9_gatesOf 32 = .ok (.bipush 100, 2) := by decide +kernel
theorem dX9_gatesOf_34 : decode cX9_gatesOf 34 = .ok (.if_icmp .le 48, 3) := by decide +kernel
theorem dX9_gatesOf_37 : decode cX9_gatesOf 37 = .ok (.aload_n 0, 1) := by decide +kernel
theorem dX9_gatesOf_38 : decode cX9_gatesOf 38 = .ok (.iload 4, 2) := by decide +kernel
theorem dX9_gatesOf_40 : decode cX9_gatesOf 40 = .ok (.iload_n 2, 1) := by decide +kernel
theorem dX9_gatesOf_41 : decode cX9_gatesOf 41 = .ok (.invokevirtual 198, 3) := by decide +kernel
theorem dX9_gatesOf_44 : decode cX9_gatesOf 44 = .ok (.ifCond .eq 38, 3) := by decide +kernel
theorem dX9_gatesOf_47 : decode cX9_gatesOf 47 = .ok (.aload_n 0, 1) := by decide +kernel
theorem dX9_gatesOf_48 : decode cX9_gatesOf 48 = .ok (.getfield 48, 3) := by decide +kernel
theorem dX9_gatesOf_51 : decode cX9_gatesOf 51 = .ok (.iload 4, 2) := by decide +kernel
theorem dX9_gatesOf_53 : decode cX9_gatesOf 53 = .ok (.iaload, 1) := by decide +kernel
theorem dX9_gatesOf_54 : decode cX9_gatesOf 54 = .ok (.ifCond .le 28, 3) := by decide +kernel
theorem dX9_gatesOf_57 : decode cX9_gatesOf 57 = .ok (.aload_n 0, 1) := by decide +kernel
theorem dX9_gatesOf_58 : decode cX9_gatesOf 58 = .ok (.getfield 45, 3) := by decide +kernel
theorem dX9_gatesOf_61 : decode cX9_gatesOf 61 = .ok (.iload 4, 2) := by decide +kernel
theorem dX9_gatesOf_63 : decode cX9_gatesOf 63 = .ok (.iaload, 1) := by decide +kernel
theorem dX9_gatesOf_64 : decode cX9_gatesOf 64 = .ok (.bipush 100, 2) := by decide +kernel
theorem dX9_gatesOf_66 : decode cX9_gatesOf 66 = .ok (.isub, 1) := by decide +kernel
theorem dX9_gatesOf_67 : decode cX9_gatesOf 67 = .ok (.iload_n 3, 1) := by decide +kernel
theorem dX9_gatesOf_68 : decode cX9_gatesOf 68 = .ok (.if_icmp .le 14, 3) := by decide +kernel
theorem dX9_gatesOf_71 : decode cX9_gatesOf 71 = .ok (.aload_n 0, 1) := by decide +kernel
theorem dX9_gatesOf_72 : decode cX9_gatesOf 72 = .ok (.getfield 45, 3) := by decide +kernel
theorem dX9_gatesOf_75 : decode cX9_gatesOf 75 = .ok (.iload 4, 2) := by decide +kernel
theorem dX9_gatesOf_77 : decode cX9_gatesOf 77 = .ok (.iaload, 1) := by decide +kernel
theorem dX9_gatesOf_78 : decode cX9_gatesOf 78 = .ok (.bipush 100, 2) := by decide +kernel
theorem dX9_gatesOf_80 : decode cX9_gatesOf 80 = .ok (.isub, 1) := by decide +kernel
theorem dX9_gatesOf_81 : decode cX9_gatesOf 81 = .ok (.istore_n 3, 1) := by decide +kernel
theorem dX9_gatesOf_82 : decode cX9_gatesOf 82 = .ok (.iinc 4 1, 3) := by decide +kernel
theorem dX9_gatesOf_85 : decode cX9_gatesOf 85 = .ok (.goto (-80), 3) := by decide +kernel
theorem dX9_gatesOf_88 : decode cX9_gatesOf 88 = .ok (.iload_n 3, 1) := by decide +kernel
theorem dX9_gatesOf_89 : decode cX9_gatesOf 89 = .ok (.ireturn, 1) := by decide +kernel
theorem dX9_comes_0 : decode cX9_comes 0 = .ok (.aload_n 0, 1) := by decide +kernel
theorem dX9_comes_1 : decode cX9_comes 1 = .ok (.iconst 3, 1) := by decide +kernel
theorem dX9_comes_2 : decode cX9_comes 2 = .ok (.invokevirtual 208, 3) := by decide +kernel
theorem dX9_comes_5 : decode cX9_comes 5 = .ok (.istore_n 3, 1) := by decide +kernel
theorem dX9_comes_6 : decode cX9_comes 6 = .ok (.aload_n 0, 1) := by decide +kernel
theorem dX9_comes_7 : decode cX9_comes 7 = .ok (.getfield 36, 3) := by decide +kernel
theorem dX9_comes_10 : decode cX9_comes 10 = .ok (.iload_n 1, 1) := by decide +kernel
theorem dX9_comes_11 : decode cX9_comes 11 = .ok (.iaload, 1) := by decide +kernel
theorem dX9_comes_12 : decode cX9_comes 12 = .ok (.iconst 2, 1) := by decide +kernel
theorem dX9_comes_13 : decode cX9_comes 13 = .ok (.if_icmp .ne 14, 3) := by decide +kernel
theorem dX9_comes_16 : decode cX9_comes 16 = .ok (.iload_n 3, 1) := by decide +kernel
theorem dX9_comes_17 : decode cX9_comes 17 = .ok (.iconst (-1), 1) := by decide +kernel
theorem dX9_comes_18 : decode cX9_comes 18 = .ok (.if_icmp .eq 9, 3) := by decide +kernel
theorem dX9_comes_21 : decode cX9_comes 21 = .ok (.iload_n 2, 1) := by decide +kernel
theorem dX9_comes_22 : decode cX9_comes 22 = .ok (.iconst 3, 1) := by decide +kernel
theorem dX9_comes_23 : decode cX9_comes 23 = .ok (.idiv, 1) := by decide +kernel
theorem dX9_comes_24 : decode cX9_comes 24 = .ok (.goto 4, 3) := by decide +kernel
theorem dX9_comes_27 : decode cX9_comes 27 = .ok (.iconst 0, 1) := by decide +kernel
theorem dX9_comes_28 : decode cX9_comes 28 = .ok (.istore 4, 2) := by decide +kernel
theorem dX9_comes_30 : decode cX9_comes 30 = .ok (.aload_n 0, 1) := by decide +kernel
theorem dX9_comes_31 : decode cX9_comes 31 = .ok (.getfield 90, 3) := by decide +kernel
theorem dX9_comes_34 : decode cX9_comes 34 = .ok (.iload_n 1, 1) := by decide +kernel
theorem dX9_comes_35 : decode cX9_comes 35 = .ok (.dup2, 1) := by decide +kernel
theorem dX9_comes_36 : decode cX9_comes 36 = .ok (.iaload, 1) := by decide +kernel
theorem dX9_comes_37 : decode cX9_comes 37 = .ok (.iload_n 2, 1) := by decide +kernel
theorem dX9_comes_38 : decode cX9_comes 38 = .ok (.iload 4, 2) := by decide +kernel
theorem dX9_comes_40 : decode cX9_comes 40 = .ok (.isub, 1) := by decide +kernel
theorem dX9_comes_41 : decode cX9_comes 41 = .ok (.iadd, 1) := by decide +kernel
theorem dX9_comes_42 : decode cX9_comes 42 = .ok (.iastore, 1) := by decide +kernel
theorem dX9_comes_43 : decode cX9_comes 43 = .ok (.iload 4, 2) := by decide +kernel
theorem dX9_comes_45 : decode cX9_comes 45 = .ok (.ifCond .le 14, 3) := by decide +kernel
theorem dX9_comes_48 : decode cX9_comes 48 = .ok (.aload_n 0, 1) := by decide +kernel
theorem dX9_comes_49 : decode cX9_comes 49 = .ok (.getfield 90, 3) := by decide +kernel
theorem dX9_comes_52 : decode cX9_comes 52 = .ok (.iload_n 3, 1) := by decide +kernel
theorem dX9_comes_53 : decode cX9_comes 53 = .ok (.dup2, 1) := by decide +kernel
theorem dX9_comes_54 : decode cX9_comes 54 = .ok (.iaload, 1) := by decide +kernel
theorem dX9_comes_55 : decode cX9_comes 55 = .ok (.iload 4, 2) := by decide +kernel
theorem dX9_comes_57 : decode cX9_comes 57 = .ok (.iadd, 1) := by decide +kernel
theorem dX9_comes_58 : decode cX9_comes 58 = .ok (.iastore, 1) := by decide +kernel
theorem dX9_comes_59 : decode cX9_comes 59 = .ok (.return_, 1) := by decide +kernel
theorem dX9_objectionOn_0 : decode cX9_objectionOn 0 = .ok (.iconst 0, 1) := by decide +kernel
theorem dX9_objectionOn_1 : decode cX9_objectionOn 1 = .ok (.istore_n 3, 1) := by decide +kernel
theorem dX9_objectionOn_2 : decode cX9_objectionOn 2 = .ok (.iload_n 3, 1) := by decide +kernel
theorem dX9_objectionOn_3 : decode cX9_objectionOn 3 = .ok (.aload_n 0, 1) := by decide +kernel
theorem dX9_objectionOn_4 : decode cX9_objectionOn 4 = .ok (.getfield 145, 3) := by decide +kernel
theorem dX9_objectionOn_7 : decode cX9_objectionOn 7 = .ok (.if_icmp .ge 39, 3) := by decide +kernel
theorem dX9_objectionOn_10 : decode cX9_objectionOn 10 = .ok (.aload_n 0, 1) := by decide +kernel
theorem dX9_objectionOn_11 : decode cX9_objectionOn 11 = .ok (.getfield 57, 3) := by decide +kernel
theorem dX9_objectionOn_14 : decode cX9_objectionOn 14 = .ok (.iload_n 3, 1) := by decide +kernel
theorem dX9_objectionOn_15 : decode cX9_objectionOn 15 = .ok (.iaload, 1) := by decide +kernel
theorem dX9_objectionOn_16 : decode cX9_objectionOn 16 = .ok (.iload_n 1, 1) := by decide +kernel
theorem dX9_objectionOn_17 : decode cX9_objectionOn 17 = .ok (.if_icmp .ne 23, 3) := by decide +kernel
theorem dX9_objectionOn_20 : decode cX9_objectionOn 20 = .ok (.aload_n 0, 1) := by decide +kernel
theorem dX9_objectionOn_21 : decode cX9_objectionOn 21 = .ok (.getfield 60, 3) := by decide +kernel
theorem dX9_objectionOn_24 : decode cX9_objectionOn 24 = .ok (.iload_n 3, 1) := by decide +kernel
theorem dX9_objectionOn_25 : decode cX9_objectionOn 25 = .ok (.iaload, 1) := by decide +kernel
theorem dX9_objectionOn_26 : decode cX9_objectionOn 26 = .ok (.iload_n 2, 1) := by decide +kernel
theorem dX9_objectionOn_27 : decode cX9_objectionOn 27 = .ok (.if_icmp .gt 13, 3) := by decide +kernel
theorem dX9_objectionOn_30 : decode cX9_objectionOn 30 = .ok (.aload_n 0, 1) := by decide +kernel
theorem dX9_objectionOn_31 : decode cX9_objectionOn 31 = .ok (.iload_n 3, 1) := by decide +kernel
theorem dX9_objectionOn_32 : decode cX9_objectionOn 32 = .ok (.invokevirtual 205, 3) := by decide +kernel
theorem dX9_objectionOn_35 : decode cX9_objectionOn 35 = .ok (.ifCond .eq 5, 3) := by decide +kernel
theorem dX9_objectionOn_38 : decode cX9_objectionOn 38 = .ok (.iload_n 3, 1) := by decide +kernel
theorem dX9_objectionOn_39 : decode cX9_objectionOn 39 = .ok (.ireturn, 1) := by decide +kernel
theorem dX9_objectionOn_40 : decode cX9_objectionOn 40 = .ok (.iinc 3 1, 3) := by decide +kernel
theorem dX9_objectionOn_43 : decode cX9_objectionOn 43 = .ok (.goto (-41), 3) := by decide +kernel
theorem dX9_objectionOn_46 : decode cX9_objectionOn 46 = .ok (.iconst (-1), 1) := by decide +kernel
theorem dX9_objectionOn_47 : decode cX9_objectionOn 47 = .ok (.ireturn, 1) := by decide +kernel
theorem dX9_findWeights_0 : decode cX9_findWeights 0 = .ok (.iconst 0, 1) := by decide +kernel
theorem dX9_findWeights_1 : decode cX9_findWeights 1 = .ok (.istore_n 2, 1) := by decide +kernel
theorem dX9_findWeights_2 : decode cX9_findWeights 2 = .ok (.aload_n 0, 1) := by decide +kernel
theorem dX9_findWeights_3 : decode cX9_findWeights 3 = .ok (.iconst 0, 1) := by decide +kernel
theorem dX9_findWeights_4 : decode cX9_findWeights 4 = .ok (.putfield 211, 3) := by decide +kernel
theorem dX9_findWeights_7 : decode cX9_findWeights 7 = .ok (.iconst 0, 1) := by decide +kernel
theorem dX9_findWeights_8 : decode cX9_findWeights 8 = .ok (.istore_n 3, 1) := by decide +kernel
theorem dX9_findWeights_9 : decode cX9_findWeights 9 = .ok (.iload_n 3, 1) := by decide +kernel
theorem dX9_findWeights_10 : decode cX9_findWeights 10 = .ok (.aload_n 0, 1) := by decide +kernel
theorem dX9_findWeights_11 : decode cX9_findWeights 11 = .ok (.getfield 139, 3) := by decide +kernel
theorem dX9_findWeights_14 : decode cX9_findWeights 14 = .ok (.if_icmp .ge 16, 3) := by decide +kernel
theorem dX9_findWeights_17 : decode cX9_findWeights 17 = .ok (.aload_n 0, 1) := by decide +kernel
theorem dX9_findWeights_18 : decode cX9_findWeights 18 = .ok (.getfield 90, 3) := by decide +kernel
theorem dX9_findWeights_21 : decode cX9_findWeights 21 = .ok (.iload_n 3, 1) := by decide +kernel
theorem dX9_findWeights_22 : decode cX9_findWeights 22 = .ok (.iconst 0, 1) := by decide +kernel
theorem dX9_findWeights_23 : decode cX9_findWeights 23 = .ok (.iastore, 1) := by decide +kernel
theorem dX9_findWeights_24 : decode cX9_findWeights 24 = .ok (.iinc 3 1, 3) := by decide +kernel
theorem dX9_findWeights_27 : decode cX9_findWeights 27 = .ok (.goto (-18), 3) := by decide +kernel
theorem dX9_findWeights_30 : decode cX9_findWeights 30 = .ok (.iconst 0, 1) := by decide +kernel
theorem dX9_findWeights_31 : decode cX9_findWeights 31 = .ok (.istore_n 3, 1) := by decide +kernel
theorem dX9_findWeights_32 : decode cX9_findWeights 32 = .ok (.iload_n 3, 1) := by decide +kernel
theorem dX9_findWeights_33 : decode cX9_findWeights 33 = .ok (.aload_n 0, 1) := by decide +kernel
theorem dX9_findWeights_34 : decode cX9_findWeights 34 = .ok (.invokevirtual 148, 3) := by decide +kernel
theorem dX9_findWeights_37 : decode cX9_findWeights 37 = .ok (.if_icmp .ge 145, 3) := by decide +kernel
theorem dX9_findWeights_40 : decode cX9_findWeights 40 = .ok (.aload_n 0, 1) := by decide +kernel
theorem dX9_findWeights_41 : decode cX9_findWeights 41 = .ok (.dup, 1) := by decide +kernel
theorem dX9_findWeights_42 : decode cX9_findWeights 42 = .ok (.getfield 211, 3) := by decide +kernel
theorem dX9_findWeights_45 : decode cX9_findWeights 45 = .ok (.aload_n 0, 1) := by decide +kernel
theorem dX9_findWeights_46 : decode cX9_findWeights 46 = .ok (.iload_n 3, 1) := by decide +kernel
theorem dX9_findWeights_47 : decode cX9_findWeights 47 = .ok (.invokevirtual 214, 3) := by decide +kernel
theorem dX9_findWeights_50 : decode cX9_findWeights 50 = .ok (.ifCond .eq 12, 3) := by decide +kernel
theorem dX9_findWeights_53 : decode cX9_findWeights 53 = .ok (.aload_n 0, 1) := by decide +kernel
theorem dX9_findWeights_54 : decode cX9_findWeights 54 = .ok (.getfield 16, 3) := by decide +kernel
theorem dX9_findWeights_57 : decode cX9_findWeights 57 = .ok (.iload_n 3, 1) := by decide +kernel
theorem dX9_findWeights_58 : decode cX9_findWeights 58 = .ok (.iaload, 1) := by decide +kernel
theorem dX9_findWeights_59 : decode cX9_findWeights 59 = .ok (.goto 4, 3) := by decide +kernel
theorem dX9_findWeights_62 : decode cX9_findWeights 62 = .ok (.iconst 0, 1) := by decide +kernel
theorem dX9_findWeights_63 : decode cX9_findWeights 63 = .ok (.iadd, 1) := by decide +kernel
theorem dX9_findWeights_64 : decode cX9_findWeights 64 = .ok (.putfield 211, 3) := by decide +kernel
theorem dX9_findWeights_67 : decode cX9_findWeights 67 = .ok (.iload_n 2, 1) := by decide +kernel
theorem dX9_findWeights_68 : decode cX9_findWeights 68 = .ok (.aload_n 0, 1) := by decide +kernel
theorem dX9_findWeights_69 : decode cX9_findWeights 69 = .ok (.iload_n 3, 1) := by decide +kernel
theorem dX9_findWeights_70 : decode cX9_findWeights 70 = .ok (.invokevirtual 214, 3) := by decide +kernel
theorem dX9_findWeights_73 : decode cX9_findWeights 73 = .ok (.ifCond .eq 21, 3) := by decide +kernel
theorem dX9_findWeights_76 : decode cX9_findWeights 76 = .ok (.aload_n 0, 1) := by decide +kernel
theorem dX9_findWeights_77 : decode cX9_findWeights 77 = .ok (.getfield 20, 3) := by decide +kernel
theorem dX9_findWeights_80 : decode cX9_findWeights 80 = .ok (.iload_n 3, 1) := by decide +kernel
theorem dX9_findWeights_81 : decode cX9_findWeights 81 = .ok (.iaload, 1) := by decide +kernel
theorem dX9_findWeights_82 : decode cX9_findWeights 82 = .ok (.ifCond .ne 12, 3) := by decide +kernel
theorem dX9_findWeights_85 : decode cX9_findWeights 85 = .ok (.aload_n 0, 1) := by decide +kernel
theorem dX9_findWeights_86 : decode cX9_findWeights 86 = .ok (.getfield 16, 3) := by decide +kernel
theorem dX9_findWeights_89 : decode cX9_findWeights 89 = .ok (.iload_n 3, 1) := by decide +kernel
theorem dX9_findWeights_90 : decode cX9_findWeights 90 = .ok (.iaload, 1) := by decide +kernel
theorem dX9_findWeights_91 : decode cX9_findWeights 91 = .ok (.goto 4, 3) := by decide +kernel
theorem dX9_findWeights_94 : decode cX9_findWeights 94 = .ok (.iconst 0, 1) := by decide +kernel
theorem dX9_findWeights_95 : decode cX9_findWeights 95 = .ok (.iadd, 1) := by decide +kernel
theorem dX9_findWeights_96 : decode cX9_findWeights 96 = .ok (.istore_n 2, 1) := by decide +kernel
theorem dX9_findWeights_97 : decode cX9_findWeights 97 = .ok (.aload_n 0, 1) := by decide +kernel
theorem dX9_findWeights_98 : decode cX9_findWeights 98 = .ok (.iload_n 3, 1) := by decide +kernel
theorem dX9_findWeights_99 : decode cX9_findWeights 99 = .ok (.iload_n 1, 1) := by decide +kernel
theorem dX9_findWeights_100 : decode cX9_findWeights 100 = .ok (.invokevirtual 202, 3) := by decide +kernel
theorem dX9_findWeights_103 : decode cX9_findWeights 103 = .ok (.istore 4, 2) := by decide +kernel
theorem dX9_findWeights_105 : decode cX9_findWeights 105 = .ok (.iload 4, 2) := by decide +kernel
theorem dX9_findWeights_107 : decode cX9_findWeights 107 = .ok (.iconst (-1), 1) := by decide +kernel
theorem dX9_findWeights_108 : decode cX9_findWeights 108 = .ok (.if_icmp .eq 68, 3) := by decide +kernel
theorem dX9_findWeights_111 : decode cX9_findWeights 111 = .ok (.aload_n 0, 1) := by decide +kernel
theorem dX9_findWeights_112 : decode cX9_findWeights 112 = .ok (.iload_n 3, 1) := by decide +kernel
theorem dX9_findWeights_113 : decode cX9_findWeights 113 = .ok (.iload_n 1, 1) := by decide +kernel
theorem dX9_findWeights_114 : decode cX9_findWeights 114 = .ok (.invokevirtual 217, 3) := by decide +kernel
theorem dX9_findWeights_117 : decode cX9_findWeights 117 = .ok (.istore 5, 2) := by decide +kernel
theorem dX9_findWeights_119 : decode cX9_findWeights 119 = .ok (.aload_n 0, 1) := by decide +kernel
theorem dX9_findWeights_120 : decode cX9_findWeights 120 = .ok (.aload_n 0, 1) := by decide +kernel
theorem dX9_findWeights_121 : decode cX9_findWeights 121 = .ok (.getfield 42, 3) := by decide +kernel
theorem dX9_findWeights_124 : decode cX9_findWeights 124 = .ok (.iload 4, 2) := by decide +kernel
theorem dX9_findWeights_126 : decode cX9_findWeights 126 = .ok (.iaload, 1) := by decide +kernel
theorem dX9_findWeights_127 : decode cX9_findWeights 127 = .ok (.iload 5, 2) := by decide +kernel
theorem dX9_findWeights_129 : decode cX9_findWeights 129 = .ok (.iconst (-1), 1) := by decide +kernel
theorem dX9_findWeights_130 : decode cX9_findWeights 130 = .ok (.if_icmp .ne 8, 3) := by decide +kernel
theorem dX9_findWeights_133 : decode cX9_findWeights 133 = .ok (.bipush 60, 2) := by decide +kernel
theorem dX9_findWeights_135 : decode cX9_findWeights 135 = .ok (.goto 5, 3) := by decide +kernel
theorem dX9_findWeights_138 : decode cX9_findWeights 138 = .ok (.bipush 30, 2) := by decide +kernel
theorem dX9_findWeights_140 : decode cX9_findWeights 140 = .ok (.aload_n 0, 1) := by decide +kernel
theorem dX9_findWeights_141 : decode cX9_findWeights 141 = .ok (.getfield 16, 3) := by decide +kernel
theorem dX9_findWeights_144 : decode cX9_findWeights 144 = .ok (.iload_n 3, 1) := by decide +kernel
theorem dX9_findWeights_145 : decode cX9_findWeights 145 = .ok (.iaload, 1) := by decide +kernel
theorem dX9_findWeights_146 : decode cX9_findWeights 146 = .ok (.imul, 1) := by decide +kernel
theorem dX9_findWeights_147 : decode cX9_findWeights 147 = .ok (.invokevirtual 220, 3) := by decide +kernel
theorem dX9_findWeights_150 : decode cX9_findWeights 150 = .ok (.iload 5, 2) := by decide +kernel
theorem dX9_findWeights_152 : decode cX9_findWeights 152 = .ok (.iconst (-1), 1) := by decide +kernel
theorem dX9_findWeights_153 : decode cX9_findWeights 153 = .ok (.if_icmp .eq 23, 3) := by decide +kernel
theorem dX9_findWeights_156 : decode cX9_findWeights 156 = .ok (.aload_n 0, 1) := by decide +kernel
theorem dX9_findWeights_157 : decode cX9_findWeights 157 = .ok (.aload_n 0, 1) := by decide +kernel
theorem dX9_findWeights_158 : decode cX9_findWeights 158 = .ok (.getfield 54, 3) := by decide +kernel
theorem dX9_findWeights_161 : decode cX9_findWeights 161 = .ok (.iload 5, 2) := by decide +kernel
theorem dX9_findWeights_163 : decode cX9_findWeights 163 = .ok (.iaload, 1) := by decide +kernel
theorem dX9_findWeights_164 : decode cX9_findWeights 164 = .ok (.bipush 30, 2) := by decide +kernel
theorem dX9_findWeights_166 : decode cX9_findWeights 166 = .ok (.aload_n 0, 1) := by decide +kernel
theorem dX9_findWeights_167 : decode cX9_findWeights 167 = .ok (.getfield 16, 3) := by decide +kernel
theorem dX9_findWeights_170 : decode cX9_findWeights 170 = .ok (.iload_n 3, 1) := by decide +kernel
theorem dX9_findWeights_171 : decode cX9_findWeights 171 = .ok (.iaload, 1) := by decide +kernel
theorem dX9_findWeights_172 : decode cX9_findWeights 172 = .ok (.imul, 1) := by decide +kernel
theorem dX9_findWeights_173 : decode cX9_findWeights 173 = .ok (.invokevirtual 220, 3) := by decide +kernel
theorem dX9_findWeights_176 : decode cX9_findWeights 176 = .ok (.iinc 3 1, 3) := by decide +kernel
theorem dX9_findWeights_179 : decode cX9_findWeights 179 = .ok (.goto (-147), 3) := by decide +kernel
theorem dX9_findWeights_182 : decode cX9_findWeights 182 = .ok (.iconst 0, 1) := by decide +kernel
theorem dX9_findWeights_183 : decode cX9_findWeights 183 = .ok (.istore_n 3, 1) := by decide +kernel
theorem dX9_findWeights_184 : decode cX9_findWeights 184 = .ok (.iconst 0, 1) := by decide +kernel
theorem dX9_findWeights_185 : decode cX9_findWeights 185 = .ok (.istore 4, 2) := by decide +kernel
theorem dX9_findWeights_187 : decode cX9_findWeights 187 = .ok (.iload 4, 2) := by decide +kernel
theorem dX9_findWeights_189 : decode cX9_findWeights 189 = .ok (.aload_n 0, 1) := by decide +kernel
theorem dX9_findWeights_190 : decode cX9_findWeights 190 = .ok (.getfield 139, 3) := by decide +kernel
theorem dX9_findWeights_193 : decode cX9_findWeights 193 = .ok (.if_icmp .ge 19, 3) := by decide +kernel
theorem dX9_findWeights_196 : decode cX9_findWeights 196 = .ok (.iload_n 3, 1) := by decide +kernel
theorem dX9_findWeights_197 : decode cX9_findWeights 197 = .ok (.aload_n 0, 1) := by decide +kernel
theorem dX9_findWeights_198 : decode cX9_findWeights 198 = .ok (.iload 4, 2) := by decide +kernel
theorem dX9_findWeights_200 : decode cX9_findWeights 200 = .ok (.iload_n 1, 1) := by decide +kernel
theorem dX9_findWeights_201 : decode cX9_findWeights 201 = .ok (.invokevirtual 224, 3) := by decide +kernel
theorem dX9_findWeights_204 : decode cX9_findWeights 204 = .ok (.iadd, 1) := by decide +kernel
theorem dX9_findWeights_205 : decode cX9_findWeights 205 = .ok (.istore_n 3, 1) := by decide +kernel
theorem dX9_findWeights_206 : decode cX9_findWeights 206 = .ok (.iinc 4 1, 3) := by decide +kernel
theorem dX9_findWeights_209 : decode cX9_findWeights 209 = .ok (.goto (-22), 3) := by decide +kernel
theorem dX9_findWeights_212 : decode cX9_findWeights 212 = .ok (.aload_n 0, 1) := by decide +kernel
theorem dX9_findWeights_213 : decode cX9_findWeights 213 = .ok (.iconst 0, 1) := by decide +kernel
theorem dX9_findWeights_214 : decode cX9_findWeights 214 = .ok (.putfield 227, 3) := by decide +kernel
theorem dX9_findWeights_217 : decode cX9_findWeights 217 = .ok (.iconst 0, 1) := by decide +kernel
theorem dX9_findWeights_218 : decode cX9_findWeights 218 = .ok (.istore 4, 2) := by decide +kernel
theorem dX9_findWeights_220 : decode cX9_findWeights 220 = .ok (.iload 4, 2) := by decide +kernel
theorem dX9_findWeights_222 : decode cX9_findWeights 222 = .ok (.aload_n 0, 1) := by decide +kernel
theorem dX9_findWeights_223 : decode cX9_findWeights 223 = .ok (.getfield 139, 3) := by decide +kernel
theorem dX9_findWeights_226 : decode cX9_findWeights 226 = .ok (.if_icmp .ge 57, 3) := by decide +kernel
theorem dX9_findWeights_229 : decode cX9_findWeights 229 = .ok (.aload_n 0, 1) := by decide +kernel
theorem dX9_findWeights_230 : decode cX9_findWeights 230 = .ok (.getfield 90, 3) := by decide +kernel
theorem dX9_findWeights_233 : decode cX9_findWeights 233 = .ok (.iload 4, 2) := by decide +kernel
theorem dX9_findWeights_235 : decode cX9_findWeights 235 = .ok (.dup2, 1) := by decide +kernel
theorem dX9_findWeights_236 : decode cX9_findWeights 236 = .ok (.iaload, 1) := by decide +kernel
theorem dX9_findWeights_237 : decode cX9_findWeights 237 = .ok (.iload_n 3, 1) := by decide +kernel
theorem dX9_findWeights_238 : decode cX9_findWeights 238 = .ok (.ifCond .ne 7, 3) := by decide +kernel
theorem dX9_findWeights_241 : decode cX9_findWeights 241 = .ok (.iconst 0, 1) := by decide +kernel
theorem dX9_findWeights_242 : decode cX9_findWeights 242 = .ok (.goto 17, 3) := by decide +kernel
theorem dX9_findWeights_245 : decode cX9_findWeights 245 = .ok (.bipush 60, 2) := by decide +kernel
theorem dX9_findWeights_247 : decode cX9_findWeights 247 = .ok (.iload_n 2, 1) := by decide +kernel
theorem dX9_findWeights_248 : decode cX9_findWeights 248 = .ok (.imul, 1) := by decide +kernel
theorem dX9_findWeights_249 : decode cX9_findWeights 249 = .ok (.aload_n 0, 1) := by decide +kernel
theorem dX9_findWeights_250 : decode cX9_findWeights 250 = .ok (.iload 4, 2) := by decide +kernel
theorem dX9_findWeights_252 : decode cX9_findWeights 252 = .ok (.iload_n 1, 1) := by decide +kernel
theorem dX9_findWeights_253 : decode cX9_findWeights 253 = .ok (.invokevirtual 224, 3) := by decide +kernel
theorem dX9_findWeights_256 : decode cX9_findWeights 256 = .ok (.imul, 1) := by decide +kernel
theorem dX9_findWeights_257 : decode cX9_findWeights 257 = .ok (.iload_n 3, 1) := by decide +kernel
theorem dX9_findWeights_258 : decode cX9_findWeights 258 = .ok (.idiv, 1) := by decide +kernel
theorem dX9_findWeights_259 : decode cX9_findWeights 259 = .ok (.iadd, 1) := by decide +kernel
theorem dX9_findWeights_260 : decode cX9_findWeights 260 = .ok (.iastore, 1) := by decide +kernel
theorem dX9_findWeights_261 : decode cX9_findWeights 261 = .ok (.aload_n 0, 1) := by decide +kernel
theorem dX9_findWeights_262 : decode cX9_findWeights 262 = .ok (.dup, 1) := by decide +kernel
theorem dX9_findWeights_263 : decode cX9_findWeights 263 = .ok (.getfield 227, 3) := by decide +kernel
theorem dX9_findWeights_266 : decode cX9_findWeights 266 = .ok (.aload_n 0, 1) := by decide +kernel
theorem dX9_findWeights_267 : decode cX9_findWeights 267 = .ok (.getfield 90, 3) := by decide +kernel
theorem dX9_findWeights_270 : decode cX9_findWeights 270 = .ok (.iload 4, 2) := by decide +kernel
theorem dX9_findWeights_272 : decode cX9_findWeights 272 = .ok (.iaload, 1) := by decide +kernel
theorem dX9_findWeights_273 : decode cX9_findWeights 273 = .ok (.iadd, 1) := by decide +kernel
theorem dX9_findWeights_274 : decode cX9_findWeights 274 = .ok (.putfield 227, 3) := by decide +kernel
theorem dX9_findWeights_277 : decode cX9_findWeights 277 = .ok (.iinc 4 1, 3) := by decide +kernel
theorem dX9_findWeights_280 : decode cX9_findWeights 280 = .ok (.goto (-60), 3) := by decide +kernel
theorem dX9_findWeights_283 : decode cX9_findWeights 283 = .ok (.return_, 1) := by decide +kernel
theorem dX9_part_0 : decode cX9_part 0 = .ok (.lconst 0, 1) := by decide +kernel
theorem dX9_part_1 : decode cX9_part 1 = .ok (.lstore 4, 2) := by decide +kernel
theorem dX9_part_3 : decode cX9_part 3 = .ok (.iconst 0, 1) := by decide +kernel
theorem dX9_part_4 : decode cX9_part 4 = .ok (.istore 6, 2) := by decide +kernel
theorem dX9_part_6 : decode cX9_part 6 = .ok (.iload 6, 2) := by decide +kernel
theorem dX9_part_8 : decode cX9_part 8 = .ok (.aload_n 0, 1) := by decide +kernel
theorem dX9_part_9 : decode cX9_part 9 = .ok (.getfield 139, 3) := by decide +kernel
theorem dX9_part_12 : decode cX9_part 12 = .ok (.if_icmp .ge 19, 3) := by decide +kernel
theorem dX9_part_15 : decode cX9_part 15 = .ok (.lload 4, 2) := by decide +kernel
theorem dX9_part_17 : decode cX9_part 17 = .ok (.aload_n 2, 1) := by decide +kernel
theorem dX9_part_18 : decode cX9_part 18 = .ok (.iload 6, 2) := by decide +kernel
theorem dX9_part_20 : decode cX9_part 20 = .ok (.iaload, 1) := by decide +kernel
theorem dX9_part_21 : decode cX9_part 21 = .ok (.i2l, 1) := by decide +kernel
theorem dX9_part_22 : decode cX9_part 22 = .ok (.ladd, 1) := by decide +kernel
theorem dX9_part_23 : decode cX9_part 23 = .ok (.lstore 4, 2) := by decide +kernel
theorem dX9_part_25 : decode cX9_part 25 = .ok (.iinc 6 1, 3) := by decide +kernel
theorem dX9_part_28 : decode cX9_part 28 = .ok (.goto (-22), 3) := by decide +kernel
theorem dX9_part_31 : decode cX9_part 31 = .ok (.lload 4, 2) := by decide +kernel
theorem dX9_part_33 : decode cX9_part 33 = .ok (.lconst 0, 1) := by decide +kernel
theorem dX9_part_34 : decode cX9_part 34 = .ok (.lcmp, 1) := by decide +kernel
theorem dX9_part_35 : decode cX9_part 35 = .ok (.ifCond .ne 7, 3) := by decide +kernel
theorem dX9_part_38 : decode cX9_part 38 = .ok (.iconst 0, 1) := by decide +kernel
theorem dX9_part_39 : decode cX9_part 39 = .ok (.goto 4, 3) := by decide +kernel
theorem dX9_part_42 : decode cX9_part 42 = .ok (.iload_n 1, 1) := by decide +kernel
theorem dX9_part_43 : decode cX9_part 43 = .ok (.istore 6, 2) := by decide +kernel
theorem dX9_part_45 : decode cX9_part 45 = .ok (.iconst 0, 1) := by decide +kernel
theorem dX9_part_46 : decode cX9_part 46 = .ok (.istore 7, 2) := by decide +kernel
theorem dX9_part_48 : decode cX9_part 48 = .ok (.iload 7, 2) := by decide +kernel
theorem dX9_part_50 : decode cX9_part 50 = .ok (.aload_n 0, 1) := by decide +kernel
theorem dX9_part_51 : decode cX9_part 51 = .ok (.getfield 139, 3) := by decide +kernel
theorem dX9_part_54 : decode cX9_part 54 = .ok (.if_icmp .ge 53, 3) := by decide +kernel
theorem dX9_part_57 : decode cX9_part 57 = .ok (.aload_n 3, 1) := by decide +kernel
theorem dX9_part_58 : decode cX9_part 58 = .ok (.iload 7, 2) := by decide +kernel
theorem dX9_part_60 : decode cX9_part 60 = .ok (.lload 4, 2) := by decide +kernel
theorem dX9_part_62 : decode cX9_part 62 = .ok (.lconst 0, 1) := by decide +kernel
theorem dX9_part_63 : decode cX9_part 63 = .ok (.lcmp, 1) := by decide +kernel
theorem dX9_part_64 : decode cX9_part 64 = .ok (.ifCond .ne 7, 3) := by decide +kernel
theorem dX9_part_67 : decode cX9_part 67 = .ok (.iconst 0, 1) := by decide +kernel
theorem dX9_part_68 : decode cX9_part 68 = .ok (.goto 15, 3) := by decide +kernel
theorem dX9_part_71 : decode cX9_part 71 = .ok (.iload_n 1, 1) := by decide +kernel
theorem dX9_part_72 : decode cX9_part 72 = .ok (.i2l, 1) := by decide +kernel
theorem dX9_part_73 : decode cX9_part 73 = .ok (.aload_n 2, 1) := by decide +kernel
theorem dX9_part_74 : decode cX9_part 74 = .ok (.iload 7, 2) := by decide +kernel
theorem dX9_part_76 : decode cX9_part 76 = .ok (.iaload, 1) := by decide +kernel
theorem dX9_part_77 : decode cX9_part 77 = .ok (.i2l, 1) := by decide +kernel
theorem dX9_part_78 : decode cX9_part 78 = .ok (.lmul, 1) := by decide +kernel
theorem dX9_part_79 : decode cX9_part 79 = .ok (.lload 4, 2) := by decide +kernel
theorem dX9_part_81 : decode cX9_part 81 = .ok (.ldiv, 1) := by decide +kernel
theorem dX9_part_82 : decode cX9_part 82 = .ok (.l2i, 1) := by decide +kernel
theorem dX9_part_83 : decode cX9_part 83 = .ok (.iastore, 1) := by decide +kernel
theorem dX9_part_84 : decode cX9_part 84 = .ok (.iload 6, 2) := by decide +kernel
theorem dX9_part_86 : decode cX9_part 86 = .ok (.aload_n 3, 1) := by decide +kernel
theorem dX9_part_87 : decode cX9_part 87 = .ok (.iload 7, 2) := by decide +kernel
theorem dX9_part_89 : decode cX9_part 89 = .ok (.iaload, 1) := by decide +kernel
theorem dX9_part_90 : decode cX9_part 90 = .ok (.isub, 1) := by decide +kernel
theorem dX9_part_91 : decode cX9_part 91 = .ok (.istore 6, 2) := by decide +kernel
theorem dX9_part_93 : decode cX9_part 93 = .ok (.aload_n 0, 1) := by decide +kernel
theorem dX9_part_94 : decode cX9_part 94 = .ok (.getfield 102, 3) := by decide +kernel
theorem dX9_part_97 : decode cX9_part 97 = .ok (.iload 7, 2) := by decide +kernel
theorem dX9_part_99 : decode cX9_part 99 = .ok (.iconst 0, 1) := by decide +kernel
theorem dX9_part_100 : decode cX9_part 100 = .ok (.bastore, 1) := by decide +kernel
theorem dX9_part_101 : decode cX9_part 101 = .ok (.iinc 7 1, 3) := by decide +kernel
theorem dX9_part_104 : decode cX9_part 104 = .ok (.goto (-56), 3) := by decide +kernel
theorem dX9_part_107 : decode cX9_part 107 = .ok (.iload 6, 2) := by decide +kernel
theorem dX9_part_109 : decode cX9_part 109 = .ok (.ifCond .le 92, 3) := by decide +kernel
theorem dX9_part_112 : decode cX9_part 112 = .ok (.iconst (-1), 1) := by decide +kernel
theorem dX9_part_113 : decode cX9_part 113 = .ok (.istore 7, 2) := by decide +kernel
theorem dX9_part_115 : decode cX9_part 115 = .ok (.iconst 0, 1) := by decide +kernel
theorem dX9_part_116 : decode cX9_part 116 = .ok (.istore 8, 2) := by decide +kernel
theorem dX9_part_118 : decode cX9_part 118 = .ok (.iload 8, 2) := by decide +kernel
theorem dX9_part_120 : decode cX9_part 120 = .ok (.aload_n 0, 1) := by decide +kernel
theorem dX9_part_121 : decode cX9_part 121 = .ok (.getfield 139, 3) := by decide +kernel
theorem dX9_part_124 : decode cX9_part 124 = .ok (.if_icmp .ge 55, 3) := by decide +kernel
theorem dX9_part_127 : decode cX9_part 127 = .ok (.aload_n 0, 1) := by decide +kernel
theorem dX9_part_128 : decode cX9_part 128 = .ok (.getfield 102, 3) := by decide +kernel
theorem dX9_part_131 : decode cX9_part 131 = .ok (.iload 8, 2) := by decide +kernel
theorem dX9_part_133 : decode cX9_part 133 = .ok (.baload, 1) := by decide +kernel
theorem dX9_part_134 : decode cX9_part 134 = .ok (.ifCond .ne 39, 3) := by decide +kernel
theorem dX9_part_137 : decode cX9_part 137 = .ok (.iload 7, 2) := by decide +kernel
theorem dX9_part_139 : decode cX9_part 139 = .ok (.iconst (-1), 1) := by decide +kernel
theorem dX9_part_140 : decode cX9_part 140 = .ok (.if_icmp .eq 29, 3) := by decide +kernel
theorem dX9_part_143 : decode cX9_part 143 = .ok (.iload_n 1, 1) := by decide +kernel
theorem dX9_part_144 : decode cX9_part 144 = .ok (.i2l, 1) := by decide +kernel
theorem dX9_part_145 : decode cX9_part 145 = .ok (.aload_n 2, 1) := by decide +kernel
theorem dX9_part_146 : decode cX9_part 146 = .ok (.iload 8, 2) := by decide +kernel
theorem dX9_part_148 : decode cX9_part 148 = .ok (.iaload, 1) := by decide +kernel
theorem dX9_part_149 : decode cX9_part 149 = .ok (.i2l, 1) := by decide +kernel
theorem dX9_part_150 : decode cX9_part 150 = .ok (.lmul, 1) := by decide +kernel
theorem dX9_part_151 : decode cX9_part 151 = .ok (.lload 4, 2) := by decide +kernel
theorem dX9_part_153 : decode cX9_part 153 = .ok (.lrem, 1) := by decide +kernel
theorem dX9_part_154 : decode cX9_part 154 = .ok (.iload_n 1, 1) := by decide +kernel
theorem dX9_part_155 : decode cX9_part 155 = .ok (.i2l, 1) := by decide +kernel
theorem dX9_part_156 : decode cX9_part 156 = .ok (.aload_n 2, 1) := by decide +kernel
theorem dX9_part_157 : decode cX9_part 157 = .ok (.iload 7, 2) := by decide +kernel
theorem dX9_part_159 : decode cX9_part 159 = .ok (.iaload, 1) := by decide +kernel
theorem dX9_part_160 : decode cX9_part 160 = .ok (.i2l, 1) := by decide +kernel
theorem dX9_part_161 : decode cX9_part 161 = .ok (.lmul, 1) := by decide +kernel
theorem dX9_part_162 : decode cX9_part 162 = .ok (.lload 4, 2) := by decide +kernel
theorem dX9_part_164 : decode cX9_part 164 = .ok (.lrem, 1) := by decide +kernel
theorem dX9_part_165 : decode cX9_part 165 = .ok (.lcmp, 1) := by decide +kernel
theorem dX9_part_166 : decode cX9_part 166 = .ok (.ifCond .le 7, 3) := by decide +kernel
theorem dX9_part_169 : decode cX9_part 169 = .ok (.iload 8, 2) := by decide +kernel
theorem dX9_part_171 : decode cX9_part 171 = .ok (.istore 7, 2) := by decide +kernel
theorem dX9_part_173 : decode cX9_part 173 = .ok (.iinc 8 1, 3) := by decide +kernel
theorem dX9_part_176 : decode cX9_part 176 = .ok (.goto (-58), 3) := by decide +kernel
theorem dX9_part_179 : decode cX9_part 179 = .ok (.aload_n 3, 1) := by decide +kernel
theorem dX9_part_180 : decode cX9_part 180 = .ok (.iload 7, 2) := by decide +kernel
theorem dX9_part_182 : decode cX9_part 182 = .ok (.dup2, 1) := by decide +kernel
theorem dX9_part_183 : decode cX9_part 183 = .ok (.iaload, 1) := by decide +kernel
theorem dX9_part_184 : decode cX9_part 184 = .ok (.iconst 1, 1) := by decide +kernel
theorem dX9_part_185 : decode cX9_part 185 = .ok (.iadd, 1) := by decide +kernel
theorem dX9_part_186 : decode cX9_part 186 = .ok (.iastore, 1) := by decide +kernel
theorem dX9_part_187 : decode cX9_part 187 = .ok (.aload_n 0, 1) := by decide +kernel
theorem dX9_part_188 : decode cX9_part 188 = .ok (.getfield 102, 3) := by decide +kernel
theorem dX9_part_191 : decode cX9_part 191 = .ok (.iload 7, 2) := by decide +kernel
theorem dX9_part_193 : decode cX9_part 193 = .ok (.iconst 1, 1) := by decide +kernel
theorem dX9_part_194 : decode cX9_part 194 = .ok (.bastore, 1) := by decide +kernel
theorem dX9_part_195 : decode cX9_part 195 = .ok (.iinc 6 (-1), 3) := by decide +kernel
theorem dX9_part_198 : decode cX9_part 198 = .ok (.goto (-91), 3) := by decide +kernel
theorem dX9_part_201 : decode cX9_part 201 = .ok (.return_, 1) := by decide +kernel
theorem dX9_findDues_0 : decode cX9_findDues 0 = .ok (.aload_n 0, 1) := by decide +kernel
theorem dX9_findDues_1 : decode cX9_findDues 1 = .ok (.iload_n 2, 1) := by decide +kernel
theorem dX9_findDues_2 : decode cX9_findDues 2 = .ok (.putfield 194, 3) := by decide +kernel
theorem dX9_findDues_5 : decode cX9_findDues 5 = .ok (.aload_n 0, 1) := by decide +kernel
theorem dX9_findDues_6 : decode cX9_findDues 6 = .ok (.iload_n 1, 1) := by decide +kernel
theorem dX9_findDues_7 : decode cX9_findDues 7 = .ok (.invokevirtual 230, 3) := by decide +kernel
theorem dX9_findDues_10 : decode cX9_findDues 10 = .ok (.aload_n 0, 1) := by decide +kernel
theorem dX9_findDues_11 : decode cX9_findDues 11 = .ok (.iconst 4, 1) := by decide +kernel
theorem dX9_findDues_12 : decode cX9_findDues 12 = .ok (.invokevirtual 208, 3) := by decide +kernel
theorem dX9_findDues_15 : decode cX9_findDues 15 = .ok (.istore 4, 2) := by decide +kernel
theorem dX9_findDues_17 : decode cX9_findDues 17 = .ok (.aload_n 0, 1) := by decide +kernel
theorem dX9_findDues_18 : decode cX9_findDues 18 = .ok (.aload_n 0, 1) := by decide +kernel
theorem dX9_findDues_19 : decode cX9_findDues 19 = .ok (.getfield 191, 3) := by decide +kernel
theorem dX9_findDues_22 : decode cX9_findDues 22 = .ok (.aload_n 0, 1) := by decide +kernel
theorem dX9_findDues_23 : decode cX9_findDues 23 = .ok (.getfield 211, 3) := by decide +kernel
theorem dX9_findDues_26 : decode cX9_findDues 26 = .ok (.if_icmp .ge 10, 3) := by decide +kernel
theorem dX9_findDues_29 : decode cX9_findDues 29 = .ok (.aload_n 0, 1) := by decide +kernel
theorem dX9_findDues_30 : decode cX9_findDues 30 = .ok (.getfield 191, 3) := by decide +kernel
theorem dX9_findDues_33 : decode cX9_findDues 33 = .ok (.goto 7, 3) := by decide +kernel
theorem dX9_findDues_36 : decode cX9_findDues 36 = .ok (.aload_n 0, 1) := by decide +kernel
theorem dX9_findDues_37 : decode cX9_findDues 37 = .ok (.getfield 211, 3) := by decide +kernel
theorem dX9_findDues_40 : decode cX9_findDues 40 = .ok (.putfield 233, 3) := by decide +kernel
theorem dX9_findDues_43 : decode cX9_findDues 43 = .ok (.aload_n 0, 1) := by decide +kernel
theorem dX9_findDues_44 : decode cX9_findDues 44 = .ok (.iload 4, 2) := by decide +kernel
theorem dX9_findDues_46 : decode cX9_findDues 46 = .ok (.iconst (-1), 1) := by decide +kernel
theorem dX9_findDues_47 : decode cX9_findDues 47 = .ok (.if_icmp .ne 7, 3) := by decide +kernel
theorem dX9_findDues_50 : decode cX9_findDues 50 = .ok (.iconst 0, 1) := by decide +kernel
theorem dX9_findDues_51 : decode cX9_findDues 51 = .ok (.goto 20, 3) := by decide +kernel
theorem dX9_findDues_54 : decode cX9_findDues 54 = .ok (.aload_n 0, 1) := by decide +kernel
theorem dX9_findDues_55 : decode cX9_findDues 55 = .ok (.getfield 211, 3) := by decide +kernel
theorem dX9_findDues_58 : decode cX9_findDues 58 = .ok (.aload_n 0, 1) := by decide +kernel
theorem dX9_findDues_59 : decode cX9_findDues 59 = .ok (.getfield 233, 3) := by decide +kernel
theorem dX9_findDues_62 : decode cX9_findDues 62 = .ok (.isub, 1) := by decide +kernel
theorem dX9_findDues_63 : decode cX9_findDues 63 = .ok (.aload_n 0, 1) := by decide +kernel
theorem dX9_findDues_64 : decode cX9_findDues 64 = .ok (.getfield 188, 3) := by decide +kernel
theorem dX9_findDues_67 : decode cX9_findDues 67 = .ok (.imul, 1) := by decide +kernel
theorem dX9_findDues_68 : decode cX9_findDues 68 = .ok (.bipush 100, 2) := by decide +kernel
theorem dX9_findDues_70 : decode cX9_findDues 70 = .ok (.idiv, 1) := by decide +kernel
theorem dX9_findDues_71 : decode cX9_findDues 71 = .ok (.putfield 236, 3) := by decide +kernel
theorem dX9_findDues_74 : decode cX9_findDues 74 = .ok (.aload_n 0, 1) := by decide +kernel
theorem dX9_findDues_75 : decode cX9_findDues 75 = .ok (.aload_n 0, 1) := by decide +kernel
theorem dX9_findDues_76 : decode cX9_findDues 76 = .ok (.getfield 211, 3) := by decide +kernel
theorem dX9_findDues_79 : decode cX9_findDues 79 = .ok (.aload_n 0, 1) := by decide +kernel
theorem dX9_findDues_80 : decode cX9_findDues 80 = .ok (.getfield 233, 3) := by decide +kernel
theorem dX9_findDues_83 : decode cX9_findDues 83 = .ok (.isub, 1) := by decide +kernel
theorem dX9_findDues_84 : decode cX9_findDues 84 = .ok (.aload_n 0, 1) := by decide +kernel
theorem dX9_findDues_85 : decode cX9_findDues 85 = .ok (.getfield 236, 3) := by decide +kernel
theorem dX9_findDues_88 : decode cX9_findDues 88 = .ok (.isub, 1) := by decide +kernel
theorem dX9_findDues_89 : decode cX9_findDues 89 = .ok (.putfield 239, 3) := by decide +kernel
theorem dX9_findDues_92 : decode cX9_findDues 92 = .ok (.aload_n 0, 1) := by decide +kernel
theorem dX9_findDues_93 : decode cX9_findDues 93 = .ok (.aload_n 0, 1) := by decide +kernel
theorem dX9_findDues_94 : decode cX9_findDues 94 = .ok (.getfield 239, 3) := by decide +kernel
theorem dX9_findDues_97 : decode cX9_findDues 97 = .ok (.aload_n 0, 1) := by decide +kernel
theorem dX9_findDues_98 : decode cX9_findDues 98 = .ok (.getfield 90, 3) := by decide +kernel
theorem dX9_findDues_101 : decode cX9_findDues 101 = .ok (.aload_n 3, 1) := by decide +kernel
theorem dX9_findDues_102 : decode cX9_findDues 102 = .ok (.invokevirtual 242, 3) := by decide +kernel
theorem dX9_findDues_105 : decode cX9_findDues 105 = .ok (.iload 4, 2) := by decide +kernel
theorem dX9_findDues_107 : decode cX9_findDues 107 = .ok (.iconst (-1), 1) := by decide +kernel
theorem dX9_findDues_108 : decode cX9_findDues 108 = .ok (.if_icmp .eq 14, 3) := by decide +kernel
theorem dX9_findDues_111 : decode cX9_findDues 111 = .ok (.aload_n 3, 1) := by decide +kernel
theorem dX9_findDues_112 : decode cX9_findDues 112 = .ok (.iload 4, 2) := by decide +kernel
theorem dX9_findDues_114 : decode cX9_findDues 114 = .ok (.dup2, 1) := by decide +kernel
theorem dX9_findDues_115 : decode cX9_findDues 115 = .ok (.iaload, 1) := by decide +kernel
theorem dX9_findDues_116 : decode cX9_findDues 116 = .ok (.aload_n 0, 1) := by decide +kernel
theorem dX9_findDues_117 : decode cX9_findDues 117 = .ok (.getfield 236, 3) := by decide +kernel
theorem dX9_findDues_120 : decode cX9_findDues 120 = .ok (.iadd, 1) := by decide +kernel
theorem dX9_findDues_121 : decode cX9_findDues 121 = .ok (.iastore, 1) := by decide +kernel
theorem dX9_findDues_122 : decode cX9_findDues 122 = .ok (.return_, 1) := by decide +kernel
theorem dX9_sum_0 : decode cX9_sum 0 = .ok (.aload_n 0, 1) := by decide +kernel
theorem dX9_sum_1 : decode cX9_sum 1 = .ok (.iconst 0, 1) := by decide +kernel
theorem dX9_sum_2 : decode cX9_sum 2 = .ok (.putfield 133, 3) := by decide +kernel
theorem dX9_sum_5 : decode cX9_sum 5 = .ok (.iload_n 1, 1) := by decide +kernel
theorem dX9_sum_6 : decode cX9_sum 6 = .ok (.iconst 0, 1) := by decide +kernel
theorem dX9_sum_7 : decode cX9_sum 7 = .ok (.iconst 5, 1) := by decide +kernel
theorem dX9_sum_8 : decode cX9_sum 8 = .ok (.invokestatic 152, 3) := by decide +kernel
theorem dX9_sum_11 : decode cX9_sum 11 = .ok (.ifCond .eq 10, 3) := by decide +kernel
theorem dX9_sum_14 : decode cX9_sum 14 = .ok (.iload_n 2, 1) := by decide +kernel
theorem dX9_sum_15 : decode cX9_sum 15 = .ok (.invokestatic 185, 3) := by decide +kernel
theorem dX9_sum_18 : decode cX9_sum 18 = .ok (.ifCond .ne 6, 3) := by decide +kernel
theorem dX9_sum_21 : decode cX9_sum 21 = .ok (.bipush (-3), 2) := by decide +kernel
theorem dX9_sum_23 : decode cX9_sum 23 = .ok (.ireturn, 1) := by decide +kernel
theorem dX9_sum_24 : decode cX9_sum 24 = .ok (.aload_n 0, 1) := by decide +kernel
theorem dX9_sum_25 : decode cX9_sum 25 = .ok (.iload_n 2, 1) := by decide +kernel
theorem dX9_sum_26 : decode cX9_sum 26 = .ok (.iconst 0, 1) := by decide +kernel
theorem dX9_sum_27 : decode cX9_sum 27 = .ok (.aload_n 0, 1) := by decide +kernel
theorem dX9_sum_28 : decode cX9_sum 28 = .ok (.getfield 93, 3) := by decide +kernel
theorem dX9_sum_31 : decode cX9_sum 31 = .ok (.invokevirtual 246, 3) := by decide +kernel
theorem dX9_sum_34 : decode cX9_sum 34 = .ok (.iload_n 1, 1) := by decide +kernel
theorem dX9_sum_35 : decode cX9_sum 35 = .ok (.tableswitch 58 0 4 #[33, 38, 43, 48, 53], 33) := by decide +kernel
theorem dX9_sum_68 : decode cX9_sum 68 = .ok (.aload_n 0, 1) := by decide +kernel
theorem dX9_sum_69 : decode cX9_sum 69 = .ok (.getfield 211, 3) := by decide +kernel
theorem dX9_sum_72 : decode cX9_sum 72 = .ok (.ireturn, 1) := by decide +kernel
theorem dX9_sum_73 : decode cX9_sum 73 = .ok (.aload_n 0, 1) := by decide +kernel
theorem dX9_sum_74 : decode cX9_sum 74 = .ok (.getfield 233, 3) := by decide +kernel
theorem dX9_sum_77 : decode cX9_sum 77 = .ok (.ireturn, 1) := by decide +kernel
theorem dX9_sum_78 : decode cX9_sum 78 = .ok (.aload_n 0, 1) := by decide +kernel
theorem dX9_sum_79 : decode cX9_sum 79 = .ok (.getfield 236, 3) := by decide +kernel
theorem dX9_sum_82 : decode cX9_sum 82 = .ok (.ireturn, 1) := by decide +kernel
theorem dX9_sum_83 : decode cX9_sum 83 = .ok (.aload_n 0, 1) := by decide +kernel
theorem dX9_sum_84 : decode cX9_sum 84 = .ok (.getfield 239, 3) := by decide +kernel
theorem dX9_sum_87 : decode cX9_sum 87 = .ok (.ireturn, 1) := by decide +kernel
theorem dX9_sum_88 : decode cX9_sum 88 = .ok (.aload_n 0, 1) := by decide +kernel
theorem dX9_sum_89 : decode cX9_sum 89 = .ok (.getfield 227, 3) := by decide +kernel
theorem dX9_sum_92 : decode cX9_sum 92 = .ok (.ireturn, 1) := by decide +kernel
theorem dX9_sum_93 : decode cX9_sum 93 = .ok (.aload_n 0, 1) := by decide +kernel
theorem dX9_sum_94 : decode cX9_sum 94 = .ok (.getfield 136, 3) := by decide +kernel
theorem dX9_sum_97 : decode cX9_sum 97 = .ok (.ireturn, 1) := by decide +kernel
theorem dX9_has_0 : decode cX9_has 0 = .ok (.aload_n 0, 1) := by decide +kernel
theorem dX9_has_1 : decode cX9_has 1 = .ok (.iconst 0, 1) := by decide +kernel
theorem dX9_has_2 : decode cX9_has 2 = .ok (.putfield 133, 3) := by decide +kernel
theorem dX9_has_5 : decode cX9_has 5 = .ok (.aload_n 0, 1) := by decide +kernel
theorem dX9_has_6 : decode cX9_has 6 = .ok (.iload_n 1, 1) := by decide +kernel
theorem dX9_has_7 : decode cX9_has 7 = .ok (.invokevirtual 182, 3) := by decide +kernel
theorem dX9_has_10 : decode cX9_has 10 = .ok (.ifCond .eq 19, 3) := by decide +kernel
theorem dX9_has_13 : decode cX9_has 13 = .ok (.iload_n 2, 1) := by decide +kernel
theorem dX9_has_14 : decode cX9_has 14 = .ok (.iconst 0, 1) := by decide +kernel
theorem dX9_has_15 : decode cX9_has 15 = .ok (.iconst 4, 1) := by decide +kernel
theorem dX9_has_16 : decode cX9_has 16 = .ok (.invokestatic 152, 3) := by decide +kernel
theorem dX9_has_19 : decode cX9_has 19 = .ok (.ifCond .eq 10, 3) := by decide +kernel
theorem dX9_has_22 : decode cX9_has 22 = .ok (.iload_n 3, 1) := by decide +kernel
theorem dX9_has_23 : decode cX9_has 23 = .ok (.invokestatic 185, 3) := by decide +kernel
theorem dX9_has_26 : decode cX9_has 26 = .ok (.ifCond .ne 6, 3) := by decide +kernel
theorem dX9_has_29 : decode cX9_has 29 = .ok (.bipush (-3), 2) := by decide +kernel
theorem dX9_has_31 : decode cX9_has 31 = .ok (.ireturn, 1) := by decide +kernel
theorem dX9_has_32 : decode cX9_has 32 = .ok (.aload_n 0, 1) := by decide +kernel
theorem dX9_has_33 : decode cX9_has 33 = .ok (.iload_n 3, 1) := by decide +kernel
theorem dX9_has_34 : decode cX9_has 34 = .ok (.iconst 1, 1) := by decide +kernel
theorem dX9_has_35 : decode cX9_has 35 = .ok (.aload_n 0, 1) := by decide +kernel
theorem dX9_has_36 : decode cX9_has 36 = .ok (.getfield 96, 3) := by decide +kernel
theorem dX9_has_39 : decode cX9_has 39 = .ok (.invokevirtual 246, 3) := by decide +kernel
theorem dX9_has_42 : decode cX9_has 42 = .ok (.aload_n 0, 1) := by decide +kernel
theorem dX9_has_43 : decode cX9_has 43 = .ok (.iload_n 3, 1) := by decide +kernel
theorem dX9_has_44 : decode cX9_has 44 = .ok (.iconst 0, 1) := by decide +kernel
theorem dX9_has_45 : decode cX9_has 45 = .ok (.aload_n 0, 1) := by decide +kernel
theorem dX9_has_46 : decode cX9_has 46 = .ok (.getfield 93, 3) := by decide +kernel
theorem dX9_has_49 : decode cX9_has 49 = .ok (.invokevirtual 246, 3) := by decide +kernel
theorem dX9_has_52 : decode cX9_has 52 = .ok (.iload_n 2, 1) := by decide +kernel
theorem dX9_has_53 : decode cX9_has 53 = .ok (.tableswitch 103 0 3 #[31, 38, 45, 68], 31) := by decide +kernel
theorem dX9_has_84 : decode cX9_has 84 = .ok (.aload_n 0, 1) := by decide +kernel
