theorem dX3_measure_168 : decode cX3_measure 168 = .ok (.goto (-120), 3) := by decide +kernel
theorem dX3_measure_171 : decode cX3_measure 171 = .ok (.return_, 1) := by decide +kernel
theorem dX3_nearestUnsettled_0 : decode cX3_nearestUnsettled 0 = .ok (.iconst (-1), 1) := by decide +kernel
theorem dX3_nearestUnsettled_1 : decode cX3_nearestUnsettled 1 = .ok (.istore_n 1, 1) := by decide +kernel
theorem dX3_nearestUnsettled_2 : decode cX3_nearestUnsettled 2 = .ok (.ldc 27, 2) := by decide +kernel
theorem dX3_nearestUnsettled_4 : decode cX3_nearestUnsettled 4 = .ok (.istore_n 2, 1) := by decide +kernel
theorem dX3_nearestUnsettled_5 : decode cX3_nearestUnsettled 5 = .ok (.iconst 0, 1) := by decide +kernel
theorem dX3_nearestUnsettled_6 : decode cX3_nearestUnsettled 6 = .ok (.istore_n 3, 1) := by decide +kernel
theorem dX3_nearestUnsettled_7 : decode cX3_nearestUnsettled 7 = .ok (.iload_n 3, 1) := by decide +kernel
theorem dX3_nearestUnsettled_8 : decode cX3_nearestUnsettled 8 = .ok (.aload_n 0, 1) := by decide +kernel
theorem dX3_nearestUnsettled_9 : decode cX3_nearestUnsettled 9 = .ok (.getfield 19, 3) := by decide +kernel
theorem dX3_nearestUnsettled_12 : decode cX3_nearestUnsettled 12 = .ok (.getfield 28, 3) := by decide +kernel
theorem dX3_nearestUnsettled_15 : decode cX3_nearestUnsettled 15 = .ok (.if_icmp .ge 37, 3) := by decide +kernel
theorem dX3_nearestUnsettled_18 : decode cX3_nearestUnsettled 18 = .ok (.aload_n 0, 1) := by decide +kernel
theorem dX3_nearestUnsettled_19 : decode cX3_nearestUnsettled 19 = .ok (.getfield 15, 3) := by decide +kernel
theorem dX3_nearestUnsettled_22 : decode cX3_nearestUnsettled 22 = .ok (.iload_n 3, 1) := by decide +kernel
theorem dX3_nearestUnsettled_23 : decode cX3_nearestUnsettled 23 = .ok (.baload, 1) := by decide +kernel
theorem dX3_nearestUnsettled_24 : decode cX3_nearestUnsettled 24 = .ok (.ifCond .ne 22, 3) := by decide +kernel
theorem dX3_nearestUnsettled_27 : decode cX3_nearestUnsettled 27 = .ok (.aload_n 0, 1) := by decide +kernel
theorem dX3_nearestUnsettled_28 : decode cX3_nearestUnsettled 28 = .ok (.getfield 9, 3) := by decide +kernel
theorem dX3_nearestUnsettled_31 : decode cX3_nearestUnsettled 31 = .ok (.iload_n 3, 1) := by decide +kernel
theorem dX3_nearestUnsettled_32 : decode cX3_nearestUnsettled 32 = .ok (.iaload, 1) := by decide +kernel
theorem dX3_nearestUnsettled_33 : decode cX3_nearestUnsettled 33 = .ok (.iload_n 2, 1) := by decide +kernel
theorem dX3_nearestUnsettled_34 : decode cX3_nearestUnsettled 34 = .ok (.if_icmp .ge 12, 3) := by decide +kernel
theorem dX3_nearestUnsettled_37 : decode cX3_nearestUnsettled 37 = .ok (.iload_n 3, 1) := by decide +kernel
theorem dX3_nearestUnsettled_38 : decode cX3_nearestUnsettled 38 = .ok (.istore_n 1, 1) := by decide +kernel
theorem dX3_nearestUnsettled_39 : decode cX3_nearestUnsettled 39 = .ok (.aload_n 0, 1) := by decide +kernel
theorem dX3_nearestUnsettled_40 : decode cX3_nearestUnsettled 40 = .ok (.getfield 9, 3) := by decide +kernel
theorem dX3_nearestUnsettled_43 : decode cX3_nearestUnsettled 43 = .ok (.iload_n 3, 1) := by decide +kernel
theorem dX3_nearestUnsettled_44 : decode cX3_nearestUnsettled 44 = .ok (.iaload, 1) := by decide +kernel
theorem dX3_nearestUnsettled_45 : decode cX3_nearestUnsettled 45 = .ok (.istore_n 2, 1) := by decide +kernel
theorem dX3_nearestUnsettled_46 : decode cX3_nearestUnsettled 46 = .ok (.iinc 3 1, 3) := by decide +kernel
theorem dX3_nearestUnsettled_49 : decode cX3_nearestUnsettled 49 = .ok (.goto (-42), 3) := by decide +kernel
theorem dX3_nearestUnsettled_52 : decode cX3_nearestUnsettled 52 = .ok (.iload_n 1, 1) := by decide +kernel
theorem dX3_nearestUnsettled_53 : decode cX3_nearestUnsettled 53 = .ok (.ireturn, 1) := by decide +kernel
theorem dX3_cellBefore_0 : decode cX3_cellBefore 0 = .ok (.aload_n 0, 1) := by decide +kernel
theorem dX3_cellBefore_1 : decode cX3_cellBefore 1 = .ok (.getfield 9, 3) := by decide +kernel
theorem dX3_cellBefore_4 : decode cX3_cellBefore 4 = .ok (.iload_n 1, 1) := by decide +kernel
theorem dX3_cellBefore_5 : decode cX3_cellBefore 5 = .ok (.iaload, 1) := by decide +kernel
theorem dX3_cellBefore_6 : decode cX3_cellBefore 6 = .ok (.aload_n 0, 1) := by decide +kernel
theorem dX3_cellBefore_7 : decode cX3_cellBefore 7 = .ok (.iload_n 1, 1) := by decide +kernel
theorem dX3_cellBefore_8 : decode cX3_cellBefore 8 = .ok (.invokevirtual 55, 3) := by decide +kernel
theorem dX3_cellBefore_11 : decode cX3_cellBefore 11 = .ok (.isub, 1) := by decide +kernel
theorem dX3_cellBefore_12 : decode cX3_cellBefore 12 = .ok (.istore_n 2, 1) := by decide +kernel
theorem dX3_cellBefore_13 : decode cX3_cellBefore 13 = .ok (.iconst 0, 1) := by decide +kernel
theorem dX3_cellBefore_14 : decode cX3_cellBefore 14 = .ok (.istore_n 3, 1) := by decide +kernel
theorem dX3_cellBefore_15 : decode cX3_cellBefore 15 = .ok (.iload_n 3, 1) := by decide +kernel
theorem dX3_cellBefore_16 : decode cX3_cellBefore 16 = .ok (.iconst 4, 1) := by decide +kernel
theorem dX3_cellBefore_17 : decode cX3_cellBefore 17 = .ok (.if_icmp .ge 40, 3) := by decide +kernel
theorem dX3_cellBefore_20 : decode cX3_cellBefore 20 = .ok (.aload_n 0, 1) := by decide +kernel
theorem dX3_cellBefore_21 : decode cX3_cellBefore 21 = .ok (.getfield 19, 3) := by decide +kernel
theorem dX3_cellBefore_24 : decode cX3_cellBefore 24 = .ok (.iload_n 1, 1) := by decide +kernel
theorem dX3_cellBefore_25 : decode cX3_cellBefore 25 = .ok (.iload_n 3, 1) := by decide +kernel
theorem dX3_cellBefore_26 : decode cX3_cellBefore 26 = .ok (.invokevirtual 62, 3) := by decide +kernel
theorem dX3_cellBefore_29 : decode cX3_cellBefore 29 = .ok (.istore 4, 2) := by decide +kernel
theorem dX3_cellBefore_31 : decode cX3_cellBefore 31 = .ok (.iload 4, 2) := by decide +kernel
theorem dX3_cellBefore_33 : decode cX3_cellBefore 33 = .ok (.iconst (-1), 1) := by decide +kernel
theorem dX3_cellBefore_34 : decode cX3_cellBefore 34 = .ok (.if_icmp .eq 17, 3) := by decide +kernel
theorem dX3_cellBefore_37 : decode cX3_cellBefore 37 = .ok (.aload_n 0, 1) := by decide +kernel
theorem dX3_cellBefore_38 : decode cX3_cellBefore 38 = .ok (.getfield 9, 3) := by decide +kernel
theorem dX3_cellBefore_41 : decode cX3_cellBefore 41 = .ok (.iload 4, 2) := by decide +kernel
theorem dX3_cellBefore_43 : decode cX3_cellBefore 43 = .ok (.iaload, 1) := by decide +kernel
theorem dX3_cellBefore_44 : decode cX3_cellBefore 44 = .ok (.iload_n 2, 1) := by decide +kernel
theorem dX3_cellBefore_45 : decode cX3_cellBefore 45 = .ok (.if_icmp .ne 6, 3) := by decide +kernel
theorem dX3_cellBefore_48 : decode cX3_cellBefore 48 = .ok (.iload 4, 2) := by decide +kernel
theorem dX3_cellBefore_50 : decode cX3_cellBefore 50 = .ok (.ireturn, 1) := by decide +kernel
theorem dX3_cellBefore_51 : decode cX3_cellBefore 51 = .ok (.iinc 3 1, 3) := by decide +kernel
theorem dX3_cellBefore_54 : decode cX3_cellBefore 54 = .ok (.goto (-39), 3) := by decide +kernel
theorem dX3_cellBefore_57 : decode cX3_cellBefore 57 = .ok (.iconst (-1), 1) := by decide +kernel
theorem dX3_cellBefore_58 : decode cX3_cellBefore 58 = .ok (.ireturn, 1) := by decide +kernel
theorem dX3_price_0 : decode cX3_price 0 = .ok (.aload_n 0, 1) := by decide +kernel
theorem dX3_price_1 : decode cX3_price 1 = .ok (.getfield 19, 3) := by decide +kernel
theorem dX3_price_4 : decode cX3_price 4 = .ok (.iload_n 1, 1) := by decide +kernel
theorem dX3_price_5 : decode cX3_price 5 = .ok (.invokevirtual 38, 3) := by decide +kernel
theorem dX3_price_8 : decode cX3_price 8 = .ok (.ifCond .eq 7, 3) := by decide +kernel
theorem dX3_price_11 : decode cX3_price 11 = .ok (.iconst 1, 1) := by decide +kernel
theorem dX3_price_12 : decode cX3_price 12 = .ok (.goto 20, 3) := by decide +kernel
theorem dX3_price_15 : decode cX3_price 15 = .ok (.bipush 100, 2) := by decide +kernel
theorem dX3_price_17 : decode cX3_price 17 = .ok (.aload_n 0, 1) := by decide +kernel
theorem dX3_price_18 : decode cX3_price 18 = .ok (.getfield 19, 3) := by decide +kernel
theorem dX3_price_21 : decode cX3_price 21 = .ok (.getfield 42, 3) := by decide +kernel
theorem dX3_price_24 : decode cX3_price 24 = .ok (.iconst 0, 1) := by decide +kernel
theorem dX3_price_25 : decode cX3_price 25 = .ok (.aaload, 1) := by decide +kernel
theorem dX3_price_26 : decode cX3_price 26 = .ok (.iload_n 1, 1) := by decide +kernel
theorem dX3_price_27 : decode cX3_price 27 = .ok (.iaload, 1) := by decide +kernel
theorem dX3_price_28 : decode cX3_price 28 = .ok (.imul, 1) := by decide +kernel
theorem dX3_price_29 : decode cX3_price 29 = .ok (.bipush 101, 2) := by decide +kernel
theorem dX3_price_31 : decode cX3_price 31 = .ok (.iadd, 1) := by decide +kernel
theorem dX3_price_32 : decode cX3_price 32 = .ok (.ireturn, 1) := by decide +kernel
theorem dX4_init_0 : decode cX4_init 0 = .ok (.aload_n 0, 1) := by decide +kernel
theorem dX4_init_1 : decode cX4_init 1 = .ok (.invokespecial 3, 3) := by decide +kernel
theorem dX4_init_4 : decode cX4_init 4 = .ok (.aload_n 0, 1) := by decide +kernel
theorem dX4_init_5 : decode cX4_init 5 = .ok (.bipush 8, 2) := by decide +kernel
theorem dX4_init_7 : decode cX4_init 7 = .ok (.newarray .int, 2) := by decide +kernel
theorem dX4_init_9 : decode cX4_init 9 = .ok (.putfield 9, 3) := by decide +kernel
theorem dX4_init_12 : decode cX4_init 12 = .ok (.aload_n 0, 1) := by decide +kernel
theorem dX4_init_13 : decode cX4_init 13 = .ok (.bipush 8, 2) := by decide +kernel
theorem dX4_init_15 : decode cX4_init 15 = .ok (.newarray .int, 2) := by decide +kernel
theorem dX4_init_17 : decode cX4_init 17 = .ok (.putfield 15, 3) := by decide +kernel
theorem dX4_init_20 : decode cX4_init 20 = .ok (.aload_n 0, 1) := by decide +kernel
theorem dX4_init_21 : decode cX4_init 21 = .ok (.bipush 40, 2) := by decide +kernel
theorem dX4_init_23 : decode cX4_init 23 = .ok (.newarray .int, 2) := by decide +kernel
theorem dX4_init_25 : decode cX4_init 25 = .ok (.putfield 18, 3) := by decide +kernel
theorem dX4_init_28 : decode cX4_init 28 = .ok (.aload_n 0, 1) := by decide +kernel
theorem dX4_init_29 : decode cX4_init 29 = .ok (.bipush 40, 2) := by decide +kernel
theorem dX4_init_31 : decode cX4_init 31 = .ok (.newarray .int, 2) := by decide +kernel
theorem dX4_init_33 : decode cX4_init 33 = .ok (.putfield 21, 3) := by decide +kernel
theorem dX4_init_36 : decode cX4_init 36 = .ok (.aload_n 0, 1) := by decide +kernel
theorem dX4_init_37 : decode cX4_init 37 = .ok (.bipush 40, 2) := by decide +kernel
theorem dX4_init_39 : decode cX4_init 39 = .ok (.newarray .int, 2) := by decide +kernel
theorem dX4_init_41 : decode cX4_init 41 = .ok (.putfield 24, 3) := by decide +kernel
theorem dX4_init_44 : decode cX4_init 44 = .ok (.aload_n 0, 1) := by decide +kernel
theorem dX4_init_45 : decode cX4_init 45 = .ok (.bipush 40, 2) := by decide +kernel
theorem dX4_init_47 : decode cX4_init 47 = .ok (.newarray .int, 2) := by decide +kernel
theorem dX4_init_49 : decode cX4_init 49 = .ok (.putfield 27, 3) := by decide +kernel
theorem dX4_init_52 : decode cX4_init 52 = .ok (.aload_n 0, 1) := by decide +kernel
theorem dX4_init_53 : decode cX4_init 53 = .ok (.bipush 20, 2) := by decide +kernel
theorem dX4_init_55 : decode cX4_init 55 = .ok (.newarray .int, 2) := by decide +kernel
theorem dX4_init_57 : decode cX4_init 57 = .ok (.putfield 30, 3) := by decide +kernel
theorem dX4_init_60 : decode cX4_init 60 = .ok (.aload_n 0, 1) := by decide +kernel
theorem dX4_init_61 : decode cX4_init 61 = .ok (.bipush 20, 2) := by decide +kernel
theorem dX4_init_63 : decode cX4_init 63 = .ok (.newarray .int, 2) := by decide +kernel
theorem dX4_init_65 : decode cX4_init 65 = .ok (.putfield 33, 3) := by decide +kernel
theorem dX4_init_68 : decode cX4_init 68 = .ok (.aload_n 0, 1) := by decide +kernel
theorem dX4_init_69 : decode cX4_init 69 = .ok (.bipush 20, 2) := by decide +kernel
theorem dX4_init_71 : decode cX4_init 71 = .ok (.newarray .int, 2) := by decide +kernel
theorem dX4_init_73 : decode cX4_init 73 = .ok (.putfield 36, 3) := by decide +kernel
theorem dX4_init_76 : decode cX4_init 76 = .ok (.aload_n 0, 1) := by decide +kernel
theorem dX4_init_77 : decode cX4_init 77 = .ok (.aload_n 1, 1) := by decide +kernel
theorem dX4_init_78 : decode cX4_init 78 = .ok (.putfield 39, 3) := by decide +kernel
theorem dX4_init_81 : decode cX4_init 81 = .ok (.return_, 1) := by decide +kernel
theorem dX4_clear_0 : decode cX4_clear 0 = .ok (.aload_n 0, 1) := by decide +kernel
theorem dX4_clear_1 : decode cX4_clear 1 = .ok (.iconst 0, 1) := by decide +kernel
theorem dX4_clear_2 : decode cX4_clear 2 = .ok (.putfield 43, 3) := by decide +kernel
theorem dX4_clear_5 : decode cX4_clear 5 = .ok (.aload_n 0, 1) := by decide +kernel
theorem dX4_clear_6 : decode cX4_clear 6 = .ok (.iconst 0, 1) := by decide +kernel
theorem dX4_clear_7 : decode cX4_clear 7 = .ok (.putfield 47, 3) := by decide +kernel
theorem dX4_clear_10 : decode cX4_clear 10 = .ok (.aload_n 0, 1) := by decide +kernel
theorem dX4_clear_11 : decode cX4_clear 11 = .ok (.iconst 0, 1) := by decide +kernel
theorem dX4_clear_12 : decode cX4_clear 12 = .ok (.putfield 50, 3) := by decide +kernel
theorem dX4_clear_15 : decode cX4_clear 15 = .ok (.return_, 1) := by decide +kernel
theorem dX4_isClaimant_0 : decode cX4_isClaimant 0 = .ok (.iload_n 1, 1) := by decide +kernel
theorem dX4_isClaimant_1 : decode cX4_isClaimant 1 = .ok (.ifCond .lt 15, 3) := by decide +kernel
theorem dX4_isClaimant_4 : decode cX4_isClaimant 4 = .ok (.iload_n 1, 1) := by decide +kernel
theorem dX4_isClaimant_5 : decode cX4_isClaimant 5 = .ok (.aload_n 0, 1) := by decide +kernel
theorem dX4_isClaimant_6 : decode cX4_isClaimant 6 = .ok (.getfield 43, 3) := by decide +kernel
theorem dX4_isClaimant_9 : decode cX4_isClaimant 9 = .ok (.if_icmp .ge 7, 3) := by decide +kernel
theorem dX4_isClaimant_12 : decode cX4_isClaimant 12 = .ok (.iconst 1, 1) := by decide +kernel
theorem dX4_isClaimant_13 : decode cX4_isClaimant 13 = .ok (.goto 4, 3) := by decide +kernel
theorem dX4_isClaimant_16 : decode cX4_isClaimant 16 = .ok (.iconst 0, 1) := by decide +kernel
theorem dX4_isClaimant_17 : decode cX4_isClaimant 17 = .ok (.ireturn, 1) := by decide +kernel
theorem dX4_addClaimant_0 : decode cX4_addClaimant 0 = .ok (.aload_n 0, 1) := by decide +kernel
theorem dX4_addClaimant_1 : decode cX4_addClaimant 1 = .ok (.getfield 9, 3) := by decide +kernel
theorem dX4_addClaimant_4 : decode cX4_addClaimant 4 = .ok (.aload_n 0, 1) := by decide +kernel
theorem dX4_addClaimant_5 : decode cX4_addClaimant 5 = .ok (.getfield 43, 3) := by decide +kernel
theorem dX4_addClaimant_8 : decode cX4_addClaimant 8 = .ok (.iload_n 1, 1) := by decide +kernel
theorem dX4_addClaimant_9 : decode cX4_addClaimant 9 = .ok (.iastore, 1) := by decide +kernel
theorem dX4_addClaimant_10 : decode cX4_addClaimant 10 = .ok (.aload_n 0, 1) := by decide +kernel
theorem dX4_addClaimant_11 : decode cX4_addClaimant 11 = .ok (.getfield 15, 3) := by decide +kernel
theorem dX4_addClaimant_14 : decode cX4_addClaimant 14 = .ok (.aload_n 0, 1) := by decide +kernel
theorem dX4_addClaimant_15 : decode cX4_addClaimant 15 = .ok (.getfield 43, 3) := by decide +kernel
theorem dX4_addClaimant_18 : decode cX4_addClaimant 18 = .ok (.iload_n 2, 1) := by decide +kernel
theorem dX4_addClaimant_19 : decode cX4_addClaimant 19 = .ok (.iastore, 1) := by decide +kernel
theorem dX4_addClaimant_20 : decode cX4_addClaimant 20 = .ok (.aload_n 0, 1) := by decide +kernel
theorem dX4_addClaimant_21 : decode cX4_addClaimant 21 = .ok (.dup, 1) := by decide +kernel
theorem dX4_addClaimant_22 : decode cX4_addClaimant 22 = .ok (.getfield 43, 3) := by decide +kernel
theorem dX4_addClaimant_25 : decode cX4_addClaimant 25 = .ok (.dup_x1, 1) := by decide +kernel
theorem dX4_addClaimant_26 : decode cX4_addClaimant 26 = .ok (.iconst 1, 1) := by decide +kernel
theorem dX4_addClaimant_27 : decode cX4_addClaimant 27 = .ok (.iadd, 1) := by decide +kernel
theorem dX4_addClaimant_28 : decode cX4_addClaimant 28 = .ok (.putfield 43, 3) := by decide +kernel
theorem dX4_addClaimant_31 : decode cX4_addClaimant 31 = .ok (.ireturn, 1) := by decide +kernel
theorem dX4_addClaim_0 : decode cX4_addClaim 0 = .ok (.aload_n 0, 1) := by decide +kernel
theorem dX4_addClaim_1 : decode cX4_addClaim 1 = .ok (.getfield 18, 3) := by decide +kernel
theorem dX4_addClaim_4 : decode cX4_addClaim 4 = .ok (.aload_n 0, 1) := by decide +kernel
theorem dX4_addClaim_5 : decode cX4_addClaim 5 = .ok (.getfield 47, 3) := by decide +kernel
theorem dX4_addClaim_8 : decode cX4_addClaim 8 = .ok (.iload_n 1, 1) := by decide +kernel
theorem dX4_addClaim_9 : decode cX4_addClaim 9 = .ok (.iastore, 1) := by decide +kernel
theorem dX4_addClaim_10 : decode cX4_addClaim 10 = .ok (.aload_n 0, 1) := by decide +kernel
theorem dX4_addClaim_11 : decode cX4_addClaim 11 = .ok (.getfield 21, 3) := by decide +kernel
theorem dX4_addClaim_14 : decode cX4_addClaim 14 = .ok (.aload_n 0, 1) := by decide +kernel
theorem dX4_addClaim_15 : decode cX4_addClaim 15 = .ok (.getfield 47, 3) := by decide +kernel
theorem dX4_addClaim_18 : decode cX4_addClaim 18 = .ok (.iload_n 2, 1) := by decide +kernel
theorem dX4_addClaim_19 : decode cX4_addClaim 19 = .ok (.iastore, 1) := by decide +kernel
theorem dX4_addClaim_20 : decode cX4_addClaim 20 = .ok (.aload_n 0, 1) := by decide +kernel
theorem dX4_addClaim_21 : decode cX4_addClaim 21 = .ok (.getfield 24, 3) := by decide +kernel
theorem dX4_addClaim_24 : decode cX4_addClaim 24 = .ok (.aload_n 0, 1) := by decide +kernel
theorem dX4_addClaim_25 : decode cX4_addClaim 25 = .ok (.getfield 47, 3) := by decide +kernel
theorem dX4_addClaim_28 : decode cX4_addClaim 28 = .ok (.iload_n 3, 1) := by decide +kernel
theorem dX4_addClaim_29 : decode cX4_addClaim 29 = .ok (.iastore, 1) := by decide +kernel
theorem dX4_addClaim_30 : decode cX4_addClaim 30 = .ok (.aload_n 0, 1) := by decide +kernel
theorem dX4_addClaim_31 : decode cX4_addClaim 31 = .ok (.getfield 27, 3) := by decide +kernel
theorem dX4_addClaim_34 : decode cX4_addClaim 34 = .ok (.aload_n 0, 1) := by decide +kernel
theorem dX4_addClaim_35 : decode cX4_addClaim 35 = .ok (.getfield 47, 3) := by decide +kernel
theorem dX4_addClaim_38 : decode cX4_addClaim 38 = .ok (.iload 4, 2) := by decide +kernel
theorem dX4_addClaim_40 : decode cX4_addClaim 40 = .ok (.iastore, 1) := by decide +kernel
theorem dX4_addClaim_41 : decode cX4_addClaim 41 = .ok (.aload_n 0, 1) := by decide +kernel
theorem dX4_addClaim_42 : decode cX4_addClaim 42 = .ok (.dup, 1) := by decide +kernel
theorem dX4_addClaim_43 : decode cX4_addClaim 43 = .ok (.getfield 47, 3) := by decide +kernel
theorem dX4_addClaim_46 : decode cX4_addClaim 46 = .ok (.dup_x1, 1) := by decide +kernel
theorem dX4_addClaim_47 : decode cX4_addClaim 47 = .ok (.iconst 1, 1) := by decide +kernel
theorem dX4_addClaim_48 : decode cX4_addClaim 48 = .ok (.iadd, 1) := by decide +kernel
theorem dX4_addClaim_49 : decode cX4_addClaim 49 = .ok (.putfield 47, 3) := by decide +kernel
theorem dX4_addClaim_52 : decode cX4_addClaim 52 = .ok (.ireturn, 1) := by decide +kernel
theorem dX4_addObjection_0 : decode cX4_addObjection 0 = .ok (.aload_n 0, 1) := by decide +kernel
theorem dX4_addObjection_1 : decode cX4_addObjection 1 = .ok (.getfield 30, 3) := by decide +kernel
theorem dX4_addObjection_4 : decode cX4_addObjection 4 = .ok (.aload_n 0, 1) := by decide +kernel
theorem dX4_addObjection_5 : decode cX4_addObjection 5 = .ok (.getfield 50, 3) := by decide +kernel
theorem dX4_addObjection_8 : decode cX4_addObjection 8 = .ok (.iload_n 1, 1) := by decide +kernel
theorem dX4_addObjection_9 : decode cX4_addObjection 9 = .ok (.iastore, 1) := by decide +kernel
theorem dX4_addObjection_10 : decode cX4_addObjection 10 = .ok (.aload_n 0, 1) := by decide +kernel
theorem dX4_addObjection_11 : decode cX4_addObjection 11 = .ok (.getfield 33, 3) := by decide +kernel
theorem dX4_addObjection_14 : decode cX4_addObjection 14 = .ok (.aload_n 0, 1) := by decide +kernel
theorem dX4_addObjection_15 : decode cX4_addObjection 15 = .ok (.getfield 50, 3) := by decide +kernel
theorem dX4_addObjection_18 : decode cX4_addObjection 18 = .ok (.iload_n 2, 1) := by decide +kernel
theorem dX4_addObjection_19 : decode cX4_addObjection 19 = .ok (.iastore, 1) := by decide +kernel
theorem dX4_addObjection_20 : decode cX4_addObjection 20 = .ok (.aload_n 0, 1) := by decide +kernel
theorem dX4_addObjection_21 : decode cX4_addObjection 21 = .ok (.getfield 36, 3) := by decide +kernel
theorem dX4_addObjection_24 : decode cX4_addObjection 24 = .ok (.aload_n 0, 1) := by decide +kernel
theorem dX4_addObjection_25 : decode cX4_addObjection 25 = .ok (.getfield 50, 3) := by decide +kernel
theorem dX4_addObjection_28 : decode cX4_addObjection 28 = .ok (.iload_n 3, 1) := by decide +kernel
theorem dX4_addObjection_29 : decode cX4_addObjection 29 = .ok (.iastore, 1) := by decide +kernel
theorem dX4_addObjection_30 : decode cX4_addObjection 30 = .ok (.aload_n 0, 1) := by decide +kernel
theorem dX4_addObjection_31 : decode cX4_addObjection 31 = .ok (.dup, 1) := by decide +kernel
theorem dX4_addObjection_32 : decode cX4_addObjection 32 = .ok (.getfield 50, 3) := by decide +kernel
theorem dX4_addObjection_35 : decode cX4_addObjection 35 = .ok (.dup_x1, 1) := by decide +kernel
theorem dX4_addObjection_36 : decode cX4_addObjection 36 = .ok (.iconst 1, 1) := by decide +kernel
theorem dX4_addObjection_37 : decode cX4_addObjection 37 = .ok (.iadd, 1) := by decide +kernel
theorem dX4_addObjection_38 : decode cX4_addObjection 38 = .ok (.putfield 50, 3) := by decide +kernel
theorem dX4_addObjection_41 : decode cX4_addObjection 41 = .ok (.ireturn, 1) := by decide +kernel
theorem dX4_firstOfKind_0 : decode cX4_firstOfKind 0 = .ok (.iconst 0, 1) := by decide +kernel
theorem dX4_firstOfKind_1 : decode cX4_firstOfKind 1 = .ok (.istore_n 2, 1) := by decide +kernel
theorem dX4_firstOfKind_2 : decode cX4_firstOfKind 2 = .ok (.iload_n 2, 1) := by decide +kernel
theorem dX4_firstOfKind_3 : decode cX4_firstOfKind 3 = .ok (.aload_n 0, 1) := by decide +kernel
theorem dX4_firstOfKind_4 : decode cX4_firstOfKind 4 = .ok (.getfield 43, 3) := by decide +kernel
theorem dX4_firstOfKind_7 : decode cX4_firstOfKind 7 = .ok (.if_icmp .ge 21, 3) := by decide +kernel
theorem dX4_firstOfKind_10 : decode cX4_firstOfKind 10 = .ok (.aload_n 0, 1) := by decide +kernel
theorem dX4_firstOfKind_11 : decode cX4_firstOfKind 11 = .ok (.getfield 9, 3) := by decide +kernel
theorem dX4_firstOfKind_14 : decode cX4_firstOfKind 14 = .ok (.iload_n 2, 1) := by decide +kernel
theorem dX4_firstOfKind_15 : decode cX4_firstOfKind 15 = .ok (.iaload, 1) := by decide +kernel
theorem dX4_firstOfKind_16 : decode cX4_firstOfKind 16 = .ok (.iload_n 1, 1) := by decide +kernel
theorem dX4_firstOfKind_17 : decode cX4_firstOfKind 17 = .ok (.if_icmp .ne 5, 3) := by decide +kernel
theorem dX4_firstOfKind_20 : decode cX4_firstOfKind 20 = .ok (.iload_n 2, 1) := by decide +kernel
theorem dX4_firstOfKind_21 : decode cX4_firstOfKind 21 = .ok (.ireturn, 1) := by decide +kernel
theorem dX4_firstOfKind_22 : decode cX4_firstOfKind 22 = .ok (.iinc 2 1, 3) := by decide +kernel
theorem dX4_firstOfKind_25 : decode cX4_firstOfKind 25 = .ok (.goto (-23), 3) := by decide +kernel
theorem dX4_firstOfKind_28 : decode cX4_firstOfKind 28 = .ok (.iconst (-1), 1) := by decide +kernel
theorem dX4_firstOfKind_29 : decode cX4_firstOfKind 29 = .ok (.ireturn, 1) := by decide +kernel
theorem dX4_claimantOf_0 : decode cX4_claimantOf 0 = .ok (.aload_n 0, 1) := by decide +kernel
theorem dX4_claimantOf_1 : decode cX4_claimantOf 1 = .ok (.getfield 18, 3) := by decide +kernel
theorem dX4_claimantOf_4 : decode cX4_claimantOf 4 = .ok (.iload_n 1, 1) := by decide +kernel
theorem dX4_claimantOf_5 : decode cX4_claimantOf 5 = .ok (.iaload, 1) := by decide +kernel
theorem dX4_claimantOf_6 : decode cX4_claimantOf 6 = .ok (.ireturn, 1) := by decide +kernel
theorem dX4_lateClaims_0 : decode cX4_lateClaims 0 = .ok (.iconst 0, 1) := by decide +kernel
theorem dX4_lateClaims_1 : decode cX4_lateClaims 1 = .ok (.istore_n 2, 1) := by decide +kernel
theorem dX4_lateClaims_2 : decode cX4_lateClaims 2 = .ok (.iconst 0, 1) := by decide +kernel
theorem dX4_lateClaims_3 : decode cX4_lateClaims 3 = .ok (.istore_n 3, 1) := by decide +kernel
theorem dX4_lateClaims_4 : decode cX4_lateClaims 4 = .ok (.iload_n 3, 1) := by decide +kernel
theorem dX4_lateClaims_5 : decode cX4_lateClaims 5 = .ok (.aload_n 0, 1) := by decide +kernel
theorem dX4_lateClaims_6 : decode cX4_lateClaims 6 = .ok (.getfield 47, 3) := by decide +kernel
theorem dX4_lateClaims_9 : decode cX4_lateClaims 9 = .ok (.if_icmp .ge 22, 3) := by decide +kernel
theorem dX4_lateClaims_12 : decode cX4_lateClaims 12 = .ok (.aload_n 0, 1) := by decide +kernel
theorem dX4_lateClaims_13 : decode cX4_lateClaims 13 = .ok (.getfield 27, 3) := by decide +kernel
theorem dX4_lateClaims_16 : decode cX4_lateClaims 16 = .ok (.iload_n 3, 1) := by decide +kernel
theorem dX4_lateClaims_17 : decode cX4_lateClaims 17 = .ok (.iaload, 1) := by decide +kernel
theorem dX4_lateClaims_18 : decode cX4_lateClaims 18 = .ok (.iload_n 1, 1) := by decide +kernel
theorem dX4_lateClaims_19 : decode cX4_lateClaims 19 = .ok (.if_icmp .le 6, 3) := by decide +kernel
theorem dX4_lateClaims_22 : decode cX4_lateClaims 22 = .ok (.iinc 2 1, 3) := by decide +kernel
theorem dX4_lateClaims_25 : decode cX4_lateClaims 25 = .ok (.iinc 3 1, 3) := by decide +kernel
theorem dX4_lateClaims_28 : decode cX4_lateClaims 28 = .ok (.goto (-24), 3) := by decide +kernel
theorem dX4_lateClaims_31 : decode cX4_lateClaims 31 = .ok (.iload_n 2, 1) := by decide +kernel
theorem dX4_lateClaims_32 : decode cX4_lateClaims 32 = .ok (.ireturn, 1) := by decide +kernel
theorem dX4_holderAt_0 : decode cX4_holderAt 0 = .ok (.aload_n 0, 1) := by decide +kernel
theorem dX4_holderAt_1 : decode cX4_holderAt 1 = .ok (.getfield 39, 3) := by decide +kernel
theorem dX4_holderAt_4 : decode cX4_holderAt 4 = .ok (.getfield 53, 3) := by decide +kernel
theorem dX4_holderAt_7 : decode cX4_holderAt 7 = .ok (.iconst 1, 1) := by decide +kernel
theorem dX4_holderAt_8 : decode cX4_holderAt 8 = .ok (.aaload, 1) := by decide +kernel
theorem dX4_holderAt_9 : decode cX4_holderAt 9 = .ok (.iload_n 1, 1) := by decide +kernel
theorem dX4_holderAt_10 : decode cX4_holderAt 10 = .ok (.iaload, 1) := by decide +kernel
theorem dX4_holderAt_11 : decode cX4_holderAt 11 = .ok (.iconst 1, 1) := by decide +kernel
theorem dX4_holderAt_12 : decode cX4_holderAt 12 = .ok (.if_icmp .ne 18, 3) := by decide +kernel
theorem dX4_holderAt_15 : decode cX4_holderAt 15 = .ok (.aload_n 0, 1) := by decide +kernel
theorem dX4_holderAt_16 : decode cX4_holderAt 16 = .ok (.getfield 39, 3) := by decide +kernel
theorem dX4_holderAt_19 : decode cX4_holderAt 19 = .ok (.getfield 53, 3) := by decide +kernel
theorem dX4_holderAt_22 : decode cX4_holderAt 22 = .ok (.iconst 2, 1) := by decide +kernel
theorem dX4_holderAt_23 : decode cX4_holderAt 23 = .ok (.aaload, 1) := by decide +kernel
theorem dX4_holderAt_24 : decode cX4_holderAt 24 = .ok (.iload_n 1, 1) := by decide +kernel
theorem dX4_holderAt_25 : decode cX4_holderAt 25 = .ok (.iaload, 1) := by decide +kernel
theorem dX4_holderAt_26 : decode cX4_holderAt 26 = .ok (.iconst 1, 1) := by decide +kernel
theorem dX4_holderAt_27 : decode cX4_holderAt 27 = .ok (.if_icmp .ne 5, 3) := by decide +kernel
theorem dX4_holderAt_30 : decode cX4_holderAt 30 = .ok (.iconst (-1), 1) := by decide +kernel
theorem dX4_holderAt_31 : decode cX4_holderAt 31 = .ok (.ireturn, 1) := by decide +kernel
theorem dX4_holderAt_32 : decode cX4_holderAt 32 = .ok (.iconst (-1), 1) := by decide +kernel
theorem dX4_holderAt_33 : decode cX4_holderAt 33 = .ok (.istore 4, 2) := by decide +kernel
theorem dX4_holderAt_35 : decode cX4_holderAt 35 = .ok (.iconst 0, 1) := by decide +kernel
theorem dX4_holderAt_36 : decode cX4_holderAt 36 = .ok (.istore 5, 2) := by decide +kernel
theorem dX4_holderAt_38 : decode cX4_holderAt 38 = .ok (.iload 5, 2) := by decide +kernel
theorem dX4_holderAt_40 : decode cX4_holderAt 40 = .ok (.aload_n 0, 1) := by decide +kernel
theorem dX4_holderAt_41 : decode cX4_holderAt 41 = .ok (.getfield 47, 3) := by decide +kernel
theorem dX4_holderAt_44 : decode cX4_holderAt 44 = .ok (.if_icmp .ge 118, 3) := by decide +kernel
theorem dX4_holderAt_47 : decode cX4_holderAt 47 = .ok (.aload_n 0, 1) := by decide +kernel
theorem dX4_holderAt_48 : decode cX4_holderAt 48 = .ok (.getfield 21, 3) := by decide +kernel
theorem dX4_holderAt_51 : decode cX4_holderAt 51 = .ok (.iload 5, 2) := by decide +kernel
theorem dX4_holderAt_53 : decode cX4_holderAt 53 = .ok (.iaload, 1) := by decide +kernel
theorem dX4_holderAt_54 : decode cX4_holderAt 54 = .ok (.iload_n 1, 1) := by decide +kernel
theorem dX4_holderAt_55 : decode cX4_holderAt 55 = .ok (.if_icmp .ne 101, 3) := by decide +kernel
theorem dX4_holderAt_58 : decode cX4_holderAt 58 = .ok (.aload_n 0, 1) := by decide +kernel
theorem dX4_holderAt_59 : decode cX4_holderAt 59 = .ok (.getfield 27, 3) := by decide +kernel
theorem dX4_holderAt_62 : decode cX4_holderAt 62 = .ok (.iload 5, 2) := by decide +kernel
theorem dX4_holderAt_64 : decode cX4_holderAt 64 = .ok (.iaload, 1) := by decide +kernel
theorem dX4_holderAt_65 : decode cX4_holderAt 65 = .ok (.iload_n 2, 1) := by decide +kernel
theorem dX4_holderAt_66 : decode cX4_holderAt 66 = .ok (.if_icmp .gt 90, 3) := by decide +kernel
theorem dX4_holderAt_69 : decode cX4_holderAt 69 = .ok (.aload_n 0, 1) := by decide +kernel
theorem dX4_holderAt_70 : decode cX4_holderAt 70 = .ok (.getfield 27, 3) := by decide +kernel
theorem dX4_holderAt_73 : decode cX4_holderAt 73 = .ok (.iload 5, 2) := by decide +kernel
theorem dX4_holderAt_75 : decode cX4_holderAt 75 = .ok (.iaload, 1) := by decide +kernel
theorem dX4_holderAt_76 : decode cX4_holderAt 76 = .ok (.iload_n 3, 1) := by decide +kernel
theorem dX4_holderAt_77 : decode cX4_holderAt 77 = .ok (.if_icmp .le 6, 3) := by decide +kernel
theorem dX4_holderAt_80 : decode cX4_holderAt 80 = .ok (.goto 76, 3) := by decide +kernel
theorem dX4_holderAt_83 : decode cX4_holderAt 83 = .ok (.iload 4, 2) := by decide +kernel
theorem dX4_holderAt_85 : decode cX4_holderAt 85 = .ok (.iconst (-1), 1) := by decide +kernel
theorem dX4_holderAt_86 : decode cX4_holderAt 86 = .ok (.if_icmp .eq 54, 3) := by decide +kernel
theorem dX4_holderAt_89 : decode cX4_holderAt 89 = .ok (.aload_n 0, 1) := by decide +kernel
theorem dX4_holderAt_90 : decode cX4_holderAt 90 = .ok (.getfield 24, 3) := by decide +kernel
theorem dX4_holderAt_93 : decode cX4_holderAt 93 = .ok (.iload 5, 2) := by decide +kernel
theorem dX4_holderAt_95 : decode cX4_holderAt 95 = .ok (.iaload, 1) := by decide +kernel
theorem dX4_holderAt_96 : decode cX4_holderAt 96 = .ok (.aload_n 0, 1) := by decide +kernel
theorem dX4_holderAt_97 : decode cX4_holderAt 97 = .ok (.getfield 24, 3) := by decide +kernel
theorem dX4_holderAt_100 : decode cX4_holderAt 100 = .ok (.iload 4, 2) := by decide +kernel
theorem dX4_holderAt_102 : decode cX4_holderAt 102 = .ok (.iaload, 1) := by decide +kernel
theorem dX4_holderAt_103 : decode cX4_holderAt 103 = .ok (.if_icmp .gt 37, 3) := by decide +kernel
theorem dX4_holderAt_106 : decode cX4_holderAt 106 = .ok (.aload_n 0, 1) := by decide +kernel
theorem dX4_holderAt_107 : decode cX4_holderAt 107 = .ok (.getfield 24, 3) := by decide +kernel
theorem dX4_holderAt_110 : decode cX4_holderAt 110 = .ok (.iload 5, 2) := by decide +kernel
theorem dX4_holderAt_112 : decode cX4_holderAt 112 = .ok (.iaload, 1) := by decide +kernel
theorem dX4_holderAt_113 : decode cX4_holderAt 113 = .ok (.aload_n 0, 1) := by decide +kernel
theorem dX4_holderAt_114 : decode cX4_holderAt 114 = .ok (.getfield 24, 3) := by decide +kernel
theorem dX4_holderAt_117 : decode cX4_holderAt 117 = .ok (.iload 4, 2) := by decide +kernel
theorem dX4_holderAt_119 : decode cX4_holderAt 119 = .ok (.iaload, 1) := by decide +kernel
theorem dX4_holderAt_120 : decode cX4_holderAt 120 = .ok (.if_icmp .ne 24, 3) := by decide +kernel
theorem dX4_holderAt_123 : decode cX4_holderAt 123 = .ok (.aload_n 0, 1) := by decide +kernel
theorem dX4_holderAt_124 : decode cX4_holderAt 124 = .ok (.getfield 27, 3) := by decide +kernel
theorem dX4_holderAt_127 : decode cX4_holderAt 127 = .ok (.iload 5, 2) := by decide +kernel
theorem dX4_holderAt_129 : decode cX4_holderAt 129 = .ok (.iaload, 1) := by decide +kernel
theorem dX4_holderAt_130 : decode cX4_holderAt 130 = .ok (.aload_n 0, 1) := by decide +kernel
theorem dX4_holderAt_131 : decode cX4_holderAt 131 = .ok (.getfield 27, 3) := by decide +kernel
theorem dX4_holderAt_134 : decode cX4_holderAt 134 = .ok (.iload 4, 2) := by decide +kernel
theorem dX4_holderAt_136 : decode cX4_holderAt 136 = .ok (.iaload, 1) := by decide +kernel
theorem dX4_holderAt_137 : decode cX4_holderAt 137 = .ok (.if_icmp .ge 7, 3) := by decide +kernel
theorem dX4_holderAt_140 : decode cX4_holderAt 140 = .ok (.iconst 1, 1) := by decide +kernel
theorem dX4_holderAt_141 : decode cX4_holderAt 141 = .ok (.goto 4, 3) := by decide +kernel
theorem dX4_holderAt_144 : decode cX4_holderAt 144 = .ok (.iconst 0, 1) := by decide +kernel
theorem dX4_holderAt_145 : decode cX4_holderAt 145 = .ok (.istore 6, 2) := by decide +kernel
theorem dX4_holderAt_147 : decode cX4_holderAt 147 = .ok (.iload 6, 2) := by decide +kernel
theorem dX4_holderAt_149 : decode cX4_holderAt 149 = .ok (.ifCond .eq 7, 3) := by decide +kernel
theorem dX4_holderAt_152 : decode cX4_holderAt 152 = .ok (.iload 5, 2) := by decide +kernel
theorem dX4_holderAt_154 : decode cX4_holderAt 154 = .ok (.istore 4, 2) := by decide +kernel
theorem dX4_holderAt_156 : decode cX4_holderAt 156 = .ok (.iinc 5 1, 3) := by decide +kernel
theorem dX4_holderAt_159 : decode cX4_holderAt 159 = .ok (.goto (-121), 3) := by decide +kernel
theorem dX4_holderAt_162 : decode cX4_holderAt 162 = .ok (.iload 4, 2) := by decide +kernel
theorem dX4_holderAt_164 : decode cX4_holderAt 164 = .ok (.ireturn, 1) := by decide +kernel
theorem dX4_gatesOf_0 : decode cX4_gatesOf 0 = .ok (.iconst 0, 1) := by decide +kernel
theorem dX4_gatesOf_1 : decode cX4_gatesOf 1 = .ok (.istore 4, 2) := by decide +kernel
theorem dX4_gatesOf_3 : decode cX4_gatesOf 3 = .ok (.iconst 0, 1) := by decide +kernel
theorem dX4_gatesOf_4 : decode cX4_gatesOf 4 = .ok (.istore 5, 2) := by decide +kernel
theorem dX4_gatesOf_6 : decode cX4_gatesOf 6 = .ok (.iload 5, 2) := by decide +kernel
theorem dX4_gatesOf_8 : decode cX4_gatesOf 8 = .ok (.aload_n 0, 1) := by decide +kernel
theorem dX4_gatesOf_9 : decode cX4_gatesOf 9 = .ok (.getfield 47, 3) := by decide +kernel
theorem dX4_gatesOf_12 : decode cX4_gatesOf 12 = .ok (.if_icmp .ge 75, 3) := by decide +kernel
theorem dX4_gatesOf_15 : decode cX4_gatesOf 15 = .ok (.aload_n 0, 1) := by decide +kernel
theorem dX4_gatesOf_16 : decode cX4_gatesOf 16 = .ok (.getfield 18, 3) := by decide +kernel
theorem dX4_gatesOf_19 : decode cX4_gatesOf 19 = .ok (.iload 5, 2) := by decide +kernel
theorem dX4_gatesOf_21 : decode cX4_gatesOf 21 = .ok (.iaload, 1) := by decide +kernel
theorem dX4_gatesOf_22 : decode cX4_gatesOf 22 = .ok (.iload_n 1, 1) := by decide +kernel
theorem dX4_gatesOf_23 : decode cX4_gatesOf 23 = .ok (.if_icmp .ne 58, 3) := by decide +kernel
theorem dX4_gatesOf_26 : decode cX4_gatesOf 26 = .ok (.aload_n 0, 1) := by decide +kernel
theorem dX4_gatesOf_27 : decode cX4_gatesOf 27 = .ok (.getfield 24, 3) := by decide +kernel
theorem dX4_gatesOf_30 : decode cX4_gatesOf 30 = .ok (.iload 5, 2) := by decide +kernel
theorem dX4_gatesOf_32 : decode cX4_gatesOf 32 = .ok (.iaload, 1) := by decide +kernel
theorem dX4_gatesOf_33 : decode cX4_gatesOf 33 = .ok (.ifCond .ne 6, 3) := by decide +kernel
theorem dX4_gatesOf_36 : decode cX4_gatesOf 36 = .ok (.goto 45, 3) := by decide +kernel
theorem dX4_gatesOf_39 : decode cX4_gatesOf 39 = .ok (.aload_n 0, 1) := by decide +kernel
theorem dX4_gatesOf_40 : decode cX4_gatesOf 40 = .ok (.getfield 27, 3) := by decide +kernel
theorem dX4_gatesOf_43 : decode cX4_gatesOf 43 = .ok (.iload 5, 2) := by decide +kernel
theorem dX4_gatesOf_45 : decode cX4_gatesOf 45 = .ok (.iaload, 1) := by decide +kernel
theorem dX4_gatesOf_46 : decode cX4_gatesOf 46 = .ok (.iload_n 2, 1) := by decide +kernel
theorem dX4_gatesOf_47 : decode cX4_gatesOf 47 = .ok (.if_icmp .gt 34, 3) := by decide +kernel
theorem dX4_gatesOf_50 : decode cX4_gatesOf 50 = .ok (.aload_n 0, 1) := by decide +kernel
theorem dX4_gatesOf_51 : decode cX4_gatesOf 51 = .ok (.getfield 27, 3) := by decide +kernel
theorem dX4_gatesOf_54 : decode cX4_gatesOf 54 = .ok (.iload 5, 2) := by decide +kernel
theorem dX4_gatesOf_56 : decode cX4_gatesOf 56 = .ok (.iaload, 1) := by decide +kernel
theorem dX4_gatesOf_57 : decode cX4_gatesOf 57 = .ok (.iload_n 3, 1) := by decide +kernel
theorem dX4_gatesOf_58 : decode cX4_gatesOf 58 = .ok (.if_icmp .le 6, 3) := by decide +kernel
theorem dX4_gatesOf_61 : decode cX4_gatesOf 61 = .ok (.goto 20, 3) := by decide +kernel
theorem dX4_gatesOf_64 : decode cX4_gatesOf 64 = .ok (.iload 4, 2) := by decide +kernel
theorem dX4_gatesOf_66 : decode cX4_gatesOf 66 = .ok (.aload_n 0, 1) := by decide +kernel
theorem dX4_gatesOf_67 : decode cX4_gatesOf 67 = .ok (.getfield 21, 3) := by decide +kernel
theorem dX4_gatesOf_70 : decode cX4_gatesOf 70 = .ok (.iload 5, 2) := by decide +kernel
theorem dX4_gatesOf_72 : decode cX4_gatesOf 72 = .ok (.iaload, 1) := by decide +kernel
theorem dX4_gatesOf_73 : decode cX4_gatesOf 73 = .ok (.bipush 100, 2) := by decide +kernel
theorem dX4_gatesOf_75 : decode cX4_gatesOf 75 = .ok (.isub, 1) := by decide +kernel
theorem dX4_gatesOf_76 : decode cX4_gatesOf 76 = .ok (.invokestatic 59, 3) := by decide +kernel
theorem dX4_gatesOf_79 : decode cX4_gatesOf 79 = .ok (.istore 4, 2) := by decide +kernel
theorem dX4_gatesOf_81 : decode cX4_gatesOf 81 = .ok (.iinc 5 1, 3) := by decide +kernel
theorem dX4_gatesOf_84 : decode cX4_gatesOf 84 = .ok (.goto (-78), 3) := by decide +kernel
theorem dX4_gatesOf_87 : decode cX4_gatesOf 87 = .ok (.iload 4, 2) := by decide +kernel
theorem dX4_gatesOf_89 : decode cX4_gatesOf 89 = .ok (.ireturn, 1) := by decide +kernel
theorem dX4_isUpheld_0 : decode cX4_isUpheld 0 = .ok (.aload_n 0, 1) := by decide +kernel
theorem dX4_isUpheld_1 : decode cX4_isUpheld 1 = .ok (.getfield 33, 3) := by decide +kernel
theorem dX4_isUpheld_4 : decode cX4_isUpheld 4 = .ok (.iload_n 1, 1) := by decide +kernel
theorem dX4_isUpheld_5 : decode cX4_isUpheld 5 = .ok (.iaload, 1) := by decide +kernel
theorem dX4_isUpheld_6 : decode cX4_isUpheld 6 = .ok (.istore_n 3, 1) := by decide +kernel
theorem dX4_isUpheld_7 : decode cX4_isUpheld 7 = .ok (.aload_n 0, 1) := by decide +kernel
theorem dX4_isUpheld_8 : decode cX4_isUpheld 8 = .ok (.getfield 36, 3) := by decide +kernel
theorem dX4_isUpheld_11 : decode cX4_isUpheld 11 = .ok (.iload_n 1, 1) := by decide +kernel
theorem dX4_isUpheld_12 : decode cX4_isUpheld 12 = .ok (.iaload, 1) := by decide +kernel
theorem dX4_isUpheld_13 : decode cX4_isUpheld 13 = .ok (.istore 4, 2) := by decide +kernel
theorem dX4_isUpheld_15 : decode cX4_isUpheld 15 = .ok (.aload_n 0, 1) := by decide +kernel
theorem dX4_isUpheld_16 : decode cX4_isUpheld 16 = .ok (.getfield 30, 3) := by decide +kernel
theorem dX4_isUpheld_19 : decode cX4_isUpheld 19 = .ok (.iload_n 1, 1) := by decide +kernel
theorem dX4_isUpheld_20 : decode cX4_isUpheld 20 = .ok (.iaload, 1) := by decide +kernel
theorem dX4_isUpheld_21 : decode cX4_isUpheld 21 = .ok (.istore 5, 2) := by decide +kernel
theorem dX4_isUpheld_23 : decode cX4_isUpheld 23 = .ok (.aload_n 0, 1) := by decide +kernel
theorem dX4_isUpheld_24 : decode cX4_isUpheld 24 = .ok (.iload_n 3, 1) := by decide +kernel
theorem dX4_isUpheld_25 : decode cX4_isUpheld 25 = .ok (.iload 4, 2) := by decide +kernel
theorem dX4_isUpheld_27 : decode cX4_isUpheld 27 = .ok (.iload_n 2, 1) := by decide +kernel
theorem dX4_isUpheld_28 : decode cX4_isUpheld 28 = .ok (.invokevirtual 65, 3) := by decide +kernel
theorem dX4_isUpheld_31 : decode cX4_isUpheld 31 = .ok (.istore 6, 2) := by decide +kernel
theorem dX4_isUpheld_33 : decode cX4_isUpheld 33 = .ok (.iload 6, 2) := by decide +kernel
theorem dX4_isUpheld_35 : decode cX4_isUpheld 35 = .ok (.iconst (-1), 1) := by decide +kernel
theorem dX4_isUpheld_36 : decode cX4_isUpheld 36 = .ok (.if_icmp .eq 15, 3) := by decide +kernel
theorem dX4_isUpheld_39 : decode cX4_isUpheld 39 = .ok (.aload_n 0, 1) := by decide +kernel
theorem dX4_isUpheld_40 : decode cX4_isUpheld 40 = .ok (.getfield 18, 3) := by decide +kernel
theorem dX4_isUpheld_43 : decode cX4_isUpheld 43 = .ok (.iload 6, 2) := by decide +kernel
theorem dX4_isUpheld_45 : decode cX4_isUpheld 45 = .ok (.iaload, 1) := by decide +kernel
theorem dX4_isUpheld_46 : decode cX4_isUpheld 46 = .ok (.iload 5, 2) := by decide +kernel
theorem dX4_isUpheld_48 : decode cX4_isUpheld 48 = .ok (.if_icmp .ne 5, 3) := by decide +kernel
theorem dX4_isUpheld_51 : decode cX4_isUpheld 51 = .ok (.iconst 0, 1) := by decide +kernel
theorem dX4_isUpheld_52 : decode cX4_isUpheld 52 = .ok (.ireturn, 1) := by decide +kernel
theorem dX4_isUpheld_53 : decode cX4_isUpheld 53 = .ok (.iconst 0, 1) := by decide +kernel
theorem dX4_isUpheld_54 : decode cX4_isUpheld 54 = .ok (.istore 7, 2) := by decide +kernel
theorem dX4_isUpheld_56 : decode cX4_isUpheld 56 = .ok (.iload 7, 2) := by decide +kernel
theorem dX4_isUpheld_58 : decode cX4_isUpheld 58 = .ok (.aload_n 0, 1) := by decide +kernel
theorem dX4_isUpheld_59 : decode cX4_isUpheld 59 = .ok (.getfield 47, 3) := by decide +kernel
theorem dX4_isUpheld_62 : decode cX4_isUpheld 62 = .ok (.if_icmp .ge 77, 3) := by decide +kernel
theorem dX4_isUpheld_65 : decode cX4_isUpheld 65 = .ok (.aload_n 0, 1) := by decide +kernel
theorem dX4_isUpheld_66 : decode cX4_isUpheld 66 = .ok (.getfield 18, 3) := by decide +kernel
theorem dX4_isUpheld_69 : decode cX4_isUpheld 69 = .ok (.iload 7, 2) := by decide +kernel
theorem dX4_isUpheld_71 : decode cX4_isUpheld 71 = .ok (.iaload, 1) := by decide +kernel
theorem dX4_isUpheld_72 : decode cX4_isUpheld 72 = .ok (.iload 5, 2) := by decide +kernel
theorem dX4_isUpheld_74 : decode cX4_isUpheld 74 = .ok (.if_icmp .ne 59, 3) := by decide +kernel
theorem dX4_isUpheld_77 : decode cX4_isUpheld 77 = .ok (.aload_n 0, 1) := by decide +kernel
theorem dX4_isUpheld_78 : decode cX4_isUpheld 78 = .ok (.getfield 21, 3) := by decide +kernel
theorem dX4_isUpheld_81 : decode cX4_isUpheld 81 = .ok (.iload 7, 2) := by decide +kernel
theorem dX4_isUpheld_83 : decode cX4_isUpheld 83 = .ok (.iaload, 1) := by decide +kernel
theorem dX4_isUpheld_84 : decode cX4_isUpheld 84 = .ok (.iload_n 3, 1) := by decide +kernel
theorem dX4_isUpheld_85 : decode cX4_isUpheld 85 = .ok (.if_icmp .ne 48, 3) := by decide +kernel
theorem dX4_isUpheld_88 : decode cX4_isUpheld 88 = .ok (.aload_n 0, 1) := by decide +kernel
theorem dX4_isUpheld_89 : decode cX4_isUpheld 89 = .ok (.getfield 27, 3) := by decide +kernel
theorem dX4_isUpheld_92 : decode cX4_isUpheld 92 = .ok (.iload 7, 2) := by decide +kernel
theorem dX4_isUpheld_94 : decode cX4_isUpheld 94 = .ok (.iaload, 1) := by decide +kernel
theorem dX4_isUpheld_95 : decode cX4_isUpheld 95 = .ok (.iload 4, 2) := by decide +kernel
theorem dX4_isUpheld_97 : decode cX4_isUpheld 97 = .ok (.if_icmp .gt 36, 3) := by decide +kernel
theorem dX4_isUpheld_100 : decode cX4_isUpheld 100 = .ok (.aload_n 0, 1) := by decide +kernel
theorem dX4_isUpheld_101 : decode cX4_isUpheld 101 = .ok (.getfield 27, 3) := by decide +kernel
theorem dX4_isUpheld_104 : decode cX4_isUpheld 104 = .ok (.iload 7, 2) := by decide +kernel
theorem dX4_isUpheld_106 : decode cX4_isUpheld 106 = .ok (.iaload, 1) := by decide +kernel
theorem dX4_isUpheld_107 : decode cX4_isUpheld 107 = .ok (.iload_n 2, 1) := by decide +kernel
theorem dX4_isUpheld_108 : decode cX4_isUpheld 108 = .ok (.if_icmp .le 6, 3) := by decide +kernel
theorem dX4_isUpheld_111 : decode cX4_isUpheld 111 = .ok (.goto 22, 3) := by decide +kernel
theorem dX4_isUpheld_114 : decode cX4_isUpheld 114 = .ok (.aload_n 0, 1) := by decide +kernel
theorem dX4_isUpheld_115 : decode cX4_isUpheld 115 = .ok (.getfield 24, 3) := by decide +kernel
theorem dX4_isUpheld_118 : decode cX4_isUpheld 118 = .ok (.iload 7, 2) := by decide +kernel
theorem dX4_isUpheld_120 : decode cX4_isUpheld 120 = .ok (.iaload, 1) := by decide +kernel
theorem dX4_isUpheld_121 : decode cX4_isUpheld 121 = .ok (.aload_n 0, 1) := by decide +kernel
theorem dX4_isUpheld_122 : decode cX4_isUpheld 122 = .ok (.getfield 24, 3) := by decide +kernel
theorem dX4_isUpheld_125 : decode cX4_isUpheld 125 = .ok (.iload 6, 2) := by decide +kernel
theorem dX4_isUpheld_127 : decode cX4_isUpheld 127 = .ok (.iaload, 1) := by decide +kernel
theorem dX4_isUpheld_128 : decode cX4_isUpheld 128 = .ok (.if_icmp .lt 5, 3) := by decide +kernel
theorem dX4_isUpheld_131 : decode cX4_isUpheld 131 = .ok (.iconst 1, 1) := by decide +kernel
theorem dX4_isUpheld_132 : decode cX4_isUpheld 132 = .ok (.ireturn, 1) := by decide +kernel
theorem dX4_isUpheld_133 : decode cX4_isUpheld 133 = .ok (.iinc 7 1, 3) := by decide +kernel
theorem dX4_isUpheld_136 : decode cX4_isUpheld 136 = .ok (.goto (-80), 3) := by decide +kernel
theorem dX4_isUpheld_139 : decode cX4_isUpheld 139 = .ok (.iconst 0, 1) := by decide +kernel
theorem dX4_isUpheld_140 : decode cX4_isUpheld 140 = .ok (.ireturn, 1) := by decide +kernel
theorem dX4_upheldObjector_0 : decode cX4_upheldObjector 0 = .ok (.iconst 0, 1) := by decide +kernel
theorem dX4_upheldObjector_1 : decode cX4_upheldObjector 1 = .ok (.istore 4, 2) := by decide +kernel
theorem dX4_upheldObjector_3 : decode cX4_upheldObjector 3 = .ok (.iload 4, 2) := by decide +kernel
theorem dX4_upheldObjector_5 : decode cX4_upheldObjector 5 = .ok (.aload_n 0, 1) := by decide +kernel
theorem dX4_upheldObjector_6 : decode cX4_upheldObjector 6 = .ok (.getfield 50, 3) := by decide +kernel
theorem dX4_upheldObjector_9 : decode cX4_upheldObjector 9 = .ok (.if_icmp .ge 49, 3) := by decide +kernel
theorem dX4_upheldObjector_12 : decode cX4_upheldObjector 12 = .ok (.aload_n 0, 1) := by decide +kernel
theorem dX4_upheldObjector_13 : decode cX4_upheldObjector 13 = .ok (.getfield 33, 3) := by decide +kernel
theorem dX4_upheldObjector_16 : decode cX4_upheldObjector 16 = .ok (.iload 4, 2) := by decide +kernel
theorem dX4_upheldObjector_18 : decode cX4_upheldObjector 18 = .ok (.iaload, 1) := by decide +kernel
theorem dX4_upheldObjector_19 : decode cX4_upheldObjector 19 = .ok (.iload_n 1, 1) := by decide +kernel
theorem dX4_upheldObjector_20 : decode cX4_upheldObjector 20 = .ok (.if_icmp .ne 32, 3) := by decide +kernel
theorem dX4_upheldObjector_23 : decode cX4_upheldObjector 23 = .ok (.aload_n 0, 1) := by decide +kernel
theorem dX4_upheldObjector_24 : decode cX4_upheldObjector 24 = .ok (.getfield 36, 3) := by decide +kernel
theorem dX4_upheldObjector_27 : decode cX4_upheldObjector 27 = .ok (.iload 4, 2) := by decide +kernel
theorem dX4_upheldObjector_29 : decode cX4_upheldObjector 29 = .ok (.iaload, 1) := by decide +kernel
theorem dX4_upheldObjector_30 : decode cX4_upheldObjector 30 = .ok (.iload_n 2, 1) := by decide +kernel
theorem dX4_upheldObjector_31 : decode cX4_upheldObjector 31 = .ok (.if_icmp .gt 21, 3) := by decide +kernel
theorem dX4_upheldObjector_34 : decode cX4_upheldObjector 34 = .ok (.aload_n 0, 1) := by decide +kernel
theorem dX4_upheldObjector_35 : decode cX4_upheldObjector 35 = .ok (.iload 4, 2) := by decide +kernel
theorem dX4_upheldObjector_37 : decode cX4_upheldObjector 37 = .ok (.iload_n 3, 1) := by decide +kernel
theorem dX4_upheldObjector_38 : decode cX4_upheldObjector 38 = .ok (.invokevirtual 69, 3) := by decide +kernel
theorem dX4_upheldObjector_41 : decode cX4_upheldObjector 41 = .ok (.ifCond .eq 11, 3) := by decide +kernel
theorem dX4_upheldObjector_44 : decode cX4_upheldObjector 44 = .ok (.aload_n 0, 1) := by decide +kernel
theorem dX4_upheldObjector_45 : decode cX4_upheldObjector 45 = .ok (.getfield 30, 3) := by decide +kernel
theorem dX4_upheldObjector_48 : decode cX4_upheldObjector 48 = .ok (.iload 4, 2) := by decide +kernel
theorem dX4_upheldObjector_50 : decode cX4_upheldObjector 50 = .ok (.iaload, 1) := by decide +kernel
theorem dX4_upheldObjector_51 : decode cX4_upheldObjector 51 = .ok (.ireturn, 1) := by decide +kernel
theorem dX4_upheldObjector_52 : decode cX4_upheldObjector 52 = .ok (.iinc 4 1, 3) := by decide +kernel
theorem dX4_upheldObjector_55 : decode cX4_upheldObjector 55 = .ok (.goto (-52), 3) := by decide +kernel
theorem dX4_upheldObjector_58 : decode cX4_upheldObjector 58 = .ok (.iconst (-1), 1) := by decide +kernel
theorem dX4_upheldObjector_59 : decode cX4_upheldObjector 59 = .ok (.ireturn, 1) := by decide +kernel
theorem dX5_of_0 : decode cX5_of 0 = .ok (.iload_n 0, 1) := by decide +kernel
theorem dX5_of_1 : decode cX5_of 1 = .ok (.bipush 8, 2) := by decide +kernel
theorem dX5_of_3 : decode cX5_of 3 = .ok (.ishl, 1) := by decide +kernel
theorem dX5_of_4 : decode cX5_of 4 = .ok (.iload_n 1, 1) := by decide +kernel
theorem dX5_of_5 : decode cX5_of 5 = .ok (.iconst 4, 1) := by decide +kernel
theorem dX5_of_6 : decode cX5_of 6 = .ok (.ishl, 1) := by decide +kernel
theorem dX5_of_7 : decode cX5_of 7 = .ok (.ior, 1) := by decide +kernel
theorem dX5_of_8 : decode cX5_of 8 = .ok (.iload_n 2, 1) := by decide +kernel
theorem dX5_of_9 : decode cX5_of 9 = .ok (.ior, 1) := by decide +kernel
theorem dX5_of_10 : decode cX5_of 10 = .ok (.ireturn, 1) := by decide +kernel
theorem dX5_firstOf_0 : decode cX5_firstOf 0 = .ok (.iload_n 0, 1) := by decide +kernel
theorem dX5_firstOf_1 : decode cX5_firstOf 1 = .ok (.bipush 8, 2) := by decide +kernel
theorem dX5_firstOf_3 : decode cX5_firstOf 3 = .ok (.ishr, 1) := by decide +kernel
theorem dX5_firstOf_4 : decode cX5_firstOf 4 = .ok (.ireturn, 1) := by decide +kernel
theorem dX5_wideOf_0 : decode cX5_wideOf 0 = .ok (.iload_n 0, 1) := by decide +kernel
theorem dX5_wideOf_1 : decode cX5_wideOf 1 = .ok (.iconst 4, 1) := by decide +kernel
theorem dX5_wideOf_2 : decode cX5_wideOf 2 = .ok (.ishr, 1) := by decide +kernel
theorem dX5_wideOf_3 : decode cX5_wideOf 3 = .ok (.bipush 15, 2) := by decide +kernel
theorem dX5_wideOf_5 : decode cX5_wideOf 5 = .ok (.iand, 1) := by decide +kernel
theorem dX5_wideOf_6 : decode cX5_wideOf 6 = .ok (.ireturn, 1) := by decide +kernel
theorem dX5_highOf_0 : decode cX5_highOf 0 = .ok (.iload_n 0, 1) := by decide +kernel
theorem dX5_highOf_1 : decode cX5_highOf 1 = .ok (.bipush 15, 2) := by decide +kernel
theorem dX5_highOf_3 : decode cX5_highOf 3 = .ok (.iand, 1) := by decide +kernel
theorem dX5_highOf_4 : decode cX5_highOf 4 = .ok (.ireturn, 1) := by decide +kernel
theorem dX6_init_0 : decode cX6_init 0 = .ok (.aload_n 0, 1) := by decide +kernel
theorem dX6_init_1 : decode cX6_init 1 = .ok (.invokespecial 3, 3) := by decide +kernel
theorem dX6_init_4 : decode cX6_init 4 = .ok (.aload_n 0, 1) := by decide +kernel
theorem dX6_init_5 : decode cX6_init 5 = .ok (.bipush 8, 2) := by decide +kernel
theorem dX6_init_7 : decode cX6_init 7 = .ok (.newarray .int, 2) := by decide +kernel
theorem dX6_init_9 : decode cX6_init 9 = .ok (.putfield 9, 3) := by decide +kernel
theorem dX6_init_12 : decode cX6_init 12 = .ok (.aload_n 0, 1) := by decide +kernel
theorem dX6_init_13 : decode cX6_init 13 = .ok (.bipush 8, 2) := by decide +kernel
theorem dX6_init_15 : decode cX6_init 15 = .ok (.newarray .int, 2) := by decide +kernel
theorem dX6_init_17 : decode cX6_init 17 = .ok (.putfield 15, 3) := by decide +kernel
theorem dX6_init_20 : decode cX6_init 20 = .ok (.aload_n 0, 1) := by decide +kernel
theorem dX6_init_21 : decode cX6_init 21 = .ok (.bipush 8, 2) := by decide +kernel
theorem dX6_init_23 : decode cX6_init 23 = .ok (.newarray .int, 2) := by decide +kernel
theorem dX6_init_25 : decode cX6_init 25 = .ok (.putfield 18, 3) := by decide +kernel
theorem dX6_init_28 : decode cX6_init 28 = .ok (.aload_n 0, 1) := by decide +kernel
theorem dX6_init_29 : decode cX6_init 29 = .ok (.bipush 8, 2) := by decide +kernel
theorem dX6_init_31 : decode cX6_init 31 = .ok (.newarray .int, 2) := by decide +kernel
theorem dX6_init_33 : decode cX6_init 33 = .ok (.putfield 21, 3) := by decide +kernel
theorem dX6_init_36 : decode cX6_init 36 = .ok (.aload_n 0, 1) := by decide +kernel
theorem dX6_init_37 : decode cX6_init 37 = .ok (.bipush 8, 2) := by decide +kernel
theorem dX6_init_39 : decode cX6_init 39 = .ok (.newarray .long, 2) := by decide +kernel
theorem dX6_init_41 : decode cX6_init 41 = .ok (.putfield 24, 3) := by decide +kernel
theorem dX6_init_44 : decode cX6_init 44 = .ok (.aload_n 0, 1) := by decide +kernel
theorem dX6_init_45 : decode cX6_init 45 = .ok (.aload_n 1, 1) := by decide +kernel
theorem dX6_init_46 : decode cX6_init 46 = .ok (.putfield 28, 3) := by decide +kernel
theorem dX6_init_49 : decode cX6_init 49 = .ok (.aload_n 0, 1) := by decide +kernel
theorem dX6_init_50 : decode cX6_init 50 = .ok (.aload_n 2, 1) := by decide +kernel
theorem dX6_init_51 : decode cX6_init 51 = .ok (.putfield 32, 3) := by decide +kernel
theorem dX6_init_54 : decode cX6_init 54 = .ok (.aload_n 0, 1) := by decide +kernel
theorem dX6_init_55 : decode cX6_init 55 = .ok (.aload_n 3, 1) := by decide +kernel
theorem dX6_init_56 : decode cX6_init 56 = .ok (.putfield 36, 3) := by decide +kernel
theorem dX6_init_59 : decode cX6_init 59 = .ok (.return_, 1) := by decide +kernel
theorem dX6_value_0 : decode cX6_value 0 = .ok (.iconst 0, 1) := by decide +kernel
theorem dX6_value_1 : decode cX6_value 1 = .ok (.istore_n 1, 1) := by decide +kernel
theorem dX6_value_2 : decode cX6_value 2 = .ok (.iconst 0, 1) := by decide +kernel
theorem dX6_value_3 : decode cX6_value 3 = .ok (.istore_n 2, 1) := by decide +kernel
theorem dX6_value_4 : decode cX6_value 4 = .ok (.iload_n 2, 1) := by decide +kernel
theorem dX6_value_5 : decode cX6_value 5 = .ok (.aload_n 0, 1) := by decide +kernel
theorem dX6_value_6 : decode cX6_value 6 = .ok (.getfield 28, 3) := by decide +kernel
theorem dX6_value_9 : decode cX6_value 9 = .ok (.getfield 39, 3) := by decide +kernel
theorem dX6_value_12 : decode cX6_value 12 = .ok (.if_icmp .ge 34, 3) := by decide +kernel
theorem dX6_value_15 : decode cX6_value 15 = .ok (.aload_n 0, 1) := by decide +kernel
theorem dX6_value_16 : decode cX6_value 16 = .ok (.getfield 28, 3) := by decide +kernel
theorem dX6_value_19 : decode cX6_value 19 = .ok (.iload_n 2, 1) := by decide +kernel
theorem dX6_value_20 : decode cX6_value 20 = .ok (.invokevirtual 45, 3) := by decide +kernel
theorem dX6_value_23 : decode cX6_value 23 = .ok (.ifCond .eq 17, 3) := by decide +kernel
theorem dX6_value_26 : decode cX6_value 26 = .ok (.iload_n 1, 1) := by decide +kernel
theorem dX6_value_27 : decode cX6_value 27 = .ok (.aload_n 0, 1) := by decide +kernel
theorem dX6_value_28 : decode cX6_value 28 = .ok (.getfield 28, 3) := by decide +kernel
theorem dX6_value_31 : decode cX6_value 31 = .ok (.getfield 49, 3) := by decide +kernel
theorem dX6_value_34 : decode cX6_value 34 = .ok (.iconst 0, 1) := by decide +kernel
theorem dX6_value_35 : decode cX6_value 35 = .ok (.aaload, 1) := by decide +kernel
theorem dX6_value_36 : decode cX6_value 36 = .ok (.iload_n 2, 1) := by decide +kernel
theorem dX6_value_37 : decode cX6_value 37 = .ok (.iaload, 1) := by decide +kernel
theorem dX6_value_38 : decode cX6_value 38 = .ok (.iadd, 1) := by decide +kernel
theorem dX6_value_39 : decode cX6_value 39 = .ok (.istore_n 1, 1) := by decide +kernel
theorem dX6_value_40 : decode cX6_value 40 = .ok (.iinc 2 1, 3) := by decide +kernel
theorem dX6_value_43 : decode cX6_value 43 = .ok (.goto (-39), 3) := by decide +kernel
theorem dX6_value_46 : decode cX6_value 46 = .ok (.iload_n 1, 1) := by decide +kernel
theorem dX6_value_47 : decode cX6_value 47 = .ok (.ireturn, 1) := by decide +kernel
theorem dX6_soldOf_0 : decode cX6_soldOf 0 = .ok (.iload_n 1, 1) := by decide +kernel
theorem dX6_soldOf_1 : decode cX6_soldOf 1 = .ok (.aload_n 0, 1) := by decide +kernel
theorem dX6_soldOf_2 : decode cX6_soldOf 2 = .ok (.getfield 36, 3) := by decide +kernel
theorem dX6_soldOf_5 : decode cX6_soldOf 5 = .ok (.iconst 3, 1) := by decide +kernel
theorem dX6_soldOf_6 : decode cX6_soldOf 6 = .ok (.iaload, 1) := by decide +kernel
theorem dX6_soldOf_7 : decode cX6_soldOf 7 = .ok (.invokestatic 53, 3) := by decide +kernel
theorem dX6_soldOf_10 : decode cX6_soldOf 10 = .ok (.ireturn, 1) := by decide +kernel
theorem dX6_titheOf_0 : decode cX6_titheOf 0 = .ok (.aload_n 0, 1) := by decide +kernel
theorem dX6_titheOf_1 : decode cX6_titheOf 1 = .ok (.getfield 32, 3) := by decide +kernel
theorem dX6_titheOf_4 : decode cX6_titheOf 4 = .ok (.iconst 4, 1) := by decide +kernel
theorem dX6_titheOf_5 : decode cX6_titheOf 5 = .ok (.invokevirtual 59, 3) := by decide +kernel
theorem dX6_titheOf_8 : decode cX6_titheOf 8 = .ok (.iconst (-1), 1) := by decide +kernel
theorem dX6_titheOf_9 : decode cX6_titheOf 9 = .ok (.if_icmp .ne 5, 3) := by decide +kernel
theorem dX6_titheOf_12 : decode cX6_titheOf 12 = .ok (.iconst 0, 1) := by decide +kernel
theorem dX6_titheOf_13 : decode cX6_titheOf 13 = .ok (.ireturn, 1) := by decide +kernel
theorem dX6_titheOf_14 : decode cX6_titheOf 14 = .ok (.iload_n 1, 1) := by decide +kernel
theorem dX6_titheOf_15 : decode cX6_titheOf 15 = .ok (.aload_n 0, 1) := by decide +kernel
theorem dX6_titheOf_16 : decode cX6_titheOf 16 = .ok (.iload_n 1, 1) := by decide +kernel
theorem dX6_titheOf_17 : decode cX6_titheOf 17 = .ok (.invokevirtual 65, 3) := by decide +kernel
theorem dX6_titheOf_20 : decode cX6_titheOf 20 = .ok (.isub, 1) := by decide +kernel
theorem dX6_titheOf_21 : decode cX6_titheOf 21 = .ok (.aload_n 0, 1) := by decide +kernel
theorem dX6_titheOf_22 : decode cX6_titheOf 22 = .ok (.getfield 36, 3) := by decide +kernel
theorem dX6_titheOf_25 : decode cX6_titheOf 25 = .ok (.iconst 2, 1) := by decide +kernel
theorem dX6_titheOf_26 : decode cX6_titheOf 26 = .ok (.iaload, 1) := by decide +kernel
theorem dX6_titheOf_27 : decode cX6_titheOf 27 = .ok (.imul, 1) := by decide +kernel
theorem dX6_titheOf_28 : decode cX6_titheOf 28 = .ok (.bipush 100, 2) := by decide +kernel
theorem dX6_titheOf_30 : decode cX6_titheOf 30 = .ok (.idiv, 1) := by decide +kernel
theorem dX6_titheOf_31 : decode cX6_titheOf 31 = .ok (.ireturn, 1) := by decide +kernel
theorem dX6_restOf_0 : decode cX6_restOf 0 = .ok (.iload_n 1, 1) := by decide +kernel
theorem dX6_restOf_1 : decode cX6_restOf 1 = .ok (.aload_n 0, 1) := by decide +kernel
theorem dX6_restOf_2 : decode cX6_restOf 2 = .ok (.iload_n 1, 1) := by decide +kernel
theorem dX6_restOf_3 : decode cX6_restOf 3 = .ok (.invokevirtual 65, 3) := by decide +kernel
theorem dX6_restOf_6 : decode cX6_restOf 6 = .ok (.isub, 1) := by decide +kernel
theorem dX6_restOf_7 : decode cX6_restOf 7 = .ok (.aload_n 0, 1) := by decide +kernel
theorem dX6_restOf_8 : decode cX6_restOf 8 = .ok (.iload_n 1, 1) := by decide +kernel
theorem dX6_restOf_9 : decode cX6_restOf 9 = .ok (.invokevirtual 68, 3) := by decide +kernel
theorem dX6_restOf_12 : decode cX6_restOf 12 = .ok (.isub, 1) := by decide +kernel
theorem dX6_restOf_13 : decode cX6_restOf 13 = .ok (.ireturn, 1) := by decide +kernel
theorem dX6_weigh_0 : decode cX6_weigh 0 = .ok (.aload_n 0, 1) := by decide +kernel
theorem dX6_weigh_1 : decode cX6_weigh 1 = .ok (.getfield 9, 3) := by decide +kernel
theorem dX6_weigh_4 : decode cX6_weigh 4 = .ok (.iconst 0, 1) := by decide +kernel
theorem dX6_weigh_5 : decode cX6_weigh 5 = .ok (.invokestatic 71, 3) := by decide +kernel
theorem dX6_weigh_8 : decode cX6_weigh 8 = .ok (.aload_n 0, 1) := by decide +kernel
theorem dX6_weigh_9 : decode cX6_weigh 9 = .ok (.getfield 32, 3) := by decide +kernel
theorem dX6_weigh_12 : decode cX6_weigh 12 = .ok (.iconst 3, 1) := by decide +kernel
theorem dX6_weigh_13 : decode cX6_weigh 13 = .ok (.invokevirtual 59, 3) := by decide +kernel
theorem dX6_weigh_16 : decode cX6_weigh 16 = .ok (.istore_n 3, 1) := by decide +kernel
theorem dX6_weigh_17 : decode cX6_weigh 17 = .ok (.iconst 0, 1) := by decide +kernel
theorem dX6_weigh_18 : decode cX6_weigh 18 = .ok (.istore 4, 2) := by decide +kernel
theorem dX6_weigh_20 : decode cX6_weigh 20 = .ok (.iconst 0, 1) := by decide +kernel
theorem dX6_weigh_21 : decode cX6_weigh 21 = .ok (.istore 5, 2) := by decide +kernel
theorem dX6_weigh_23 : decode cX6_weigh 23 = .ok (.iload 5, 2) := by decide +kernel
theorem dX6_weigh_25 : decode cX6_weigh 25 = .ok (.aload_n 0, 1) := by decide +kernel
theorem dX6_weigh_26 : decode cX6_weigh 26 = .ok (.getfield 28, 3) := by decide +kernel
theorem dX6_weigh_29 : decode cX6_weigh 29 = .ok (.getfield 39, 3) := by decide +kernel
theorem dX6_weigh_32 : decode cX6_weigh 32 = .ok (.if_icmp .ge 138, 3) := by decide +kernel
theorem dX6_weigh_35 : decode cX6_weigh 35 = .ok (.aload_n 0, 1) := by decide +kernel
theorem dX6_weigh_36 : decode cX6_weigh 36 = .ok (.getfield 28, 3) := by decide +kernel
theorem dX6_weigh_39 : decode cX6_weigh 39 = .ok (.getfield 49, 3) := by decide +kernel
theorem dX6_weigh_42 : decode cX6_weigh 42 = .ok (.iconst 0, 1) := by decide +kernel
theorem dX6_weigh_43 : decode cX6_weigh 43 = .ok (.aaload, 1) := by decide +kernel
theorem dX6_weigh_44 : decode cX6_weigh 44 = .ok (.iload 5, 2) := by decide +kernel
theorem dX6_weigh_46 : decode cX6_weigh 46 = .ok (.iaload, 1) := by decide +kernel
theorem dX6_weigh_47 : decode cX6_weigh 47 = .ok (.istore 6, 2) := by decide +kernel
theorem dX6_weigh_49 : decode cX6_weigh 49 = .ok (.aload_n 0, 1) := by decide +kernel
theorem dX6_weigh_50 : decode cX6_weigh 50 = .ok (.getfield 28, 3) := by decide +kernel
theorem dX6_weigh_53 : decode cX6_weigh 53 = .ok (.iload 5, 2) := by decide +kernel
theorem dX6_weigh_55 : decode cX6_weigh 55 = .ok (.invokevirtual 45, 3) := by decide +kernel
theorem dX6_weigh_58 : decode cX6_weigh 58 = .ok (.ifCond .eq 25, 3) := by decide +kernel
theorem dX6_weigh_61 : decode cX6_weigh 61 = .ok (.aload_n 0, 1) := by decide +kernel
theorem dX6_weigh_62 : decode cX6_weigh 62 = .ok (.getfield 28, 3) := by decide +kernel
theorem dX6_weigh_65 : decode cX6_weigh 65 = .ok (.getfield 49, 3) := by decide +kernel
theorem dX6_weigh_68 : decode cX6_weigh 68 = .ok (.iconst 1, 1) := by decide +kernel
theorem dX6_weigh_69 : decode cX6_weigh 69 = .ok (.aaload, 1) := by decide +kernel
theorem dX6_weigh_70 : decode cX6_weigh 70 = .ok (.iload 5, 2) := by decide +kernel
theorem dX6_weigh_72 : decode cX6_weigh 72 = .ok (.iaload, 1) := by decide +kernel
theorem dX6_weigh_73 : decode cX6_weigh 73 = .ok (.ifCond .ne 10, 3) := by decide +kernel
theorem dX6_weigh_76 : decode cX6_weigh 76 = .ok (.iload 4, 2) := by decide +kernel
theorem dX6_weigh_78 : decode cX6_weigh 78 = .ok (.iload 6, 2) := by decide +kernel
theorem dX6_weigh_80 : decode cX6_weigh 80 = .ok (.iadd, 1) := by decide +kernel
theorem dX6_weigh_81 : decode cX6_weigh 81 = .ok (.istore 4, 2) := by decide +kernel
theorem dX6_weigh_83 : decode cX6_weigh 83 = .ok (.aload_n 0, 1) := by decide +kernel
theorem dX6_weigh_84 : decode cX6_weigh 84 = .ok (.getfield 32, 3) := by decide +kernel
theorem dX6_weigh_87 : decode cX6_weigh 87 = .ok (.iload 5, 2) := by decide +kernel
theorem dX6_weigh_89 : decode cX6_weigh 89 = .ok (.iload_n 1, 1) := by decide +kernel
theorem dX6_weigh_90 : decode cX6_weigh 90 = .ok (.iload_n 2, 1) := by decide +kernel
theorem dX6_weigh_91 : decode cX6_weigh 91 = .ok (.invokevirtual 77, 3) := by decide +kernel
theorem dX6_weigh_94 : decode cX6_weigh 94 = .ok (.istore 7, 2) := by decide +kernel
theorem dX6_weigh_96 : decode cX6_weigh 96 = .ok (.iload 7, 2) := by decide +kernel
theorem dX6_weigh_98 : decode cX6_weigh 98 = .ok (.iconst (-1), 1) := by decide +kernel
theorem dX6_weigh_99 : decode cX6_weigh 99 = .ok (.if_icmp .ne 6, 3) := by decide +kernel
theorem dX6_weigh_102 : decode cX6_weigh 102 = .ok (.goto 62, 3) := by decide +kernel
theorem dX6_weigh_105 : decode cX6_weigh 105 = .ok (.aload_n 0, 1) := by decide +kernel
theorem dX6_weigh_106 : decode cX6_weigh 106 = .ok (.getfield 32, 3) := by decide +kernel
theorem dX6_weigh_109 : decode cX6_weigh 109 = .ok (.iload 5, 2) := by decide +kernel
theorem dX6_weigh_111 : decode cX6_weigh 111 = .ok (.iload_n 1, 1) := by decide +kernel
theorem dX6_weigh_112 : decode cX6_weigh 112 = .ok (.iload_n 2, 1) := by decide +kernel
theorem dX6_weigh_113 : decode cX6_weigh 113 = .ok (.invokevirtual 81, 3) := by decide +kernel
theorem dX6_weigh_116 : decode cX6_weigh 116 = .ok (.istore 8, 2) := by decide +kernel
theorem dX6_weigh_118 : decode cX6_weigh 118 = .ok (.aload_n 0, 1) := by decide +kernel
theorem dX6_weigh_119 : decode cX6_weigh 119 = .ok (.getfield 32, 3) := by decide +kernel
theorem dX6_weigh_122 : decode cX6_weigh 122 = .ok (.iload 7, 2) := by decide +kernel
theorem dX6_weigh_124 : decode cX6_weigh 124 = .ok (.invokevirtual 84, 3) := by decide +kernel
theorem dX6_weigh_127 : decode cX6_weigh 127 = .ok (.istore 9, 2) := by decide +kernel
theorem dX6_weigh_129 : decode cX6_weigh 129 = .ok (.aload_n 0, 1) := by decide +kernel
theorem dX6_weigh_130 : decode cX6_weigh 130 = .ok (.iload 9, 2) := by decide +kernel
theorem dX6_weigh_132 : decode cX6_weigh 132 = .ok (.bipush 30, 2) := by decide +kernel
theorem dX6_weigh_134 : decode cX6_weigh 134 = .ok (.iload 6, 2) := by decide +kernel
theorem dX6_weigh_136 : decode cX6_weigh 136 = .ok (.imul, 1) := by decide +kernel
theorem dX6_weigh_137 : decode cX6_weigh 137 = .ok (.iload_n 3, 1) := by decide +kernel
theorem dX6_weigh_138 : decode cX6_weigh 138 = .ok (.invokevirtual 87, 3) := by decide +kernel
theorem dX6_weigh_141 : decode cX6_weigh 141 = .ok (.aload_n 0, 1) := by decide +kernel
theorem dX6_weigh_142 : decode cX6_weigh 142 = .ok (.iload 8, 2) := by decide +kernel
theorem dX6_weigh_144 : decode cX6_weigh 144 = .ok (.iconst (-1), 1) := by decide +kernel
theorem dX6_weigh_145 : decode cX6_weigh 145 = .ok (.if_icmp .ne 8, 3) := by decide +kernel
theorem dX6_weigh_148 : decode cX6_weigh 148 = .ok (.iload 9, 2) := by decide +kernel
theorem dX6_weigh_150 : decode cX6_weigh 150 = .ok (.goto 5, 3) := by decide +kernel
theorem dX6_weigh_153 : decode cX6_weigh 153 = .ok (.iload 8, 2) := by decide +kernel
theorem dX6_weigh_155 : decode cX6_weigh 155 = .ok (.bipush 30, 2) := by decide +kernel
theorem dX6_weigh_157 : decode cX6_weigh 157 = .ok (.iload 6, 2) := by decide +kernel
theorem dX6_weigh_159 : decode cX6_weigh 159 = .ok (.imul, 1) := by decide +kernel
theorem dX6_weigh_160 : decode cX6_weigh 160 = .ok (.iload_n 3, 1) := by decide +kernel
theorem dX6_weigh_161 : decode cX6_weigh 161 = .ok (.invokevirtual 87, 3) := by decide +kernel
theorem dX6_weigh_164 : decode cX6_weigh 164 = .ok (.iinc 5 1, 3) := by decide +kernel
theorem dX6_weigh_167 : decode cX6_weigh 167 = .ok (.goto (-144), 3) := by decide +kernel
theorem dX6_weigh_170 : decode cX6_weigh 170 = .ok (.aload_n 0, 1) := by decide +kernel
theorem dX6_weigh_171 : decode cX6_weigh 171 = .ok (.bipush 60, 2) := by decide +kernel
theorem dX6_weigh_173 : decode cX6_weigh 173 = .ok (.iload 4, 2) := by decide +kernel
theorem dX6_weigh_175 : decode cX6_weigh 175 = .ok (.imul, 1) := by decide +kernel
theorem dX6_weigh_176 : decode cX6_weigh 176 = .ok (.iload_n 1, 1) := by decide +kernel
theorem dX6_weigh_177 : decode cX6_weigh 177 = .ok (.iload_n 2, 1) := by decide +kernel
theorem dX6_weigh_178 : decode cX6_weigh 178 = .ok (.invokevirtual 91, 3) := by decide +kernel
theorem dX6_weigh_181 : decode cX6_weigh 181 = .ok (.return_, 1) := by decide +kernel
theorem dX6_giveStrip_0 : decode cX6_giveStrip 0 = .ok (.aload_n 0, 1) := by decide +kernel
theorem dX6_giveStrip_1 : decode cX6_giveStrip 1 = .ok (.getfield 32, 3) := by decide +kernel
theorem dX6_giveStrip_4 : decode cX6_giveStrip 4 = .ok (.getfield 94, 3) := by decide +kernel
theorem dX6_giveStrip_7 : decode cX6_giveStrip 7 = .ok (.iload_n 1, 1) := by decide +kernel
theorem dX6_giveStrip_8 : decode cX6_giveStrip 8 = .ok (.iaload, 1) := by decide +kernel
theorem dX6_giveStrip_9 : decode cX6_giveStrip 9 = .ok (.iconst 2, 1) := by decide +kernel
theorem dX6_giveStrip_10 : decode cX6_giveStrip 10 = .ok (.if_icmp .ne 14, 3) := by decide +kernel
theorem dX6_giveStrip_13 : decode cX6_giveStrip 13 = .ok (.iload_n 3, 1) := by decide +kernel
theorem dX6_giveStrip_14 : decode cX6_giveStrip 14 = .ok (.iconst (-1), 1) := by decide +kernel
theorem dX6_giveStrip_15 : decode cX6_giveStrip 15 = .ok (.if_icmp .eq 9, 3) := by decide +kernel
theorem dX6_giveStrip_18 : decode cX6_giveStrip 18 = .ok (.iload_n 2, 1) := by decide +kernel
theorem dX6_giveStrip_19 : decode cX6_giveStrip 19 = .ok (.iconst 3, 1) := by decide +kernel
theorem dX6_giveStrip_20 : decode cX6_giveStrip 20 = .ok (.idiv, 1) := by decide +kernel
theorem dX6_giveStrip_21 : decode cX6_giveStrip 21 = .ok (.goto 4, 3) := by decide +kernel
theorem dX6_giveStrip_24 : decode cX6_giveStrip 24 = .ok (.iconst 0, 1) := by decide +kernel
theorem dX6_giveStrip_25 : decode cX6_giveStrip 25 = .ok (.istore 4, 2) := by decide +kernel
theorem dX6_giveStrip_27 : decode cX6_giveStrip 27 = .ok (.aload_n 0, 1) := by decide +kernel
theorem dX6_giveStrip_28 : decode cX6_giveStrip 28 = .ok (.getfield 9, 3) := by decide +kernel
theorem dX6_giveStrip_31 : decode cX6_giveStrip 31 = .ok (.iload_n 1, 1) := by decide +kernel
theorem dX6_giveStrip_32 : decode cX6_giveStrip 32 = .ok (.dup2, 1) := by decide +kernel
theorem dX6_giveStrip_33 : decode cX6_giveStrip 33 = .ok (.iaload, 1) := by decide +kernel
theorem dX6_giveStrip_34 : decode cX6_giveStrip 34 = .ok (.iload_n 2, 1) := by decide +kernel
theorem dX6_giveStrip_35 : decode cX6_giveStrip 35 = .ok (.iload 4, 2) := by decide +kernel
theorem dX6_giveStrip_37 : decode cX6_giveStrip 37 = .ok (.isub, 1) := by decide +kernel
theorem dX6_giveStrip_38 : decode cX6_giveStrip 38 = .ok (.iadd, 1) := by decide +kernel
theorem dX6_giveStrip_39 : decode cX6_giveStrip 39 = .ok (.iastore, 1) := by decide +kernel
theorem dX6_giveStrip_40 : decode cX6_giveStrip 40 = .ok (.iload 4, 2) := by decide +kernel
theorem dX6_giveStrip_42 : decode cX6_giveStrip 42 = .ok (.ifCond .le 14, 3) := by decide +kernel
theorem dX6_giveStrip_45 : decode cX6_giveStrip 45 = .ok (.aload_n 0, 1) := by decide +kernel
theorem dX6_giveStrip_46 : decode cX6_giveStrip 46 = .ok (.getfield 9, 3) := by decide +kernel
theorem dX6_giveStrip_49 : decode cX6_giveStrip 49 = .ok (.iload_n 3, 1) := by decide +kernel
theorem dX6_giveStrip_50 : decode cX6_giveStrip 50 = .ok (.dup2, 1) := by decide +kernel
theorem dX6_giveStrip_51 : decode cX6_giveStrip 51 = .ok (.iaload, 1) := by decide +kernel
theorem dX6_giveStrip_52 : decode cX6_giveStrip 52 = .ok (.iload 4, 2) := by decide +kernel
theorem dX6_giveStrip_54 : decode cX6_giveStrip 54 = .ok (.iadd, 1) := by decide +kernel
theorem dX6_giveStrip_55 : decode cX6_giveStrip 55 = .ok (.iastore, 1) := by decide +kernel
theorem dX6_giveStrip_56 : decode cX6_giveStrip 56 = .ok (.return_, 1) := by decide +kernel
theorem dX6_giveCommon_0 : decode cX6_giveCommon 0 = .ok (.iconst 0, 1) := by decide +kernel
theorem dX6_giveCommon_1 : decode cX6_giveCommon 1 = .ok (.istore 4, 2) := by decide +kernel
theorem dX6_giveCommon_3 : decode cX6_giveCommon 3 = .ok (.iload 4, 2) := by decide +kernel
theorem dX6_giveCommon_5 : decode cX6_giveCommon 5 = .ok (.aload_n 0, 1) := by decide +kernel
theorem dX6_giveCommon_6 : decode cX6_giveCommon 6 = .ok (.getfield 32, 3) := by decide +kernel
theorem dX6_giveCommon_9 : decode cX6_giveCommon 9 = .ok (.getfield 97, 3) := by decide +kernel
theorem dX6_giveCommon_12 : decode cX6_giveCommon 12 = .ok (.if_icmp .ge 27, 3) := by decide +kernel
theorem dX6_giveCommon_15 : decode cX6_giveCommon 15 = .ok (.aload_n 0, 1) := by decide +kernel
theorem dX6_giveCommon_16 : decode cX6_giveCommon 16 = .ok (.getfield 21, 3) := by decide +kernel
theorem dX6_giveCommon_19 : decode cX6_giveCommon 19 = .ok (.iload 4, 2) := by decide +kernel
theorem dX6_giveCommon_21 : decode cX6_giveCommon 21 = .ok (.aload_n 0, 1) := by decide +kernel
theorem dX6_giveCommon_22 : decode cX6_giveCommon 22 = .ok (.getfield 32, 3) := by decide +kernel
theorem dX6_giveCommon_25 : decode cX6_giveCommon 25 = .ok (.iload 4, 2) := by decide +kernel
theorem dX6_giveCommon_27 : decode cX6_giveCommon 27 = .ok (.iload_n 2, 1) := by decide +kernel
theorem dX6_giveCommon_28 : decode cX6_giveCommon 28 = .ok (.iload_n 3, 1) := by decide +kernel
theorem dX6_giveCommon_29 : decode cX6_giveCommon 29 = .ok (.invokevirtual 100, 3) := by decide +kernel
theorem dX6_giveCommon_32 : decode cX6_giveCommon 32 = .ok (.iastore, 1) := by decide +kernel
theorem dX6_giveCommon_33 : decode cX6_giveCommon 33 = .ok (.iinc 4 1, 3) := by decide +kernel
theorem dX6_giveCommon_36 : decode cX6_giveCommon 36 = .ok (.goto (-33), 3) := by decide +kernel
theorem dX6_giveCommon_39 : decode cX6_giveCommon 39 = .ok (.aload_n 0, 1) := by decide +kernel
theorem dX6_giveCommon_40 : decode cX6_giveCommon 40 = .ok (.getfield 21, 3) := by decide +kernel
theorem dX6_giveCommon_43 : decode cX6_giveCommon 43 = .ok (.aload_n 0, 1) := by decide +kernel
theorem dX6_giveCommon_44 : decode cX6_giveCommon 44 = .ok (.getfield 32, 3) := by decide +kernel
theorem dX6_giveCommon_47 : decode cX6_giveCommon 47 = .ok (.getfield 97, 3) := by decide +kernel
theorem dX6_giveCommon_50 : decode cX6_giveCommon 50 = .ok (.invokestatic 103, 3) := by decide +kernel
theorem dX6_giveCommon_53 : decode cX6_giveCommon 53 = .ok (.istore 4, 2) := by decide +kernel
theorem dX6_giveCommon_55 : decode cX6_giveCommon 55 = .ok (.iload 4, 2) := by decide +kernel
theorem dX6_giveCommon_57 : decode cX6_giveCommon 57 = .ok (.ifCond .gt 4, 3) := by decide +kernel
theorem dX6_giveCommon_60 : decode cX6_giveCommon 60 = .ok (.return_, 1) := by decide +kernel
theorem dX6_giveCommon_61 : decode cX6_giveCommon 61 = .ok (.iconst 0, 1) := by decide +kernel
theorem dX6_giveCommon_62 : decode cX6_giveCommon 62 = .ok (.istore 5, 2) := by decide +kernel
theorem dX6_giveCommon_64 : decode cX6_giveCommon 64 = .ok (.iload 5, 2) := by decide +kernel
theorem dX6_giveCommon_66 : decode cX6_giveCommon 66 = .ok (.aload_n 0, 1) := by decide +kernel
theorem dX6_giveCommon_67 : decode cX6_giveCommon 67 = .ok (.getfield 32, 3) := by decide +kernel
theorem dX6_giveCommon_70 : decode cX6_giveCommon 70 = .ok (.getfield 97, 3) := by decide +kernel
theorem dX6_giveCommon_73 : decode cX6_giveCommon 73 = .ok (.if_icmp .ge 31, 3) := by decide +kernel
theorem dX6_giveCommon_76 : decode cX6_giveCommon 76 = .ok (.aload_n 0, 1) := by decide +kernel
theorem dX6_giveCommon_77 : decode cX6_giveCommon 77 = .ok (.getfield 9, 3) := by decide +kernel
theorem dX6_giveCommon_80 : decode cX6_giveCommon 80 = .ok (.iload 5, 2) := by decide +kernel
theorem dX6_giveCommon_82 : decode cX6_giveCommon 82 = .ok (.dup2, 1) := by decide +kernel
theorem dX6_giveCommon_83 : decode cX6_giveCommon 83 = .ok (.iaload, 1) := by decide +kernel
theorem dX6_giveCommon_84 : decode cX6_giveCommon 84 = .ok (.iload_n 1, 1) := by decide +kernel
theorem dX6_giveCommon_85 : decode cX6_giveCommon 85 = .ok (.aload_n 0, 1) := by decide +kernel
theorem dX6_giveCommon_86 : decode cX6_giveCommon 86 = .ok (.getfield 21, 3) := by decide +kernel
theorem dX6_giveCommon_89 : decode cX6_giveCommon 89 = .ok (.iload 5, 2) := by decide +kernel
theorem dX6_giveCommon_91 : decode cX6_giveCommon 91 = .ok (.iaload, 1) := by decide +kernel
theorem dX6_giveCommon_92 : decode cX6_giveCommon 92 = .ok (.imul, 1) := by decide +kernel
theorem dX6_giveCommon_93 : decode cX6_giveCommon 93 = .ok (.iload 4, 2) := by decide +kernel
theorem dX6_giveCommon_95 : decode cX6_giveCommon 95 = .ok (.idiv, 1) := by decide +kernel
theorem dX6_giveCommon_96 : decode cX6_giveCommon 96 = .ok (.iadd, 1) := by decide +kernel
theorem dX6_giveCommon_97 : decode cX6_giveCommon 97 = .ok (.iastore, 1) := by decide +kernel
theorem dX6_giveCommon_98 : decode cX6_giveCommon 98 = .ok (.iinc 5 1, 3) := by decide +kernel
theorem dX6_giveCommon_101 : decode cX6_giveCommon 101 = .ok (.goto (-37), 3) := by decide +kernel
theorem dX6_giveCommon_104 : decode cX6_giveCommon 104 = .ok (.return_, 1) := by decide +kernel
theorem dX6_settleDues_0 : decode cX6_settleDues 0 = .ok (.aload_n 0, 1) := by decide +kernel
theorem dX6_settleDues_1 : decode cX6_settleDues 1 = .ok (.iload_n 1, 1) := by decide +kernel
theorem dX6_settleDues_2 : decode cX6_settleDues 2 = .ok (.iload_n 2, 1) := by decide +kernel
theorem dX6_settleDues_3 : decode cX6_settleDues 3 = .ok (.invokevirtual 107, 3) := by decide +kernel
theorem dX6_settleDues_6 : decode cX6_settleDues 6 = .ok (.aload_n 0, 1) := by decide +kernel
theorem dX6_settleDues_7 : decode cX6_settleDues 7 = .ok (.invokevirtual 111, 3) := by decide +kernel
theorem dX6_settleDues_10 : decode cX6_settleDues 10 = .ok (.istore_n 3, 1) := by decide +kernel
theorem dX6_settleDues_11 : decode cX6_settleDues 11 = .ok (.aload_n 0, 1) := by decide +kernel
theorem dX6_settleDues_12 : decode cX6_settleDues 12 = .ok (.aload_n 0, 1) := by decide +kernel
theorem dX6_settleDues_13 : decode cX6_settleDues 13 = .ok (.iload_n 3, 1) := by decide +kernel
theorem dX6_settleDues_14 : decode cX6_settleDues 14 = .ok (.invokevirtual 115, 3) := by decide +kernel
theorem dX6_settleDues_17 : decode cX6_settleDues 17 = .ok (.aload_n 0, 1) := by decide +kernel
theorem dX6_settleDues_18 : decode cX6_settleDues 18 = .ok (.getfield 9, 3) := by decide +kernel
theorem dX6_settleDues_21 : decode cX6_settleDues 21 = .ok (.aload_n 0, 1) := by decide +kernel
theorem dX6_settleDues_22 : decode cX6_settleDues 22 = .ok (.getfield 15, 3) := by decide +kernel
theorem dX6_settleDues_25 : decode cX6_settleDues 25 = .ok (.invokevirtual 118, 3) := by decide +kernel
theorem dX6_settleDues_28 : decode cX6_settleDues 28 = .ok (.aload_n 0, 1) := by decide +kernel
theorem dX6_settleDues_29 : decode cX6_settleDues 29 = .ok (.getfield 32, 3) := by decide +kernel
theorem dX6_settleDues_32 : decode cX6_settleDues 32 = .ok (.iconst 4, 1) := by decide +kernel
theorem dX6_settleDues_33 : decode cX6_settleDues 33 = .ok (.invokevirtual 59, 3) := by decide +kernel
theorem dX6_settleDues_36 : decode cX6_settleDues 36 = .ok (.istore 4, 2) := by decide +kernel
theorem dX6_settleDues_38 : decode cX6_settleDues 38 = .ok (.iload 4, 2) := by decide +kernel
theorem dX6_settleDues_40 : decode cX6_settleDues 40 = .ok (.iconst (-1), 1) := by decide +kernel
theorem dX6_settleDues_41 : decode cX6_settleDues 41 = .ok (.if_icmp .eq 18, 3) := by decide +kernel
theorem dX6_settleDues_44 : decode cX6_settleDues 44 = .ok (.aload_n 0, 1) := by decide +kernel
theorem dX6_settleDues_45 : decode cX6_settleDues 45 = .ok (.getfield 15, 3) := by decide +kernel
theorem dX6_settleDues_48 : decode cX6_settleDues 48 = .ok (.iload 4, 2) := by decide +kernel
theorem dX6_settleDues_50 : decode cX6_settleDues 50 = .ok (.dup2, 1) := by decide +kernel
theorem dX6_settleDues_51 : decode cX6_settleDues 51 = .ok (.iaload, 1) := by decide +kernel
theorem dX6_settleDues_52 : decode cX6_settleDues 52 = .ok (.aload_n 0, 1) := by decide +kernel
theorem dX6_settleDues_53 : decode cX6_settleDues 53 = .ok (.iload_n 3, 1) := by decide +kernel
theorem dX6_settleDues_54 : decode cX6_settleDues 54 = .ok (.invokevirtual 68, 3) := by decide +kernel
theorem dX6_settleDues_57 : decode cX6_settleDues 57 = .ok (.iadd, 1) := by decide +kernel
theorem dX6_settleDues_58 : decode cX6_settleDues 58 = .ok (.iastore, 1) := by decide +kernel
theorem dX6_settleDues_59 : decode cX6_settleDues 59 = .ok (.return_, 1) := by decide +kernel
theorem dX6_settleRates_0 : decode cX6_settleRates 0 = .ok (.aload_n 0, 1) := by decide +kernel
theorem dX6_settleRates_1 : decode cX6_settleRates 1 = .ok (.iload_n 1, 1) := by decide +kernel
theorem dX6_settleRates_2 : decode cX6_settleRates 2 = .ok (.iload_n 2, 1) := by decide +kernel
theorem dX6_settleRates_3 : decode cX6_settleRates 3 = .ok (.invokevirtual 122, 3) := by decide +kernel
theorem dX6_settleRates_6 : decode cX6_settleRates 6 = .ok (.aload_n 0, 1) := by decide +kernel
theorem dX6_settleRates_7 : decode cX6_settleRates 7 = .ok (.aload_n 0, 1) := by decide +kernel
theorem dX6_settleRates_8 : decode cX6_settleRates 8 = .ok (.getfield 28, 3) := by decide +kernel
theorem dX6_settleRates_11 : decode cX6_settleRates 11 = .ok (.getfield 125, 3) := by decide +kernel
theorem dX6_settleRates_14 : decode cX6_settleRates 14 = .ok (.aload_n 0, 1) := by decide +kernel
theorem dX6_settleRates_15 : decode cX6_settleRates 15 = .ok (.getfield 15, 3) := by decide +kernel
theorem dX6_settleRates_18 : decode cX6_settleRates 18 = .ok (.aload_n 0, 1) := by decide +kernel
theorem dX6_settleRates_19 : decode cX6_settleRates 19 = .ok (.getfield 18, 3) := by decide +kernel
theorem dX6_settleRates_22 : decode cX6_settleRates 22 = .ok (.invokevirtual 118, 3) := by decide +kernel
theorem dX6_settleRates_25 : decode cX6_settleRates 25 = .ok (.return_, 1) := by decide +kernel
theorem dX6_dueOf_0 : decode cX6_dueOf 0 = .ok (.aload_n 0, 1) := by decide +kernel
theorem dX6_dueOf_1 : decode cX6_dueOf 1 = .ok (.iload_n 2, 1) := by decide +kernel
theorem dX6_dueOf_2 : decode cX6_dueOf 2 = .ok (.iload_n 3, 1) := by decide +kernel
theorem dX6_dueOf_3 : decode cX6_dueOf 3 = .ok (.invokevirtual 122, 3) := by decide +kernel
theorem dX6_dueOf_6 : decode cX6_dueOf 6 = .ok (.aload_n 0, 1) := by decide +kernel
theorem dX6_dueOf_7 : decode cX6_dueOf 7 = .ok (.getfield 15, 3) := by decide +kernel
theorem dX6_dueOf_10 : decode cX6_dueOf 10 = .ok (.iload_n 1, 1) := by decide +kernel
theorem dX6_dueOf_11 : decode cX6_dueOf 11 = .ok (.iaload, 1) := by decide +kernel
theorem dX6_dueOf_12 : decode cX6_dueOf 12 = .ok (.ireturn, 1) := by decide +kernel
theorem dX6_coinOf_0 : decode cX6_coinOf 0 = .ok (.aload_n 0, 1) := by decide +kernel
theorem dX6_coinOf_1 : decode cX6_coinOf 1 = .ok (.iload_n 2, 1) := by decide +kernel
theorem dX6_coinOf_2 : decode cX6_coinOf 2 = .ok (.iload_n 3, 1) := by decide +kernel
theorem dX6_coinOf_3 : decode cX6_coinOf 3 = .ok (.invokevirtual 122, 3) := by decide +kernel
theorem dX6_coinOf_6 : decode cX6_coinOf 6 = .ok (.aload_n 0, 1) := by decide +kernel
theorem dX6_coinOf_7 : decode cX6_coinOf 7 = .ok (.getfield 15, 3) := by decide +kernel
theorem dX6_coinOf_10 : decode cX6_coinOf 10 = .ok (.iload_n 1, 1) := by decide +kernel
theorem dX6_coinOf_11 : decode cX6_coinOf 11 = .ok (.iaload, 1) := by decide +kernel
theorem dX6_coinOf_12 : decode cX6_coinOf 12 = .ok (.istore 4, 2) := by decide +kernel
theorem dX6_coinOf_14 : decode cX6_coinOf 14 = .ok (.aload_n 0, 1) := by decide +kernel
theorem dX6_coinOf_15 : decode cX6_coinOf 15 = .ok (.iload_n 2, 1) := by decide +kernel
theorem dX6_coinOf_16 : decode cX6_coinOf 16 = .ok (.sipush 999, 3) := by decide +kernel
theorem dX6_coinOf_19 : decode cX6_coinOf 19 = .ok (.invokevirtual 122, 3) := by decide +kernel
theorem dX6_coinOf_22 : decode cX6_coinOf 22 = .ok (.iconst 3, 1) := by decide +kernel
theorem dX6_coinOf_23 : decode cX6_coinOf 23 = .ok (.iconst 0, 1) := by decide +kernel
theorem dX6_coinOf_24 : decode cX6_coinOf 24 = .ok (.aload_n 0, 1) := by decide +kernel
theorem dX6_coinOf_25 : decode cX6_coinOf 25 = .ok (.getfield 15, 3) := by decide +kernel
theorem dX6_coinOf_28 : decode cX6_coinOf 28 = .ok (.iload_n 1, 1) := by decide +kernel
theorem dX6_coinOf_29 : decode cX6_coinOf 29 = .ok (.iaload, 1) := by decide +kernel
theorem dX6_coinOf_30 : decode cX6_coinOf 30 = .ok (.iload 4, 2) := by decide +kernel
theorem dX6_coinOf_32 : decode cX6_coinOf 32 = .ok (.isub, 1) := by decide +kernel
theorem dX6_coinOf_33 : decode cX6_coinOf 33 = .ok (.invokestatic 128, 3) := by decide +kernel
theorem dX6_coinOf_36 : decode cX6_coinOf 36 = .ok (.imul, 1) := by decide +kernel
theorem dX6_coinOf_37 : decode cX6_coinOf 37 = .ok (.ireturn, 1) := by decide +kernel
theorem dX6_part_0 : decode cX6_part 0 = .ok (.aload_n 3, 1) := by decide +kernel
theorem dX6_part_1 : decode cX6_part 1 = .ok (.iconst 0, 1) := by decide +kernel
theorem dX6_part_2 : decode cX6_part 2 = .ok (.invokestatic 71, 3) := by decide +kernel
theorem dX6_part_5 : decode cX6_part 5 = .ok (.aload_n 2, 1) := by decide +kernel
theorem dX6_part_6 : decode cX6_part 6 = .ok (.aload_n 0, 1) := by decide +kernel
theorem dX6_part_7 : decode cX6_part 7 = .ok (.getfield 32, 3) := by decide +kernel
theorem dX6_part_10 : decode cX6_part 10 = .ok (.getfield 97, 3) := by decide +kernel
theorem dX6_part_13 : decode cX6_part 13 = .ok (.invokestatic 103, 3) := by decide +kernel
theorem dX6_part_16 : decode cX6_part 16 = .ok (.i2l, 1) := by decide +kernel
theorem dX6_part_17 : decode cX6_part 17 = .ok (.lstore 4, 2) := by decide +kernel
theorem dX6_part_19 : decode cX6_part 19 = .ok (.lload 4, 2) := by decide +kernel
theorem dX6_part_21 : decode cX6_part 21 = .ok (.lconst 0, 1) := by decide +kernel
theorem dX6_part_22 : decode cX6_part 22 = .ok (.lcmp, 1) := by decide +kernel
theorem dX6_part_23 : decode cX6_part 23 = .ok (.ifCond .gt 4, 3) := by decide +kernel
theorem dX6_part_26 : decode cX6_part 26 = .ok (.return_, 1) := by decide +kernel
theorem dX6_part_27 : decode cX6_part 27 = .ok (.iload_n 1, 1) := by decide +kernel
theorem dX6_part_28 : decode cX6_part 28 = .ok (.istore 6, 2) := by decide +kernel
theorem dX6_part_30 : decode cX6_part 30 = .ok (.iconst 0, 1) := by decide +kernel
theorem dX6_part_31 : decode cX6_part 31 = .ok (.istore 7, 2) := by decide +kernel
theorem dX6_part_33 : decode cX6_part 33 = .ok (.iload 7, 2) := by decide +kernel
theorem dX6_part_35 : decode cX6_part 35 = .ok (.aload_n 0, 1) := by decide +kernel
theorem dX6_part_36 : decode cX6_part 36 = .ok (.getfield 32, 3) := by decide +kernel
theorem dX6_part_39 : decode cX6_part 39 = .ok (.getfield 97, 3) := by decide +kernel
theorem dX6_part_42 : decode cX6_part 42 = .ok (.if_icmp .ge 50, 3) := by decide +kernel
theorem dX6_part_45 : decode cX6_part 45 = .ok (.iload_n 1, 1) := by decide +kernel
theorem dX6_part_46 : decode cX6_part 46 = .ok (.i2l, 1) := by decide +kernel
theorem dX6_part_47 : decode cX6_part 47 = .ok (.aload_n 2, 1) := by decide +kernel
theorem dX6_part_48 : decode cX6_part 48 = .ok (.iload 7, 2) := by decide +kernel
theorem dX6_part_50 : decode cX6_part 50 = .ok (.iaload, 1) := by decide +kernel
theorem dX6_part_51 : decode cX6_part 51 = .ok (.i2l, 1) := by decide +kernel
theorem dX6_part_52 : decode cX6_part 52 = .ok (.lmul, 1) := by decide +kernel
theorem dX6_part_53 : decode cX6_part 53 = .ok (.lstore 8, 2) := by decide +kernel
theorem dX6_part_55 : decode cX6_part 55 = .ok (.aload_n 3, 1) := by decide +kernel
theorem dX6_part_56 : decode cX6_part 56 = .ok (.iload 7, 2) := by decide +kernel
theorem dX6_part_58 : decode cX6_part 58 = .ok (.lload 8, 2) := by decide +kernel
theorem dX6_part_60 : decode cX6_part 60 = .ok (.lload 4, 2) := by decide +kernel
theorem dX6_part_62 : decode cX6_part 62 = .ok (.ldiv, 1) := by decide +kernel
theorem dX6_part_63 : decode cX6_part 63 = .ok (.l2i, 1) := by decide +kernel
theorem dX6_part_64 : decode cX6_part 64 = .ok (.iastore, 1) := by decide +kernel
theorem dX6_part_65 : decode cX6_part 65 = .ok (.aload_n 0, 1) := by decide +kernel
theorem dX6_part_66 : decode cX6_part 66 = .ok (.getfield 24, 3) := by decide +kernel
theorem dX6_part_69 : decode cX6_part 69 = .ok (.iload 7, 2) := by decide +kernel
theorem dX6_part_71 : decode cX6_part 71 = .ok (.lload 8, 2) := by decide +kernel
theorem dX6_part_73 : decode cX6_part 73 = .ok (.lload 4, 2) := by decide +kernel
theorem dX6_part_75 : decode cX6_part 75 = .ok (.lrem, 1) := by decide +kernel
theorem dX6_part_76 : decode cX6_part 76 = .ok (.lastore, 1) := by decide +kernel
theorem dX6_part_77 : decode cX6_part 77 = .ok (.iload 6, 2) := by decide +kernel
theorem dX6_part_79 : decode cX6_part 79 = .ok (.aload_n 3, 1) := by decide +kernel
theorem dX6_part_80 : decode cX6_part 80 = .ok (.iload 7, 2) := by decide +kernel
theorem dX6_part_82 : decode cX6_part 82 = .ok (.iaload, 1) := by decide +kernel
theorem dX6_part_83 : decode cX6_part 83 = .ok (.isub, 1) := by decide +kernel
theorem dX6_part_84 : decode cX6_part 84 = .ok (.istore 6, 2) := by decide +kernel
theorem dX6_part_86 : decode cX6_part 86 = .ok (.iinc 7 1, 3) := by decide +kernel
theorem dX6_part_89 : decode cX6_part 89 = .ok (.goto (-56), 3) := by decide +kernel
theorem dX6_part_92 : decode cX6_part 92 = .ok (.iconst 0, 1) := by decide +kernel
theorem dX6_part_93 : decode cX6_part 93 = .ok (.istore 7, 2) := by decide +kernel
theorem dX6_part_95 : decode cX6_part 95 = .ok (.iload 7, 2) := by decide +kernel
theorem dX6_part_97 : decode cX6_part 97 = .ok (.aload_n 0, 1) := by decide +kernel
theorem dX6_part_98 : decode cX6_part 98 = .ok (.getfield 32, 3) := by decide +kernel
theorem dX6_part_101 : decode cX6_part 101 = .ok (.getfield 97, 3) := by decide +kernel
theorem dX6_part_104 : decode cX6_part 104 = .ok (.if_icmp .ge 41, 3) := by decide +kernel
theorem dX6_part_107 : decode cX6_part 107 = .ok (.iload 6, 2) := by decide +kernel
theorem dX6_part_109 : decode cX6_part 109 = .ok (.ifCond .le 36, 3) := by decide +kernel
theorem dX6_part_112 : decode cX6_part 112 = .ok (.aload_n 0, 1) := by decide +kernel
theorem dX6_part_113 : decode cX6_part 113 = .ok (.invokevirtual 131, 3) := by decide +kernel
theorem dX6_part_116 : decode cX6_part 116 = .ok (.istore 8, 2) := by decide +kernel
theorem dX6_part_118 : decode cX6_part 118 = .ok (.aload_n 3, 1) := by decide +kernel
theorem dX6_part_119 : decode cX6_part 119 = .ok (.iload 8, 2) := by decide +kernel
theorem dX6_part_121 : decode cX6_part 121 = .ok (.dup2, 1) := by decide +kernel
theorem dX6_part_122 : decode cX6_part 122 = .ok (.iaload, 1) := by decide +kernel
theorem dX6_part_123 : decode cX6_part 123 = .ok (.iconst 1, 1) := by decide +kernel
theorem dX6_part_124 : decode cX6_part 124 = .ok (.iadd, 1) := by decide +kernel
theorem dX6_part_125 : decode cX6_part 125 = .ok (.iastore, 1) := by decide +kernel
theorem dX6_part_126 : decode cX6_part 126 = .ok (.aload_n 0, 1) := by decide +kernel
theorem dX6_part_127 : decode cX6_part 127 = .ok (.getfield 24, 3) := by decide +kernel
theorem dX6_part_130 : decode cX6_part 130 = .ok (.iload 8, 2) := by decide +kernel
theorem dX6_part_132 : decode cX6_part 132 = .ok (.ldc2_w 134, 3) := by decide +kernel
theorem dX6_part_135 : decode cX6_part 135 = .ok (.lastore, 1) := by decide +kernel
theorem dX6_part_136 : decode cX6_part 136 = .ok (.iinc 6 (-1), 3) := by decide +kernel
theorem dX6_part_139 : decode cX6_part 139 = .ok (.iinc 7 1, 3) := by decide +kernel
theorem dX6_part_142 : decode cX6_part 142 = .ok (.goto (-47), 3) := by decide +kernel
theorem dX6_part_145 : decode cX6_part 145 = .ok (.return_, 1) := by decide +kernel
theorem dX6_greatestRest_0 : decode cX6_greatestRest 0 = .ok (.iconst 0, 1) := by decide +kernel
theorem dX6_greatestRest_1 : decode cX6_greatestRest 1 = .ok (.istore_n 1, 1) := by decide +kernel
theorem dX6_greatestRest_2 : decode cX6_greatestRest 2 = .ok (.iconst 1, 1) := by decide +kernel
theorem dX6_greatestRest_3 : decode cX6_greatestRest 3 = .ok (.istore_n 2, 1) := by decide +kernel
theorem dX6_greatestRest_4 : decode cX6_greatestRest 4 = .ok (.iload_n 2, 1) := by decide +kernel
theorem dX6_greatestRest_5 : decode cX6_greatestRest 5 = .ok (.aload_n 0, 1) := by decide +kernel
theorem dX6_greatestRest_6 : decode cX6_greatestRest 6 = .ok (.getfield 32, 3) := by decide +kernel
theorem dX6_greatestRest_9 : decode cX6_greatestRest 9 = .ok (.getfield 97, 3) := by decide +kernel
theorem dX6_greatestRest_12 : decode cX6_greatestRest 12 = .ok (.if_icmp .ge 27, 3) := by decide +kernel
theorem dX6_greatestRest_15 : decode cX6_greatestRest 15 = .ok (.aload_n 0, 1) := by decide +kernel
theorem dX6_greatestRest_16 : decode cX6_greatestRest 16 = .ok (.getfield 24, 3) := by decide +kernel
theorem dX6_greatestRest_19 : decode cX6_greatestRest 19 = .ok (.iload_n 2, 1) := by decide +kernel
theorem dX6_greatestRest_20 : decode cX6_greatestRest 20 = .ok (.laload, 1) := by decide +kernel
theorem dX6_greatestRest_21 : decode cX6_greatestRest 21 = .ok (.aload_n 0, 1) := by decide +kernel
theorem dX6_greatestRest_22 : decode cX6_greatestRest 22 = .ok (.getfield 24, 3) := by decide +kernel
theorem dX6_greatestRest_25 : decode cX6_greatestRest 25 = .ok (.iload_n 1, 1) := by decide +kernel
theorem dX6_greatestRest_26 : decode cX6_greatestRest 26 = .ok (.laload, 1) := by decide +kernel
theorem dX6_greatestRest_27 : decode cX6_greatestRest 27 = .ok (.lcmp, 1) := by decide +kernel
theorem dX6_greatestRest_28 : decode cX6_greatestRest 28 = .ok (.ifCond .le 5, 3) := by decide +kernel
theorem dX6_greatestRest_31 : decode cX6_greatestRest 31 = .ok (.iload_n 2, 1) := by decide +kernel
theorem dX6_greatestRest_32 : decode cX6_greatestRest 32 = .ok (.istore_n 1, 1) := by decide +kernel
theorem dX6_greatestRest_33 : decode cX6_greatestRest 33 = .ok (.iinc 2 1, 3) := by decide +kernel
theorem dX6_greatestRest_36 : decode cX6_greatestRest 36 = .ok (.goto (-32), 3) := by decide +kernel
theorem dX6_greatestRest_39 : decode cX6_greatestRest 39 = .ok (.iload_n 1, 1) := by decide +kernel
theorem dX6_greatestRest_40 : decode cX6_greatestRest 40 = .ok (.ireturn, 1) := by decide +kernel
theorem dX6_total_0 : decode cX6_total 0 = .ok (.iconst 0, 1) := by decide +kernel
theorem dX6_total_1 : decode cX6_total 1 = .ok (.istore_n 2, 1) := by decide +kernel
theorem dX6_total_2 : decode cX6_total 2 = .ok (.iconst 0, 1) := by decide +kernel
theorem dX6_total_3 : decode cX6_total 3 = .ok (.istore_n 3, 1) := by decide +kernel
theorem dX6_total_4 : decode cX6_total 4 = .ok (.iload_n 3, 1) := by decide +kernel
theorem dX6_total_5 : decode cX6_total 5 = .ok (.iload_n 1, 1) := by decide +kernel
theorem dX6_total_6 : decode cX6_total 6 = .ok (.if_icmp .ge 21, 3) := by decide +kernel
theorem dX6_total_9 : decode cX6_total 9 = .ok (.iload_n 3, 1) := by decide +kernel
theorem dX6_total_10 : decode cX6_total 10 = .ok (.aload_n 0, 1) := by decide +kernel
theorem dX6_total_11 : decode cX6_total 11 = .ok (.arraylength, 1) := by decide +kernel
theorem dX6_total_12 : decode cX6_total 12 = .ok (.if_icmp .ge 15, 3) := by decide +kernel
theorem dX6_total_15 : decode cX6_total 15 = .ok (.iload_n 2, 1) := by decide +kernel
theorem dX6_total_16 : decode cX6_total 16 = .ok (.aload_n 0, 1) := by decide +kernel
theorem dX6_total_17 : decode cX6_total 17 = .ok (.iload_n 3, 1) := by decide +kernel
theorem dX6_total_18 : decode cX6_total 18 = .ok (.iaload, 1) := by decide +kernel
theorem dX6_total_19 : decode cX6_total 19 = .ok (.iadd, 1) := by decide +kernel
theorem dX6_total_20 : decode cX6_total 20 = .ok (.istore_n 2, 1) := by decide +kernel
theorem dX6_total_21 : decode cX6_total 21 = .ok (.iinc 3 1, 3) := by decide +kernel
theorem dX6_total_24 : decode cX6_total 24 = .ok (.goto (-20), 3) := by decide +kernel
theorem dX6_total_27 : decode cX6_total 27 = .ok (.iload_n 2, 1) := by decide +kernel
theorem dX6_total_28 : decode cX6_total 28 = .ok (.ireturn, 1) := by decide +kernel
theorem dX7_init_0 : decode cX7_init 0 = .ok (.aload_n 0, 1) := by decide +kernel
theorem dX7_init_1 : decode cX7_init 1 = .ok (.invokespecial 3, 3) := by decide +kernel
theorem dX7_init_4 : decode cX7_init 4 = .ok (.aload_n 0, 1) := by decide +kernel
theorem dX7_init_5 : decode cX7_init 5 = .ok (.iconst 3, 1) := by decide +kernel
theorem dX7_init_6 : decode cX7_init 6 = .ok (.bipush 80, 2) := by decide +kernel
theorem dX7_init_8 : decode cX7_init 8 = .ok (.multianewarray 9 2, 4) := by decide +kernel
theorem dX7_init_12 : decode cX7_init 12 = .ok (.putfield 11, 3) := by decide +kernel
theorem dX7_init_15 : decode cX7_init 15 = .ok (.aload_n 0, 1) := by decide +kernel
theorem dX7_init_16 : decode cX7_init 16 = .ok (.iconst 3, 1) := by decide +kernel
theorem dX7_init_17 : decode cX7_init 17 = .ok (.newarray .int, 2) := by decide +kernel
theorem dX7_init_19 : decode cX7_init 19 = .ok (.putfield 16, 3) := by decide +kernel
theorem dX7_init_22 : decode cX7_init 22 = .ok (.aload_n 0, 1) := by decide +kernel
theorem dX7_init_23 : decode cX7_init 23 = .ok (.iconst 3, 1) := by decide +kernel
theorem dX7_init_24 : decode cX7_init 24 = .ok (.newarray .int, 2) := by decide +kernel
theorem dX7_init_26 : decode cX7_init 26 = .ok (.dup, 1) := by decide +kernel
theorem dX7_init_27 : decode cX7_init 27 = .ok (.iconst 0, 1) := by decide +kernel
theorem dX7_init_28 : decode cX7_init 28 = .ok (.iconst (-1), 1) := by decide +kernel
theorem dX7_init_29 : decode cX7_init 29 = .ok (.iastore, 1) := by decide +kernel
theorem dX7_init_30 : decode cX7_init 30 = .ok (.dup, 1) := by decide +kernel
theorem dX7_init_31 : decode cX7_init 31 = .ok (.iconst 1, 1) := by decide +kernel
theorem dX7_init_32 : decode cX7_init 32 = .ok (.iconst (-1), 1) := by decide +kernel
theorem dX7_init_33 : decode cX7_init 33 = .ok (.iastore, 1) := by decide +kernel
theorem dX7_init_34 : decode cX7_init 34 = .ok (.dup, 1) := by decide +kernel
theorem dX7_init_35 : decode cX7_init 35 = .ok (.iconst 2, 1) := by decide +kernel
theorem dX7_init_36 : decode cX7_init 36 = .ok (.iconst (-1), 1) := by decide +kernel
theorem dX7_init_37 : decode cX7_init 37 = .ok (.iastore, 1) := by decide +kernel
theorem dX7_init_38 : decode cX7_init 38 = .ok (.putfield 20, 3) := by decide +kernel
theorem dX7_init_41 : decode cX7_init 41 = .ok (.return_, 1) := by decide +kernel
theorem dX7_begin_0 : decode cX7_begin 0 = .ok (.aload_n 0, 1) := by decide +kernel
theorem dX7_begin_1 : decode cX7_begin 1 = .ok (.getfield 16, 3) := by decide +kernel
theorem dX7_begin_4 : decode cX7_begin 4 = .ok (.iload_n 1, 1) := by decide +kernel
theorem dX7_begin_5 : decode cX7_begin 5 = .ok (.iload_n 2, 1) := by decide +kernel
theorem dX7_begin_6 : decode cX7_begin 6 = .ok (.iastore, 1) := by decide +kernel
theorem dX7_begin_7 : decode cX7_begin 7 = .ok (.aload_n 0, 1) := by decide +kernel
theorem dX7_begin_8 : decode cX7_begin 8 = .ok (.getfield 20, 3) := by decide +kernel
theorem dX7_begin_11 : decode cX7_begin 11 = .ok (.iload_n 1, 1) := by decide +kernel
theorem dX7_begin_12 : decode cX7_begin 12 = .ok (.iload_n 3, 1) := by decide +kernel
theorem dX7_begin_13 : decode cX7_begin 13 = .ok (.iastore, 1) := by decide +kernel
theorem dX7_begin_14 : decode cX7_begin 14 = .ok (.aload_n 0, 1) := by decide +kernel
theorem dX7_begin_15 : decode cX7_begin 15 = .ok (.getfield 11, 3) := by decide +kernel
theorem dX7_begin_18 : decode cX7_begin 18 = .ok (.iload_n 1, 1) := by decide +kernel
theorem dX7_begin_19 : decode cX7_begin 19 = .ok (.aaload, 1) := by decide +kernel
theorem dX7_begin_20 : decode cX7_begin 20 = .ok (.iconst 0, 1) := by decide +kernel
theorem dX7_begin_21 : decode cX7_begin 21 = .ok (.invokestatic 23, 3) := by decide +kernel
theorem dX7_begin_24 : decode cX7_begin 24 = .ok (.return_, 1) := by decide +kernel
theorem dX7_isMissing_0 : decode cX7_isMissing 0 = .ok (.aload_n 0, 1) := by decide +kernel
theorem dX7_isMissing_1 : decode cX7_isMissing 1 = .ok (.getfield 20, 3) := by decide +kernel
theorem dX7_isMissing_4 : decode cX7_isMissing 4 = .ok (.iload_n 1, 1) := by decide +kernel
theorem dX7_isMissing_5 : decode cX7_isMissing 5 = .ok (.iaload, 1) := by decide +kernel
theorem dX7_isMissing_6 : decode cX7_isMissing 6 = .ok (.iconst (-1), 1) := by decide +kernel
theorem dX7_isMissing_7 : decode cX7_isMissing 7 = .ok (.if_icmp .ne 7, 3) := by decide +kernel
theorem dX7_isMissing_10 : decode cX7_isMissing 10 = .ok (.iconst 1, 1) := by decide +kernel
theorem dX7_isMissing_11 : decode cX7_isMissing 11 = .ok (.goto 4, 3) := by decide +kernel
theorem dX7_isMissing_14 : decode cX7_isMissing 14 = .ok (.iconst 0, 1) := by decide +kernel
theorem dX7_isMissing_15 : decode cX7_isMissing 15 = .ok (.ireturn, 1) := by decide +kernel
theorem dX7_reaches_0 : decode cX7_reaches 0 = .ok (.iload_n 2, 1) := by decide +kernel
theorem dX7_reaches_1 : decode cX7_reaches 1 = .ok (.ifCond .lt 33, 3) := by decide +kernel
theorem dX7_reaches_4 : decode cX7_reaches 4 = .ok (.iload_n 3, 1) := by decide +kernel
theorem dX7_reaches_5 : decode cX7_reaches 5 = .ok (.ifCond .lt 29, 3) := by decide +kernel
theorem dX7_reaches_8 : decode cX7_reaches 8 = .ok (.iload_n 3, 1) := by decide +kernel
theorem dX7_reaches_9 : decode cX7_reaches 9 = .ok (.aload_n 0, 1) := by decide +kernel
theorem dX7_reaches_10 : decode cX7_reaches 10 = .ok (.getfield 20, 3) := by decide +kernel
theorem dX7_reaches_13 : decode cX7_reaches 13 = .ok (.iload_n 1, 1) := by decide +kernel
theorem dX7_reaches_14 : decode cX7_reaches 14 = .ok (.iaload, 1) := by decide +kernel
theorem dX7_reaches_15 : decode cX7_reaches 15 = .ok (.if_icmp .gt 19, 3) := by decide +kernel
theorem dX7_reaches_18 : decode cX7_reaches 18 = .ok (.iload_n 2, 1) := by decide +kernel
