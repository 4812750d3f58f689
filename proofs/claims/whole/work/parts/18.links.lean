theorem ml_X8_1 : Cond.methodLink RX8 1 objectInit ∈ lw_tbl := List.mem_of_getElem? (i := 64) (by decide +kernel)
theorem fl_X8_7 : fl RX8 7 7 0 "[I" true := ⟨RX8, TX8, 8, rfl, by decide, rfl, rfl, rfl, List.mem_of_getElem? (i := 278) (by decide +kernel)⟩
theorem ml_X8_15 : Cond.methodLink RX8 15 mX1_init.1 ∈ lw_tbl := List.mem_of_getElem? (i := 69) (by decide +kernel)
theorem fl_X8_16 : fl RX8 16 7 1 "LAwardDesk$Ground;" true := ⟨RX8, TX8, 8, rfl, by decide, rfl, rfl, rfl, List.mem_of_getElem? (i := 279) (by decide +kernel)⟩
theorem ml_X8_22 : Cond.methodLink RX8 22 mX3_init.1 ∈ lw_tbl := List.mem_of_getElem? (i := 125) (by decide +kernel)
theorem fl_X8_25 : fl RX8 25 7 2 "LAwardDesk$RoadMaker;" true := ⟨RX8, TX8, 8, rfl, by decide, rfl, rfl, rfl, List.mem_of_getElem? (i := 280) (by decide +kernel)⟩
theorem fl_X8_32 : fl RX8 32 7 3 "LAwardDesk$SurveyBook;" true := ⟨RX8, TX8, 8, rfl, by decide, rfl, rfl, rfl, List.mem_of_getElem? (i := 281) (by decide +kernel)⟩
theorem ml_X8_38 : Cond.methodLink RX8 38 mX4_init.1 ∈ lw_tbl := List.mem_of_getElem? (i := 162) (by decide +kernel)
theorem fl_X8_39 : fl RX8 39 7 4 "LAwardDesk$Roll;" true := ⟨RX8, TX8, 8, rfl, by decide, rfl, rfl, rfl, List.mem_of_getElem? (i := 282) (by decide +kernel)⟩
theorem ml_X8_45 : Cond.methodLink RX8 45 mX6_init.1 ∈ lw_tbl := List.mem_of_getElem? (i := 218) (by decide +kernel)
theorem fl_X8_48 : fl RX8 48 7 5 "LAwardDesk$Shares;" true := ⟨RX8, TX8, 8, rfl, by decide, rfl, rfl, rfl, List.mem_of_getElem? (i := 283) (by decide +kernel)⟩
theorem ml_X8_54 : Cond.methodLink RX8 54 mX2_init.1 ∈ lw_tbl := List.mem_of_getElem? (i := 253) (by decide +kernel)
theorem fl_X8_57 : fl RX8 57 7 6 "LAwardDesk$PlotBook;" true := ⟨RX8, TX8, 8, rfl, by decide, rfl, rfl, rfl, List.mem_of_getElem? (i := 284) (by decide +kernel)⟩
theorem fl_X8_61 : fl RX8 61 7 7 "LAwardDesk$Drawing;" false := ⟨RX8, TX8, 8, rfl, by decide, rfl, rfl, rfl, List.mem_of_getElem? (i := 285) (by decide +kernel)⟩
theorem ml_X8_65 : Cond.methodLink RX8 65 mX8_isWithin.1 ∈ lw_tbl := List.mem_of_getElem? (i := 307) (by decide +kernel)
theorem ml_X8_69 : Cond.methodLink RX8 69 mX1_renew.1 ∈ lw_tbl := List.mem_of_getElem? (i := 310) (by decide +kernel)
theorem ml_X8_73 : Cond.methodLink RX8 73 mX4_clear.1 ∈ lw_tbl := List.mem_of_getElem? (i := 311) (by decide +kernel)
theorem ml_X8_76 : Cond.methodLink RX8 76 mX2_clear.1 ∈ lw_tbl := List.mem_of_getElem? (i := 315) (by decide +kernel)
theorem fl_X8_77 : fl RX8 77 1 2 "I" false := ⟨RX1, TX1, 7, rfl, by decide, rfl, rfl, rfl, List.mem_of_getElem? (i := 89) (by decide +kernel)⟩
theorem ml_X8_81 : Cond.methodLink RX8 81 mX1_isCell.1 ∈ lw_tbl := List.mem_of_getElem? (i := 320) (by decide +kernel)
theorem ml_X8_85 : Cond.methodLink RX8 85 mX8_isMark.1 ∈ lw_tbl := List.mem_of_getElem? (i := 324) (by decide +kernel)
theorem st_X8_88 : Cond.fieldLink RX8 88 "AwardDesk" "MOST_OF_MARK" "[I" ∈ lw_tbl := List.mem_of_getElem? (i := 327) (by decide +kernel)
theorem fl_X8_91 : fl RX8 91 1 4 "[[I" true := ⟨RX1, TX1, 7, rfl, by decide, rfl, rfl, rfl, List.mem_of_getElem? (i := 99) (by decide +kernel)⟩
theorem ml_X8_95 : Cond.methodLink RX8 95 mX8_isSurvey.1 ∈ lw_tbl := List.mem_of_getElem? (i := 337) (by decide +kernel)
theorem ml_X8_98 : Cond.methodLink RX8 98 mX7_begin.1 ∈ lw_tbl := List.mem_of_getElem? (i := 340) (by decide +kernel)
theorem ml_X8_102 : Cond.methodLink RX8 102 mX7_isMissing.1 ∈ lw_tbl := List.mem_of_getElem? (i := 349) (by decide +kernel)
theorem fl_X8_105 : fl RX8 105 6 2 "[I" true := ⟨RX7, TX7, 3, rfl, by decide, rfl, rfl, rfl, List.mem_of_getElem? (i := 152) (by decide +kernel)⟩
theorem ml_X8_108 : Cond.methodLink RX8 108 mX7_reaches.1 ∈ lw_tbl := List.mem_of_getElem? (i := 357) (by decide +kernel)
theorem fl_X8_111 : fl RX8 111 6 0 "[[I" true := ⟨RX7, TX7, 3, rfl, by decide, rfl, rfl, rfl, List.mem_of_getElem? (i := 148) (by decide +kernel)⟩
theorem ml_X8_114 : Cond.methodLink RX8 114 mX7_cut.1 ∈ lw_tbl := List.mem_of_getElem? (i := 361) (by decide +kernel)
theorem fl_X8_118 : fl RX8 118 6 1 "[I" true := ⟨RX7, TX7, 3, rfl, by decide, rfl, rfl, rfl, List.mem_of_getElem? (i := 150) (by decide +kernel)⟩
theorem ml_X8_121 : Cond.methodLink RX8 121 arraycopyName ∈ lw_tbl := List.mem_of_getElem? (i := 369) (by decide +kernel)
theorem ml_X8_127 : Cond.methodLink RX8 127 mJ9_min_7cf53.1 ∈ lw_tbl := List.mem_of_getElem? (i := 376) (by decide +kernel)
theorem ml_X8_132 : Cond.methodLink RX8 132 mX1_isClose.1 ∈ lw_tbl := List.mem_of_getElem? (i := 383) (by decide +kernel)
theorem ml_X8_135 : Cond.methodLink RX8 135 mX3_lay.1 ∈ lw_tbl := List.mem_of_getElem? (i := 387) (by decide +kernel)
theorem ml_X8_138 : Cond.methodLink RX8 138 mX8_isKind.1 ∈ lw_tbl := List.mem_of_getElem? (i := 423) (by decide +kernel)
theorem fl_X8_141 : fl RX8 141 4 1 "I" false := ⟨RX4, TX4, 13, rfl, by decide, rfl, rfl, rfl, List.mem_of_getElem? (i := 171) (by decide +kernel)⟩
theorem ml_X8_144 : Cond.methodLink RX8 144 mX4_addClaimant.1 ∈ lw_tbl := List.mem_of_getElem? (i := 426) (by decide +kernel)
theorem ml_X8_147 : Cond.methodLink RX8 147 mX4_isClaimant.1 ∈ lw_tbl := List.mem_of_getElem? (i := 434) (by decide +kernel)
theorem fl_X8_150 : fl RX8 150 4 4 "[I" true := ⟨RX4, TX4, 13, rfl, by decide, rfl, rfl, rfl, List.mem_of_getElem? (i := 178) (by decide +kernel)⟩
theorem ml_X8_153 : Cond.methodLink RX8 153 mX8_isDay.1 ∈ lw_tbl := List.mem_of_getElem? (i := 442) (by decide +kernel)
theorem fl_X8_156 : fl RX8 156 4 2 "I" false := ⟨RX4, TX4, 13, rfl, by decide, rfl, rfl, rfl, List.mem_of_getElem? (i := 173) (by decide +kernel)⟩
theorem ml_X8_159 : Cond.methodLink RX8 159 mX4_addClaim.1 ∈ lw_tbl := List.mem_of_getElem? (i := 445) (by decide +kernel)
theorem st_X8_163 : Cond.fieldLink RX8 163 "AwardDesk" "MOST_OF_RULE" "[I" ∈ lw_tbl := List.mem_of_getElem? (i := 457) (by decide +kernel)
theorem fl_X8_166 : fl RX8 166 4 3 "I" false := ⟨RX4, TX4, 13, rfl, by decide, rfl, rfl, rfl, List.mem_of_getElem? (i := 175) (by decide +kernel)⟩
theorem ml_X8_169 : Cond.methodLink RX8 169 mX4_addObjection.1 ∈ lw_tbl := List.mem_of_getElem? (i := 463) (by decide +kernel)
theorem ml_X8_173 : Cond.methodLink RX8 173 mX4_isUpheld.1 ∈ lw_tbl := List.mem_of_getElem? (i := 471) (by decide +kernel)
theorem ml_X8_177 : Cond.methodLink RX8 177 mX4_holderAt.1 ∈ lw_tbl := List.mem_of_getElem? (i := 483) (by decide +kernel)
theorem ml_X8_180 : Cond.methodLink RX8 180 mX6_value.1 ∈ lw_tbl := List.mem_of_getElem? (i := 488) (by decide +kernel)
theorem ml_X8_184 : Cond.methodLink RX8 184 mX6_soldOf.1 ∈ lw_tbl := List.mem_of_getElem? (i := 496) (by decide +kernel)
theorem ml_X8_188 : Cond.methodLink RX8 188 mX6_titheOf.1 ∈ lw_tbl := List.mem_of_getElem? (i := 501) (by decide +kernel)
theorem ml_X8_191 : Cond.methodLink RX8 191 mX6_restOf.1 ∈ lw_tbl := List.mem_of_getElem? (i := 510) (by decide +kernel)
theorem ml_X8_194 : Cond.methodLink RX8 194 mX6_weigh.1 ∈ lw_tbl := List.mem_of_getElem? (i := 515) (by decide +kernel)
theorem fl_X8_197 : fl RX8 197 5 3 "[I" true := ⟨RX6, TX6, 8, rfl, by decide, rfl, rfl, rfl, List.mem_of_getElem? (i := 226) (by decide +kernel)⟩
theorem ml_X8_200 : Cond.methodLink RX8 200 mX6_total.1 ∈ lw_tbl := List.mem_of_getElem? (i := 548) (by decide +kernel)
theorem fl_X8_204 : fl RX8 204 1 3 "I" false := ⟨RX1, TX1, 7, rfl, by decide, rfl, rfl, rfl, List.mem_of_getElem? (i := 95) (by decide +kernel)⟩
theorem ml_X8_207 : Cond.methodLink RX8 207 mX6_dueOf.1 ∈ lw_tbl := List.mem_of_getElem? (i := 553) (by decide +kernel)
theorem ml_X8_210 : Cond.methodLink RX8 210 mX6_settleRates.1 ∈ lw_tbl := List.mem_of_getElem? (i := 573) (by decide +kernel)
theorem fl_X8_213 : fl RX8 213 5 5 "[I" true := ⟨RX6, TX6, 8, rfl, by decide, rfl, rfl, rfl, List.mem_of_getElem? (i := 230) (by decide +kernel)⟩
theorem ml_X8_216 : Cond.methodLink RX8 216 mX6_coinOf.1 ∈ lw_tbl := List.mem_of_getElem? (i := 577) (by decide +kernel)
theorem ml_X8_219 : Cond.methodLink RX8 219 mX4_gatesOf.1 ∈ lw_tbl := List.mem_of_getElem? (i := 582) (by decide +kernel)
theorem fl_X8_222 : fl RX8 222 2 2 "[I" true := ⟨RX2, TX2, 4, rfl, by decide, rfl, rfl, rfl, List.mem_of_getElem? (i := 266) (by decide +kernel)⟩
theorem ml_X8_225 : Cond.methodLink RX8 225 mX5_of.1 ∈ lw_tbl := List.mem_of_getElem? (i := 587) (by decide +kernel)
theorem ml_X8_230 : Cond.methodLink RX8 230 mX2_isDrawn.1 ∈ lw_tbl := List.mem_of_getElem? (i := 594) (by decide +kernel)
theorem ml_X8_233 : Cond.methodLink RX8 233 mX2_faultOf.1 ∈ lw_tbl := List.mem_of_getElem? (i := 602) (by decide +kernel)
theorem ml_X8_236 : Cond.methodLink RX8 236 mX5_firstOf.1 ∈ lw_tbl := List.mem_of_getElem? (i := 646) (by decide +kernel)
theorem ml_X8_239 : Cond.methodLink RX8 239 mX5_wideOf.1 ∈ lw_tbl := List.mem_of_getElem? (i := 647) (by decide +kernel)
theorem ml_X8_242 : Cond.methodLink RX8 242 mX5_highOf.1 ∈ lw_tbl := List.mem_of_getElem? (i := 648) (by decide +kernel)
theorem ml_X8_245 : Cond.methodLink RX8 245 mX2_worthOf.1 ∈ lw_tbl := List.mem_of_getElem? (i := 649) (by decide +kernel)
theorem fl_X8_248 : fl RX8 248 4 5 "[I" true := ⟨RX4, TX4, 13, rfl, by decide, rfl, rfl, rfl, List.mem_of_getElem? (i := 181) (by decide +kernel)⟩
theorem ml_X8_251 : Cond.methodLink RX8 251 mX1_stepsTo.1 ∈ lw_tbl := List.mem_of_getElem? (i := 650) (by decide +kernel)
theorem ml_X8_254 : Cond.methodLink RX8 254 mX2_hedgeOf.1 ∈ lw_tbl := List.mem_of_getElem? (i := 658) (by decide +kernel)
theorem ml_X8_259 : Cond.methodLink RX8 259 mX0_init.1 ∈ lw_tbl := List.mem_of_getElem? (i := 669) (by decide +kernel)
theorem ml_X8_262 : Cond.methodLink RX8 262 mX6_settleDues.1 ∈ lw_tbl := List.mem_of_getElem? (i := 732) (by decide +kernel)
theorem fl_X8_265 : fl RX8 265 5 4 "[I" true := ⟨RX6, TX6, 8, rfl, by decide, rfl, rfl, rfl, List.mem_of_getElem? (i := 228) (by decide +kernel)⟩
theorem ml_X8_268 : Cond.methodLink RX8 268 mX0_run.1 ∈ lw_tbl := List.mem_of_getElem? (i := 733) (by decide +kernel)
theorem fl_X8_272 : fl RX8 272 2 3 "[I" true := ⟨RX2, TX2, 4, rfl, by decide, rfl, rfl, rfl, List.mem_of_getElem? (i := 268) (by decide +kernel)⟩
theorem ml_X8_275 : Cond.methodLink RX8 275 mJ9_max_7cf53.1 ∈ lw_tbl := List.mem_of_getElem? (i := 780) (by decide +kernel)
theorem ml_X8_278 : Cond.methodLink RX8 278 mX4_lateClaims.1 ∈ lw_tbl := List.mem_of_getElem? (i := 785) (by decide +kernel)
theorem ml_X8_281 : Cond.methodLink RX8 281 mX2_drawnPlots.1 ∈ lw_tbl := List.mem_of_getElem? (i := 789) (by decide +kernel)
theorem ml_X8_284 : Cond.methodLink RX8 284 mX1_roadCells.1 ∈ lw_tbl := List.mem_of_getElem? (i := 793) (by decide +kernel)
theorem ml_X8_287 : Cond.methodLink RX8 287 mX7_present.1 ∈ lw_tbl := List.mem_of_getElem? (i := 797) (by decide +kernel)
theorem ml_X0_3 : Cond.methodLink RX0 3 objectInit ∈ lw_tbl := List.mem_of_getElem? (i := 672) (by decide +kernel)
theorem fl_X0_11 : fl RX0 11 0 9 "[I" true := ⟨RX0, TX0, 19, rfl, by decide, rfl, rfl, rfl, List.mem_of_getElem? (i := 683) (by decide +kernel)⟩
theorem fl_X0_15 : fl RX0 15 0 10 "[I" true := ⟨RX0, TX0, 19, rfl, by decide, rfl, rfl, rfl, List.mem_of_getElem? (i := 684) (by decide +kernel)⟩
theorem fl_X0_18 : fl RX0 18 0 11 "[J" true := ⟨RX0, TX0, 19, rfl, by decide, rfl, rfl, rfl, List.mem_of_getElem? (i := 685) (by decide +kernel)⟩
theorem fl_X0_22 : fl RX0 22 0 12 "[J" true := ⟨RX0, TX0, 19, rfl, by decide, rfl, rfl, rfl, List.mem_of_getElem? (i := 686) (by decide +kernel)⟩
theorem fl_X0_27 : fl RX0 27 0 13 "[[I" true := ⟨RX0, TX0, 19, rfl, by decide, rfl, rfl, rfl, List.mem_of_getElem? (i := 687) (by decide +kernel)⟩
theorem fl_X0_30 : fl RX0 30 0 14 "[I" true := ⟨RX0, TX0, 19, rfl, by decide, rfl, rfl, rfl, List.mem_of_getElem? (i := 688) (by decide +kernel)⟩
theorem fl_X0_33 : fl RX0 33 0 15 "[I" true := ⟨RX0, TX0, 19, rfl, by decide, rfl, rfl, rfl, List.mem_of_getElem? (i := 689) (by decide +kernel)⟩
theorem fl_X0_36 : fl RX0 36 0 16 "[I" true := ⟨RX0, TX0, 19, rfl, by decide, rfl, rfl, rfl, List.mem_of_getElem? (i := 690) (by decide +kernel)⟩
theorem fl_X0_39 : fl RX0 39 0 17 "[I" true := ⟨RX0, TX0, 19, rfl, by decide, rfl, rfl, rfl, List.mem_of_getElem? (i := 691) (by decide +kernel)⟩
theorem fl_X0_42 : fl RX0 42 0 18 "[I" true := ⟨RX0, TX0, 19, rfl, by decide, rfl, rfl, rfl, List.mem_of_getElem? (i := 692) (by decide +kernel)⟩
theorem fl_X0_45 : fl RX0 45 0 0 "LAwardDesk$Ground;" true := ⟨RX0, TX0, 19, rfl, by decide, rfl, rfl, rfl, List.mem_of_getElem? (i := 674) (by decide +kernel)⟩
theorem fl_X0_49 : fl RX0 49 0 1 "LAwardDesk$Roll;" true := ⟨RX0, TX0, 19, rfl, by decide, rfl, rfl, rfl, List.mem_of_getElem? (i := 675) (by decide +kernel)⟩
theorem fl_X0_53 : fl RX0 53 0 2 "LAwardDesk$PlotBook;" true := ⟨RX0, TX0, 19, rfl, by decide, rfl, rfl, rfl, List.mem_of_getElem? (i := 676) (by decide +kernel)⟩
theorem ml_X0_57 : Cond.methodLink RX0 57 mX0_findSites.1 ∈ lw_tbl := List.mem_of_getElem? (i := 737) (by decide +kernel)
theorem ml_X0_60 : Cond.methodLink RX0 60 mX0_findTakers.1 ∈ lw_tbl := List.mem_of_getElem? (i := 754) (by decide +kernel)
theorem fl_X0_64 : fl RX0 64 0 5 "I" false := ⟨RX0, TX0, 19, rfl, by decide, rfl, rfl, rfl, List.mem_of_getElem? (i := 679) (by decide +kernel)⟩
theorem fl_X0_68 : fl RX0 68 0 6 "I" false := ⟨RX0, TX0, 19, rfl, by decide, rfl, rfl, rfl, List.mem_of_getElem? (i := 680) (by decide +kernel)⟩
theorem fl_X0_72 : fl RX0 72 0 7 "I" false := ⟨RX0, TX0, 19, rfl, by decide, rfl, rfl, rfl, List.mem_of_getElem? (i := 681) (by decide +kernel)⟩
theorem fl_X0_75 : fl RX0 75 0 8 "Z" false := ⟨RX0, TX0, 19, rfl, by decide, rfl, rfl, rfl, List.mem_of_getElem? (i := 682) (by decide +kernel)⟩
theorem ml_X0_79 : Cond.methodLink RX0 79 mX0_putFrom.1 ∈ lw_tbl := List.mem_of_getElem? (i := 766) (by decide +kernel)
theorem fl_X0_83 : fl RX0 83 2 2 "[I" true := ⟨RX2, TX2, 4, rfl, by decide, rfl, rfl, rfl, List.mem_of_getElem? (i := 265) (by decide +kernel)⟩
theorem ml_X0_86 : Cond.methodLink RX0 86 mJ7_fill_53178.1 ∈ lw_tbl := List.mem_of_getElem? (i := 771) (by decide +kernel)
theorem fl_X0_92 : fl RX0 92 0 4 "I" false := ⟨RX0, TX0, 19, rfl, by decide, rfl, rfl, rfl, List.mem_of_getElem? (i := 678) (by decide +kernel)⟩
theorem fl_X0_95 : fl RX0 95 1 2 "I" false := ⟨RX1, TX1, 7, rfl, by decide, rfl, rfl, rfl, List.mem_of_getElem? (i := 90) (by decide +kernel)⟩
theorem ml_X0_100 : Cond.methodLink RX0 100 mX1_isBesideRoad.1 ∈ lw_tbl := List.mem_of_getElem? (i := 741) (by decide +kernel)
theorem ml_X0_104 : Cond.methodLink RX0 104 mX0_lowBit.1 ∈ lw_tbl := List.mem_of_getElem? (i := 742) (by decide +kernel)
theorem ml_X0_108 : Cond.methodLink RX0 108 mX0_highBit.1 ∈ lw_tbl := List.mem_of_getElem? (i := 745) (by decide +kernel)
theorem fl_X0_111 : fl RX0 111 0 3 "I" false := ⟨RX0, TX0, 19, rfl, by decide, rfl, rfl, rfl, List.mem_of_getElem? (i := 677) (by decide +kernel)⟩
theorem fl_X0_114 : fl RX0 114 1 0 "I" false := ⟨RX1, TX1, 7, rfl, by decide, rfl, rfl, rfl, List.mem_of_getElem? (i := 83) (by decide +kernel)⟩
theorem fl_X0_117 : fl RX0 117 1 5 "[I" true := ⟨RX1, TX1, 7, rfl, by decide, rfl, rfl, rfl, List.mem_of_getElem? (i := 104) (by decide +kernel)⟩
theorem ml_X0_120 : Cond.methodLink RX0 120 mX0_findSitesDown.1 ∈ lw_tbl := List.mem_of_getElem? (i := 748) (by decide +kernel)
theorem fl_X0_124 : fl RX0 124 1 1 "I" false := ⟨RX1, TX1, 7, rfl, by decide, rfl, rfl, rfl, List.mem_of_getElem? (i := 85) (by decide +kernel)⟩
theorem fl_X0_127 : fl RX0 127 1 6 "[I" true := ⟨RX1, TX1, 7, rfl, by decide, rfl, rfl, rfl, List.mem_of_getElem? (i := 106) (by decide +kernel)⟩
theorem ml_X0_130 : Cond.methodLink RX0 130 mX1_isPlain.1 ∈ lw_tbl := List.mem_of_getElem? (i := 752) (by decide +kernel)
theorem fl_X0_133 : fl RX0 133 1 4 "[[I" true := ⟨RX1, TX1, 7, rfl, by decide, rfl, rfl, rfl, List.mem_of_getElem? (i := 100) (by decide +kernel)⟩
theorem ml_X0_136 : Cond.methodLink RX0 136 mX5_of.1 ∈ lw_tbl := List.mem_of_getElem? (i := 753) (by decide +kernel)
theorem fl_X0_142 : fl RX0 142 4 1 "I" false := ⟨RX4, TX4, 13, rfl, by decide, rfl, rfl, rfl, List.mem_of_getElem? (i := 169) (by decide +kernel)⟩
theorem ml_X0_147 : Cond.methodLink RX0 147 mX0_findChoices.1 ∈ lw_tbl := List.mem_of_getElem? (i := 758) (by decide +kernel)
theorem fl_X0_151 : fl RX0 151 4 5 "[I" true := ⟨RX4, TX4, 13, rfl, by decide, rfl, rfl, rfl, List.mem_of_getElem? (i := 180) (by decide +kernel)⟩
theorem ml_X0_154 : Cond.methodLink RX0 154 mJ9_abs_0f7a4.1 ∈ lw_tbl := List.mem_of_getElem? (i := 763) (by decide +kernel)
theorem ml_X0_160 : Cond.methodLink RX0 160 mX1_stepsTo.1 ∈ lw_tbl := List.mem_of_getElem? (i := 764) (by decide +kernel)
theorem ml_X0_164 : Cond.methodLink RX0 164 mJ9_min_7cf53.1 ∈ lw_tbl := List.mem_of_getElem? (i := 765) (by decide +kernel)
theorem ml_X0_167 : Cond.methodLink RX0 167 arraycopyName ∈ lw_tbl := List.mem_of_getElem? (i := 770) (by decide +kernel)
theorem ml_X1_3 : Cond.methodLink RX1 3 objectInit ∈ lw_tbl := List.mem_of_getElem? (i := 72) (by decide +kernel)
theorem fl_X1_11 : fl RX1 11 1 4 "[[I" true := ⟨RX1, TX1, 7, rfl, by decide, rfl, rfl, rfl, List.mem_of_getElem? (i := 96) (by decide +kernel)⟩
theorem fl_X1_16 : fl RX1 16 1 5 "[I" true := ⟨RX1, TX1, 7, rfl, by decide, rfl, rfl, rfl, List.mem_of_getElem? (i := 103) (by decide +kernel)⟩
theorem fl_X1_20 : fl RX1 20 1 6 "[I" true := ⟨RX1, TX1, 7, rfl, by decide, rfl, rfl, rfl, List.mem_of_getElem? (i := 105) (by decide +kernel)⟩
theorem ml_X1_23 : Cond.methodLink RX1 23 mX1_renew.1 ∈ lw_tbl := List.mem_of_getElem? (i := 75) (by decide +kernel)
theorem fl_X1_27 : fl RX1 27 1 0 "I" false := ⟨RX1, TX1, 7, rfl, by decide, rfl, rfl, rfl, List.mem_of_getElem? (i := 82) (by decide +kernel)⟩
theorem fl_X1_31 : fl RX1 31 1 1 "I" false := ⟨RX1, TX1, 7, rfl, by decide, rfl, rfl, rfl, List.mem_of_getElem? (i := 84) (by decide +kernel)⟩
theorem fl_X1_34 : fl RX1 34 1 2 "I" false := ⟨RX1, TX1, 7, rfl, by decide, rfl, rfl, rfl, List.mem_of_getElem? (i := 87) (by decide +kernel)⟩
theorem fl_X1_37 : fl RX1 37 1 3 "I" false := ⟨RX1, TX1, 7, rfl, by decide, rfl, rfl, rfl, List.mem_of_getElem? (i := 92) (by decide +kernel)⟩
theorem ml_X1_40 : Cond.methodLink RX1 40 mJ7_fill_53178.1 ∈ lw_tbl := List.mem_of_getElem? (i := 79) (by decide +kernel)
theorem ml_X1_46 : Cond.methodLink RX1 46 mX1_beside.1 ∈ lw_tbl := List.mem_of_getElem? (i := 633) (by decide +kernel)
theorem ml_X1_50 : Cond.methodLink RX1 50 mX1_isRoad.1 ∈ lw_tbl := List.mem_of_getElem? (i := 634) (by decide +kernel)
theorem ml_X1_54 : Cond.methodLink RX1 54 mX5_firstOf.1 ∈ lw_tbl := List.mem_of_getElem? (i := 610) (by decide +kernel)
theorem ml_X1_60 : Cond.methodLink RX1 60 mX5_wideOf.1 ∈ lw_tbl := List.mem_of_getElem? (i := 613) (by decide +kernel)
theorem ml_X1_63 : Cond.methodLink RX1 63 mX5_highOf.1 ∈ lw_tbl := List.mem_of_getElem? (i := 616) (by decide +kernel)
theorem ml_X1_66 : Cond.methodLink RX1 66 mX1_gap.1 ∈ lw_tbl := List.mem_of_getElem? (i := 654) (by decide +kernel)
theorem ml_X1_70 : Cond.methodLink RX1 70 mJ9_max_7cf53.1 ∈ lw_tbl := List.mem_of_getElem? (i := 657) (by decide +kernel)
theorem ml_X2_3 : Cond.methodLink RX2 3 objectInit ∈ lw_tbl := List.mem_of_getElem? (i := 256) (by decide +kernel)
theorem fl_X2_9 : fl RX2 9 2 2 "[I" true := ⟨RX2, TX2, 4, rfl, by decide, rfl, rfl, rfl, List.mem_of_getElem? (i := 264) (by decide +kernel)⟩
theorem fl_X2_15 : fl RX2 15 2 3 "[I" true := ⟨RX2, TX2, 4, rfl, by decide, rfl, rfl, rfl, List.mem_of_getElem? (i := 267) (by decide +kernel)⟩
theorem fl_X2_18 : fl RX2 18 2 0 "LAwardDesk$Ground;" true := ⟨RX2, TX2, 4, rfl, by decide, rfl, rfl, rfl, List.mem_of_getElem? (i := 262) (by decide +kernel)⟩
theorem fl_X2_22 : fl RX2 22 2 1 "LAwardDesk$Roll;" true := ⟨RX2, TX2, 4, rfl, by decide, rfl, rfl, rfl, List.mem_of_getElem? (i := 263) (by decide +kernel)⟩
theorem ml_X2_26 : Cond.methodLink RX2 26 mX2_clear.1 ∈ lw_tbl := List.mem_of_getElem? (i := 257) (by decide +kernel)
theorem ml_X2_29 : Cond.methodLink RX2 29 mJ7_fill_53178.1 ∈ lw_tbl := List.mem_of_getElem? (i := 261) (by decide +kernel)
theorem fl_X2_35 : fl RX2 35 4 1 "I" false := ⟨RX4, TX4, 13, rfl, by decide, rfl, rfl, rfl, List.mem_of_getElem? (i := 168) (by decide +kernel)⟩
theorem ml_X2_41 : Cond.methodLink RX2 41 mX2_isDrawn.1 ∈ lw_tbl := List.mem_of_getElem? (i := 628) (by decide +kernel)
theorem ml_X2_45 : Cond.methodLink RX2 45 mX1_isIn.1 ∈ lw_tbl := List.mem_of_getElem? (i := 619) (by decide +kernel)
theorem ml_X2_51 : Cond.methodLink RX2 51 mX1_isInside.1 ∈ lw_tbl := List.mem_of_getElem? (i := 606) (by decide +kernel)
theorem fl_X2_54 : fl RX2 54 1 2 "I" false := ⟨RX1, TX1, 7, rfl, by decide, rfl, rfl, rfl, List.mem_of_getElem? (i := 91) (by decide +kernel)⟩
theorem ml_X2_57 : Cond.methodLink RX2 57 mX1_isPlain.1 ∈ lw_tbl := List.mem_of_getElem? (i := 623) (by decide +kernel)
theorem ml_X2_60 : Cond.methodLink RX2 60 mX2_isInPlotAhead.1 ∈ lw_tbl := List.mem_of_getElem? (i := 624) (by decide +kernel)
theorem ml_X2_63 : Cond.methodLink RX2 63 mX1_isBesideRoad.1 ∈ lw_tbl := List.mem_of_getElem? (i := 629) (by decide +kernel)
theorem ml_X2_66 : Cond.methodLink RX2 66 mX2_worthOf.1 ∈ lw_tbl := List.mem_of_getElem? (i := 635) (by decide +kernel)
theorem ml_X2_70 : Cond.methodLink RX2 70 mJ9_abs_0f7a4.1 ∈ lw_tbl := List.mem_of_getElem? (i := 639) (by decide +kernel)
theorem fl_X2_75 : fl RX2 75 1 4 "[[I" true := ⟨RX1, TX1, 7, rfl, by decide, rfl, rfl, rfl, List.mem_of_getElem? (i := 101) (by decide +kernel)⟩
theorem ml_X2_79 : Cond.methodLink RX2 79 mX1_beside.1 ∈ lw_tbl := List.mem_of_getElem? (i := 662) (by decide +kernel)
theorem ml_X3_3 : Cond.methodLink RX3 3 objectInit ∈ lw_tbl := List.mem_of_getElem? (i := 128) (by decide +kernel)
theorem fl_X3_9 : fl RX3 9 3 1 "[I" true := ⟨RX3, TX3, 3, rfl, by decide, rfl, rfl, rfl, List.mem_of_getElem? (i := 130) (by decide +kernel)⟩
theorem fl_X3_15 : fl RX3 15 3 2 "[Z" true := ⟨RX3, TX3, 3, rfl, by decide, rfl, rfl, rfl, List.mem_of_getElem? (i := 131) (by decide +kernel)⟩
theorem fl_X3_19 : fl RX3 19 3 0 "LAwardDesk$Ground;" true := ⟨RX3, TX3, 3, rfl, by decide, rfl, rfl, rfl, List.mem_of_getElem? (i := 129) (by decide +kernel)⟩
theorem ml_X3_23 : Cond.methodLink RX3 23 mX3_measure.1 ∈ lw_tbl := List.mem_of_getElem? (i := 391) (by decide +kernel)
theorem fl_X3_28 : fl RX3 28 1 2 "I" false := ⟨RX1, TX1, 7, rfl, by decide, rfl, rfl, rfl, List.mem_of_getElem? (i := 88) (by decide +kernel)⟩
theorem ml_X3_34 : Cond.methodLink RX3 34 mX3_cellBefore.1 ∈ lw_tbl := List.mem_of_getElem? (i := 415) (by decide +kernel)
theorem ml_X3_38 : Cond.methodLink RX3 38 mX1_isRoad.1 ∈ lw_tbl := List.mem_of_getElem? (i := 401) (by decide +kernel)
theorem fl_X3_42 : fl RX3 42 1 4 "[[I" true := ⟨RX1, TX1, 7, rfl, by decide, rfl, rfl, rfl, List.mem_of_getElem? (i := 98) (by decide +kernel)⟩
theorem fl_X3_46 : fl RX3 46 1 3 "I" false := ⟨RX1, TX1, 7, rfl, by decide, rfl, rfl, rfl, List.mem_of_getElem? (i := 93) (by decide +kernel)⟩
theorem ml_X3_49 : Cond.methodLink RX3 49 mJ7_fill_53178.1 ∈ lw_tbl := List.mem_of_getElem? (i := 396) (by decide +kernel)
theorem ml_X3_55 : Cond.methodLink RX3 55 mX3_price.1 ∈ lw_tbl := List.mem_of_getElem? (i := 397) (by decide +kernel)
theorem ml_X3_58 : Cond.methodLink RX3 58 mX3_nearestUnsettled.1 ∈ lw_tbl := List.mem_of_getElem? (i := 405) (by decide +kernel)
theorem ml_X3_62 : Cond.methodLink RX3 62 mX1_beside.1 ∈ lw_tbl := List.mem_of_getElem? (i := 409) (by decide +kernel)
theorem ml_X3_66 : Cond.methodLink RX3 66 mX1_isClose.1 ∈ lw_tbl := List.mem_of_getElem? (i := 413) (by decide +kernel)
theorem ml_X3_69 : Cond.methodLink RX3 69 mJ9_min_7cf53.1 ∈ lw_tbl := List.mem_of_getElem? (i := 414) (by decide +kernel)
theorem ml_X4_3 : Cond.methodLink RX4 3 objectInit ∈ lw_tbl := List.mem_of_getElem? (i := 165) (by decide +kernel)
theorem fl_X4_9 : fl RX4 9 4 4 "[I" true := ⟨RX4, TX4, 13, rfl, by decide, rfl, rfl, rfl, List.mem_of_getElem? (i := 176) (by decide +kernel)⟩
theorem fl_X4_15 : fl RX4 15 4 5 "[I" true := ⟨RX4, TX4, 13, rfl, by decide, rfl, rfl, rfl, List.mem_of_getElem? (i := 179) (by decide +kernel)⟩
theorem fl_X4_18 : fl RX4 18 4 6 "[I" true := ⟨RX4, TX4, 13, rfl, by decide, rfl, rfl, rfl, List.mem_of_getElem? (i := 182) (by decide +kernel)⟩
theorem fl_X4_21 : fl RX4 21 4 7 "[I" true := ⟨RX4, TX4, 13, rfl, by decide, rfl, rfl, rfl, List.mem_of_getElem? (i := 183) (by decide +kernel)⟩
theorem fl_X4_24 : fl RX4 24 4 8 "[I" true := ⟨RX4, TX4, 13, rfl, by decide, rfl, rfl, rfl, List.mem_of_getElem? (i := 184) (by decide +kernel)⟩
theorem fl_X4_27 : fl RX4 27 4 9 "[I" true := ⟨RX4, TX4, 13, rfl, by decide, rfl, rfl, rfl, List.mem_of_getElem? (i := 185) (by decide +kernel)⟩
theorem fl_X4_30 : fl RX4 30 4 10 "[I" true := ⟨RX4, TX4, 13, rfl, by decide, rfl, rfl, rfl, List.mem_of_getElem? (i := 186) (by decide +kernel)⟩
theorem fl_X4_33 : fl RX4 33 4 11 "[I" true := ⟨RX4, TX4, 13, rfl, by decide, rfl, rfl, rfl, List.mem_of_getElem? (i := 187) (by decide +kernel)⟩
theorem fl_X4_36 : fl RX4 36 4 12 "[I" true := ⟨RX4, TX4, 13, rfl, by decide, rfl, rfl, rfl, List.mem_of_getElem? (i := 188) (by decide +kernel)⟩
theorem fl_X4_39 : fl RX4 39 4 0 "LAwardDesk$Ground;" true := ⟨RX4, TX4, 13, rfl, by decide, rfl, rfl, rfl, List.mem_of_getElem? (i := 166) (by decide +kernel)⟩
theorem fl_X4_43 : fl RX4 43 4 1 "I" false := ⟨RX4, TX4, 13, rfl, by decide, rfl, rfl, rfl, List.mem_of_getElem? (i := 167) (by decide +kernel)⟩
theorem fl_X4_47 : fl RX4 47 4 2 "I" false := ⟨RX4, TX4, 13, rfl, by decide, rfl, rfl, rfl, List.mem_of_getElem? (i := 172) (by decide +kernel)⟩
theorem fl_X4_50 : fl RX4 50 4 3 "I" false := ⟨RX4, TX4, 13, rfl, by decide, rfl, rfl, rfl, List.mem_of_getElem? (i := 174) (by decide +kernel)⟩
theorem fl_X4_53 : fl RX4 53 1 4 "[[I" true := ⟨RX1, TX1, 7, rfl, by decide, rfl, rfl, rfl, List.mem_of_getElem? (i := 102) (by decide +kernel)⟩
theorem ml_X4_59 : Cond.methodLink RX4 59 mJ9_max_7cf53.1 ∈ lw_tbl := List.mem_of_getElem? (i := 542) (by decide +kernel)
theorem ml_X4_65 : Cond.methodLink RX4 65 mX4_holderAt.1 ∈ lw_tbl := List.mem_of_getElem? (i := 475) (by decide +kernel)
theorem ml_X4_69 : Cond.methodLink RX4 69 mX4_isUpheld.1 ∈ lw_tbl := List.mem_of_getElem? (i := 525) (by decide +kernel)
theorem ml_X6_3 : Cond.methodLink RX6 3 objectInit ∈ lw_tbl := List.mem_of_getElem? (i := 221) (by decide +kernel)
theorem fl_X6_9 : fl RX6 9 5 3 "[I" true := ⟨RX6, TX6, 8, rfl, by decide, rfl, rfl, rfl, List.mem_of_getElem? (i := 225) (by decide +kernel)⟩
theorem fl_X6_15 : fl RX6 15 5 4 "[I" true := ⟨RX6, TX6, 8, rfl, by decide, rfl, rfl, rfl, List.mem_of_getElem? (i := 227) (by decide +kernel)⟩
theorem fl_X6_18 : fl RX6 18 5 5 "[I" true := ⟨RX6, TX6, 8, rfl, by decide, rfl, rfl, rfl, List.mem_of_getElem? (i := 229) (by decide +kernel)⟩
theorem fl_X6_21 : fl RX6 21 5 6 "[I" true := ⟨RX6, TX6, 8, rfl, by decide, rfl, rfl, rfl, List.mem_of_getElem? (i := 231) (by decide +kernel)⟩
theorem fl_X6_24 : fl RX6 24 5 7 "[J" true := ⟨RX6, TX6, 8, rfl, by decide, rfl, rfl, rfl, List.mem_of_getElem? (i := 232) (by decide +kernel)⟩
theorem fl_X6_28 : fl RX6 28 5 0 "LAwardDesk$Ground;" true := ⟨RX6, TX6, 8, rfl, by decide, rfl, rfl, rfl, List.mem_of_getElem? (i := 222) (by decide +kernel)⟩
theorem fl_X6_32 : fl RX6 32 5 1 "LAwardDesk$Roll;" true := ⟨RX6, TX6, 8, rfl, by decide, rfl, rfl, rfl, List.mem_of_getElem? (i := 223) (by decide +kernel)⟩
theorem fl_X6_36 : fl RX6 36 5 2 "[I" true := ⟨RX6, TX6, 8, rfl, by decide, rfl, rfl, rfl, List.mem_of_getElem? (i := 224) (by decide +kernel)⟩
theorem fl_X6_39 : fl RX6 39 1 2 "I" false := ⟨RX1, TX1, 7, rfl, by decide, rfl, rfl, rfl, List.mem_of_getElem? (i := 86) (by decide +kernel)⟩
theorem ml_X6_45 : Cond.methodLink RX6 45 mX1_isPlain.1 ∈ lw_tbl := List.mem_of_getElem? (i := 492) (by decide +kernel)
theorem fl_X6_49 : fl RX6 49 1 4 "[[I" true := ⟨RX1, TX1, 7, rfl, by decide, rfl, rfl, rfl, List.mem_of_getElem? (i := 97) (by decide +kernel)⟩
theorem ml_X6_53 : Cond.methodLink RX6 53 mJ9_min_7cf53.1 ∈ lw_tbl := List.mem_of_getElem? (i := 500) (by decide +kernel)
theorem ml_X6_59 : Cond.methodLink RX6 59 mX4_firstOfKind.1 ∈ lw_tbl := List.mem_of_getElem? (i := 505) (by decide +kernel)
theorem ml_X6_65 : Cond.methodLink RX6 65 mX6_soldOf.1 ∈ lw_tbl := List.mem_of_getElem? (i := 509) (by decide +kernel)
theorem ml_X6_68 : Cond.methodLink RX6 68 mX6_titheOf.1 ∈ lw_tbl := List.mem_of_getElem? (i := 514) (by decide +kernel)
theorem ml_X6_71 : Cond.methodLink RX6 71 mJ7_fill_53178.1 ∈ lw_tbl := List.mem_of_getElem? (i := 519) (by decide +kernel)
theorem ml_X6_77 : Cond.methodLink RX6 77 mX4_holderAt.1 ∈ lw_tbl := List.mem_of_getElem? (i := 520) (by decide +kernel)
theorem ml_X6_81 : Cond.methodLink RX6 81 mX4_upheldObjector.1 ∈ lw_tbl := List.mem_of_getElem? (i := 521) (by decide +kernel)
theorem ml_X6_84 : Cond.methodLink RX6 84 mX4_claimantOf.1 ∈ lw_tbl := List.mem_of_getElem? (i := 526) (by decide +kernel)
theorem ml_X6_87 : Cond.methodLink RX6 87 mX6_giveStrip.1 ∈ lw_tbl := List.mem_of_getElem? (i := 530) (by decide +kernel)
theorem ml_X6_91 : Cond.methodLink RX6 91 mX6_giveCommon.1 ∈ lw_tbl := List.mem_of_getElem? (i := 534) (by decide +kernel)
theorem fl_X6_94 : fl RX6 94 4 4 "[I" true := ⟨RX4, TX4, 13, rfl, by decide, rfl, rfl, rfl, List.mem_of_getElem? (i := 177) (by decide +kernel)⟩
theorem fl_X6_97 : fl RX6 97 4 1 "I" false := ⟨RX4, TX4, 13, rfl, by decide, rfl, rfl, rfl, List.mem_of_getElem? (i := 170) (by decide +kernel)⟩
theorem ml_X6_100 : Cond.methodLink RX6 100 mX4_gatesOf.1 ∈ lw_tbl := List.mem_of_getElem? (i := 538) (by decide +kernel)
theorem ml_X6_103 : Cond.methodLink RX6 103 mX6_total.1 ∈ lw_tbl := List.mem_of_getElem? (i := 545) (by decide +kernel)
theorem ml_X6_107 : Cond.methodLink RX6 107 mX6_weigh.1 ∈ lw_tbl := List.mem_of_getElem? (i := 561) (by decide +kernel)
theorem ml_X6_111 : Cond.methodLink RX6 111 mX6_value.1 ∈ lw_tbl := List.mem_of_getElem? (i := 562) (by decide +kernel)
theorem ml_X6_115 : Cond.methodLink RX6 115 mX6_restOf.1 ∈ lw_tbl := List.mem_of_getElem? (i := 563) (by decide +kernel)
theorem ml_X6_118 : Cond.methodLink RX6 118 mX6_part.1 ∈ lw_tbl := List.mem_of_getElem? (i := 564) (by decide +kernel)
theorem ml_X6_122 : Cond.methodLink RX6 122 mX6_settleDues.1 ∈ lw_tbl := List.mem_of_getElem? (i := 557) (by decide +kernel)
theorem fl_X6_125 : fl RX6 125 1 3 "I" false := ⟨RX1, TX1, 7, rfl, by decide, rfl, rfl, rfl, List.mem_of_getElem? (i := 94) (by decide +kernel)⟩
theorem ml_X6_128 : Cond.methodLink RX6 128 mJ9_max_7cf53.1 ∈ lw_tbl := List.mem_of_getElem? (i := 581) (by decide +kernel)
theorem ml_X6_131 : Cond.methodLink RX6 131 mX6_greatestRest.1 ∈ lw_tbl := List.mem_of_getElem? (i := 568) (by decide +kernel)
theorem ml_X7_3 : Cond.methodLink RX7 3 objectInit ∈ lw_tbl := List.mem_of_getElem? (i := 145) (by decide +kernel)
theorem fl_X7_11 : fl RX7 11 6 0 "[[I" true := ⟨RX7, TX7, 3, rfl, by decide, rfl, rfl, rfl, List.mem_of_getElem? (i := 147) (by decide +kernel)⟩
theorem fl_X7_16 : fl RX7 16 6 1 "[I" true := ⟨RX7, TX7, 3, rfl, by decide, rfl, rfl, rfl, List.mem_of_getElem? (i := 149) (by decide +kernel)⟩
theorem fl_X7_20 : fl RX7 20 6 2 "[I" true := ⟨RX7, TX7, 3, rfl, by decide, rfl, rfl, rfl, List.mem_of_getElem? (i := 151) (by decide +kernel)⟩
theorem ml_X7_23 : Cond.methodLink RX7 23 mJ7_fill_53178.1 ∈ lw_tbl := List.mem_of_getElem? (i := 344) (by decide +kernel)
theorem ml_X7_29 : Cond.methodLink RX7 29 mX7_isMissing.1 ∈ lw_tbl := List.mem_of_getElem? (i := 801) (by decide +kernel)
theorem ml_L_9 : Cond.methodLink RL 9 mX8_init.1 ∈ lw_tbl := List.mem_of_getElem? (i := 61) (by decide +kernel)
theorem ml_L_12 : Cond.methodLink RL 12 mX9_init.1 ∈ lw_tbl := List.mem_of_getElem? (i := 804) (by decide +kernel)
theorem ml_L_13 : Cond.methodLink RL 13 mX8_land.1 ∈ lw_tbl := List.mem_of_getElem? (i := 303) (by decide +kernel)
theorem ml_L_17 : Cond.methodLink RL 17 mX9_land.1 ∈ lw_tbl := List.mem_of_getElem? (i := 984) (by decide +kernel)
theorem ml_L_18 : Cond.methodLink RL 18 mX8_cell.1 ∈ lw_tbl := List.mem_of_getElem? (i := 316) (by decide +kernel)
theorem ml_L_22 : Cond.methodLink RL 22 mX9_cell.1 ∈ lw_tbl := List.mem_of_getElem? (i := 995) (by decide +kernel)
theorem ml_L_23 : Cond.methodLink RL 23 mX8_told.1 ∈ lw_tbl := List.mem_of_getElem? (i := 329) (by decide +kernel)
theorem ml_L_26 : Cond.methodLink RL 26 mX9_told.1 ∈ lw_tbl := List.mem_of_getElem? (i := 1007) (by decide +kernel)
theorem ml_L_27 : Cond.methodLink RL 27 mX8_survey.1 ∈ lw_tbl := List.mem_of_getElem? (i := 333) (by decide +kernel)
theorem ml_L_30 : Cond.methodLink RL 30 mX9_survey.1 ∈ lw_tbl := List.mem_of_getElem? (i := 1011) (by decide +kernel)
theorem ml_L_31 : Cond.methodLink RL 31 mX8_lose.1 ∈ lw_tbl := List.mem_of_getElem? (i := 345) (by decide +kernel)
theorem ml_L_35 : Cond.methodLink RL 35 mX9_lose.1 ∈ lw_tbl := List.mem_of_getElem? (i := 1018) (by decide +kernel)
theorem ml_L_36 : Cond.methodLink RL 36 mX8_mark.1 ∈ lw_tbl := List.mem_of_getElem? (i := 353) (by decide +kernel)
theorem ml_L_39 : Cond.methodLink RL 39 mX9_mark.1 ∈ lw_tbl := List.mem_of_getElem? (i := 1022) (by decide +kernel)
theorem ml_L_40 : Cond.methodLink RL 40 mX8_copy.1 ∈ lw_tbl := List.mem_of_getElem? (i := 365) (by decide +kernel)
theorem ml_L_44 : Cond.methodLink RL 44 mX9_copy.1 ∈ lw_tbl := List.mem_of_getElem? (i := 1026) (by decide +kernel)
theorem ml_L_45 : Cond.methodLink RL 45 mX8_read.1 ∈ lw_tbl := List.mem_of_getElem? (i := 372) (by decide +kernel)
theorem ml_L_48 : Cond.methodLink RL 48 mX9_read.1 ∈ lw_tbl := List.mem_of_getElem? (i := 1030) (by decide +kernel)
theorem ml_L_49 : Cond.methodLink RL 49 mX8_road.1 ∈ lw_tbl := List.mem_of_getElem? (i := 379) (by decide +kernel)
theorem ml_L_52 : Cond.methodLink RL 52 mX9_road.1 ∈ lw_tbl := List.mem_of_getElem? (i := 1034) (by decide +kernel)
theorem ml_L_53 : Cond.methodLink RL 53 mX8_claimant.1 ∈ lw_tbl := List.mem_of_getElem? (i := 419) (by decide +kernel)
theorem ml_L_56 : Cond.methodLink RL 56 mX9_claimant.1 ∈ lw_tbl := List.mem_of_getElem? (i := 1055) (by decide +kernel)
theorem ml_L_57 : Cond.methodLink RL 57 mX8_isOf.1 ∈ lw_tbl := List.mem_of_getElem? (i := 430) (by decide +kernel)
theorem ml_L_60 : Cond.methodLink RL 60 mX9_isOf.1 ∈ lw_tbl := List.mem_of_getElem? (i := 1059) (by decide +kernel)
theorem ml_L_61 : Cond.methodLink RL 61 mX8_claim.1 ∈ lw_tbl := List.mem_of_getElem? (i := 438) (by decide +kernel)
theorem ml_L_65 : Cond.methodLink RL 65 mX9_claim.1 ∈ lw_tbl := List.mem_of_getElem? (i := 1067) (by decide +kernel)
theorem ml_L_66 : Cond.methodLink RL 66 mX8_withdraw.1 ∈ lw_tbl := List.mem_of_getElem? (i := 449) (by decide +kernel)
theorem ml_L_70 : Cond.methodLink RL 70 mX9_withdraw.1 ∈ lw_tbl := List.mem_of_getElem? (i := 1074) (by decide +kernel)
theorem ml_L_71 : Cond.methodLink RL 71 mX8_rule.1 ∈ lw_tbl := List.mem_of_getElem? (i := 453) (by decide +kernel)
theorem ml_L_74 : Cond.methodLink RL 74 mX9_rule.1 ∈ lw_tbl := List.mem_of_getElem? (i := 1078) (by decide +kernel)
theorem ml_L_75 : Cond.methodLink RL 75 mX8_object.1 ∈ lw_tbl := List.mem_of_getElem? (i := 459) (by decide +kernel)
theorem ml_L_78 : Cond.methodLink RL 78 mX9_object.1 ∈ lw_tbl := List.mem_of_getElem? (i := 1082) (by decide +kernel)
theorem ml_L_79 : Cond.methodLink RL 79 mX8_upheld.1 ∈ lw_tbl := List.mem_of_getElem? (i := 467) (by decide +kernel)
theorem ml_L_82 : Cond.methodLink RL 82 mX9_upheld.1 ∈ lw_tbl := List.mem_of_getElem? (i := 1086) (by decide +kernel)
theorem ml_L_83 : Cond.methodLink RL 83 mX8_holder.1 ∈ lw_tbl := List.mem_of_getElem? (i := 479) (by decide +kernel)
theorem ml_L_86 : Cond.methodLink RL 86 mX9_holder.1 ∈ lw_tbl := List.mem_of_getElem? (i := 1102) (by decide +kernel)
theorem ml_L_87 : Cond.methodLink RL 87 mX8_sum.1 ∈ lw_tbl := List.mem_of_getElem? (i := 484) (by decide +kernel)
theorem ml_L_90 : Cond.methodLink RL 90 mX9_sum.1 ∈ lw_tbl := List.mem_of_getElem? (i := 1106) (by decide +kernel)
theorem ml_L_91 : Cond.methodLink RL 91 mX8_has.1 ∈ lw_tbl := List.mem_of_getElem? (i := 549) (by decide +kernel)
theorem ml_L_94 : Cond.methodLink RL 94 mX9_has.1 ∈ lw_tbl := List.mem_of_getElem? (i := 1142) (by decide +kernel)
theorem ml_L_95 : Cond.methodLink RL 95 mX8_allot.1 ∈ lw_tbl := List.mem_of_getElem? (i := 583) (by decide +kernel)
theorem ml_L_98 : Cond.methodLink RL 98 mX9_allot.1 ∈ lw_tbl := List.mem_of_getElem? (i := 1146) (by decide +kernel)
theorem ml_L_99 : Cond.methodLink RL 99 mX8_take.1 ∈ lw_tbl := List.mem_of_getElem? (i := 590) (by decide +kernel)
theorem ml_L_102 : Cond.methodLink RL 102 mX9_take.1 ∈ lw_tbl := List.mem_of_getElem? (i := 1150) (by decide +kernel)
theorem ml_L_103 : Cond.methodLink RL 103 mX8_good.1 ∈ lw_tbl := List.mem_of_getElem? (i := 598) (by decide +kernel)
theorem ml_L_106 : Cond.methodLink RL 106 mX9_good.1 ∈ lw_tbl := List.mem_of_getElem? (i := 1154) (by decide +kernel)
theorem ml_L_107 : Cond.methodLink RL 107 mX8_plot.1 ∈ lw_tbl := List.mem_of_getElem? (i := 642) (by decide +kernel)
theorem ml_L_110 : Cond.methodLink RL 110 mX9_plot.1 ∈ lw_tbl := List.mem_of_getElem? (i := 1178) (by decide +kernel)
theorem ml_L_111 : Cond.methodLink RL 111 mX8_draw.1 ∈ lw_tbl := List.mem_of_getElem? (i := 663) (by decide +kernel)
theorem ml_L_114 : Cond.methodLink RL 114 mX9_draw.1 ∈ lw_tbl := List.mem_of_getElem? (i := 1190) (by decide +kernel)
theorem ml_L_115 : Cond.methodLink RL 115 mX8_hedge.1 ∈ lw_tbl := List.mem_of_getElem? (i := 772) (by decide +kernel)
theorem ml_L_118 : Cond.methodLink RL 118 mX9_hedge.1 ∈ lw_tbl := List.mem_of_getElem? (i := 1213) (by decide +kernel)
theorem ml_L_119 : Cond.methodLink RL 119 mX8_fine.1 ∈ lw_tbl := List.mem_of_getElem? (i := 776) (by decide +kernel)
theorem ml_L_122 : Cond.methodLink RL 122 mX9_fine.1 ∈ lw_tbl := List.mem_of_getElem? (i := 1217) (by decide +kernel)
theorem ml_L_123 : Cond.methodLink RL 123 mX8_count.1 ∈ lw_tbl := List.mem_of_getElem? (i := 781) (by decide +kernel)
theorem ml_L_126 : Cond.methodLink RL 126 mX9_count.1 ∈ lw_tbl := List.mem_of_getElem? (i := 1221) (by decide +kernel)
theorem ml_X9_1 : Cond.methodLink RX9 1 objectInit ∈ lw_tbl := List.mem_of_getElem? (i := 807) (by decide +kernel)
theorem fl_X9_7 : fl RX9 7 8 1 "I" false := ⟨RX9, TX9, 57, rfl, by decide, rfl, rfl, rfl, List.mem_of_getElem? (i := 813) (by decide +kernel)⟩
theorem fl_X9_13 : fl RX9 13 8 2 "I" false := ⟨RX9, TX9, 57, rfl, by decide, rfl, rfl, rfl, List.mem_of_getElem? (i := 814) (by decide +kernel)⟩
theorem fl_X9_16 : fl RX9 16 8 3 "[I" true := ⟨RX9, TX9, 57, rfl, by decide, rfl, rfl, rfl, List.mem_of_getElem? (i := 815) (by decide +kernel)⟩
theorem fl_X9_20 : fl RX9 20 8 4 "[I" true := ⟨RX9, TX9, 57, rfl, by decide, rfl, rfl, rfl, List.mem_of_getElem? (i := 816) (by decide +kernel)⟩
theorem fl_X9_23 : fl RX9 23 8 5 "[Z" true := ⟨RX9, TX9, 57, rfl, by decide, rfl, rfl, rfl, List.mem_of_getElem? (i := 817) (by decide +kernel)⟩
theorem fl_X9_27 : fl RX9 27 8 7 "[I" true := ⟨RX9, TX9, 57, rfl, by decide, rfl, rfl, rfl, List.mem_of_getElem? (i := 819) (by decide +kernel)⟩
theorem fl_X9_30 : fl RX9 30 8 8 "[I" true := ⟨RX9, TX9, 57, rfl, by decide, rfl, rfl, rfl, List.mem_of_getElem? (i := 820) (by decide +kernel)⟩
theorem fl_X9_33 : fl RX9 33 8 9 "[I" true := ⟨RX9, TX9, 57, rfl, by decide, rfl, rfl, rfl, List.mem_of_getElem? (i := 821) (by decide +kernel)⟩
theorem fl_X9_36 : fl RX9 36 8 11 "[I" true := ⟨RX9, TX9, 57, rfl, by decide, rfl, rfl, rfl, List.mem_of_getElem? (i := 823) (by decide +kernel)⟩
theorem fl_X9_39 : fl RX9 39 8 12 "[I" true := ⟨RX9, TX9, 57, rfl, by decide, rfl, rfl, rfl, List.mem_of_getElem? (i := 824) (by decide +kernel)⟩
theorem fl_X9_42 : fl RX9 42 8 14 "[I" true := ⟨RX9, TX9, 57, rfl, by decide, rfl, rfl, rfl, List.mem_of_getElem? (i := 826) (by decide +kernel)⟩
theorem fl_X9_45 : fl RX9 45 8 15 "[I" true := ⟨RX9, TX9, 57, rfl, by decide, rfl, rfl, rfl, List.mem_of_getElem? (i := 827) (by decide +kernel)⟩
theorem fl_X9_48 : fl RX9 48 8 16 "[I" true := ⟨RX9, TX9, 57, rfl, by decide, rfl, rfl, rfl, List.mem_of_getElem? (i := 828) (by decide +kernel)⟩
theorem fl_X9_51 : fl RX9 51 8 17 "[I" true := ⟨RX9, TX9, 57, rfl, by decide, rfl, rfl, rfl, List.mem_of_getElem? (i := 829) (by decide +kernel)⟩
theorem fl_X9_54 : fl RX9 54 8 19 "[I" true := ⟨RX9, TX9, 57, rfl, by decide, rfl, rfl, rfl, List.mem_of_getElem? (i := 831) (by decide +kernel)⟩
theorem fl_X9_57 : fl RX9 57 8 20 "[I" true := ⟨RX9, TX9, 57, rfl, by decide, rfl, rfl, rfl, List.mem_of_getElem? (i := 832) (by decide +kernel)⟩
theorem fl_X9_60 : fl RX9 60 8 21 "[I" true := ⟨RX9, TX9, 57, rfl, by decide, rfl, rfl, rfl, List.mem_of_getElem? (i := 833) (by decide +kernel)⟩
theorem fl_X9_63 : fl RX9 63 8 22 "I" false := ⟨RX9, TX9, 57, rfl, by decide, rfl, rfl, rfl, List.mem_of_getElem? (i := 834) (by decide +kernel)⟩
theorem fl_X9_66 : fl RX9 66 8 23 "I" false := ⟨RX9, TX9, 57, rfl, by decide, rfl, rfl, rfl, List.mem_of_getElem? (i := 835) (by decide +kernel)⟩
theorem fl_X9_69 : fl RX9 69 8 26 "I" false := ⟨RX9, TX9, 57, rfl, by decide, rfl, rfl, rfl, List.mem_of_getElem? (i := 838) (by decide +kernel)⟩
theorem fl_X9_72 : fl RX9 72 8 27 "[I" true := ⟨RX9, TX9, 57, rfl, by decide, rfl, rfl, rfl, List.mem_of_getElem? (i := 839) (by decide +kernel)⟩
theorem fl_X9_75 : fl RX9 75 8 28 "[I" true := ⟨RX9, TX9, 57, rfl, by decide, rfl, rfl, rfl, List.mem_of_getElem? (i := 840) (by decide +kernel)⟩
theorem fl_X9_78 : fl RX9 78 8 29 "[I" true := ⟨RX9, TX9, 57, rfl, by decide, rfl, rfl, rfl, List.mem_of_getElem? (i := 841) (by decide +kernel)⟩
theorem fl_X9_81 : fl RX9 81 8 30 "[I" true := ⟨RX9, TX9, 57, rfl, by decide, rfl, rfl, rfl, List.mem_of_getElem? (i := 842) (by decide +kernel)⟩
theorem fl_X9_84 : fl RX9 84 8 31 "[I" true := ⟨RX9, TX9, 57, rfl, by decide, rfl, rfl, rfl, List.mem_of_getElem? (i := 843) (by decide +kernel)⟩
theorem fl_X9_87 : fl RX9 87 8 32 "[I" true := ⟨RX9, TX9, 57, rfl, by decide, rfl, rfl, rfl, List.mem_of_getElem? (i := 844) (by decide +kernel)⟩
theorem fl_X9_90 : fl RX9 90 8 34 "[I" true := ⟨RX9, TX9, 57, rfl, by decide, rfl, rfl, rfl, List.mem_of_getElem? (i := 846) (by decide +kernel)⟩
theorem fl_X9_93 : fl RX9 93 8 35 "[I" true := ⟨RX9, TX9, 57, rfl, by decide, rfl, rfl, rfl, List.mem_of_getElem? (i := 847) (by decide +kernel)⟩
theorem fl_X9_96 : fl RX9 96 8 36 "[I" true := ⟨RX9, TX9, 57, rfl, by decide, rfl, rfl, rfl, List.mem_of_getElem? (i := 848) (by decide +kernel)⟩
theorem fl_X9_99 : fl RX9 99 8 37 "[I" true := ⟨RX9, TX9, 57, rfl, by decide, rfl, rfl, rfl, List.mem_of_getElem? (i := 849) (by decide +kernel)⟩
theorem fl_X9_102 : fl RX9 102 8 43 "[Z" true := ⟨RX9, TX9, 57, rfl, by decide, rfl, rfl, rfl, List.mem_of_getElem? (i := 855) (by decide +kernel)⟩
theorem fl_X9_105 : fl RX9 105 8 45 "[I" true := ⟨RX9, TX9, 57, rfl, by decide, rfl, rfl, rfl, List.mem_of_getElem? (i := 857) (by decide +kernel)⟩
theorem fl_X9_108 : fl RX9 108 8 46 "[I" true := ⟨RX9, TX9, 57, rfl, by decide, rfl, rfl, rfl, List.mem_of_getElem? (i := 858) (by decide +kernel)⟩
theorem fl_X9_111 : fl RX9 111 8 47 "[I" true := ⟨RX9, TX9, 57, rfl, by decide, rfl, rfl, rfl, List.mem_of_getElem? (i := 859) (by decide +kernel)⟩
theorem fl_X9_114 : fl RX9 114 8 48 "[I" true := ⟨RX9, TX9, 57, rfl, by decide, rfl, rfl, rfl, List.mem_of_getElem? (i := 860) (by decide +kernel)⟩
theorem fl_X9_117 : fl RX9 117 8 49 "[J" true := ⟨RX9, TX9, 57, rfl, by decide, rfl, rfl, rfl, List.mem_of_getElem? (i := 861) (by decide +kernel)⟩
theorem fl_X9_121 : fl RX9 121 8 50 "[J" true := ⟨RX9, TX9, 57, rfl, by decide, rfl, rfl, rfl, List.mem_of_getElem? (i := 862) (by decide +kernel)⟩
theorem fl_X9_124 : fl RX9 124 8 51 "[I" true := ⟨RX9, TX9, 57, rfl, by decide, rfl, rfl, rfl, List.mem_of_getElem? (i := 863) (by decide +kernel)⟩
theorem fl_X9_127 : fl RX9 127 8 52 "[I" true := ⟨RX9, TX9, 57, rfl, by decide, rfl, rfl, rfl, List.mem_of_getElem? (i := 864) (by decide +kernel)⟩
theorem ml_X9_130 : Cond.methodLink RX9 130 mX9_clearLand.1 ∈ lw_tbl := List.mem_of_getElem? (i := 808) (by decide +kernel)
theorem fl_X9_133 : fl RX9 133 8 0 "I" false := ⟨RX9, TX9, 57, rfl, by decide, rfl, rfl, rfl, List.mem_of_getElem? (i := 812) (by decide +kernel)⟩
theorem fl_X9_136 : fl RX9 136 8 6 "I" false := ⟨RX9, TX9, 57, rfl, by decide, rfl, rfl, rfl, List.mem_of_getElem? (i := 818) (by decide +kernel)⟩
theorem fl_X9_139 : fl RX9 139 8 10 "I" false := ⟨RX9, TX9, 57, rfl, by decide, rfl, rfl, rfl, List.mem_of_getElem? (i := 822) (by decide +kernel)⟩
theorem fl_X9_142 : fl RX9 142 8 13 "I" false := ⟨RX9, TX9, 57, rfl, by decide, rfl, rfl, rfl, List.mem_of_getElem? (i := 825) (by decide +kernel)⟩
theorem fl_X9_145 : fl RX9 145 8 18 "I" false := ⟨RX9, TX9, 57, rfl, by decide, rfl, rfl, rfl, List.mem_of_getElem? (i := 830) (by decide +kernel)⟩
theorem ml_X9_148 : Cond.methodLink RX9 148 mX9_cells.1 ∈ lw_tbl := List.mem_of_getElem? (i := 991) (by decide +kernel)
theorem ml_X9_152 : Cond.methodLink RX9 152 mX9_in.1 ∈ lw_tbl := List.mem_of_getElem? (i := 988) (by decide +kernel)
theorem ml_X9_156 : Cond.methodLink RX9 156 mX9_isCell.1 ∈ lw_tbl := List.mem_of_getElem? (i := 999) (by decide +kernel)
theorem ml_X9_160 : Cond.methodLink RX9 160 mX9_toldOf.1 ∈ lw_tbl := List.mem_of_getElem? (i := 1003) (by decide +kernel)
theorem ml_X9_164 : Cond.methodLink RX9 164 mX9_isSurvey.1 ∈ lw_tbl := List.mem_of_getElem? (i := 1015) (by decide +kernel)
theorem ml_X9_167 : Cond.methodLink RX9 167 mX9_priceOf.1 ∈ lw_tbl := List.mem_of_getElem? (i := 1042) (by decide +kernel)
theorem ml_X9_172 : Cond.methodLink RX9 172 mX9_beside.1 ∈ lw_tbl := List.mem_of_getElem? (i := 1047) (by decide +kernel)
theorem ml_X9_175 : Cond.methodLink RX9 175 mX9_findPrices.1 ∈ lw_tbl := List.mem_of_getElem? (i := 1038) (by decide +kernel)
theorem ml_X9_179 : Cond.methodLink RX9 179 mX9_cameFrom.1 ∈ lw_tbl := List.mem_of_getElem? (i := 1051) (by decide +kernel)
theorem ml_X9_182 : Cond.methodLink RX9 182 mX9_isPerson.1 ∈ lw_tbl := List.mem_of_getElem? (i := 1063) (by decide +kernel)
theorem ml_X9_185 : Cond.methodLink RX9 185 mX9_isDay.1 ∈ lw_tbl := List.mem_of_getElem? (i := 1071) (by decide +kernel)
theorem fl_X9_188 : fl RX9 188 8 24 "I" false := ⟨RX9, TX9, 57, rfl, by decide, rfl, rfl, rfl, List.mem_of_getElem? (i := 836) (by decide +kernel)⟩
theorem fl_X9_191 : fl RX9 191 8 25 "I" false := ⟨RX9, TX9, 57, rfl, by decide, rfl, rfl, rfl, List.mem_of_getElem? (i := 837) (by decide +kernel)⟩
theorem fl_X9_194 : fl RX9 194 8 33 "Z" false := ⟨RX9, TX9, 57, rfl, by decide, rfl, rfl, rfl, List.mem_of_getElem? (i := 845) (by decide +kernel)⟩
theorem ml_X9_198 : Cond.methodLink RX9 198 mX9_counts.1 ∈ lw_tbl := List.mem_of_getElem? (i := 1098) (by decide +kernel)
theorem ml_X9_202 : Cond.methodLink RX9 202 mX9_holderOf.1 ∈ lw_tbl := List.mem_of_getElem? (i := 1094) (by decide +kernel)
theorem ml_X9_205 : Cond.methodLink RX9 205 mX9_isUpheld.1 ∈ lw_tbl := List.mem_of_getElem? (i := 1090) (by decide +kernel)
theorem ml_X9_208 : Cond.methodLink RX9 208 mX9_firstOf.1 ∈ lw_tbl := List.mem_of_getElem? (i := 1130) (by decide +kernel)
theorem fl_X9_211 : fl RX9 211 8 38 "I" false := ⟨RX9, TX9, 57, rfl, by decide, rfl, rfl, rfl, List.mem_of_getElem? (i := 850) (by decide +kernel)⟩
theorem ml_X9_214 : Cond.methodLink RX9 214 mX9_isPlain.1 ∈ lw_tbl := List.mem_of_getElem? (i := 1118) (by decide +kernel)
theorem ml_X9_217 : Cond.methodLink RX9 217 mX9_objectionOn.1 ∈ lw_tbl := List.mem_of_getElem? (i := 1122) (by decide +kernel)
theorem ml_X9_220 : Cond.methodLink RX9 220 mX9_comes.1 ∈ lw_tbl := List.mem_of_getElem? (i := 1126) (by decide +kernel)
theorem ml_X9_224 : Cond.methodLink RX9 224 mX9_gatesOf.1 ∈ lw_tbl := List.mem_of_getElem? (i := 1134) (by decide +kernel)
theorem fl_X9_227 : fl RX9 227 8 42 "I" false := ⟨RX9, TX9, 57, rfl, by decide, rfl, rfl, rfl, List.mem_of_getElem? (i := 854) (by decide +kernel)⟩
theorem ml_X9_230 : Cond.methodLink RX9 230 mX9_findWeights.1 ∈ lw_tbl := List.mem_of_getElem? (i := 1114) (by decide +kernel)
theorem fl_X9_233 : fl RX9 233 8 39 "I" false := ⟨RX9, TX9, 57, rfl, by decide, rfl, rfl, rfl, List.mem_of_getElem? (i := 851) (by decide +kernel)⟩
theorem fl_X9_236 : fl RX9 236 8 40 "I" false := ⟨RX9, TX9, 57, rfl, by decide, rfl, rfl, rfl, List.mem_of_getElem? (i := 852) (by decide +kernel)⟩
theorem fl_X9_239 : fl RX9 239 8 41 "I" false := ⟨RX9, TX9, 57, rfl, by decide, rfl, rfl, rfl, List.mem_of_getElem? (i := 853) (by decide +kernel)⟩
theorem ml_X9_242 : Cond.methodLink RX9 242 mX9_part.1 ∈ lw_tbl := List.mem_of_getElem? (i := 1138) (by decide +kernel)
theorem ml_X9_246 : Cond.methodLink RX9 246 mX9_findDues.1 ∈ lw_tbl := List.mem_of_getElem? (i := 1110) (by decide +kernel)
theorem ml_X9_250 : Cond.methodLink RX9 250 mX9_isIn.1 ∈ lw_tbl := List.mem_of_getElem? (i := 1162) (by decide +kernel)
theorem ml_X9_253 : Cond.methodLink RX9 253 mX9_isAhead.1 ∈ lw_tbl := List.mem_of_getElem? (i := 1166) (by decide +kernel)
theorem ml_X9_256 : Cond.methodLink RX9 256 mX9_isByRoad.1 ∈ lw_tbl := List.mem_of_getElem? (i := 1170) (by decide +kernel)
theorem ml_X9_259 : Cond.methodLink RX9 259 mX9_worthOf.1 ∈ lw_tbl := List.mem_of_getElem? (i := 1174) (by decide +kernel)
theorem ml_X9_262 : Cond.methodLink RX9 262 mX9_goodOf.1 ∈ lw_tbl := List.mem_of_getElem? (i := 1158) (by decide +kernel)
theorem ml_X9_265 : Cond.methodLink RX9 265 mX9_farOf.1 ∈ lw_tbl := List.mem_of_getElem? (i := 1182) (by decide +kernel)
theorem ml_X9_268 : Cond.methodLink RX9 268 mX9_hedgeOf.1 ∈ lw_tbl := List.mem_of_getElem? (i := 1186) (by decide +kernel)
theorem fl_X9_271 : fl RX9 271 8 44 "I" false := ⟨RX9, TX9, 57, rfl, by decide, rfl, rfl, rfl, List.mem_of_getElem? (i := 856) (by decide +kernel)⟩
theorem ml_X9_274 : Cond.methodLink RX9 274 mX9_addRect.1 ∈ lw_tbl := List.mem_of_getElem? (i := 1198) (by decide +kernel)
theorem ml_X9_278 : Cond.methodLink RX9 278 mX9_away.1 ∈ lw_tbl := List.mem_of_getElem? (i := 1210) (by decide +kernel)
theorem fl_X9_282 : fl RX9 282 8 56 "Z" false := ⟨RX9, TX9, 57, rfl, by decide, rfl, rfl, rfl, List.mem_of_getElem? (i := 868) (by decide +kernel)⟩
theorem fl_X9_285 : fl RX9 285 8 53 "I" false := ⟨RX9, TX9, 57, rfl, by decide, rfl, rfl, rfl, List.mem_of_getElem? (i := 865) (by decide +kernel)⟩
theorem ml_X9_288 : Cond.methodLink RX9 288 mX9_drawFrom.1 ∈ lw_tbl := List.mem_of_getElem? (i := 1202) (by decide +kernel)
theorem fl_X9_292 : fl RX9 292 8 55 "Z" false := ⟨RX9, TX9, 57, rfl, by decide, rfl, rfl, rfl, List.mem_of_getElem? (i := 867) (by decide +kernel)⟩
theorem ml_X9_295 : Cond.methodLink RX9 295 mX9_costOf.1 ∈ lw_tbl := List.mem_of_getElem? (i := 1206) (by decide +kernel)
theorem fl_X9_298 : fl RX9 298 8 54 "I" false := ⟨RX9, TX9, 57, rfl, by decide, rfl, rfl, rfl, List.mem_of_getElem? (i := 866) (by decide +kernel)⟩
theorem ml_X9_301 : Cond.methodLink RX9 301 mX9_findRects.1 ∈ lw_tbl := List.mem_of_getElem? (i := 1194) (by decide +kernel)
theorem cl_L_7 : Cond.classLink RL 7 RX8 ∈ lw_tbl := List.mem_of_getElem? (i := 59) (by decide +kernel)
theorem cl_X8_13 : Cond.classLink RX8 13 RX1 ∈ lw_tbl := List.mem_of_getElem? (i := 67) (by decide +kernel)
theorem cl_X1_9 : Cond.classLink RX1 9 "[[I" ∈ lw_tbl := List.mem_of_getElem? (i := 73) (by decide +kernel)
theorem cl_X8_20 : Cond.classLink RX8 20 RX3 ∈ lw_tbl := List.mem_of_getElem? (i := 123) (by decide +kernel)
theorem cl_X8_29 : Cond.classLink RX8 29 RX7 ∈ lw_tbl := List.mem_of_getElem? (i := 140) (by decide +kernel)
theorem cl_X7_9 : Cond.classLink RX7 9 "[[I" ∈ lw_tbl := List.mem_of_getElem? (i := 146) (by decide +kernel)
theorem cl_X8_36 : Cond.classLink RX8 36 RX4 ∈ lw_tbl := List.mem_of_getElem? (i := 160) (by decide +kernel)
theorem cl_X8_43 : Cond.classLink RX8 43 RX6 ∈ lw_tbl := List.mem_of_getElem? (i := 216) (by decide +kernel)
theorem cl_X8_52 : Cond.classLink RX8 52 RX2 ∈ lw_tbl := List.mem_of_getElem? (i := 251) (by decide +kernel)
theorem cl_X8_257 : Cond.classLink RX8 257 RX0 ∈ lw_tbl := List.mem_of_getElem? (i := 667) (by decide +kernel)
theorem cl_X0_25 : Cond.classLink RX0 25 "[[I" ∈ lw_tbl := List.mem_of_getElem? (i := 673) (by decide +kernel)
theorem cl_L_10 : Cond.classLink RL 10 RX9 ∈ lw_tbl := List.mem_of_getElem? (i := 802) (by decide +kernel)
theorem in_X8 : Cond.instantiable RX8 8 ∈ lw_tbl := List.mem_of_getElem? (i := 60) (by decide +kernel)
theorem in_X1 : Cond.instantiable RX1 7 ∈ lw_tbl := List.mem_of_getElem? (i := 68) (by decide +kernel)
theorem in_X3 : Cond.instantiable RX3 3 ∈ lw_tbl := List.mem_of_getElem? (i := 124) (by decide +kernel)
theorem in_X7 : Cond.instantiable RX7 3 ∈ lw_tbl := List.mem_of_getElem? (i := 141) (by decide +kernel)
theorem in_X4 : Cond.instantiable RX4 13 ∈ lw_tbl := List.mem_of_getElem? (i := 161) (by decide +kernel)
theorem in_X6 : Cond.instantiable RX6 8 ∈ lw_tbl := List.mem_of_getElem? (i := 217) (by decide +kernel)
theorem in_X2 : Cond.instantiable RX2 4 ∈ lw_tbl := List.mem_of_getElem? (i := 252) (by decide +kernel)
theorem in_X0 : Cond.instantiable RX0 19 ∈ lw_tbl := List.mem_of_getElem? (i := 668) (by decide +kernel)
theorem in_X9 : Cond.instantiable RX9 57 ∈ lw_tbl := List.mem_of_getElem? (i := 803) (by decide +kernel)
theorem ini_L : Cond.initialized RL ∈ lw_tbl := List.mem_of_getElem? (i := 45) (by decide +kernel)
theorem ini_X8 : Cond.initialized RX8 ∈ lw_tbl := List.mem_of_getElem? (i := 46) (by decide +kernel)
theorem ini_X1 : Cond.initialized RX1 ∈ lw_tbl := List.mem_of_getElem? (i := 47) (by decide +kernel)
theorem ini_J7 : Cond.initialized RJ7 ∈ lw_tbl := List.mem_of_getElem? (i := 48) (by decide +kernel)
theorem ini_X3 : Cond.initialized RX3 ∈ lw_tbl := List.mem_of_getElem? (i := 49) (by decide +kernel)
theorem ini_X7 : Cond.initialized RX7 ∈ lw_tbl := List.mem_of_getElem? (i := 50) (by decide +kernel)
theorem ini_X4 : Cond.initialized RX4 ∈ lw_tbl := List.mem_of_getElem? (i := 51) (by decide +kernel)
theorem ini_X6 : Cond.initialized RX6 ∈ lw_tbl := List.mem_of_getElem? (i := 52) (by decide +kernel)
theorem ini_X2 : Cond.initialized RX2 ∈ lw_tbl := List.mem_of_getElem? (i := 53) (by decide +kernel)
theorem ini_X9 : Cond.initialized RX9 ∈ lw_tbl := List.mem_of_getElem? (i := 54) (by decide +kernel)
theorem ini_J10 : Cond.initialized RJ10 ∈ lw_tbl := List.mem_of_getElem? (i := 55) (by decide +kernel)
theorem ini_J9 : Cond.initialized RJ9 ∈ lw_tbl := List.mem_of_getElem? (i := 56) (by decide +kernel)
theorem ini_X5 : Cond.initialized RX5 ∈ lw_tbl := List.mem_of_getElem? (i := 57) (by decide +kernel)
theorem ini_X0 : Cond.initialized RX0 ∈ lw_tbl := List.mem_of_getElem? (i := 58) (by decide +kernel)
theorem k_X3_27 : Cond.constant RX3 27 (Int32.ofInt 1000000000) ∈ lw_tbl := List.mem_of_getElem? (i := 395) (by decide +kernel)
theorem k_X0_71 : Cond.constant RX0 71 (Int32.ofInt 1000000000) ∈ lw_tbl := List.mem_of_getElem? (i := 762) (by decide +kernel)
theorem k_X9_171 : Cond.constant RX9 171 (Int32.ofInt 1000000000) ∈ lw_tbl := List.mem_of_getElem? (i := 1046) (by decide +kernel)
theorem kl_X6_134 : Cond.constantLong RX6 134 (Int64.ofInt (-1)) ∈ lw_tbl := List.mem_of_getElem? (i := 572) (by decide +kernel)
theorem ac_int : Cond.arrayClass .int ∈ lw_tbl := List.mem_of_getElem? (i := 122) (by decide +kernel)
theorem ac_boolean : Cond.arrayClass .boolean ∈ lw_tbl := List.mem_of_getElem? (i := 139) (by decide +kernel)
theorem ac_long : Cond.arrayClass .long ∈ lw_tbl := List.mem_of_getElem? (i := 250) (by decide +kernel)
theorem cp_nat : Cond.native arraycopyName ∈ lw_tbl := List.mem_of_getElem? (i := 371) (by decide +kernel)
theorem cp_st : Cond.static arraycopyName ∈ lw_tbl := List.mem_of_getElem? (i := 370) (by decide +kernel)
theorem cp_ini : Cond.initialized "java/lang/System" ∈ lw_tbl := List.mem_of_getElem? (i := 55) (by decide +kernel)
theorem oi_in : Cond.instanceMethod objectInit ∈ lw_tbl := List.mem_of_getElem? (i := 65) (by decide +kernel)
theorem oi_co : Cond.code objectInit ⟨#[0xb1]⟩ 1 none ∈ lw_tbl := List.mem_of_getElem? (i := 66) (by decide +kernel)
