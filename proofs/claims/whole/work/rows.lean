section
/-- a private method of a class that the tables say can be made, by its rows of tables_1 -/
def lw_okq (q : MethodName × Nat) : Prop := (q.1.cls ≠ "java/lang/invoke/MethodHandle" ∧ q.1.cls ≠ "java/lang/invoke/VarHandle") ∧ Cond.instantiable q.1.cls q.2 ∈ tables_1 ∧ Cond.privateMethod q.1 ∈ tables_1 ∧ Cond.instanceMethod q.1 ∈ tables_1
theorem lw_p0 : lw_okq (⟨"AwardDesk$RoadMaker", "measure", "(I)V"⟩, 3) := ⟨⟨by decide +kernel, by decide +kernel⟩, List.mem_of_getElem? (i := 79) (by decide +kernel), List.mem_of_getElem? (i := 347) (by decide +kernel), List.mem_of_getElem? (i := 348) (by decide +kernel)⟩
theorem lw_p1 : lw_okq (⟨"AwardDesk$RoadMaker", "price", "(I)I"⟩, 3) := ⟨⟨by decide +kernel, by decide +kernel⟩, List.mem_of_getElem? (i := 79) (by decide +kernel), List.mem_of_getElem? (i := 353) (by decide +kernel), List.mem_of_getElem? (i := 354) (by decide +kernel)⟩
theorem lw_p2 : lw_okq (⟨"AwardDesk$RoadMaker", "nearestUnsettled", "()I"⟩, 3) := ⟨⟨by decide +kernel, by decide +kernel⟩, List.mem_of_getElem? (i := 79) (by decide +kernel), List.mem_of_getElem? (i := 361) (by decide +kernel), List.mem_of_getElem? (i := 362) (by decide +kernel)⟩
theorem lw_p3 : lw_okq (⟨"AwardDesk$RoadMaker", "cellBefore", "(I)I"⟩, 3) := ⟨⟨by decide +kernel, by decide +kernel⟩, List.mem_of_getElem? (i := 79) (by decide +kernel), List.mem_of_getElem? (i := 371) (by decide +kernel), List.mem_of_getElem? (i := 372) (by decide +kernel)⟩
theorem lw_p4 : lw_okq (⟨"AwardDesk$Shares", "giveStrip", "(III)V"⟩, 8) := ⟨⟨by decide +kernel, by decide +kernel⟩, List.mem_of_getElem? (i := 172) (by decide +kernel), List.mem_of_getElem? (i := 486) (by decide +kernel), List.mem_of_getElem? (i := 487) (by decide +kernel)⟩
theorem lw_p5 : lw_okq (⟨"AwardDesk$Shares", "giveCommon", "(III)V"⟩, 8) := ⟨⟨by decide +kernel, by decide +kernel⟩, List.mem_of_getElem? (i := 172) (by decide +kernel), List.mem_of_getElem? (i := 490) (by decide +kernel), List.mem_of_getElem? (i := 491) (by decide +kernel)⟩
theorem lw_p6 : lw_okq (⟨"AwardDesk$Shares", "part", "(I[I[I)V"⟩, 8) := ⟨⟨by decide +kernel, by decide +kernel⟩, List.mem_of_getElem? (i := 172) (by decide +kernel), List.mem_of_getElem? (i := 520) (by decide +kernel), List.mem_of_getElem? (i := 521) (by decide +kernel)⟩
theorem lw_p7 : lw_okq (⟨"AwardDesk$Shares", "greatestRest", "()I"⟩, 8) := ⟨⟨by decide +kernel, by decide +kernel⟩, List.mem_of_getElem? (i := 172) (by decide +kernel), List.mem_of_getElem? (i := 524) (by decide +kernel), List.mem_of_getElem? (i := 525) (by decide +kernel)⟩
theorem lw_p8 : lw_okq (⟨"AwardDesk$PlotBook", "isInPlotAhead", "(II)Z"⟩, 4) := ⟨⟨by decide +kernel, by decide +kernel⟩, List.mem_of_getElem? (i := 207) (by decide +kernel), List.mem_of_getElem? (i := 580) (by decide +kernel), List.mem_of_getElem? (i := 581) (by decide +kernel)⟩
theorem lw_p9 : lw_okq (⟨"AwardDesk$Drawing", "findSites", "()V"⟩, 19) := ⟨⟨by decide +kernel, by decide +kernel⟩, List.mem_of_getElem? (i := 623) (by decide +kernel), List.mem_of_getElem? (i := 693) (by decide +kernel), List.mem_of_getElem? (i := 694) (by decide +kernel)⟩
theorem lw_p10 : lw_okq (⟨"AwardDesk$Drawing", "findSitesDown", "(IIJJ)V"⟩, 19) := ⟨⟨by decide +kernel, by decide +kernel⟩, List.mem_of_getElem? (i := 623) (by decide +kernel), List.mem_of_getElem? (i := 704) (by decide +kernel), List.mem_of_getElem? (i := 705) (by decide +kernel)⟩
theorem lw_p11 : lw_okq (⟨"AwardDesk$Drawing", "findTakers", "([IIZ)V"⟩, 19) := ⟨⟨by decide +kernel, by decide +kernel⟩, List.mem_of_getElem? (i := 623) (by decide +kernel), List.mem_of_getElem? (i := 710) (by decide +kernel), List.mem_of_getElem? (i := 711) (by decide +kernel)⟩
theorem lw_p12 : lw_okq (⟨"AwardDesk$Drawing", "findChoices", "(IIIZ)V"⟩, 19) := ⟨⟨by decide +kernel, by decide +kernel⟩, List.mem_of_getElem? (i := 623) (by decide +kernel), List.mem_of_getElem? (i := 714) (by decide +kernel), List.mem_of_getElem? (i := 715) (by decide +kernel)⟩
theorem lw_p13 : lw_okq (⟨"AwardDesk$Drawing", "putFrom", "(IJJI)V"⟩, 19) := ⟨⟨by decide +kernel, by decide +kernel⟩, List.mem_of_getElem? (i := 623) (by decide +kernel), List.mem_of_getElem? (i := 722) (by decide +kernel), List.mem_of_getElem? (i := 723) (by decide +kernel)⟩
theorem lw_p14 : lw_okq (⟨"AwardDeskModel", "clearLand", "()V"⟩, 57) := ⟨⟨by decide +kernel, by decide +kernel⟩, List.mem_of_getElem? (i := 758) (by decide +kernel), List.mem_of_getElem? (i := 764) (by decide +kernel), List.mem_of_getElem? (i := 765) (by decide +kernel)⟩
theorem lw_p15 : lw_okq (⟨"AwardDeskModel", "cells", "()I"⟩, 57) := ⟨⟨by decide +kernel, by decide +kernel⟩, List.mem_of_getElem? (i := 758) (by decide +kernel), List.mem_of_getElem? (i := 947) (by decide +kernel), List.mem_of_getElem? (i := 948) (by decide +kernel)⟩
def lw_privs_1 : List (MethodName × Nat) := [(⟨"AwardDesk$RoadMaker", "measure", "(I)V"⟩, 3), (⟨"AwardDesk$RoadMaker", "price", "(I)I"⟩, 3), (⟨"AwardDesk$RoadMaker", "nearestUnsettled", "()I"⟩, 3), (⟨"AwardDesk$RoadMaker", "cellBefore", "(I)I"⟩, 3), (⟨"AwardDesk$Shares", "giveStrip", "(III)V"⟩, 8), (⟨"AwardDesk$Shares", "giveCommon", "(III)V"⟩, 8), (⟨"AwardDesk$Shares", "part", "(I[I[I)V"⟩, 8), (⟨"AwardDesk$Shares", "greatestRest", "()I"⟩, 8), (⟨"AwardDesk$PlotBook", "isInPlotAhead", "(II)Z"⟩, 4), (⟨"AwardDesk$Drawing", "findSites", "()V"⟩, 19), (⟨"AwardDesk$Drawing", "findSitesDown", "(IIJJ)V"⟩, 19), (⟨"AwardDesk$Drawing", "findTakers", "([IIZ)V"⟩, 19), (⟨"AwardDesk$Drawing", "findChoices", "(IIIZ)V"⟩, 19), (⟨"AwardDesk$Drawing", "putFrom", "(IJJI)V"⟩, 19), (⟨"AwardDeskModel", "clearLand", "()V"⟩, 57), (⟨"AwardDeskModel", "cells", "()I"⟩, 57)]
theorem lw_r1 : ∀ q ∈ lw_privs_1, lw_okq q := List.forall_mem_cons.mpr ⟨lw_p0, List.forall_mem_cons.mpr ⟨lw_p1, List.forall_mem_cons.mpr ⟨lw_p2, List.forall_mem_cons.mpr ⟨lw_p3, List.forall_mem_cons.mpr ⟨lw_p4, List.forall_mem_cons.mpr ⟨lw_p5, List.forall_mem_cons.mpr ⟨lw_p6, List.forall_mem_cons.mpr ⟨lw_p7, List.forall_mem_cons.mpr ⟨lw_p8, List.forall_mem_cons.mpr ⟨lw_p9, List.forall_mem_cons.mpr ⟨lw_p10, List.forall_mem_cons.mpr ⟨lw_p11, List.forall_mem_cons.mpr ⟨lw_p12, List.forall_mem_cons.mpr ⟨lw_p13, List.forall_mem_cons.mpr ⟨lw_p14, List.forall_mem_cons.mpr ⟨lw_p15, fun _ h => absurd h List.not_mem_nil⟩⟩⟩⟩⟩⟩⟩⟩⟩⟩⟩⟩⟩⟩⟩⟩
theorem lw_p16 : lw_okq (⟨"AwardDeskModel", "isCell", "(I)Z"⟩, 57) := ⟨⟨by decide +kernel, by decide +kernel⟩, List.mem_of_getElem? (i := 758) (by decide +kernel), List.mem_of_getElem? (i := 955) (by decide +kernel), List.mem_of_getElem? (i := 956) (by decide +kernel)⟩
theorem lw_p17 : lw_okq (⟨"AwardDeskModel", "toldOf", "(II)I"⟩, 57) := ⟨⟨by decide +kernel, by decide +kernel⟩, List.mem_of_getElem? (i := 758) (by decide +kernel), List.mem_of_getElem? (i := 959) (by decide +kernel), List.mem_of_getElem? (i := 960) (by decide +kernel)⟩
theorem lw_p18 : lw_okq (⟨"AwardDeskModel", "findPrices", "(I)V"⟩, 57) := ⟨⟨by decide +kernel, by decide +kernel⟩, List.mem_of_getElem? (i := 758) (by decide +kernel), List.mem_of_getElem? (i := 994) (by decide +kernel), List.mem_of_getElem? (i := 995) (by decide +kernel)⟩
theorem lw_p19 : lw_okq (⟨"AwardDeskModel", "priceOf", "(I)I"⟩, 57) := ⟨⟨by decide +kernel, by decide +kernel⟩, List.mem_of_getElem? (i := 758) (by decide +kernel), List.mem_of_getElem? (i := 998) (by decide +kernel), List.mem_of_getElem? (i := 999) (by decide +kernel)⟩
theorem lw_p20 : lw_okq (⟨"AwardDeskModel", "beside", "(II)I"⟩, 57) := ⟨⟨by decide +kernel, by decide +kernel⟩, List.mem_of_getElem? (i := 758) (by decide +kernel), List.mem_of_getElem? (i := 1003) (by decide +kernel), List.mem_of_getElem? (i := 1004) (by decide +kernel)⟩
theorem lw_p21 : lw_okq (⟨"AwardDeskModel", "cameFrom", "(I)I"⟩, 57) := ⟨⟨by decide +kernel, by decide +kernel⟩, List.mem_of_getElem? (i := 758) (by decide +kernel), List.mem_of_getElem? (i := 1007) (by decide +kernel), List.mem_of_getElem? (i := 1008) (by decide +kernel)⟩
theorem lw_p22 : lw_okq (⟨"AwardDeskModel", "isPerson", "(I)Z"⟩, 57) := ⟨⟨by decide +kernel, by decide +kernel⟩, List.mem_of_getElem? (i := 758) (by decide +kernel), List.mem_of_getElem? (i := 1019) (by decide +kernel), List.mem_of_getElem? (i := 1020) (by decide +kernel)⟩
theorem lw_p23 : lw_okq (⟨"AwardDeskModel", "isUpheld", "(I)Z"⟩, 57) := ⟨⟨by decide +kernel, by decide +kernel⟩, List.mem_of_getElem? (i := 758) (by decide +kernel), List.mem_of_getElem? (i := 1046) (by decide +kernel), List.mem_of_getElem? (i := 1047) (by decide +kernel)⟩
theorem lw_p24 : lw_okq (⟨"AwardDeskModel", "holderOf", "(II)I"⟩, 57) := ⟨⟨by decide +kernel, by decide +kernel⟩, List.mem_of_getElem? (i := 758) (by decide +kernel), List.mem_of_getElem? (i := 1050) (by decide +kernel), List.mem_of_getElem? (i := 1051) (by decide +kernel)⟩
theorem lw_p25 : lw_okq (⟨"AwardDeskModel", "counts", "(II)Z"⟩, 57) := ⟨⟨by decide +kernel, by decide +kernel⟩, List.mem_of_getElem? (i := 758) (by decide +kernel), List.mem_of_getElem? (i := 1054) (by decide +kernel), List.mem_of_getElem? (i := 1055) (by decide +kernel)⟩
theorem lw_p26 : lw_okq (⟨"AwardDeskModel", "findDues", "(IZ[I)V"⟩, 57) := ⟨⟨by decide +kernel, by decide +kernel⟩, List.mem_of_getElem? (i := 758) (by decide +kernel), List.mem_of_getElem? (i := 1066) (by decide +kernel), List.mem_of_getElem? (i := 1067) (by decide +kernel)⟩
theorem lw_p27 : lw_okq (⟨"AwardDeskModel", "findWeights", "(I)V"⟩, 57) := ⟨⟨by decide +kernel, by decide +kernel⟩, List.mem_of_getElem? (i := 758) (by decide +kernel), List.mem_of_getElem? (i := 1070) (by decide +kernel), List.mem_of_getElem? (i := 1071) (by decide +kernel)⟩
theorem lw_p28 : lw_okq (⟨"AwardDeskModel", "isPlain", "(I)Z"⟩, 57) := ⟨⟨by decide +kernel, by decide +kernel⟩, List.mem_of_getElem? (i := 758) (by decide +kernel), List.mem_of_getElem? (i := 1074) (by decide +kernel), List.mem_of_getElem? (i := 1075) (by decide +kernel)⟩
theorem lw_p29 : lw_okq (⟨"AwardDeskModel", "objectionOn", "(II)I"⟩, 57) := ⟨⟨by decide +kernel, by decide +kernel⟩, List.mem_of_getElem? (i := 758) (by decide +kernel), List.mem_of_getElem? (i := 1078) (by decide +kernel), List.mem_of_getElem? (i := 1079) (by decide +kernel)⟩
theorem lw_p30 : lw_okq (⟨"AwardDeskModel", "comes", "(II)V"⟩, 57) := ⟨⟨by decide +kernel, by decide +kernel⟩, List.mem_of_getElem? (i := 758) (by decide +kernel), List.mem_of_getElem? (i := 1082) (by decide +kernel), List.mem_of_getElem? (i := 1083) (by decide +kernel)⟩
theorem lw_p31 : lw_okq (⟨"AwardDeskModel", "firstOf", "(I)I"⟩, 57) := ⟨⟨by decide +kernel, by decide +kernel⟩, List.mem_of_getElem? (i := 758) (by decide +kernel), List.mem_of_getElem? (i := 1086) (by decide +kernel), List.mem_of_getElem? (i := 1087) (by decide +kernel)⟩
def lw_privs_2 : List (MethodName × Nat) := [(⟨"AwardDeskModel", "isCell", "(I)Z"⟩, 57), (⟨"AwardDeskModel", "toldOf", "(II)I"⟩, 57), (⟨"AwardDeskModel", "findPrices", "(I)V"⟩, 57), (⟨"AwardDeskModel", "priceOf", "(I)I"⟩, 57), (⟨"AwardDeskModel", "beside", "(II)I"⟩, 57), (⟨"AwardDeskModel", "cameFrom", "(I)I"⟩, 57), (⟨"AwardDeskModel", "isPerson", "(I)Z"⟩, 57), (⟨"AwardDeskModel", "isUpheld", "(I)Z"⟩, 57), (⟨"AwardDeskModel", "holderOf", "(II)I"⟩, 57), (⟨"AwardDeskModel", "counts", "(II)Z"⟩, 57), (⟨"AwardDeskModel", "findDues", "(IZ[I)V"⟩, 57), (⟨"AwardDeskModel", "findWeights", "(I)V"⟩, 57), (⟨"AwardDeskModel", "isPlain", "(I)Z"⟩, 57), (⟨"AwardDeskModel", "objectionOn", "(II)I"⟩, 57), (⟨"AwardDeskModel", "comes", "(II)V"⟩, 57), (⟨"AwardDeskModel", "firstOf", "(I)I"⟩, 57)]
theorem lw_r2 : ∀ q ∈ lw_privs_2, lw_okq q := List.forall_mem_cons.mpr ⟨lw_p16, List.forall_mem_cons.mpr ⟨lw_p17, List.forall_mem_cons.mpr ⟨lw_p18, List.forall_mem_cons.mpr ⟨lw_p19, List.forall_mem_cons.mpr ⟨lw_p20, List.forall_mem_cons.mpr ⟨lw_p21, List.forall_mem_cons.mpr ⟨lw_p22, List.forall_mem_cons.mpr ⟨lw_p23, List.forall_mem_cons.mpr ⟨lw_p24, List.forall_mem_cons.mpr ⟨lw_p25, List.forall_mem_cons.mpr ⟨lw_p26, List.forall_mem_cons.mpr ⟨lw_p27, List.forall_mem_cons.mpr ⟨lw_p28, List.forall_mem_cons.mpr ⟨lw_p29, List.forall_mem_cons.mpr ⟨lw_p30, List.forall_mem_cons.mpr ⟨lw_p31, fun _ h => absurd h List.not_mem_nil⟩⟩⟩⟩⟩⟩⟩⟩⟩⟩⟩⟩⟩⟩⟩⟩
theorem lw_p32 : lw_okq (⟨"AwardDeskModel", "gatesOf", "(II)I"⟩, 57) := ⟨⟨by decide +kernel, by decide +kernel⟩, List.mem_of_getElem? (i := 758) (by decide +kernel), List.mem_of_getElem? (i := 1090) (by decide +kernel), List.mem_of_getElem? (i := 1091) (by decide +kernel)⟩
theorem lw_p33 : lw_okq (⟨"AwardDeskModel", "part", "(I[I[I)V"⟩, 57) := ⟨⟨by decide +kernel, by decide +kernel⟩, List.mem_of_getElem? (i := 758) (by decide +kernel), List.mem_of_getElem? (i := 1094) (by decide +kernel), List.mem_of_getElem? (i := 1095) (by decide +kernel)⟩
theorem lw_p34 : lw_okq (⟨"AwardDeskModel", "goodOf", "(II)I"⟩, 57) := ⟨⟨by decide +kernel, by decide +kernel⟩, List.mem_of_getElem? (i := 758) (by decide +kernel), List.mem_of_getElem? (i := 1114) (by decide +kernel), List.mem_of_getElem? (i := 1115) (by decide +kernel)⟩
theorem lw_p35 : lw_okq (⟨"AwardDeskModel", "isIn", "(II)Z"⟩, 57) := ⟨⟨by decide +kernel, by decide +kernel⟩, List.mem_of_getElem? (i := 758) (by decide +kernel), List.mem_of_getElem? (i := 1118) (by decide +kernel), List.mem_of_getElem? (i := 1119) (by decide +kernel)⟩
theorem lw_p36 : lw_okq (⟨"AwardDeskModel", "isAhead", "(II)Z"⟩, 57) := ⟨⟨by decide +kernel, by decide +kernel⟩, List.mem_of_getElem? (i := 758) (by decide +kernel), List.mem_of_getElem? (i := 1122) (by decide +kernel), List.mem_of_getElem? (i := 1123) (by decide +kernel)⟩
theorem lw_p37 : lw_okq (⟨"AwardDeskModel", "isByRoad", "(I)Z"⟩, 57) := ⟨⟨by decide +kernel, by decide +kernel⟩, List.mem_of_getElem? (i := 758) (by decide +kernel), List.mem_of_getElem? (i := 1126) (by decide +kernel), List.mem_of_getElem? (i := 1127) (by decide +kernel)⟩
theorem lw_p38 : lw_okq (⟨"AwardDeskModel", "worthOf", "(I)I"⟩, 57) := ⟨⟨by decide +kernel, by decide +kernel⟩, List.mem_of_getElem? (i := 758) (by decide +kernel), List.mem_of_getElem? (i := 1130) (by decide +kernel), List.mem_of_getElem? (i := 1131) (by decide +kernel)⟩
theorem lw_p39 : lw_okq (⟨"AwardDeskModel", "farOf", "(I)I"⟩, 57) := ⟨⟨by decide +kernel, by decide +kernel⟩, List.mem_of_getElem? (i := 758) (by decide +kernel), List.mem_of_getElem? (i := 1138) (by decide +kernel), List.mem_of_getElem? (i := 1139) (by decide +kernel)⟩
theorem lw_p40 : lw_okq (⟨"AwardDeskModel", "hedgeOf", "(I)I"⟩, 57) := ⟨⟨by decide +kernel, by decide +kernel⟩, List.mem_of_getElem? (i := 758) (by decide +kernel), List.mem_of_getElem? (i := 1142) (by decide +kernel), List.mem_of_getElem? (i := 1143) (by decide +kernel)⟩
theorem lw_p41 : lw_okq (⟨"AwardDeskModel", "findRects", "()V"⟩, 57) := ⟨⟨by decide +kernel, by decide +kernel⟩, List.mem_of_getElem? (i := 758) (by decide +kernel), List.mem_of_getElem? (i := 1150) (by decide +kernel), List.mem_of_getElem? (i := 1151) (by decide +kernel)⟩
theorem lw_p42 : lw_okq (⟨"AwardDeskModel", "addRect", "(III)V"⟩, 57) := ⟨⟨by decide +kernel, by decide +kernel⟩, List.mem_of_getElem? (i := 758) (by decide +kernel), List.mem_of_getElem? (i := 1154) (by decide +kernel), List.mem_of_getElem? (i := 1155) (by decide +kernel)⟩
theorem lw_p43 : lw_okq (⟨"AwardDeskModel", "drawFrom", "(IJJI)V"⟩, 57) := ⟨⟨by decide +kernel, by decide +kernel⟩, List.mem_of_getElem? (i := 758) (by decide +kernel), List.mem_of_getElem? (i := 1158) (by decide +kernel), List.mem_of_getElem? (i := 1159) (by decide +kernel)⟩
theorem lw_p44 : lw_okq (⟨"AwardDeskModel", "costOf", "(II)I"⟩, 57) := ⟨⟨by decide +kernel, by decide +kernel⟩, List.mem_of_getElem? (i := 758) (by decide +kernel), List.mem_of_getElem? (i := 1162) (by decide +kernel), List.mem_of_getElem? (i := 1163) (by decide +kernel)⟩
def lw_privs_3 : List (MethodName × Nat) := [(⟨"AwardDeskModel", "gatesOf", "(II)I"⟩, 57), (⟨"AwardDeskModel", "part", "(I[I[I)V"⟩, 57), (⟨"AwardDeskModel", "goodOf", "(II)I"⟩, 57), (⟨"AwardDeskModel", "isIn", "(II)Z"⟩, 57), (⟨"AwardDeskModel", "isAhead", "(II)Z"⟩, 57), (⟨"AwardDeskModel", "isByRoad", "(I)Z"⟩, 57), (⟨"AwardDeskModel", "worthOf", "(I)I"⟩, 57), (⟨"AwardDeskModel", "farOf", "(I)I"⟩, 57), (⟨"AwardDeskModel", "hedgeOf", "(I)I"⟩, 57), (⟨"AwardDeskModel", "findRects", "()V"⟩, 57), (⟨"AwardDeskModel", "addRect", "(III)V"⟩, 57), (⟨"AwardDeskModel", "drawFrom", "(IJJI)V"⟩, 57), (⟨"AwardDeskModel", "costOf", "(II)I"⟩, 57)]
theorem lw_r3 : ∀ q ∈ lw_privs_3, lw_okq q := List.forall_mem_cons.mpr ⟨lw_p32, List.forall_mem_cons.mpr ⟨lw_p33, List.forall_mem_cons.mpr ⟨lw_p34, List.forall_mem_cons.mpr ⟨lw_p35, List.forall_mem_cons.mpr ⟨lw_p36, List.forall_mem_cons.mpr ⟨lw_p37, List.forall_mem_cons.mpr ⟨lw_p38, List.forall_mem_cons.mpr ⟨lw_p39, List.forall_mem_cons.mpr ⟨lw_p40, List.forall_mem_cons.mpr ⟨lw_p41, List.forall_mem_cons.mpr ⟨lw_p42, List.forall_mem_cons.mpr ⟨lw_p43, List.forall_mem_cons.mpr ⟨lw_p44, fun _ h => absurd h List.not_mem_nil⟩⟩⟩⟩⟩⟩⟩⟩⟩⟩⟩⟩⟩
def lw_privs : List (MethodName × Nat) := lw_privs_1 ++ (lw_privs_2 ++ (lw_privs_3))
def lw_tbl : List Cond := k2_sels lw_privs ++ tables_1
theorem lw_privs_ok : ∀ q ∈ lw_privs, lw_okq q := by
  show ∀ q ∈ lw_privs_1 ++ (lw_privs_2 ++ (lw_privs_3)), lw_okq q
  exact List.forall_mem_append.mpr ⟨lw_r1, List.forall_mem_append.mpr ⟨lw_r2, lw_r3⟩⟩
end
section
def RX0 : String := "AwardDesk$Drawing"
def TX0 : u_T := fun k => match k with
  | 0 => ("AwardDesk$Drawing", "ground", "LAwardDesk$Ground;", true)
  | 1 => ("AwardDesk$Drawing", "roll", "LAwardDesk$Roll;", true)
  | 2 => ("AwardDesk$Drawing", "plots", "LAwardDesk$PlotBook;", true)
  | 3 => ("AwardDesk$Drawing", "sites", "I", false)
  | 4 => ("AwardDesk$Drawing", "takers", "I", false)
  | 5 => ("AwardDesk$Drawing", "tries", "I", false)
  | 6 => ("AwardDesk$Drawing", "most", "I", false)
  | 7 => ("AwardDesk$Drawing", "best", "I", false)
  | 8 => ("AwardDesk$Drawing", "spent", "Z", false)
  | 9 => ("AwardDesk$Drawing", "shapes", "[I", true)
  | 10 => ("AwardDesk$Drawing", "worths", "[I", true)
  | 11 => ("AwardDesk$Drawing", "lows", "[J", true)
  | 12 => ("AwardDesk$Drawing", "highs", "[J", true)
  | 13 => ("AwardDesk$Drawing", "choices", "[[I", true)
  | 14 => ("AwardDesk$Drawing", "many", "[I", true)
  | 15 => ("AwardDesk$Drawing", "leastCosts", "[I", true)
  | 16 => ("AwardDesk$Drawing", "takerOf", "[I", true)
  | 17 => ("AwardDesk$Drawing", "put", "[I", true)
  | _ => ("AwardDesk$Drawing", "bestPut", "[I", true)
def tyX0 : Nat → FieldType := fun k => match k with
  | 0 => .object "AwardDesk$Ground"
  | 1 => .object "AwardDesk$Roll"
  | 2 => .object "AwardDesk$PlotBook"
  | 3 => .int
  | 4 => .int
  | 5 => .int
  | 6 => .int
  | 7 => .int
  | 8 => .boolean
  | 9 => .array .int
  | 10 => .array .int
  | 11 => .array .long
  | 12 => .array .long
  | 13 => .array (.array .int)
  | 14 => .array .int
  | 15 => .array .int
  | 16 => .array .int
  | 17 => .array .int
  | _ => .array .int
theorem nmX0 : ∀ a, a < 19 → ∀ b, b < 19 → a ≠ b → (TX0 a).2.1 ≠ (TX0 b).2.1 := by decide +kernel
theorem tyX0_ok : ∀ k, k < 19 → parseFieldDescriptor (TX0 k).2.2.1 = some (tyX0 k) := by decide +kernel
abbrev cX0_init : ByteArray := prog_2_method_1_code
def yX0_init : MethodName := ⟨RX0, "<init>", "(LAwardDesk$Ground;LAwardDesk$Roll;LAwardDesk$PlotBook;)V"⟩
abbrev cX0_run : ByteArray := prog_2_method_2_code
def yX0_run : MethodName := ⟨RX0, "run", "([IIIZ)I"⟩
abbrev cX0_findSites : ByteArray := prog_2_method_3_code
def yX0_findSites : MethodName := ⟨RX0, "findSites", "()V"⟩
abbrev cX0_findSitesDown : ByteArray := prog_2_method_4_code
def yX0_findSitesDown : MethodName := ⟨RX0, "findSitesDown", "(IIJJ)V"⟩
abbrev cX0_lowBit : ByteArray := prog_2_method_5_code
def yX0_lowBit : MethodName := ⟨RX0, "lowBit", "(I)J"⟩
abbrev cX0_highBit : ByteArray := prog_2_method_6_code
def yX0_highBit : MethodName := ⟨RX0, "highBit", "(I)J"⟩
abbrev cX0_findTakers : ByteArray := prog_2_method_7_code
def yX0_findTakers : MethodName := ⟨RX0, "findTakers", "([IIZ)V"⟩
abbrev cX0_findChoices : ByteArray := prog_2_method_8_code
def yX0_findChoices : MethodName := ⟨RX0, "findChoices", "(IIIZ)V"⟩
abbrev cX0_putFrom : ByteArray := prog_2_method_9_code
def yX0_putFrom : MethodName := ⟨RX0, "putFrom", "(IJJI)V"⟩
def RX1 : String := "AwardDesk$Ground"
def TX1 : u_T := fun k => match k with
  | 0 => ("AwardDesk$Ground", "wide", "I", false)
  | 1 => ("AwardDesk$Ground", "high", "I", false)
  | 2 => ("AwardDesk$Ground", "size", "I", false)
  | 3 => ("AwardDesk$Ground", "expense", "I", false)
  | 4 => ("AwardDesk$Ground", "marks", "[[I", true)
  | 5 => ("AwardDesk$Ground", "columns", "[I", true)
  | _ => ("AwardDesk$Ground", "rows", "[I", true)
def tyX1 : Nat → FieldType := fun k => match k with
  | 0 => .int
  | 1 => .int
  | 2 => .int
  | 3 => .int
  | 4 => .array (.array .int)
  | 5 => .array .int
  | _ => .array .int
theorem nmX1 : ∀ a, a < 7 → ∀ b, b < 7 → a ≠ b → (TX1 a).2.1 ≠ (TX1 b).2.1 := by decide +kernel
theorem tyX1_ok : ∀ k, k < 7 → parseFieldDescriptor (TX1 k).2.2.1 = some (tyX1 k) := by decide +kernel
abbrev cX1_init : ByteArray := prog_3_method_1_code
def yX1_init : MethodName := ⟨RX1, "<init>", "()V"⟩
abbrev cX1_renew : ByteArray := prog_3_method_2_code
def yX1_renew : MethodName := ⟨RX1, "renew", "(II)V"⟩
abbrev cX1_isCell : ByteArray := prog_3_method_3_code
def yX1_isCell : MethodName := ⟨RX1, "isCell", "(I)Z"⟩
abbrev cX1_isClose : ByteArray := prog_3_method_4_code
def yX1_isClose : MethodName := ⟨RX1, "isClose", "(I)Z"⟩
abbrev cX1_isRoad : ByteArray := prog_3_method_5_code
def yX1_isRoad : MethodName := ⟨RX1, "isRoad", "(I)Z"⟩
abbrev cX1_isPlain : ByteArray := prog_3_method_6_code
def yX1_isPlain : MethodName := ⟨RX1, "isPlain", "(I)Z"⟩
abbrev cX1_beside : ByteArray := prog_3_method_7_code
def yX1_beside : MethodName := ⟨RX1, "beside", "(II)I"⟩
abbrev cX1_isBesideRoad : ByteArray := prog_3_method_8_code
def yX1_isBesideRoad : MethodName := ⟨RX1, "isBesideRoad", "(I)Z"⟩
abbrev cX1_roadCells : ByteArray := prog_3_method_9_code
def yX1_roadCells : MethodName := ⟨RX1, "roadCells", "()I"⟩
abbrev cX1_isInside : ByteArray := prog_3_method_10_code
def yX1_isInside : MethodName := ⟨RX1, "isInside", "(I)Z"⟩
abbrev cX1_isIn : ByteArray := prog_3_method_11_code
def yX1_isIn : MethodName := ⟨RX1, "isIn", "(II)Z"⟩
abbrev cX1_stepsTo : ByteArray := prog_3_method_12_code
def yX1_stepsTo : MethodName := ⟨RX1, "stepsTo", "(II)I"⟩
abbrev cX1_gap : ByteArray := prog_3_method_13_code
def yX1_gap : MethodName := ⟨RX1, "gap", "(III)I"⟩
def RX2 : String := "AwardDesk$PlotBook"
def TX2 : u_T := fun k => match k with
  | 0 => ("AwardDesk$PlotBook", "ground", "LAwardDesk$Ground;", true)
  | 1 => ("AwardDesk$PlotBook", "roll", "LAwardDesk$Roll;", true)
  | 2 => ("AwardDesk$PlotBook", "shapes", "[I", true)
  | _ => ("AwardDesk$PlotBook", "hedgeDays", "[I", true)
def tyX2 : Nat → FieldType := fun k => match k with
  | 0 => .object "AwardDesk$Ground"
  | 1 => .object "AwardDesk$Roll"
  | 2 => .array .int
  | _ => .array .int
theorem nmX2 : ∀ a, a < 4 → ∀ b, b < 4 → a ≠ b → (TX2 a).2.1 ≠ (TX2 b).2.1 := by decide +kernel
theorem tyX2_ok : ∀ k, k < 4 → parseFieldDescriptor (TX2 k).2.2.1 = some (tyX2 k) := by decide +kernel
abbrev cX2_init : ByteArray := prog_4_method_1_code
def yX2_init : MethodName := ⟨RX2, "<init>", "(LAwardDesk$Ground;LAwardDesk$Roll;)V"⟩
abbrev cX2_clear : ByteArray := prog_4_method_2_code
def yX2_clear : MethodName := ⟨RX2, "clear", "()V"⟩
abbrev cX2_isDrawn : ByteArray := prog_4_method_3_code
def yX2_isDrawn : MethodName := ⟨RX2, "isDrawn", "(I)Z"⟩
abbrev cX2_drawnPlots : ByteArray := prog_4_method_4_code
def yX2_drawnPlots : MethodName := ⟨RX2, "drawnPlots", "()I"⟩
abbrev cX2_isInPlotAhead : ByteArray := prog_4_method_5_code
def yX2_isInPlotAhead : MethodName := ⟨RX2, "isInPlotAhead", "(II)Z"⟩
abbrev cX2_faultOf : ByteArray := prog_4_method_6_code
def yX2_faultOf : MethodName := ⟨RX2, "faultOf", "(III)I"⟩
abbrev cX2_worthOf : ByteArray := prog_4_method_7_code
def yX2_worthOf : MethodName := ⟨RX2, "worthOf", "(I)I"⟩
abbrev cX2_hedgeOf : ByteArray := prog_4_method_8_code
def yX2_hedgeOf : MethodName := ⟨RX2, "hedgeOf", "(I)I"⟩
def RX3 : String := "AwardDesk$RoadMaker"
def TX3 : u_T := fun k => match k with
  | 0 => ("AwardDesk$RoadMaker", "ground", "LAwardDesk$Ground;", true)
  | 1 => ("AwardDesk$RoadMaker", "reach", "[I", true)
  | _ => ("AwardDesk$RoadMaker", "settled", "[Z", true)
def tyX3 : Nat → FieldType := fun k => match k with
  | 0 => .object "AwardDesk$Ground"
  | 1 => .array .int
  | _ => .array .boolean
theorem nmX3 : ∀ a, a < 3 → ∀ b, b < 3 → a ≠ b → (TX3 a).2.1 ≠ (TX3 b).2.1 := by decide +kernel
theorem tyX3_ok : ∀ k, k < 3 → parseFieldDescriptor (TX3 k).2.2.1 = some (tyX3 k) := by decide +kernel
abbrev cX3_init : ByteArray := prog_5_method_1_code
def yX3_init : MethodName := ⟨RX3, "<init>", "(LAwardDesk$Ground;)V"⟩
abbrev cX3_lay : ByteArray := prog_5_method_2_code
def yX3_lay : MethodName := ⟨RX3, "lay", "(II)I"⟩
abbrev cX3_measure : ByteArray := prog_5_method_3_code
def yX3_measure : MethodName := ⟨RX3, "measure", "(I)V"⟩
abbrev cX3_nearestUnsettled : ByteArray := prog_5_method_4_code
def yX3_nearestUnsettled : MethodName := ⟨RX3, "nearestUnsettled", "()I"⟩
abbrev cX3_cellBefore : ByteArray := prog_5_method_5_code
def yX3_cellBefore : MethodName := ⟨RX3, "cellBefore", "(I)I"⟩
abbrev cX3_price : ByteArray := prog_5_method_6_code
def yX3_price : MethodName := ⟨RX3, "price", "(I)I"⟩
def RX4 : String := "AwardDesk$Roll"
def TX4 : u_T := fun k => match k with
  | 0 => ("AwardDesk$Roll", "ground", "LAwardDesk$Ground;", true)
  | 1 => ("AwardDesk$Roll", "claimants", "I", false)
  | 2 => ("AwardDesk$Roll", "claims", "I", false)
  | 3 => ("AwardDesk$Roll", "objections", "I", false)
  | 4 => ("AwardDesk$Roll", "kinds", "[I", true)
  | 5 => ("AwardDesk$Roll", "homes", "[I", true)
  | 6 => ("AwardDesk$Roll", "claimBy", "[I", true)
  | 7 => ("AwardDesk$Roll", "claimWhat", "[I", true)
  | 8 => ("AwardDesk$Roll", "claimProof", "[I", true)
  | 9 => ("AwardDesk$Roll", "claimDay", "[I", true)
  | 10 => ("AwardDesk$Roll", "objectBy", "[I", true)
  | 11 => ("AwardDesk$Roll", "objectCell", "[I", true)
  | _ => ("AwardDesk$Roll", "objectDay", "[I", true)
def tyX4 : Nat → FieldType := fun k => match k with
  | 0 => .object "AwardDesk$Ground"
  | 1 => .int
  | 2 => .int
  | 3 => .int
  | 4 => .array .int
  | 5 => .array .int
  | 6 => .array .int
  | 7 => .array .int
  | 8 => .array .int
  | 9 => .array .int
  | 10 => .array .int
  | 11 => .array .int
  | _ => .array .int
theorem nmX4 : ∀ a, a < 13 → ∀ b, b < 13 → a ≠ b → (TX4 a).2.1 ≠ (TX4 b).2.1 := by decide +kernel
theorem tyX4_ok : ∀ k, k < 13 → parseFieldDescriptor (TX4 k).2.2.1 = some (tyX4 k) := by decide +kernel
abbrev cX4_init : ByteArray := prog_6_method_1_code
def yX4_init : MethodName := ⟨RX4, "<init>", "(LAwardDesk$Ground;)V"⟩
abbrev cX4_clear : ByteArray := prog_6_method_2_code
def yX4_clear : MethodName := ⟨RX4, "clear", "()V"⟩
abbrev cX4_isClaimant : ByteArray := prog_6_method_3_code
def yX4_isClaimant : MethodName := ⟨RX4, "isClaimant", "(I)Z"⟩
abbrev cX4_addClaimant : ByteArray := prog_6_method_4_code
def yX4_addClaimant : MethodName := ⟨RX4, "addClaimant", "(II)I"⟩
abbrev cX4_addClaim : ByteArray := prog_6_method_5_code
def yX4_addClaim : MethodName := ⟨RX4, "addClaim", "(IIII)I"⟩
abbrev cX4_addObjection : ByteArray := prog_6_method_6_code
def yX4_addObjection : MethodName := ⟨RX4, "addObjection", "(III)I"⟩
abbrev cX4_firstOfKind : ByteArray := prog_6_method_7_code
def yX4_firstOfKind : MethodName := ⟨RX4, "firstOfKind", "(I)I"⟩
abbrev cX4_claimantOf : ByteArray := prog_6_method_8_code
def yX4_claimantOf : MethodName := ⟨RX4, "claimantOf", "(I)I"⟩
abbrev cX4_lateClaims : ByteArray := prog_6_method_9_code
def yX4_lateClaims : MethodName := ⟨RX4, "lateClaims", "(I)I"⟩
abbrev cX4_holderAt : ByteArray := prog_6_method_10_code
def yX4_holderAt : MethodName := ⟨RX4, "holderAt", "(III)I"⟩
abbrev cX4_gatesOf : ByteArray := prog_6_method_11_code
def yX4_gatesOf : MethodName := ⟨RX4, "gatesOf", "(III)I"⟩
abbrev cX4_isUpheld : ByteArray := prog_6_method_12_code
def yX4_isUpheld : MethodName := ⟨RX4, "isUpheld", "(II)Z"⟩
abbrev cX4_upheldObjector : ByteArray := prog_6_method_13_code
def yX4_upheldObjector : MethodName := ⟨RX4, "upheldObjector", "(III)I"⟩
def RX5 : String := "AwardDesk$Shape"
def TX5 : u_T := fun k => match k with
  | _ => ("", "", "", false)
def tyX5 : Nat → FieldType := fun k => match k with
  | _ => .int
theorem nmX5 : ∀ a, a < 0 → ∀ b, b < 0 → a ≠ b → (TX5 a).2.1 ≠ (TX5 b).2.1 := by decide +kernel
theorem tyX5_ok : ∀ k, k < 0 → parseFieldDescriptor (TX5 k).2.2.1 = some (tyX5 k) := by decide +kernel
abbrev cX5_of : ByteArray := prog_7_method_2_code
def yX5_of : MethodName := ⟨RX5, "of", "(III)I"⟩
abbrev cX5_firstOf : ByteArray := prog_7_method_3_code
def yX5_firstOf : MethodName := ⟨RX5, "firstOf", "(I)I"⟩
abbrev cX5_wideOf : ByteArray := prog_7_method_4_code
def yX5_wideOf : MethodName := ⟨RX5, "wideOf", "(I)I"⟩
abbrev cX5_highOf : ByteArray := prog_7_method_5_code
def yX5_highOf : MethodName := ⟨RX5, "highOf", "(I)I"⟩
def RX6 : String := "AwardDesk$Shares"
def TX6 : u_T := fun k => match k with
  | 0 => ("AwardDesk$Shares", "ground", "LAwardDesk$Ground;", true)
  | 1 => ("AwardDesk$Shares", "roll", "LAwardDesk$Roll;", true)
  | 2 => ("AwardDesk$Shares", "rules", "[I", true)
  | 3 => ("AwardDesk$Shares", "weights", "[I", true)
  | 4 => ("AwardDesk$Shares", "dues", "[I", true)
  | 5 => ("AwardDesk$Shares", "rates", "[I", true)
  | 6 => ("AwardDesk$Shares", "gates", "[I", true)
  | _ => ("AwardDesk$Shares", "rests", "[J", true)
def tyX6 : Nat → FieldType := fun k => match k with
  | 0 => .object "AwardDesk$Ground"
  | 1 => .object "AwardDesk$Roll"
  | 2 => .array .int
  | 3 => .array .int
  | 4 => .array .int
  | 5 => .array .int
  | 6 => .array .int
  | _ => .array .long
theorem nmX6 : ∀ a, a < 8 → ∀ b, b < 8 → a ≠ b → (TX6 a).2.1 ≠ (TX6 b).2.1 := by decide +kernel
theorem tyX6_ok : ∀ k, k < 8 → parseFieldDescriptor (TX6 k).2.2.1 = some (tyX6 k) := by decide +kernel
abbrev cX6_init : ByteArray := prog_8_method_1_code
def yX6_init : MethodName := ⟨RX6, "<init>", "(LAwardDesk$Ground;LAwardDesk$Roll;[I)V"⟩
abbrev cX6_value : ByteArray := prog_8_method_2_code
def yX6_value : MethodName := ⟨RX6, "value", "()I"⟩
abbrev cX6_soldOf : ByteArray := prog_8_method_3_code
def yX6_soldOf : MethodName := ⟨RX6, "soldOf", "(I)I"⟩
abbrev cX6_titheOf : ByteArray := prog_8_method_4_code
def yX6_titheOf : MethodName := ⟨RX6, "titheOf", "(I)I"⟩
abbrev cX6_restOf : ByteArray := prog_8_method_5_code
def yX6_restOf : MethodName := ⟨RX6, "restOf", "(I)I"⟩
abbrev cX6_weigh : ByteArray := prog_8_method_6_code
def yX6_weigh : MethodName := ⟨RX6, "weigh", "(II)V"⟩
abbrev cX6_giveStrip : ByteArray := prog_8_method_7_code
def yX6_giveStrip : MethodName := ⟨RX6, "giveStrip", "(III)V"⟩
abbrev cX6_giveCommon : ByteArray := prog_8_method_8_code
def yX6_giveCommon : MethodName := ⟨RX6, "giveCommon", "(III)V"⟩
abbrev cX6_settleDues : ByteArray := prog_8_method_9_code
def yX6_settleDues : MethodName := ⟨RX6, "settleDues", "(II)V"⟩
abbrev cX6_settleRates : ByteArray := prog_8_method_10_code
def yX6_settleRates : MethodName := ⟨RX6, "settleRates", "(II)V"⟩
abbrev cX6_dueOf : ByteArray := prog_8_method_11_code
def yX6_dueOf : MethodName := ⟨RX6, "dueOf", "(III)I"⟩
abbrev cX6_coinOf : ByteArray := prog_8_method_12_code
def yX6_coinOf : MethodName := ⟨RX6, "coinOf", "(III)I"⟩
abbrev cX6_part : ByteArray := prog_8_method_13_code
def yX6_part : MethodName := ⟨RX6, "part", "(I[I[I)V"⟩
abbrev cX6_greatestRest : ByteArray := prog_8_method_14_code
def yX6_greatestRest : MethodName := ⟨RX6, "greatestRest", "()I"⟩
abbrev cX6_total : ByteArray := prog_8_method_15_code
def yX6_total : MethodName := ⟨RX6, "total", "([II)I"⟩
def RX7 : String := "AwardDesk$SurveyBook"
def TX7 : u_T := fun k => match k with
  | 0 => ("AwardDesk$SurveyBook", "rows", "[[I", true)
  | 1 => ("AwardDesk$SurveyBook", "widths", "[I", true)
  | _ => ("AwardDesk$SurveyBook", "lengths", "[I", true)
def tyX7 : Nat → FieldType := fun k => match k with
  | 0 => .array (.array .int)
  | 1 => .array .int
  | _ => .array .int
theorem nmX7 : ∀ a, a < 3 → ∀ b, b < 3 → a ≠ b → (TX7 a).2.1 ≠ (TX7 b).2.1 := by decide +kernel
theorem tyX7_ok : ∀ k, k < 3 → parseFieldDescriptor (TX7 k).2.2.1 = some (tyX7 k) := by decide +kernel
abbrev cX7_init : ByteArray := prog_9_method_1_code
def yX7_init : MethodName := ⟨RX7, "<init>", "()V"⟩
abbrev cX7_begin : ByteArray := prog_9_method_2_code
def yX7_begin : MethodName := ⟨RX7, "begin", "(III)V"⟩
abbrev cX7_isMissing : ByteArray := prog_9_method_3_code
def yX7_isMissing : MethodName := ⟨RX7, "isMissing", "(I)Z"⟩
abbrev cX7_reaches : ByteArray := prog_9_method_4_code
def yX7_reaches : MethodName := ⟨RX7, "reaches", "(III)Z"⟩
abbrev cX7_cut : ByteArray := prog_9_method_5_code
def yX7_cut : MethodName := ⟨RX7, "cut", "(II)I"⟩
abbrev cX7_present : ByteArray := prog_9_method_6_code
def yX7_present : MethodName := ⟨RX7, "present", "()I"⟩
def RX8 : String := "AwardDesk"
def TX8 : u_T := fun k => match k with
  | 0 => ("AwardDesk", "rules", "[I", true)
  | 1 => ("AwardDesk", "ground", "LAwardDesk$Ground;", true)
  | 2 => ("AwardDesk", "roadMaker", "LAwardDesk$RoadMaker;", true)
  | 3 => ("AwardDesk", "surveys", "LAwardDesk$SurveyBook;", true)
  | 4 => ("AwardDesk", "roll", "LAwardDesk$Roll;", true)
  | 5 => ("AwardDesk", "shares", "LAwardDesk$Shares;", true)
  | 6 => ("AwardDesk", "plots", "LAwardDesk$PlotBook;", true)
  | _ => ("AwardDesk", "drawing", "LAwardDesk$Drawing;", false)
def tyX8 : Nat → FieldType := fun k => match k with
  | 0 => .array .int
  | 1 => .object "AwardDesk$Ground"
  | 2 => .object "AwardDesk$RoadMaker"
  | 3 => .object "AwardDesk$SurveyBook"
  | 4 => .object "AwardDesk$Roll"
  | 5 => .object "AwardDesk$Shares"
  | 6 => .object "AwardDesk$PlotBook"
  | _ => .object "AwardDesk$Drawing"
theorem nmX8 : ∀ a, a < 8 → ∀ b, b < 8 → a ≠ b → (TX8 a).2.1 ≠ (TX8 b).2.1 := by decide +kernel
theorem tyX8_ok : ∀ k, k < 8 → parseFieldDescriptor (TX8 k).2.2.1 = some (tyX8 k) := by decide +kernel
abbrev cX8_init : ByteArray := prog_1_method_1_code
def yX8_init : MethodName := ⟨RX8, "<init>", "()V"⟩
abbrev cX8_land : ByteArray := prog_1_method_2_code
def yX8_land : MethodName := ⟨RX8, "land", "(II)I"⟩
abbrev cX8_cell : ByteArray := prog_1_method_3_code
def yX8_cell : MethodName := ⟨RX8, "cell", "(III)I"⟩
abbrev cX8_told : ByteArray := prog_1_method_4_code
def yX8_told : MethodName := ⟨RX8, "told", "(II)I"⟩
abbrev cX8_survey : ByteArray := prog_1_method_5_code
def yX8_survey : MethodName := ⟨RX8, "survey", "(III)I"⟩
abbrev cX8_lose : ByteArray := prog_1_method_6_code
def yX8_lose : MethodName := ⟨RX8, "lose", "(I)I"⟩
abbrev cX8_mark : ByteArray := prog_1_method_7_code
def yX8_mark : MethodName := ⟨RX8, "mark", "(III)I"⟩
abbrev cX8_copy : ByteArray := prog_1_method_8_code
def yX8_copy : MethodName := ⟨RX8, "copy", "(IIIII)I"⟩
abbrev cX8_read : ByteArray := prog_1_method_9_code
def yX8_read : MethodName := ⟨RX8, "read", "(I)I"⟩
abbrev cX8_road : ByteArray := prog_1_method_10_code
def yX8_road : MethodName := ⟨RX8, "road", "(II)I"⟩
abbrev cX8_claimant : ByteArray := prog_1_method_11_code
def yX8_claimant : MethodName := ⟨RX8, "claimant", "(II)I"⟩
abbrev cX8_isOf : ByteArray := prog_1_method_12_code
def yX8_isOf : MethodName := ⟨RX8, "isOf", "(II)I"⟩
abbrev cX8_claim : ByteArray := prog_1_method_13_code
def yX8_claim : MethodName := ⟨RX8, "claim", "(IIII)I"⟩
abbrev cX8_withdraw : ByteArray := prog_1_method_14_code
def yX8_withdraw : MethodName := ⟨RX8, "withdraw", "()I"⟩
abbrev cX8_rule : ByteArray := prog_1_method_15_code
def yX8_rule : MethodName := ⟨RX8, "rule", "(II)I"⟩
abbrev cX8_object : ByteArray := prog_1_method_16_code
def yX8_object : MethodName := ⟨RX8, "object", "(III)I"⟩
abbrev cX8_upheld : ByteArray := prog_1_method_17_code
def yX8_upheld : MethodName := ⟨RX8, "upheld", "(I)I"⟩
abbrev cX8_holder : ByteArray := prog_1_method_18_code
def yX8_holder : MethodName := ⟨RX8, "holder", "(II)I"⟩
abbrev cX8_sum : ByteArray := prog_1_method_19_code
def yX8_sum : MethodName := ⟨RX8, "sum", "(II)I"⟩
abbrev cX8_has : ByteArray := prog_1_method_20_code
def yX8_has : MethodName := ⟨RX8, "has", "(III)I"⟩
abbrev cX8_allot : ByteArray := prog_1_method_21_code
def yX8_allot : MethodName := ⟨RX8, "allot", "(III)I"⟩
abbrev cX8_take : ByteArray := prog_1_method_22_code
def yX8_take : MethodName := ⟨RX8, "take", "(I)I"⟩
abbrev cX8_good : ByteArray := prog_1_method_23_code
def yX8_good : MethodName := ⟨RX8, "good", "(II)I"⟩
abbrev cX8_plot : ByteArray := prog_1_method_24_code
def yX8_plot : MethodName := ⟨RX8, "plot", "(II)I"⟩
abbrev cX8_draw : ByteArray := prog_1_method_25_code
def yX8_draw : MethodName := ⟨RX8, "draw", "(III)I"⟩
abbrev cX8_hedge : ByteArray := prog_1_method_26_code
def yX8_hedge : MethodName := ⟨RX8, "hedge", "(II)I"⟩
abbrev cX8_fine : ByteArray := prog_1_method_27_code
def yX8_fine : MethodName := ⟨RX8, "fine", "(II)I"⟩
abbrev cX8_count : ByteArray := prog_1_method_28_code
def yX8_count : MethodName := ⟨RX8, "count", "(I)I"⟩
abbrev cX8_isWithin : ByteArray := prog_1_method_29_code
def yX8_isWithin : MethodName := ⟨RX8, "isWithin", "(III)Z"⟩
abbrev cX8_isDay : ByteArray := prog_1_method_30_code
def yX8_isDay : MethodName := ⟨RX8, "isDay", "(I)Z"⟩
abbrev cX8_isMark : ByteArray := prog_1_method_31_code
def yX8_isMark : MethodName := ⟨RX8, "isMark", "(I)Z"⟩
abbrev cX8_isKind : ByteArray := prog_1_method_32_code
def yX8_isKind : MethodName := ⟨RX8, "isKind", "(I)Z"⟩
abbrev cX8_isSurvey : ByteArray := prog_1_method_33_code
def yX8_isSurvey : MethodName := ⟨RX8, "isSurvey", "(I)Z"⟩
def RX9 : String := "AwardDeskModel"
def TX9 : u_T := fun k => match k with
  | 0 => ("AwardDeskModel", "thrown", "I", false)
  | 1 => ("AwardDeskModel", "wide", "I", false)
  | 2 => ("AwardDeskModel", "high", "I", false)
  | 3 => ("AwardDeskModel", "soil", "[I", true)
  | 4 => ("AwardDeskModel", "use", "[I", true)
  | 5 => ("AwardDeskModel", "isRoad", "[Z", true)
  | 6 => ("AwardDeskModel", "expense", "I", false)
  | 7 => ("AwardDeskModel", "width", "[I", true)
  | 8 => ("AwardDeskModel", "places", "[I", true)
  | 9 => ("AwardDeskModel", "marks", "[I", true)
  | 10 => ("AwardDeskModel", "people", "I", false)
  | 11 => ("AwardDeskModel", "kind", "[I", true)
  | 12 => ("AwardDeskModel", "home", "[I", true)
  | 13 => ("AwardDeskModel", "claims", "I", false)
  | 14 => ("AwardDeskModel", "claimOf", "[I", true)
  | 15 => ("AwardDeskModel", "claimWhat", "[I", true)
  | 16 => ("AwardDeskModel", "claimProof", "[I", true)
  | 17 => ("AwardDeskModel", "claimDay", "[I", true)
  | 18 => ("AwardDeskModel", "objections", "I", false)
  | 19 => ("AwardDeskModel", "objectOf", "[I", true)
  | 20 => ("AwardDeskModel", "objectCell", "[I", true)
  | 21 => ("AwardDeskModel", "objectDay", "[I", true)
  | 22 => ("AwardDeskModel", "closing", "I", false)
  | 23 => ("AwardDeskModel", "limit", "I", false)
  | 24 => ("AwardDeskModel", "tithe", "I", false)
  | 25 => ("AwardDeskModel", "sold", "I", false)
  | 26 => ("AwardDeskModel", "slack", "I", false)
  | 27 => ("AwardDeskModel", "plotCell", "[I", true)
  | 28 => ("AwardDeskModel", "plotWide", "[I", true)
  | 29 => ("AwardDeskModel", "plotHigh", "[I", true)
  | 30 => ("AwardDeskModel", "hedgeDay", "[I", true)
  | 31 => ("AwardDeskModel", "price", "[I", true)
  | 32 => ("AwardDeskModel", "way", "[I", true)
  | 33 => ("AwardDeskModel", "isOpen", "Z", false)
  | 34 => ("AwardDeskModel", "weight", "[I", true)
  | 35 => ("AwardDeskModel", "due", "[I", true)
  | 36 => ("AwardDeskModel", "openDue", "[I", true)
  | 37 => ("AwardDeskModel", "rate", "[I", true)
  | 38 => ("AwardDeskModel", "value", "I", false)
  | 39 => ("AwardDeskModel", "soldNow", "I", false)
  | 40 => ("AwardDeskModel", "titheNow", "I", false)
  | 41 => ("AwardDeskModel", "rest", "I", false)
  | 42 => ("AwardDeskModel", "weights", "I", false)
  | 43 => ("AwardDeskModel", "hadMore", "[Z", true)
  | 44 => ("AwardDeskModel", "rects", "I", false)
  | 45 => ("AwardDeskModel", "rectCell", "[I", true)
  | 46 => ("AwardDeskModel", "rectWide", "[I", true)
  | 47 => ("AwardDeskModel", "rectHigh", "[I", true)
  | 48 => ("AwardDeskModel", "rectWorth", "[I", true)
  | 49 => ("AwardDeskModel", "rectLow", "[J", true)
  | 50 => ("AwardDeskModel", "rectTop", "[J", true)
  | 51 => ("AwardDeskModel", "tried", "[I", true)
  | 52 => ("AwardDeskModel", "bestRect", "[I", true)
  | 53 => ("AwardDeskModel", "bestCost", "I", false)
  | 54 => ("AwardDeskModel", "triesLeft", "I", false)
  | 55 => ("AwardDeskModel", "isSpent", "Z", false)
  | _ => ("AwardDeskModel", "isStill", "Z", false)
def tyX9 : Nat → FieldType := fun k => match k with
  | 0 => .int
  | 1 => .int
  | 2 => .int
  | 3 => .array .int
  | 4 => .array .int
  | 5 => .array .boolean
  | 6 => .int
  | 7 => .array .int
  | 8 => .array .int
  | 9 => .array .int
  | 10 => .int
  | 11 => .array .int
  | 12 => .array .int
  | 13 => .int
  | 14 => .array .int
  | 15 => .array .int
  | 16 => .array .int
  | 17 => .array .int
  | 18 => .int
  | 19 => .array .int
  | 20 => .array .int
  | 21 => .array .int
  | 22 => .int
  | 23 => .int
  | 24 => .int
  | 25 => .int
  | 26 => .int
  | 27 => .array .int
  | 28 => .array .int
  | 29 => .array .int
  | 30 => .array .int
  | 31 => .array .int
  | 32 => .array .int
  | 33 => .boolean
  | 34 => .array .int
  | 35 => .array .int
  | 36 => .array .int
  | 37 => .array .int
  | 38 => .int
  | 39 => .int
  | 40 => .int
  | 41 => .int
  | 42 => .int
  | 43 => .array .boolean
  | 44 => .int
  | 45 => .array .int
  | 46 => .array .int
  | 47 => .array .int
  | 48 => .array .int
  | 49 => .array .long
  | 50 => .array .long
  | 51 => .array .int
  | 52 => .array .int
  | 53 => .int
  | 54 => .int
  | 55 => .boolean
  | _ => .boolean
theorem nmX9 : ∀ a, a < 57 → ∀ b, b < 57 → a ≠ b → (TX9 a).2.1 ≠ (TX9 b).2.1 := by decide +kernel
theorem tyX9_ok : ∀ k, k < 57 → parseFieldDescriptor (TX9 k).2.2.1 = some (tyX9 k) := by decide +kernel
abbrev cX9_init : ByteArray := prog_11_method_1_code
def yX9_init : MethodName := ⟨RX9, "<init>", "()V"⟩
abbrev cX9_in : ByteArray := prog_11_method_3_code
def yX9_in : MethodName := ⟨RX9, "in", "(III)Z"⟩
abbrev cX9_clearLand : ByteArray := prog_11_method_4_code
def yX9_clearLand : MethodName := ⟨RX9, "clearLand", "()V"⟩
abbrev cX9_cells : ByteArray := prog_11_method_5_code
def yX9_cells : MethodName := ⟨RX9, "cells", "()I"⟩
abbrev cX9_isCell : ByteArray := prog_11_method_6_code
def yX9_isCell : MethodName := ⟨RX9, "isCell", "(I)Z"⟩
abbrev cX9_isPerson : ByteArray := prog_11_method_7_code
def yX9_isPerson : MethodName := ⟨RX9, "isPerson", "(I)Z"⟩
abbrev cX9_isDay : ByteArray := prog_11_method_8_code
def yX9_isDay : MethodName := ⟨RX9, "isDay", "(I)Z"⟩
abbrev cX9_isPlain : ByteArray := prog_11_method_9_code
def yX9_isPlain : MethodName := ⟨RX9, "isPlain", "(I)Z"⟩
abbrev cX9_beside : ByteArray := prog_11_method_10_code
def yX9_beside : MethodName := ⟨RX9, "beside", "(II)I"⟩
abbrev cX9_land : ByteArray := prog_11_method_11_code
def yX9_land : MethodName := ⟨RX9, "land", "(II)I"⟩
abbrev cX9_toldOf : ByteArray := prog_11_method_12_code
def yX9_toldOf : MethodName := ⟨RX9, "toldOf", "(II)I"⟩
abbrev cX9_cell : ByteArray := prog_11_method_13_code
def yX9_cell : MethodName := ⟨RX9, "cell", "(III)I"⟩
abbrev cX9_told : ByteArray := prog_11_method_14_code
def yX9_told : MethodName := ⟨RX9, "told", "(II)I"⟩
abbrev cX9_isSurvey : ByteArray := prog_11_method_15_code
def yX9_isSurvey : MethodName := ⟨RX9, "isSurvey", "(I)Z"⟩
abbrev cX9_survey : ByteArray := prog_11_method_16_code
def yX9_survey : MethodName := ⟨RX9, "survey", "(III)I"⟩
abbrev cX9_lose : ByteArray := prog_11_method_17_code
def yX9_lose : MethodName := ⟨RX9, "lose", "(I)I"⟩
abbrev cX9_mark : ByteArray := prog_11_method_18_code
def yX9_mark : MethodName := ⟨RX9, "mark", "(III)I"⟩
abbrev cX9_copy : ByteArray := prog_11_method_19_code
def yX9_copy : MethodName := ⟨RX9, "copy", "(IIIII)I"⟩
abbrev cX9_read : ByteArray := prog_11_method_20_code
def yX9_read : MethodName := ⟨RX9, "read", "(I)I"⟩
abbrev cX9_priceOf : ByteArray := prog_11_method_21_code
def yX9_priceOf : MethodName := ⟨RX9, "priceOf", "(I)I"⟩
abbrev cX9_findPrices : ByteArray := prog_11_method_22_code
def yX9_findPrices : MethodName := ⟨RX9, "findPrices", "(I)V"⟩
abbrev cX9_cameFrom : ByteArray := prog_11_method_23_code
def yX9_cameFrom : MethodName := ⟨RX9, "cameFrom", "(I)I"⟩
abbrev cX9_road : ByteArray := prog_11_method_24_code
def yX9_road : MethodName := ⟨RX9, "road", "(II)I"⟩
abbrev cX9_claimant : ByteArray := prog_11_method_25_code
def yX9_claimant : MethodName := ⟨RX9, "claimant", "(II)I"⟩
abbrev cX9_isOf : ByteArray := prog_11_method_26_code
def yX9_isOf : MethodName := ⟨RX9, "isOf", "(II)I"⟩
abbrev cX9_firstOf : ByteArray := prog_11_method_27_code
def yX9_firstOf : MethodName := ⟨RX9, "firstOf", "(I)I"⟩
abbrev cX9_claim : ByteArray := prog_11_method_28_code
def yX9_claim : MethodName := ⟨RX9, "claim", "(IIII)I"⟩
abbrev cX9_withdraw : ByteArray := prog_11_method_29_code
def yX9_withdraw : MethodName := ⟨RX9, "withdraw", "()I"⟩
abbrev cX9_rule : ByteArray := prog_11_method_30_code
def yX9_rule : MethodName := ⟨RX9, "rule", "(II)I"⟩
abbrev cX9_object : ByteArray := prog_11_method_31_code
def yX9_object : MethodName := ⟨RX9, "object", "(III)I"⟩
abbrev cX9_counts : ByteArray := prog_11_method_32_code
def yX9_counts : MethodName := ⟨RX9, "counts", "(II)Z"⟩
abbrev cX9_holderOf : ByteArray := prog_11_method_33_code
def yX9_holderOf : MethodName := ⟨RX9, "holderOf", "(II)I"⟩
abbrev cX9_isUpheld : ByteArray := prog_11_method_34_code
def yX9_isUpheld : MethodName := ⟨RX9, "isUpheld", "(I)Z"⟩
abbrev cX9_upheld : ByteArray := prog_11_method_35_code
def yX9_upheld : MethodName := ⟨RX9, "upheld", "(I)I"⟩
abbrev cX9_holder : ByteArray := prog_11_method_36_code
def yX9_holder : MethodName := ⟨RX9, "holder", "(II)I"⟩
abbrev cX9_gatesOf : ByteArray := prog_11_method_37_code
def yX9_gatesOf : MethodName := ⟨RX9, "gatesOf", "(II)I"⟩
abbrev cX9_comes : ByteArray := prog_11_method_38_code
def yX9_comes : MethodName := ⟨RX9, "comes", "(II)V"⟩
abbrev cX9_objectionOn : ByteArray := prog_11_method_39_code
def yX9_objectionOn : MethodName := ⟨RX9, "objectionOn", "(II)I"⟩
abbrev cX9_findWeights : ByteArray := prog_11_method_40_code
def yX9_findWeights : MethodName := ⟨RX9, "findWeights", "(I)V"⟩
abbrev cX9_part : ByteArray := prog_11_method_41_code
def yX9_part : MethodName := ⟨RX9, "part", "(I[I[I)V"⟩
abbrev cX9_findDues : ByteArray := prog_11_method_42_code
def yX9_findDues : MethodName := ⟨RX9, "findDues", "(IZ[I)V"⟩
abbrev cX9_sum : ByteArray := prog_11_method_43_code
def yX9_sum : MethodName := ⟨RX9, "sum", "(II)I"⟩
abbrev cX9_has : ByteArray := prog_11_method_44_code
def yX9_has : MethodName := ⟨RX9, "has", "(III)I"⟩
abbrev cX9_allot : ByteArray := prog_11_method_45_code
def yX9_allot : MethodName := ⟨RX9, "allot", "(III)I"⟩
abbrev cX9_take : ByteArray := prog_11_method_46_code
def yX9_take : MethodName := ⟨RX9, "take", "(I)I"⟩
abbrev cX9_isIn : ByteArray := prog_11_method_47_code
def yX9_isIn : MethodName := ⟨RX9, "isIn", "(II)Z"⟩
abbrev cX9_isAhead : ByteArray := prog_11_method_48_code
def yX9_isAhead : MethodName := ⟨RX9, "isAhead", "(II)Z"⟩
abbrev cX9_worthOf : ByteArray := prog_11_method_49_code
def yX9_worthOf : MethodName := ⟨RX9, "worthOf", "(I)I"⟩
abbrev cX9_isByRoad : ByteArray := prog_11_method_50_code
def yX9_isByRoad : MethodName := ⟨RX9, "isByRoad", "(I)Z"⟩
abbrev cX9_goodOf : ByteArray := prog_11_method_51_code
def yX9_goodOf : MethodName := ⟨RX9, "goodOf", "(II)I"⟩
abbrev cX9_good : ByteArray := prog_11_method_52_code
def yX9_good : MethodName := ⟨RX9, "good", "(II)I"⟩
abbrev cX9_farOf : ByteArray := prog_11_method_53_code
def yX9_farOf : MethodName := ⟨RX9, "farOf", "(I)I"⟩
abbrev cX9_hedgeOf : ByteArray := prog_11_method_54_code
def yX9_hedgeOf : MethodName := ⟨RX9, "hedgeOf", "(I)I"⟩
abbrev cX9_plot : ByteArray := prog_11_method_55_code
def yX9_plot : MethodName := ⟨RX9, "plot", "(II)I"⟩
abbrev cX9_addRect : ByteArray := prog_11_method_56_code
def yX9_addRect : MethodName := ⟨RX9, "addRect", "(III)V"⟩
abbrev cX9_findRects : ByteArray := prog_11_method_57_code
def yX9_findRects : MethodName := ⟨RX9, "findRects", "()V"⟩
abbrev cX9_away : ByteArray := prog_11_method_58_code
def yX9_away : MethodName := ⟨RX9, "away", "(III)I"⟩
abbrev cX9_costOf : ByteArray := prog_11_method_59_code
def yX9_costOf : MethodName := ⟨RX9, "costOf", "(II)I"⟩
abbrev cX9_drawFrom : ByteArray := prog_11_method_60_code
def yX9_drawFrom : MethodName := ⟨RX9, "drawFrom", "(IJJI)V"⟩
abbrev cX9_draw : ByteArray := prog_11_method_61_code
def yX9_draw : MethodName := ⟨RX9, "draw", "(III)I"⟩
abbrev cX9_hedge : ByteArray := prog_11_method_62_code
def yX9_hedge : MethodName := ⟨RX9, "hedge", "(II)I"⟩
abbrev cX9_fine : ByteArray := prog_11_method_63_code
def yX9_fine : MethodName := ⟨RX9, "fine", "(II)I"⟩
abbrev cX9_count : ByteArray := prog_11_method_64_code
def yX9_count : MethodName := ⟨RX9, "count", "(I)I"⟩
def RJ9 : String := "java/lang/Math"
def TJ9 : u_T := fun k => match k with
  | _ => ("", "", "", false)
def tyJ9 : Nat → FieldType := fun k => match k with
  | _ => .int
theorem nmJ9 : ∀ a, a < 0 → ∀ b, b < 0 → a ≠ b → (TJ9 a).2.1 ≠ (TJ9 b).2.1 := by decide +kernel
theorem tyJ9_ok : ∀ k, k < 0 → parseFieldDescriptor (TJ9 k).2.2.1 = some (tyJ9 k) := by decide +kernel
abbrev cJ9_abs_0f7a4 : ByteArray := prog_12_method_59_code
def yJ9_abs_0f7a4 : MethodName := ⟨RJ9, "abs", "(I)I"⟩
abbrev cJ9_max_7cf53 : ByteArray := prog_12_method_65_code
def yJ9_max_7cf53 : MethodName := ⟨RJ9, "max", "(II)I"⟩
abbrev cJ9_min_7cf53 : ByteArray := prog_12_method_69_code
def yJ9_min_7cf53 : MethodName := ⟨RJ9, "min", "(II)I"⟩
def RJ10 : String := "java/lang/System"
def TJ10 : u_T := fun k => match k with
  | _ => ("", "", "", false)
def tyJ10 : Nat → FieldType := fun k => match k with
  | _ => .int
theorem nmJ10 : ∀ a, a < 0 → ∀ b, b < 0 → a ≠ b → (TJ10 a).2.1 ≠ (TJ10 b).2.1 := by decide +kernel
theorem tyJ10_ok : ∀ k, k < 0 → parseFieldDescriptor (TJ10 k).2.2.1 = some (tyJ10 k) := by decide +kernel
def RJ7 : String := "java/util/Arrays"
def TJ7 : u_T := fun k => match k with
  | _ => ("", "", "", false)
def tyJ7 : Nat → FieldType := fun k => match k with
  | _ => .int
theorem nmJ7 : ∀ a, a < 0 → ∀ b, b < 0 → a ≠ b → (TJ7 a).2.1 ≠ (TJ7 b).2.1 := by decide +kernel
theorem tyJ7_ok : ∀ k, k < 0 → parseFieldDescriptor (TJ7 k).2.2.1 = some (tyJ7 k) := by decide +kernel
abbrev cJ7_fill_53178 : ByteArray := prog_14_method_103_code
def yJ7_fill_53178 : MethodName := ⟨RJ7, "fill", "([II)V"⟩
def RL : String := "AwardDeskLaw"
abbrev cL_law : ByteArray := code
def yL_law : MethodName := ⟨RL, "law", "([I)Z"⟩
abbrev vwCl : List vw_C := [(RX0, TX0, 19), (RX1, TX1, 7), (RX2, TX2, 4), (RX3, TX3, 3), (RX4, TX4, 13), (RX6, TX6, 8), (RX7, TX7, 3), (RX8, TX8, 8), (RX9, TX9, 57)]
end
section
/-! THE JUDGEMENT THAT ALL WALKS HERE SPEAK IN. The whole heap that the law makes is known: cell k of it lies at gB + k, its shape (shp k) is fixed by the order in which the constructors make cells; its numbers are σ k j : Int, its references ρ k j. -/
abbrev Si : Type := Nat → Nat → Int
abbrev Rho : Type := Nat → Nat → Option Nat
abbrev GG : Type := va_G × (Nat × Nat × Nat × Nat) × (Nat × Nat × Nat × (Nat → Int32)) × Nat × Nat
def gD (G : GG) : va_G := G.1
def gI (G : GG) : Nat := G.2.1.1
def gZ (G : GG) : Nat := G.2.1.2.1
def gJ (G : GG) : Nat := G.2.1.2.2.1
def gII (G : GG) : Nat := G.2.1.2.2.2
def gB (G : GG) : Nat := G.2.2.1.1
def gb (G : GG) : Nat := G.2.2.1.2.1
def gL (G : GG) : Nat := G.2.2.1.2.2.1
def gx (G : GG) : Nat → Int32 := G.2.2.1.2.2.2
def gM (G : GG) : Nat := G.2.2.2.1
def gR (G : GG) : Nat := G.2.2.2.2
def gA (G : GG) : Nat → Prop := fun q => gB G ≤ q
def iv (z : Int) : Value := .int (Int32.ofInt z)
def jl (z : Int) : Value := .long (Int64.ofInt z)
def rf (G : GG) (k : Nat) : Value := .ref (gB G + k)
def rv (G : GG) (r : Option Nat) : Value := va_rf (r.map (gB G + ·))
/-- a local of which nothing is known -/
def xx : Value := .retAddr 0
/-- a number's field, by its descriptor -/
def isI (d : String) : Bool := d == "I" || d == "Z"
def fvv (G : GG) (T : u_T) (ρ : Nat → Option Nat) (σ : Nat → Int) (j : Nat) : Value := if isI (T j).2.2.1 = true then iv (σ j) else rv G (ρ j)
/-- the shapes: (100, n) int[n], (101, n) boolean[n], (102, n) long[n], (103, n) int[n][], (t, _) an object of the class t of vwCl -/
def shpL : List (Nat × Nat) := [(7, 8), (100, 5), (1, 7), (103, 3), (100, 80), (100, 80), (100, 80), (100, 80), (100, 80), (3, 3), (100, 80), (101, 80), (6, 3), (103, 3), (100, 80), (100, 80), (100, 80), (100, 3), (100, 3), (4, 13), (100, 8), (100, 8), (100, 40), (100, 40), (100, 40), (100, 40), (100, 20), (100, 20), (100, 20), (5, 8), (100, 8), (100, 8), (100, 8), (100, 8), (102, 8), (2, 4), (100, 8), (100, 8), (8, 57), (100, 80), (100, 80), (101, 80), (100, 3), (100, 3), (100, 240), (100, 8), (100, 8), (100, 40), (100, 40), (100, 40), (100, 40), (100, 20), (100, 20), (100, 20), (100, 8), (100, 8), (100, 8), (100, 8), (100, 80), (100, 80), (100, 8), (100, 8), (100, 8), (100, 8), (101, 8), (100, 2000), (100, 2000), (100, 2000), (100, 2000), (102, 2000), (102, 2000), (100, 8), (100, 8), (0, 19), (100, 1980), (100, 1980), (102, 1980), (102, 1980), (103, 8), (100, 1980), (100, 1980), (100, 1980), (100, 1980), (100, 1980), (100, 1980), (100, 1980), (100, 1980), (100, 8), (100, 8), (100, 8), (100, 8), (100, 8)]
def shp (k : Nat) : Nat × Nat := shpL.getD k (99, 0)
def at_ (G : GG) (ρ : Rho) (σ : Si) (k : Nat) (H : Heap) : Prop :=
  (∀ N, shp k = (100, N) → H[gB G + k]? = some (arrV (gI G) N (fun j => iv (σ k j)))) ∧
  (∀ N, shp k = (101, N) → H[gB G + k]? = some (arrV (gZ G) N (fun j => iv (σ k j)))) ∧
  (∀ N, shp k = (102, N) → H[gB G + k]? = some (arrV (gJ G) N (fun j => jl (σ k j)))) ∧
  (∀ N, shp k = (103, N) → H[gB G + k]? = some (arrV (gII G) N (fun j => rv G (ρ k j)))) ∧
  (∀ t C T N, (shp k).1 = t → vwCl[t]? = some (C, T, N) → t_OB (gB G + k) ((gD G).1 t) N ((gD G).2 t) H (fvv G T (ρ k) (σ k)))
def mostMark : Nat → Int := fun j => match j with
  | 0 => 9
  | 1 => 2
  | _ => 1
def mostRule : Nat → Int := fun j => match j with
  | 0 => 999
  | 1 => 999
  | 2 => 50
  | 3 => 1000
  | _ => 50
/-- what lies below gB and is only read: the script, the two static rows -/
def RO (G : GG) (U : State) (H : Heap) : Prop :=
  va_X (gb G) (gL G) (gx G) U H ∧ gb G < gB G ∧ gL G ≤ 3072 ∧
  va_Z "AwardDesk" "MOST_OF_MARK" "[I" (.ref (gM G)) (gA G) U H ∧ va_T .int (gM G) 3 (fun j => iv (mostMark j)) (gA G) U H ∧
  va_Z "AwardDesk" "MOST_OF_RULE" "[I" (.ref (gR G)) (gA G) U H ∧ va_T .int (gR G) 5 (fun j => iv (mostRule j)) (gA G) U H
def tysG (G : GG) : List (ClassId × FieldType) := [(gI G, .int), (gZ G, .boolean), (gJ G, .long), (gII G, .array .int)]
def Wd (G : GG) (n : Nat) (ρ : Rho) (σ : Si) (U : State) (H : Heap) : Prop :=
  H.size = gB G + n ∧ (∀ k, k < n → at_ G ρ σ k H) ∧ va_K (gD G) vwCl (tysG G) U ∧ RO G U H
theorem va_Z.kept' {C n d : String} {v : Value} {A : Nat → Prop} {U : State} {H H1 : Heap} (h : va_Z C n d v A U H) (hq : ∀ q : Nat, ¬ A q → H1[q]? = H[q]?) : va_Z C n d v A U H1 := by
  obtain ⟨cf, kf, fi, f, a, cell, h1, h2, h3, h4, h5, h6, h7, h8⟩ := h
  exact ⟨cf, kf, fi, f, a, cell, h1, h2, h3, h4, by rw [hq a h8]; exact h5, h6, h7, h8⟩
theorem va_T.kept' {ty : FieldType} {t N : Nat} {f : Nat → Value} {A : Nat → Prop} {U : State} {H H1 : Heap} (h : va_T ty t N f A U H) (hq : ∀ q : Nat, ¬ A q → H1[q]? = H[q]?) : va_T ty t N f A U H1 := by
  obtain ⟨cell, h1, h2, h3, h4, h5, h6, h7⟩ := h
  exact ⟨cell, by rw [hq t h7]; exact h1, h2, h3, h4, h5, h6, h7⟩
theorem RO.kept {G : GG} {U : State} {H H1 : Heap} (h : RO G U H) (hq : ∀ q : Nat, ¬ gA G q → H1[q]? = H[q]?) : RO G U H1 := by
  obtain ⟨h1, h2, h3, h4, h5, h6, h7⟩ := h
  exact ⟨h1.kept (hq _ (by unfold gA; omega)), h2, h3, h4.kept' hq, h5.kept' hq, h6.kept' hq, h7.kept' hq⟩
theorem RO.moved {G : GG} {u U : State} {H : Heap} (hvm : u.vm.Alike U.vm) (h : RO G u H) : RO G U H := by
  obtain ⟨h1, h2, h3, h4, h5, h6, h7⟩ := h
  exact ⟨h1.moved hvm, h2, h3, h4.moved hvm, h5.moved hvm, h6.moved hvm, h7.moved hvm⟩
theorem Wd.moved {G : GG} {n : Nat} {ρ : Rho} {σ : Si} {u U : State} {H : Heap} (hvm : u.vm.Alike U.vm) (h : Wd G n ρ σ u H) : Wd G n ρ σ U H := ⟨h.1, h.2.1, h.2.2.1.moved hvm, h.2.2.2.moved hvm⟩
abbrev Mi : Type := MethodName × ByteArray × Nat × Option FieldType
abbrev Kx : Type := Launch × GG × Mi × Room × (List Frame → Array Value → State → State → Prop)
/-- cells and slots made so far by this call, how many cells there are, what the references are -/
abbrev Ph : Type := Nat × Nat × Nat × Rho
/-- two words of the tables that aren't of the kind that calls hand on: they ride beside -/
def NW (U : State) : Prop := (Cond.arrayOver (.array .int)).before #[] U = true ∧ va_Nw (.methodLinkNest "AwardDesk" 31 yX7_init "AwardDesk") U
theorem NW.warm {s U : State} (hW : s.WarmedH U.vm) (h : NW s) : NW U := ⟨Jvm.Stand.arrayOver_alikeB hW.alike h.1, h.2.warmM hW⟩
def Fx (M : Mi) (p : Program) (s : State) (m : MethodId) (args : Array Value) (meth : Method) (c : Code) : Prop :=
  p.tables.exec = Jvm.exec ∧ c.code = M.2.1 ∧ meth.sig.returnType = M.2.2.2 ∧ c.maxLocals = M.2.2.1 ∧ s.vm.findClass M.1.cls = some m.cls ∧ (∀ w ∈ lw_tbl, goodWord w = true → w.before args s = true) ∧ meth.locks = false ∧ meth.name = M.1.name ∧ NW s
/-- the locals: place by place, xx where nothing is known -/
def lh (ls : Array Slot) (nL : Nat) (L : List Value) : Prop := ∃ l, lv_has ls nL l ∧ ∀ (i : Nat) (v : Value), L[i]? = some v → v ≠ xx → (i, v) ∈ l
/-- from pc, with locals L and stack st, over the world (φ, σ), the method comes to its end -/
def RW (K : Kx) (φ : Ph) (σ : Si) (pc : Nat) (L : List Value) (st : List Value) : Prop :=
  ∀ (p : Program) (e : Env) (s : State) (m : MethodId) (args : Array Value) (below : List Frame) (meth : Method) (c : Code) (H : Heap) (locs : List Loc) (ls : Array Slot),
    Fx K.2.2.1 p s m args meth c → Wd K.2.1 φ.2.2.1 φ.2.2.2 σ s H → va_S (gA K.2.1) s.heap H locs → lh ls K.2.2.1.2.2.1 L → gB K.2.1 ≤ s.heap.size →
    W p K.1 e K.2.2.2.1 s m args below meth c H locs φ.1 φ.2.1 (K.2.2.2.2 below args s) (F0 m pc ls st)
end
section
/-! ROWS: numbers, locals, the stack, branches -/
theorem lh.at {ls : Array Slot} {nL : Nat} {L : List Value} {i : Nat} {v : Value} (h : lh ls nL L) (hi : L[i]? = some v) (hv : v ≠ xx) : ls[i]? = some (.val v) := by
  obtain ⟨l, h1, h2⟩ := h
  exact h1.2.2 _ (h2 i v hi hv)
def isJ : Value → Bool
  | .long _ => true
  | .double _ => true
  | _ => false
theorem cat_isJ {v : Value} (h : isJ v = false) : v.category = 1 := by cases v <;> first | rfl | cases h
def pvOK (L : List Value) : Nat → Bool
  | 0 => true
  | i + 1 => match L[i]? with
    | some v => !isJ v
    | none => true
theorem lh.st1 {ls ls' : Array Slot} {nL : Nat} {L : List Value} {i : Nat} {v : Value} {l : List (Nat × Value)} (h2 : ∀ (i : Nat) (v : Value), L[i]? = some v → v ≠ xx → (i, v) ∈ l) (hp : pvOK L i = true) (h : lv_has ls' nL ((i, v) :: l.filter (fun q => !(q.1 == i) && !(q.1 + 1 == i && q.2.category == 2)))) : lh ls' nL (L.set i v) := by
  refine ⟨_, h, fun j w hj hw => ?_⟩
  by_cases e : j = i
  · subst e
    by_cases hl : j < L.length
    · rw [List.getElem?_set_self hl] at hj
      cases hj
      exact List.mem_cons_self
    · rw [List.getElem?_eq_none (by rw [List.length_set]; omega)] at hj
      cases hj
  · rw [List.getElem?_set_ne (Ne.symm e)] at hj
    refine List.mem_cons_of_mem _ (List.mem_filter.mpr ⟨h2 j w hj hw, ?_⟩)
    have e1 : (j == i) = false := by simp [e]
    have e2 : (j + 1 == i && w.category == 2) = false := by
      by_cases e3 : j + 1 = i
      · subst e3
        have hp : (match L[j]? with | some v => !isJ v | none => true) = true := hp
        rw [hj] at hp
        have : isJ w = false := by simpa using hp
        simp [cat_isJ this]
      · simp [e3]
    simp only [e1, e2]
    rfl
theorem lh.st2 {ls ls' : Array Slot} {nL : Nat} {L : List Value} {i : Nat} {v : Value} {l : List (Nat × Value)} (h2 : ∀ (i : Nat) (v : Value), L[i]? = some v → v ≠ xx → (i, v) ∈ l) (hp : pvOK L i = true) (h : lv_has ls' nL ((i, v) :: l.filter (fun q => !(q.1 == i) && (!(q.1 == i + 1) && !(q.1 + 1 == i && q.2.category == 2))))) : lh ls' nL ((L.set i v).set (i + 1) xx) := by
  refine ⟨_, h, fun j w hj hw => ?_⟩
  by_cases e1 : j = i + 1
  · subst e1
    by_cases hl : i + 1 < L.length
    · rw [List.getElem?_set_self (by rw [List.length_set]; exact hl)] at hj
      cases hj
      exact absurd rfl hw
    · rw [List.getElem?_eq_none (by rw [List.length_set, List.length_set]; omega)] at hj
      cases hj
  · rw [List.getElem?_set_ne (Ne.symm e1)] at hj
    by_cases e : j = i
    · subst e
      by_cases hl : j < L.length
      · rw [List.getElem?_set_self hl] at hj
        cases hj
        exact List.mem_cons_self
      · rw [List.getElem?_eq_none (by rw [List.length_set]; omega)] at hj
        cases hj
    · rw [List.getElem?_set_ne (Ne.symm e)] at hj
      refine List.mem_cons_of_mem _ (List.mem_filter.mpr ⟨h2 j w hj hw, ?_⟩)
      have f1 : (j == i) = false := by simp [e]
      have f0 : (j == i + 1) = false := by simp [e1]
      have f2 : (j + 1 == i && w.category == 2) = false := by
        by_cases e3 : j + 1 = i
        · subst e3
          have hp : (match L[j]? with | some v => !isJ v | none => true) = true := hp
          rw [hj] at hp
          have : isJ w = false := by simpa using hp
          simp [cat_isJ this]
        · simp [e3]
      simp only [f1, f0, f2]
      rfl
abbrev R32 (z : Int) : Prop := -2147483648 ≤ z ∧ z < 2147483648
theorem i32_toInt {z : Int} (h : R32 z) : (Int32.ofInt z).toInt = z := Int32.toInt_ofInt_of_le (by simpa using h.1) (by simpa using h.2)
theorem i32_lt {a b : Int} (ha : R32 a) (hb : R32 b) : Int32.ofInt a < Int32.ofInt b ↔ a < b := by rw [Int32.lt_iff_toInt_lt, i32_toInt ha, i32_toInt hb]
theorem i32_le {a b : Int} (ha : R32 a) (hb : R32 b) : Int32.ofInt a ≤ Int32.ofInt b ↔ a ≤ b := by rw [Int32.le_iff_toInt_le, i32_toInt ha, i32_toInt hb]
theorem i32_eq {a b : Int} (ha : R32 a) (hb : R32 b) : Int32.ofInt a = Int32.ofInt b ↔ a = b := by rw [← Int32.toInt_inj, i32_toInt ha, i32_toInt hb]
theorem i32_clamp {c : Nat} (h : c < 2147483648) : (Int32.ofInt (c : Int)).toNatClampNeg = c := by
  show (Int32.ofInt (c : Int)).toInt.toNat = c
  rw [i32_toInt ⟨by omega, by omega⟩]
  exact Int.toNat_natCast c
theorem vp_in_nat {c N : Nat} (h : c < N) (hN : N < 2147483648) : vp_in (Int32.ofInt (c : Int)) N := by
  unfold vp_in
  rw [i32_clamp (by omega)]
  rintro (h1 | h1)
  · have h2 : Int32.ofInt (c : Int) < Int32.ofInt 0 := h1
    rw [i32_lt ⟨by omega, by omega⟩ ⟨by omega, by omega⟩] at h2
    omega
  · omega
section RowsA
variable {K : Kx} {φ : Ph} {σ : Si} {pc : Nat} {L L' : List Value} {st : List Value}
theorem r_iconst {n : Int} (hd : decode K.2.2.1.2.1 pc = .ok (.iconst n, 1)) (k : RW K φ σ (pc + 1) L (iv n :: st)) : RW K φ σ pc L st :=
  fun p e s m args below meth c H locs ls F hW hS hl h0 => lv_iconst F.1 F.2.1 hd rfl (k p e s m args below meth c H locs ls F hW hS hl h0)
theorem r_bipush {n : Int} (hd : decode K.2.2.1.2.1 pc = .ok (.bipush n, 2)) (k : RW K φ σ (pc + 2) L (iv n :: st)) (hn : (Int8.ofInt n).toInt32 = Int32.ofInt n := by decide +kernel) : RW K φ σ pc L st :=
  fun p e s m args below meth c H locs ls F hW hS hl h0 => lv_bipush F.1 F.2.1 hd hn (k p e s m args below meth c H locs ls F hW hS hl h0)
theorem r_sipush {n : Int} (hd : decode K.2.2.1.2.1 pc = .ok (.sipush n, 3)) (k : RW K φ σ (pc + 3) L (iv n :: st)) (hn : (Int16.ofInt n).toInt32 = Int32.ofInt n := by decide +kernel) : RW K φ σ pc L st :=
  fun p e s m args below meth c H locs ls F hW hS hl h0 => lv_sipush F.1 F.2.1 hd hn (k p e s m args below meth c H locs ls F hW hS hl h0)
theorem r_lconst {n : Fin 2} (hd : decode K.2.2.1.2.1 pc = .ok (.lconst n, 1)) (k : RW K φ σ (pc + 1) L (jl ((n : Nat) : Int) :: st)) : RW K φ σ pc L st :=
  fun p e s m args below meth c H locs ls F hW hS hl h0 => lv_lconst F.1 F.2.1 hd rfl (k p e s m args below meth c H locs ls F hW hS hl h0)
theorem r_null (hd : decode K.2.2.1.2.1 pc = .ok (.aconst_null, 1)) (k : RW K φ σ (pc + 1) L (.null :: st)) : RW K φ σ pc L st :=
  fun p e s m args below meth c H locs ls F hW hS hl h0 => lv_null F.1 F.2.1 hd (k p e s m args below meth c H locs ls F hW hS hl h0)
theorem r_ldc {ix : Nat} {z : Int} (hd : decode K.2.2.1.2.1 pc = .ok (.ldc ix, 2)) (hc : Cond.constant K.2.2.1.1.cls ix (Int32.ofInt z) ∈ lw_tbl) (k : RW K φ σ (pc + 2) L (iv z :: st)) : RW K φ σ pc L st :=
  fun p e s m args below meth c H locs ls F hW hS hl h0 => lv_ldc F.1 F.2.1 F.2.2.2.2.1 (F.2.2.2.2.2.1 _ hc rfl) hd (k p e s m args below meth c H locs ls F hW hS hl h0)
theorem r_ldc2 {ix : Nat} {z : Int} (hd : decode K.2.2.1.2.1 pc = .ok (.ldc2_w ix, 3)) (hc : Cond.constantLong K.2.2.1.1.cls ix (Int64.ofInt z) ∈ lw_tbl) (k : RW K φ σ (pc + 3) L (jl z :: st)) : RW K φ σ pc L st :=
  fun p e s m args below meth c H locs ls F hW hS hl h0 => lv_ldc2 F.1 F.2.1 F.2.2.2.2.1 (F.2.2.2.2.2.1 _ hc rfl) hd (k p e s m args below meth c H locs ls F hW hS hl h0)
theorem r_iload_n {n : Fin 4} {x : Int} (hd : decode K.2.2.1.2.1 pc = .ok (.iload_n n, 1)) (hx : L[(n : Nat)]? = some (iv x)) (k : RW K φ σ (pc + 1) L (iv x :: st)) : RW K φ σ pc L st :=
  fun p e s m args below meth c H locs ls F hW hS hl h0 => lv_iload_n F.1 F.2.1 hd rfl (hl.at hx (by intro h; cases h)) (k p e s m args below meth c H locs ls F hW hS hl h0)
theorem r_iload {i : Nat} {x : Int} (hd : decode K.2.2.1.2.1 pc = .ok (.iload i, 2)) (hx : L[i]? = some (iv x)) (k : RW K φ σ (pc + 2) L (iv x :: st)) : RW K φ σ pc L st :=
  fun p e s m args below meth c H locs ls F hW hS hl h0 => lv_iload F.1 F.2.1 hd (hl.at hx (by intro h; cases h)) (k p e s m args below meth c H locs ls F hW hS hl h0)
theorem r_lload_n {n : Fin 4} {x : Int} (hd : decode K.2.2.1.2.1 pc = .ok (.lload_n n, 1)) (hx : L[(n : Nat)]? = some (jl x)) (k : RW K φ σ (pc + 1) L (jl x :: st)) : RW K φ σ pc L st :=
  fun p e s m args below meth c H locs ls F hW hS hl h0 => lv_lload_n F.1 F.2.1 hd rfl (hl.at hx (by intro h; cases h)) (k p e s m args below meth c H locs ls F hW hS hl h0)
theorem r_lload {i : Nat} {x : Int} (hd : decode K.2.2.1.2.1 pc = .ok (.lload i, 2)) (hx : L[i]? = some (jl x)) (k : RW K φ σ (pc + 2) L (jl x :: st)) : RW K φ σ pc L st :=
  fun p e s m args below meth c H locs ls F hW hS hl h0 => lv_lload F.1 F.2.1 hd (hl.at hx (by intro h; cases h)) (k p e s m args below meth c H locs ls F hW hS hl h0)
theorem r_aload_n {n : Fin 4} {x : Nat} (hd : decode K.2.2.1.2.1 pc = .ok (.aload_n n, 1)) (hx : L[(n : Nat)]? = some (.ref x)) (k : RW K φ σ (pc + 1) L (.ref x :: st)) : RW K φ σ pc L st :=
  fun p e s m args below meth c H locs ls F hW hS hl h0 => lv_aload_n F.1 F.2.1 hd rfl (hl.at hx (by intro h; cases h)) (k p e s m args below meth c H locs ls F hW hS hl h0)
theorem r_aload {i : Nat} {x : Nat} (hd : decode K.2.2.1.2.1 pc = .ok (.aload i, 2)) (hx : L[i]? = some (.ref x)) (k : RW K φ σ (pc + 2) L (.ref x :: st)) : RW K φ σ pc L st :=
  fun p e s m args below meth c H locs ls F hW hS hl h0 => lv_aload F.1 F.2.1 hd (hl.at hx (by intro h; cases h)) (k p e s m args below meth c H locs ls F hW hS hl h0)
theorem r_aloadk_n {n : Fin 4} {x : Nat} (hd : decode K.2.2.1.2.1 pc = .ok (.aload_n n, 1)) (hx : L[(n : Nat)]? = some (rf K.2.1 x)) (k : RW K φ σ (pc + 1) L (rf K.2.1 x :: st)) : RW K φ σ pc L st :=
  fun p e s m args below meth c H locs ls F hW hS hl h0 => lv_aload_n F.1 F.2.1 hd rfl (hl.at hx (by intro h; cases h)) (k p e s m args below meth c H locs ls F hW hS hl h0)
theorem r_aloadk {i : Nat} {x : Nat} (hd : decode K.2.2.1.2.1 pc = .ok (.aload i, 2)) (hx : L[i]? = some (rf K.2.1 x)) (k : RW K φ σ (pc + 2) L (rf K.2.1 x :: st)) : RW K φ σ pc L st :=
  fun p e s m args below meth c H locs ls F hW hS hl h0 => lv_aload F.1 F.2.1 hd (hl.at hx (by intro h; cases h)) (k p e s m args below meth c H locs ls F hW hS hl h0)
theorem r_istore_n {n : Fin 4} {x : Int} (hd : decode K.2.2.1.2.1 pc = .ok (.istore_n n, 1)) (hn : (n : Nat) < K.2.2.1.2.2.1) (hp : pvOK L n = true) (hL : L.set n (iv x) = L') (k : RW K φ σ (pc + 1) L' st) : RW K φ σ pc L (iv x :: st) := by
  intro p e s m args below meth c H locs ls F hW hS hl h0
  obtain ⟨l, h1, h2⟩ := hl
  exact lv_istore_n F.1 F.2.1 hd rfl h1 hn rfl (fun ls' h => k p e s m args below meth c H locs ls' F hW hS (hL ▸ lh.st1 (ls := ls) h2 hp h) h0)
theorem r_istore {i : Nat} {x : Int} (hd : decode K.2.2.1.2.1 pc = .ok (.istore i, 2)) (hn : i < K.2.2.1.2.2.1) (hp : pvOK L i = true) (hL : L.set i (iv x) = L') (k : RW K φ σ (pc + 2) L' st) : RW K φ σ pc L (iv x :: st) := by
  intro p e s m args below meth c H locs ls F hW hS hl h0
  obtain ⟨l, h1, h2⟩ := hl
  exact lv_istore F.1 F.2.1 hd h1 hn rfl (fun ls' h => k p e s m args below meth c H locs ls' F hW hS (hL ▸ lh.st1 (ls := ls) h2 hp h) h0)
theorem r_astore_n {n : Fin 4} {x : Nat} (hd : decode K.2.2.1.2.1 pc = .ok (.astore_n n, 1)) (hn : (n : Nat) < K.2.2.1.2.2.1) (hp : pvOK L n = true) (hL : L.set n (.ref x) = L') (k : RW K φ σ (pc + 1) L' st) : RW K φ σ pc L (.ref x :: st) := by
  intro p e s m args below meth c H locs ls F hW hS hl h0
  obtain ⟨l, h1, h2⟩ := hl
  exact lv_astore_n F.1 F.2.1 hd rfl h1 hn rfl (fun ls' h => k p e s m args below meth c H locs ls' F hW hS (hL ▸ lh.st1 (ls := ls) h2 hp h) h0)
theorem r_astore {i : Nat} {x : Nat} (hd : decode K.2.2.1.2.1 pc = .ok (.astore i, 2)) (hn : i < K.2.2.1.2.2.1) (hp : pvOK L i = true) (hL : L.set i (.ref x) = L') (k : RW K φ σ (pc + 2) L' st) : RW K φ σ pc L (.ref x :: st) := by
  intro p e s m args below meth c H locs ls F hW hS hl h0
  obtain ⟨l, h1, h2⟩ := hl
  exact lv_astore F.1 F.2.1 hd h1 hn rfl (fun ls' h => k p e s m args below meth c H locs ls' F hW hS (hL ▸ lh.st1 (ls := ls) h2 hp h) h0)
theorem r_lstore_n {n : Fin 4} {x : Int} (hd : decode K.2.2.1.2.1 pc = .ok (.lstore_n n, 1)) (hn : (n : Nat) + 1 < K.2.2.1.2.2.1) (hp : pvOK L n = true) (hL : (L.set n (jl x)).set ((n : Nat) + 1) xx = L') (k : RW K φ σ (pc + 1) L' st) : RW K φ σ pc L (jl x :: st) := by
  intro p e s m args below meth c H locs ls F hW hS hl h0
  obtain ⟨l, h1, h2⟩ := hl
  exact lv_lstore_n F.1 F.2.1 hd rfl h1 hn rfl (fun ls' h => k p e s m args below meth c H locs ls' F hW hS (hL ▸ lh.st2 (ls := ls) h2 hp h) h0)
theorem r_lstore {i : Nat} {x : Int} (hd : decode K.2.2.1.2.1 pc = .ok (.lstore i, 2)) (hn : i + 1 < K.2.2.1.2.2.1) (hp : pvOK L i = true) (hL : (L.set i (jl x)).set (i + 1) xx = L') (k : RW K φ σ (pc + 2) L' st) : RW K φ σ pc L (jl x :: st) := by
  intro p e s m args below meth c H locs ls F hW hS hl h0
  obtain ⟨l, h1, h2⟩ := hl
  exact lv_lstore F.1 F.2.1 hd h1 hn rfl (fun ls' h => k p e s m args below meth c H locs ls' F hW hS (hL ▸ lh.st2 (ls := ls) h2 hp h) h0)
theorem r_iinc {i : Nat} {n x : Int} (hd : decode K.2.2.1.2.1 pc = .ok (.iinc i n, 3)) (hn : i < K.2.2.1.2.2.1) (hp : pvOK L i = true) (hx : L[i]? = some (iv x)) (hL : L.set i (iv (x + n)) = L') (k : RW K φ σ (pc + 3) L' st) : RW K φ σ pc L st := by
  intro p e s m args below meth c H locs ls F hW hS hl h0
  obtain ⟨l, h1, h2⟩ := hl
  obtain ⟨j, hj⟩ := List.getElem?_of_mem (h2 i _ hx (by intro h; cases h))
  exact lv_iinc F.1 F.2.1 hd h1 hj (Int32.ofInt_add x n).symm hn rfl (fun ls' h => k p e s m args below meth c H locs ls' F hW hS (hL ▸ lh.st1 (ls := ls) h2 hp h) h0)
theorem r_iincW {i : Nat} {n x : Int} (hd : decode K.2.2.1.2.1 pc = .ok (.iinc i n, 6)) (hn : i < K.2.2.1.2.2.1) (hp : pvOK L i = true) (hx : L[i]? = some (iv x)) (hL : L.set i (iv (x + n)) = L') (k : RW K φ σ (pc + 6) L' st) : RW K φ σ pc L st := by
  intro p e s m args below meth c H locs ls F hW hS hl h0
  obtain ⟨l, h1, h2⟩ := hl
  obtain ⟨j, hj⟩ := List.getElem?_of_mem (h2 i _ hx (by intro h; cases h))
  exact lv_iincW F.1 F.2.1 hd h1 hj (Int32.ofInt_add x n).symm hn rfl (fun ls' h => k p e s m args below meth c H locs ls' F hW hS (hL ▸ lh.st1 (ls := ls) h2 hp h) h0)
theorem r_dup {v : Value} (hd : decode K.2.2.1.2.1 pc = .ok (.dup, 1)) (hv : v.category = 1) (k : RW K φ σ (pc + 1) L (v :: v :: st)) : RW K φ σ pc L (v :: st) :=
  fun p e s m args below meth c H locs ls F hW hS hl h0 => lv_dup F.1 F.2.1 hd hv (k p e s m args below meth c H locs ls F hW hS hl h0)
theorem r_dup_x1 {v w : Value} (hd : decode K.2.2.1.2.1 pc = .ok (.dup_x1, 1)) (hv : v.category = 1) (hw : w.category = 1) (k : RW K φ σ (pc + 1) L (v :: w :: v :: st)) : RW K φ σ pc L (v :: w :: st) :=
  fun p e s m args below meth c H locs ls F hW hS hl h0 => lv_dup_x1 F.1 F.2.1 hd hv hw (k p e s m args below meth c H locs ls F hW hS hl h0)
theorem r_dup2 {v w : Value} (hd : decode K.2.2.1.2.1 pc = .ok (.dup2, 1)) (hv : v.category = 1) (hw : w.category = 1) (k : RW K φ σ (pc + 1) L (v :: w :: v :: w :: st)) : RW K φ σ pc L (v :: w :: st) :=
  fun p e s m args below meth c H locs ls F hW hS hl h0 => lv_dup2_11 F.1 F.2.1 hd hv hw (k p e s m args below meth c H locs ls F hW hS hl h0)
theorem r_iadd {a b : Int} (hd : decode K.2.2.1.2.1 pc = .ok (.iadd, 1)) (k : RW K φ σ (pc + 1) L (iv (a + b) :: st)) : RW K φ σ pc L (iv b :: iv a :: st) := by
  intro p e s m args below meth c H locs ls F hW hS hl h0
  have k := k p e s m args below meth c H locs ls F hW hS hl h0
  unfold iv at k
  rw [Int32.ofInt_add] at k
  exact lv_iadd F.1 F.2.1 hd k
theorem r_isub {a b : Int} (hd : decode K.2.2.1.2.1 pc = .ok (.isub, 1)) (k : RW K φ σ (pc + 1) L (iv (a - b) :: st)) : RW K φ σ pc L (iv b :: iv a :: st) := by
  intro p e s m args below meth c H locs ls F hW hS hl h0
  have k := k p e s m args below meth c H locs ls F hW hS hl h0
  unfold iv at k
  rw [Int32.ofInt_sub] at k
  exact lv_isub F.1 F.2.1 hd k
theorem r_imul {a b : Int} (hd : decode K.2.2.1.2.1 pc = .ok (.imul, 1)) (k : RW K φ σ (pc + 1) L (iv (a * b) :: st)) : RW K φ σ pc L (iv b :: iv a :: st) := by
  intro p e s m args below meth c H locs ls F hW hS hl h0
  have k := k p e s m args below meth c H locs ls F hW hS hl h0
  unfold iv at k
  rw [Int32.ofInt_mul] at k
  exact lv_imul F.1 F.2.1 hd k
theorem r_ladd {a b : Int} (hd : decode K.2.2.1.2.1 pc = .ok (.ladd, 1)) (k : RW K φ σ (pc + 1) L (jl (a + b) :: st)) : RW K φ σ pc L (jl b :: jl a :: st) := by
  intro p e s m args below meth c H locs ls F hW hS hl h0
  have k := k p e s m args below meth c H locs ls F hW hS hl h0
  unfold jl at k
  rw [Int64.ofInt_add] at k
  exact lv_ladd F.1 F.2.1 hd k
theorem r_lsub {a b : Int} (hd : decode K.2.2.1.2.1 pc = .ok (.lsub, 1)) (k : RW K φ σ (pc + 1) L (jl (a - b) :: st)) : RW K φ σ pc L (jl b :: jl a :: st) := by
  intro p e s m args below meth c H locs ls F hW hS hl h0
  have k := k p e s m args below meth c H locs ls F hW hS hl h0
  unfold jl at k
  rw [Int64.ofInt_sub] at k
  exact lv_lsub F.1 F.2.1 hd k
theorem r_lmul {a b : Int} (hd : decode K.2.2.1.2.1 pc = .ok (.lmul, 1)) (k : RW K φ σ (pc + 1) L (jl (a * b) :: st)) : RW K φ σ pc L (jl b :: jl a :: st) := by
  intro p e s m args below meth c H locs ls F hW hS hl h0
  have k := k p e s m args below meth c H locs ls F hW hS hl h0
  unfold jl at k
  rw [Int64.ofInt_mul] at k
  exact lv_lmul F.1 F.2.1 hd k
theorem r_ineg {a : Int} (hd : decode K.2.2.1.2.1 pc = .ok (.ineg, 1)) (k : RW K φ σ (pc + 1) L (iv (-a) :: st)) : RW K φ σ pc L (iv a :: st) := by
  intro p e s m args below meth c H locs ls F hW hS hl h0
  have k := k p e s m args below meth c H locs ls F hW hS hl h0
  unfold iv at k
  rw [Int32.ofInt_neg] at k
  exact lv_ineg F.1 F.2.1 hd k
theorem r_goto {off : Int} {tgt : Nat} (hd : decode K.2.2.1.2.1 pc = .ok (.goto off, 3)) (ht : (pc : Int) + off = (tgt : Int)) (k : RW K φ σ tgt L st) : RW K φ σ pc L st :=
  fun p e s m args below meth c H locs ls F hW hS hl h0 => lv_goto F.1 F.2.1 hd ht (k p e s m args below meth c H locs ls F hW hS hl h0)
theorem r_icmpeq {a b : Int} {off : Int} {tgt : Nat} (hd : decode K.2.2.1.2.1 pc = .ok (.if_icmp .eq off, 3)) (ht : (pc : Int) + off = (tgt : Int)) (ha : R32 a) (hb : R32 b) (kt : a = b → RW K φ σ tgt L st) (kf : ¬ a = b → RW K φ σ (pc + 3) L st) : RW K φ σ pc L (iv b :: iv a :: st) := by
  intro p e s m args below meth c H locs ls F hW hS hl h0
  refine lv_icmp_eq F.1 F.2.1 hd ht (fun h => ?_) (fun h => ?_)
  · exact kt (by simp only [GE.ge, GT.gt, i32_lt ha hb, i32_lt hb ha, i32_le ha hb, i32_le hb ha, i32_eq ha hb] at h; omega) p e s m args below meth c H locs ls F hW hS hl h0
  · exact kf (by simp only [GE.ge, GT.gt, i32_lt ha hb, i32_lt hb ha, i32_le ha hb, i32_le hb ha, i32_eq ha hb] at h; omega) p e s m args below meth c H locs ls F hW hS hl h0
theorem r_ifeq {a : Int} {off : Int} {tgt : Nat} (hd : decode K.2.2.1.2.1 pc = .ok (.ifCond .eq off, 3)) (ht : (pc : Int) + off = (tgt : Int)) (ha : R32 a) (kt : a = (0 : Int) → RW K φ σ tgt L st) (kf : ¬ a = 0 → RW K φ σ (pc + 3) L st) : RW K φ σ pc L (iv a :: st) := by
  intro p e s m args below meth c H locs ls F hW hS hl h0
  have hb : R32 0 := ⟨by omega, by omega⟩
  have e0 : (0 : Int32) = Int32.ofInt 0 := rfl
  refine lv_if_eq F.1 F.2.1 hd ht (fun h => ?_) (fun h => ?_)
  · exact kt (by rw [e0] at h; simp only [GE.ge, GT.gt, i32_lt ha hb, i32_lt hb ha, i32_le ha hb, i32_le hb ha, i32_eq ha hb] at h; omega) p e s m args below meth c H locs ls F hW hS hl h0
  · exact kf (by rw [e0] at h; simp only [GE.ge, GT.gt, i32_lt ha hb, i32_lt hb ha, i32_le ha hb, i32_le hb ha, i32_eq ha hb] at h; omega) p e s m args below meth c H locs ls F hW hS hl h0
theorem r_icmpne {a b : Int} {off : Int} {tgt : Nat} (hd : decode K.2.2.1.2.1 pc = .ok (.if_icmp .ne off, 3)) (ht : (pc : Int) + off = (tgt : Int)) (ha : R32 a) (hb : R32 b) (kt : ¬ a = b → RW K φ σ tgt L st) (kf : a = b → RW K φ σ (pc + 3) L st) : RW K φ σ pc L (iv b :: iv a :: st) := by
  intro p e s m args below meth c H locs ls F hW hS hl h0
  refine lv_icmp_ne F.1 F.2.1 hd ht (fun h => ?_) (fun h => ?_)
  · exact kt (by simp only [GE.ge, GT.gt, i32_lt ha hb, i32_lt hb ha, i32_le ha hb, i32_le hb ha, i32_eq ha hb] at h; omega) p e s m args below meth c H locs ls F hW hS hl h0
  · exact kf (by simp only [GE.ge, GT.gt, i32_lt ha hb, i32_lt hb ha, i32_le ha hb, i32_le hb ha, i32_eq ha hb] at h; omega) p e s m args below meth c H locs ls F hW hS hl h0
theorem r_ifne {a : Int} {off : Int} {tgt : Nat} (hd : decode K.2.2.1.2.1 pc = .ok (.ifCond .ne off, 3)) (ht : (pc : Int) + off = (tgt : Int)) (ha : R32 a) (kt : ¬ a = 0 → RW K φ σ tgt L st) (kf : a = (0 : Int) → RW K φ σ (pc + 3) L st) : RW K φ σ pc L (iv a :: st) := by
  intro p e s m args below meth c H locs ls F hW hS hl h0
  have hb : R32 0 := ⟨by omega, by omega⟩
  have e0 : (0 : Int32) = Int32.ofInt 0 := rfl
  refine lv_if_ne F.1 F.2.1 hd ht (fun h => ?_) (fun h => ?_)
  · exact kt (by rw [e0] at h; simp only [GE.ge, GT.gt, i32_lt ha hb, i32_lt hb ha, i32_le ha hb, i32_le hb ha, i32_eq ha hb] at h; omega) p e s m args below meth c H locs ls F hW hS hl h0
  · exact kf (by rw [e0] at h; simp only [GE.ge, GT.gt, i32_lt ha hb, i32_lt hb ha, i32_le ha hb, i32_le hb ha, i32_eq ha hb] at h; omega) p e s m args below meth c H locs ls F hW hS hl h0
theorem r_icmplt {a b : Int} {off : Int} {tgt : Nat} (hd : decode K.2.2.1.2.1 pc = .ok (.if_icmp .lt off, 3)) (ht : (pc : Int) + off = (tgt : Int)) (ha : R32 a) (hb : R32 b) (kt : a < b → RW K φ σ tgt L st) (kf : b ≤ a → RW K φ σ (pc + 3) L st) : RW K φ σ pc L (iv b :: iv a :: st) := by
  intro p e s m args below meth c H locs ls F hW hS hl h0
  refine lv_icmp_lt F.1 F.2.1 hd ht (fun h => ?_) (fun h => ?_)
  · exact kt (by simp only [GE.ge, GT.gt, i32_lt ha hb, i32_lt hb ha, i32_le ha hb, i32_le hb ha, i32_eq ha hb] at h; omega) p e s m args below meth c H locs ls F hW hS hl h0
  · exact kf (by simp only [GE.ge, GT.gt, i32_lt ha hb, i32_lt hb ha, i32_le ha hb, i32_le hb ha, i32_eq ha hb] at h; omega) p e s m args below meth c H locs ls F hW hS hl h0
theorem r_iflt {a : Int} {off : Int} {tgt : Nat} (hd : decode K.2.2.1.2.1 pc = .ok (.ifCond .lt off, 3)) (ht : (pc : Int) + off = (tgt : Int)) (ha : R32 a) (kt : a < (0 : Int) → RW K φ σ tgt L st) (kf : (0 : Int) ≤ a → RW K φ σ (pc + 3) L st) : RW K φ σ pc L (iv a :: st) := by
  intro p e s m args below meth c H locs ls F hW hS hl h0
  have hb : R32 0 := ⟨by omega, by omega⟩
  have e0 : (0 : Int32) = Int32.ofInt 0 := rfl
  refine lv_if_lt F.1 F.2.1 hd ht (fun h => ?_) (fun h => ?_)
  · exact kt (by rw [e0] at h; simp only [GE.ge, GT.gt, i32_lt ha hb, i32_lt hb ha, i32_le ha hb, i32_le hb ha, i32_eq ha hb] at h; omega) p e s m args below meth c H locs ls F hW hS hl h0
  · exact kf (by rw [e0] at h; simp only [GE.ge, GT.gt, i32_lt ha hb, i32_lt hb ha, i32_le ha hb, i32_le hb ha, i32_eq ha hb] at h; omega) p e s m args below meth c H locs ls F hW hS hl h0
theorem r_icmpge {a b : Int} {off : Int} {tgt : Nat} (hd : decode K.2.2.1.2.1 pc = .ok (.if_icmp .ge off, 3)) (ht : (pc : Int) + off = (tgt : Int)) (ha : R32 a) (hb : R32 b) (kt : b ≤ a → RW K φ σ tgt L st) (kf : a < b → RW K φ σ (pc + 3) L st) : RW K φ σ pc L (iv b :: iv a :: st) := by
  intro p e s m args below meth c H locs ls F hW hS hl h0
  refine lv_icmp_ge F.1 F.2.1 hd ht (fun h => ?_) (fun h => ?_)
  · exact kt (by simp only [GE.ge, GT.gt, i32_lt ha hb, i32_lt hb ha, i32_le ha hb, i32_le hb ha, i32_eq ha hb] at h; omega) p e s m args below meth c H locs ls F hW hS hl h0
  · exact kf (by simp only [GE.ge, GT.gt, i32_lt ha hb, i32_lt hb ha, i32_le ha hb, i32_le hb ha, i32_eq ha hb] at h; omega) p e s m args below meth c H locs ls F hW hS hl h0
theorem r_ifge {a : Int} {off : Int} {tgt : Nat} (hd : decode K.2.2.1.2.1 pc = .ok (.ifCond .ge off, 3)) (ht : (pc : Int) + off = (tgt : Int)) (ha : R32 a) (kt : (0 : Int) ≤ a → RW K φ σ tgt L st) (kf : a < (0 : Int) → RW K φ σ (pc + 3) L st) : RW K φ σ pc L (iv a :: st) := by
  intro p e s m args below meth c H locs ls F hW hS hl h0
  have hb : R32 0 := ⟨by omega, by omega⟩
  have e0 : (0 : Int32) = Int32.ofInt 0 := rfl
  refine lv_if_ge F.1 F.2.1 hd ht (fun h => ?_) (fun h => ?_)
  · exact kt (by rw [e0] at h; simp only [GE.ge, GT.gt, i32_lt ha hb, i32_lt hb ha, i32_le ha hb, i32_le hb ha, i32_eq ha hb] at h; omega) p e s m args below meth c H locs ls F hW hS hl h0
  · exact kf (by rw [e0] at h; simp only [GE.ge, GT.gt, i32_lt ha hb, i32_lt hb ha, i32_le ha hb, i32_le hb ha, i32_eq ha hb] at h; omega) p e s m args below meth c H locs ls F hW hS hl h0
theorem r_icmpgt {a b : Int} {off : Int} {tgt : Nat} (hd : decode K.2.2.1.2.1 pc = .ok (.if_icmp .gt off, 3)) (ht : (pc : Int) + off = (tgt : Int)) (ha : R32 a) (hb : R32 b) (kt : b < a → RW K φ σ tgt L st) (kf : a ≤ b → RW K φ σ (pc + 3) L st) : RW K φ σ pc L (iv b :: iv a :: st) := by
  intro p e s m args below meth c H locs ls F hW hS hl h0
  refine lv_icmp_gt F.1 F.2.1 hd ht (fun h => ?_) (fun h => ?_)
  · exact kt (by simp only [GE.ge, GT.gt, i32_lt ha hb, i32_lt hb ha, i32_le ha hb, i32_le hb ha, i32_eq ha hb] at h; omega) p e s m args below meth c H locs ls F hW hS hl h0
  · exact kf (by simp only [GE.ge, GT.gt, i32_lt ha hb, i32_lt hb ha, i32_le ha hb, i32_le hb ha, i32_eq ha hb] at h; omega) p e s m args below meth c H locs ls F hW hS hl h0
theorem r_ifgt {a : Int} {off : Int} {tgt : Nat} (hd : decode K.2.2.1.2.1 pc = .ok (.ifCond .gt off, 3)) (ht : (pc : Int) + off = (tgt : Int)) (ha : R32 a) (kt : (0 : Int) < a → RW K φ σ tgt L st) (kf : a ≤ (0 : Int) → RW K φ σ (pc + 3) L st) : RW K φ σ pc L (iv a :: st) := by
  intro p e s m args below meth c H locs ls F hW hS hl h0
  have hb : R32 0 := ⟨by omega, by omega⟩
  have e0 : (0 : Int32) = Int32.ofInt 0 := rfl
  refine lv_if_gt F.1 F.2.1 hd ht (fun h => ?_) (fun h => ?_)
  · exact kt (by rw [e0] at h; simp only [GE.ge, GT.gt, i32_lt ha hb, i32_lt hb ha, i32_le ha hb, i32_le hb ha, i32_eq ha hb] at h; omega) p e s m args below meth c H locs ls F hW hS hl h0
  · exact kf (by rw [e0] at h; simp only [GE.ge, GT.gt, i32_lt ha hb, i32_lt hb ha, i32_le ha hb, i32_le hb ha, i32_eq ha hb] at h; omega) p e s m args below meth c H locs ls F hW hS hl h0
theorem r_icmple {a b : Int} {off : Int} {tgt : Nat} (hd : decode K.2.2.1.2.1 pc = .ok (.if_icmp .le off, 3)) (ht : (pc : Int) + off = (tgt : Int)) (ha : R32 a) (hb : R32 b) (kt : a ≤ b → RW K φ σ tgt L st) (kf : b < a → RW K φ σ (pc + 3) L st) : RW K φ σ pc L (iv b :: iv a :: st) := by
  intro p e s m args below meth c H locs ls F hW hS hl h0
  refine lv_icmp_le F.1 F.2.1 hd ht (fun h => ?_) (fun h => ?_)
  · exact kt (by simp only [GE.ge, GT.gt, i32_lt ha hb, i32_lt hb ha, i32_le ha hb, i32_le hb ha, i32_eq ha hb] at h; omega) p e s m args below meth c H locs ls F hW hS hl h0
  · exact kf (by simp only [GE.ge, GT.gt, i32_lt ha hb, i32_lt hb ha, i32_le ha hb, i32_le hb ha, i32_eq ha hb] at h; omega) p e s m args below meth c H locs ls F hW hS hl h0
theorem r_ifle {a : Int} {off : Int} {tgt : Nat} (hd : decode K.2.2.1.2.1 pc = .ok (.ifCond .le off, 3)) (ht : (pc : Int) + off = (tgt : Int)) (ha : R32 a) (kt : a ≤ (0 : Int) → RW K φ σ tgt L st) (kf : (0 : Int) < a → RW K φ σ (pc + 3) L st) : RW K φ σ pc L (iv a :: st) := by
  intro p e s m args below meth c H locs ls F hW hS hl h0
  have hb : R32 0 := ⟨by omega, by omega⟩
  have e0 : (0 : Int32) = Int32.ofInt 0 := rfl
  refine lv_if_le F.1 F.2.1 hd ht (fun h => ?_) (fun h => ?_)
  · exact kt (by rw [e0] at h; simp only [GE.ge, GT.gt, i32_lt ha hb, i32_lt hb ha, i32_le ha hb, i32_le hb ha, i32_eq ha hb] at h; omega) p e s m args below meth c H locs ls F hW hS hl h0
  · exact kf (by rw [e0] at h; simp only [GE.ge, GT.gt, i32_lt ha hb, i32_lt hb ha, i32_le ha hb, i32_le hb ha, i32_eq ha hb] at h; omega) p e s m args below meth c H locs ls F hW hS hl h0
end RowsA
end
section
/-! ROWS: division, bits, longs, conversions, switches -/
abbrev R64 (z : Int) : Prop := -9223372036854775808 ≤ z ∧ z < 9223372036854775808
theorem i64_toInt {z : Int} (h : R64 z) : (Int64.ofInt z).toInt = z := Int64.toInt_ofInt_of_le (by simpa using h.1) (by simpa using h.2)
theorem i32_div {a b : Int} (ha : 0 ≤ a) (ha' : a < 2147483648) (hb : 0 < b) (hb' : b < 2147483648) : Int32.ofInt a / Int32.ofInt b = Int32.ofInt (a / b) := by
  rw [← Int.tdiv_eq_ediv_of_nonneg ha]
  refine (Int32.ofInt_tdiv ?_ ?_ ?_ ?_).symm
  · have : Int32.minValue.toInt = -2147483648 := by decide +kernel
    omega
  · have : Int32.maxValue.toInt = 2147483647 := by decide +kernel
    omega
  · have : Int32.minValue.toInt = -2147483648 := by decide +kernel
    omega
  · have : Int32.maxValue.toInt = 2147483647 := by decide +kernel
    omega
theorem i32_mod {a b : Int} (ha : 0 ≤ a) (ha' : a < 2147483648) (hb : 0 < b) (hb' : b < 2147483648) : Int32.ofInt a % Int32.ofInt b = Int32.ofInt (a % b) := by
  rw [← Int.tmod_eq_emod_of_nonneg ha]
  refine (Int32.ofInt_tmod ?_ ?_ ?_ ?_).symm
  · have : Int32.minValue.toInt = -2147483648 := by decide +kernel
    omega
  · have : Int32.maxValue.toInt = 2147483647 := by decide +kernel
    omega
  · have : Int32.minValue.toInt = -2147483648 := by decide +kernel
    omega
  · have : Int32.maxValue.toInt = 2147483647 := by decide +kernel
    omega
theorem i64_div {a b : Int} (ha : 0 ≤ a) (ha' : a < 9223372036854775808) (hb : 0 < b) (hb' : b < 9223372036854775808) : Int64.ofInt a / Int64.ofInt b = Int64.ofInt (a / b) := by
  rw [← Int.tdiv_eq_ediv_of_nonneg ha]
  refine (Int64.ofInt_tdiv ?_ ?_ ?_ ?_).symm
  · have : Int64.minValue.toInt = -9223372036854775808 := by decide +kernel
    omega
  · have : Int64.maxValue.toInt = 9223372036854775807 := by decide +kernel
    omega
  · have : Int64.minValue.toInt = -9223372036854775808 := by decide +kernel
    omega
  · have : Int64.maxValue.toInt = 9223372036854775807 := by decide +kernel
    omega
theorem i64_mod {a b : Int} (ha : 0 ≤ a) (ha' : a < 9223372036854775808) (hb : 0 < b) (hb' : b < 9223372036854775808) : Int64.ofInt a % Int64.ofInt b = Int64.ofInt (a % b) := by
  rw [← Int.tmod_eq_emod_of_nonneg ha]
  refine (Int64.ofInt_tmod ?_ ?_ ?_ ?_).symm
  · have : Int64.minValue.toInt = -9223372036854775808 := by decide +kernel
    omega
  · have : Int64.maxValue.toInt = 9223372036854775807 := by decide +kernel
    omega
  · have : Int64.minValue.toInt = -9223372036854775808 := by decide +kernel
    omega
  · have : Int64.maxValue.toInt = 9223372036854775807 := by decide +kernel
    omega
theorem i32_i2l {a : Int} (h : R32 a) : (Int32.ofInt a).toInt64 = Int64.ofInt a := by
  rw [← Int64.toInt_inj, Int32.toInt_toInt64, i32_toInt h, i64_toInt ⟨by omega, by omega⟩]
theorem i64_l2i {a : Int} (h : R32 a) : (Int64.ofInt a).toInt32 = Int32.ofInt a := by
  rw [← Int32.toInt_inj, Int64.toInt_toInt32, i64_toInt ⟨by omega, by omega⟩, i32_toInt h]
  exact Int.bmod_eq_of_le (by omega) (by omega)
theorem i32_i2b {a : Int} (h : R32 a) : (Int32.ofInt a).toInt8.toInt32 = Int32.ofInt (a.bmod 256) := by
  have h1 : -128 ≤ a.bmod 256 ∧ a.bmod 256 < 128 := ⟨Int.le_bmod (by omega), Int.bmod_lt (by omega)⟩
  rw [← Int32.toInt_inj, Int8.toInt_toInt32, Int32.toInt_toInt8, i32_toInt h, i32_toInt ⟨by omega, by omega⟩]
theorem i32_i2s {a : Int} (h : R32 a) : (Int32.ofInt a).toInt16.toInt32 = Int32.ofInt (a.bmod 65536) := by
  have h1 : -32768 ≤ a.bmod 65536 ∧ a.bmod 65536 < 32768 := ⟨Int.le_bmod (by omega), Int.bmod_lt (by omega)⟩
  rw [← Int32.toInt_inj, Int16.toInt_toInt32, Int32.toInt_toInt16, i32_toInt h, i32_toInt ⟨by omega, by omega⟩]
theorem lg_cmp_int {a b : Int} (ha : R64 a) (hb : R64 b) : lg_cmp (Int64.ofInt a) (Int64.ofInt b) = Int32.ofInt (if b < a then 1 else if a = b then 0 else -1) := by
  unfold lg_cmp
  have e1 : (Int64.ofInt a > Int64.ofInt b) ↔ b < a := by rw [GT.gt, Int64.lt_iff_toInt_lt, i64_toInt ha, i64_toInt hb]
  have e2 : (Int64.ofInt a = Int64.ofInt b) ↔ a = b := by rw [← Int64.toInt_inj, i64_toInt ha, i64_toInt hb]
  by_cases h1 : b < a
  · rw [if_pos (e1.mpr h1), if_pos h1]; rfl
  · rw [if_neg (fun h => h1 (e1.mp h)), if_neg h1]
    by_cases h2 : a = b
    · rw [if_pos (e2.mpr h2), if_pos h2]; rfl
    · rw [if_neg (fun h => h2 (e2.mp h)), if_neg h2]; rfl
theorem i64_nat_bv (m : Nat) : (Int64.ofInt (m : Int)).toBitVec = BitVec.ofNat 64 m := by
  rw [Int64.toBitVec_ofInt, BitVec.ofInt_natCast]
theorem i64_or (a b : Nat) : Int64.ofInt (a : Int) ||| Int64.ofInt (b : Int) = Int64.ofInt ((a ||| b : Nat) : Int) := by
  rw [← Int64.toBitVec_inj, Int64.toBitVec_or, i64_nat_bv, i64_nat_bv, i64_nat_bv, BitVec.ofNat_or]
theorem i64_and (a b : Nat) : Int64.ofInt (a : Int) &&& Int64.ofInt (b : Int) = Int64.ofInt ((a &&& b : Nat) : Int) := by
  rw [← Int64.toBitVec_inj, Int64.toBitVec_and, i64_nat_bv, i64_nat_bv, i64_nat_bv, BitVec.ofNat_and]
theorem i64_shl1 : ∀ c : Nat, c < 64 → Int64.ofInt 1 <<< ((Int32.ofInt (c : Int)).toInt64 &&& 63) = Int64.ofInt ((2 ^ c : Nat) : Int) := by decide +kernel
theorem i64_nat0 {m : Nat} (h : m < 18446744073709551616) : lg_cmp (Int64.ofInt (m : Int)) (Int64.ofInt 0) = 0 ↔ m = 0 := by
  have e : Int64.ofInt (m : Int) = Int64.ofInt 0 ↔ m = 0 := by
    rw [← Int64.toBitVec_inj, i64_nat_bv, show Int64.ofInt 0 = Int64.ofInt ((0 : Nat) : Int) from rfl, i64_nat_bv]
    constructor
    · intro h1
      have h2 := congrArg BitVec.toNat h1
      simp only [BitVec.toNat_ofNat] at h2
      omega
    · rintro rfl; rfl
  unfold lg_cmp
  by_cases h1 : Int64.ofInt (m : Int) > Int64.ofInt 0
  · rw [if_pos h1]
    refine ⟨fun h2 => absurd h2 (by decide +kernel), fun h2 => ?_⟩
    rw [GT.gt, Int64.lt_iff_toInt_lt, e.mpr h2] at h1
    omega
  · rw [if_neg h1]
    by_cases h2 : Int64.ofInt (m : Int) = Int64.ofInt 0
    · rw [if_pos h2]
      exact ⟨fun _ => e.mp h2, fun _ => rfl⟩
    · rw [if_neg h2]
      exact ⟨fun h3 => absurd h3 (by decide +kernel), fun h3 => absurd (e.mpr h3) h2⟩
theorem i32_nat_bv (m : Nat) : (Int32.ofInt (m : Int)).toBitVec = BitVec.ofNat 32 m := by
  rw [Int32.toBitVec_ofInt, BitVec.ofInt_natCast]
theorem i32_or (a b : Nat) : Int32.ofInt (a : Int) ||| Int32.ofInt (b : Int) = Int32.ofInt ((a ||| b : Nat) : Int) := by
  rw [← Int32.toBitVec_inj, Int32.toBitVec_or, i32_nat_bv, i32_nat_bv, i32_nat_bv, BitVec.ofNat_or]
theorem i32_and (a b : Nat) : Int32.ofInt (a : Int) &&& Int32.ofInt (b : Int) = Int32.ofInt ((a &&& b : Nat) : Int) := by
  rw [← Int32.toBitVec_inj, Int32.toBitVec_and, i32_nat_bv, i32_nat_bv, i32_nat_bv, BitVec.ofNat_and]
theorem i32_ord {a b k : Nat} (h : b < 2 ^ k) : Int32.ofInt ((a * 2 ^ k : Nat) : Int) ||| Int32.ofInt (b : Int) = Int32.ofInt ((a * 2 ^ k + b : Nat) : Int) := by
  rw [i32_or, ← Nat.shiftLeft_eq, Nat.shiftLeft_add_eq_or_of_lt h]
theorem i32_andm (a k : Nat) : Int32.ofInt (a : Int) &&& Int32.ofInt ((2 ^ k - 1 : Nat) : Int) = Int32.ofInt ((a % 2 ^ k : Nat) : Int) := by
  rw [i32_and, Nat.and_two_pow_sub_one_eq_mod]
theorem bv_smod32 : ∀ b : Nat, b < 32 → ((BitVec.ofNat 32 b).smod 32) = BitVec.ofNat 32 b := by decide +kernel
theorem i32_shl {a : Int} {b : Nat} (hb : b < 32) : Int32.ofInt a <<< (Int32.ofInt (b : Int) &&& 31) = Int32.ofInt (a * 2 ^ b) := by
  have e : Int32.ofInt (b : Int) &&& 31 = Int32.ofInt (b : Int) := by
    have := i32_andm b 5
    rw [show ((2 ^ 5 - 1 : Nat) : Int) = 31 from rfl, Nat.mod_eq_of_lt (by omega)] at this
    exact this
  rw [e, ← Int32.toBitVec_inj, Int32.toBitVec_shiftLeft, i32_nat_bv, Int32.ofInt_mul, Int32.toBitVec_mul]
  have e2 : ((BitVec.ofNat 32 b).smod 32) = BitVec.ofNat 32 b := bv_smod32 b hb
  rw [e2]
  show (Int32.ofInt a).toBitVec <<< (BitVec.ofNat 32 b).toNat = _
  rw [BitVec.toNat_ofNat, Nat.mod_eq_of_lt (by omega), BitVec.shiftLeft_eq_mul_twoPow]
  congr 1
  rw [Int32.toBitVec_ofInt, show ((2 : Int) ^ b) = ((2 ^ b : Nat) : Int) by simp, BitVec.ofInt_natCast]
  exact BitVec.eq_of_toNat_eq (by rw [BitVec.toNat_twoPow, BitVec.toNat_ofNat])
theorem i32_shr {a : Int} {b : Nat} (ha : R32 a) (hb : b < 32) : Int32.ofInt a >>> (Int32.ofInt (b : Int) &&& 31) = Int32.ofInt (a / 2 ^ b) := by
  have e : Int32.ofInt (b : Int) &&& 31 = Int32.ofInt (b : Int) := by
    have := i32_andm b 5
    rw [show ((2 ^ 5 - 1 : Nat) : Int) = 31 from rfl, Nat.mod_eq_of_lt (by omega)] at this
    exact this
  rw [e]
  have e2 : ((BitVec.ofNat 32 b).smod 32) = BitVec.ofNat 32 b := bv_smod32 b hb
  have hp : (1 : Int) ≤ 2 ^ b := by
    have : 0 < 2 ^ b := Nat.two_pow_pos b
    have h2 : ((2 ^ b : Nat) : Int) = 2 ^ b := by simp
    omega
  have hr : R32 (a / 2 ^ b) := by
    refine ⟨?_, ?_⟩
    · refine Int.le_ediv_of_mul_le (by omega) ?_
      have := Int.mul_le_mul_of_nonneg_left hp (show (0 : Int) ≤ 2147483648 by omega)
      have := ha.1
      omega
    · refine Int.ediv_lt_of_lt_mul (by omega) ?_
      have := Int.mul_le_mul_of_nonneg_left hp (show (0 : Int) ≤ 2147483648 by omega)
      have := ha.2
      omega
  rw [← Int32.toInt_inj, i32_toInt hr, ← Int32.toInt_toBitVec, Int32.toBitVec_shiftRight, i32_nat_bv, e2]
  show ((Int32.ofInt a).toBitVec.sshiftRight (BitVec.ofNat 32 b).toNat).toInt = _
  rw [BitVec.toNat_ofNat, Nat.mod_eq_of_lt (by omega), BitVec.toInt_sshiftRight, Int32.toInt_toBitVec, i32_toInt ha, Int.shiftRight_eq_div_pow]
  simp
theorem i32_and31 (x : Int32) : x &&& 31 = Int32.ofInt (x.toInt % 32) := by
  have h : ∃ m : Nat, m < 4294967296 ∧ x = Int32.ofInt (m : Int) := by
    refine ⟨(x.toInt % 4294967296).toNat, by omega, ?_⟩
    rw [← Int32.toInt_inj, Int32.toInt_ofInt, Int.toNat_of_nonneg (by omega)]
    show _ = (x.toInt % ((4294967296 : Nat) : Int)).bmod 4294967296
    rw [Int.emod_bmod]
    have h1 := Int32.le_toInt x
    have h2 := Int32.toInt_lt x
    rw [Int.bmod_eq_of_le (by omega) (by omega)]
  obtain ⟨m, hm, rfl⟩ := h
  have := i32_andm m 5
  rw [show ((2 ^ 5 - 1 : Nat) : Int) = 31 from rfl] at this
  rw [show (31 : Int32) = Int32.ofInt 31 from rfl, this, Int32.toInt_ofInt]
  refine congrArg Int32.ofInt ?_
  show ((m % 32 : Nat) : Int) = ((m : Int).bmod 4294967296) % 32
  rw [Int.bmod_def]
  split <;> omega
section RowsB
variable {K : Kx} {φ : Ph} {σ : Si} {pc : Nat} {L L' : List Value} {st : List Value}
theorem r_idiv {a b : Int} (hd : decode K.2.2.1.2.1 pc = .ok (.idiv, 1)) (ha : 0 ≤ a ∧ a < 2147483648) (hb : 0 < b ∧ b < 2147483648) (k : RW K φ σ (pc + 1) L (iv (a / b) :: st)) : RW K φ σ pc L (iv b :: iv a :: st) := by
  intro p e s m args below meth c H locs ls F hW hS hl h0
  have k := k p e s m args below meth c H locs ls F hW hS hl h0
  unfold iv at k
  rw [← i32_div ha.1 ha.2 hb.1 hb.2] at k
  refine lv_idiv F.1 F.2.1 hd (fun h => ?_) k
  have := (i32_eq (a := b) (b := 0) ⟨by omega, by omega⟩ ⟨by omega, by omega⟩).mp h
  omega
theorem r_irem {a b : Int} (hd : decode K.2.2.1.2.1 pc = .ok (.irem, 1)) (ha : 0 ≤ a ∧ a < 2147483648) (hb : 0 < b ∧ b < 2147483648) (k : RW K φ σ (pc + 1) L (iv (a % b) :: st)) : RW K φ σ pc L (iv b :: iv a :: st) := by
  intro p e s m args below meth c H locs ls F hW hS hl h0
  have k := k p e s m args below meth c H locs ls F hW hS hl h0
  unfold iv at k
  rw [Int.emod_def, Int32.ofInt_sub, Int.mul_comm, Int32.ofInt_mul, ← i32_div ha.1 ha.2 hb.1 hb.2] at k
  refine lv_irem F.1 F.2.1 hd (fun h => ?_) k
  have := (i32_eq (a := b) (b := 0) ⟨by omega, by omega⟩ ⟨by omega, by omega⟩).mp h
  omega
theorem i64_ne0 {b : Int} (h : 0 < b ∧ b < 9223372036854775808) : ¬ Int64.ofInt b = 0 := by
  intro h1
  have h2 := congrArg Int64.toInt h1
  rw [i64_toInt ⟨by omega, by omega⟩] at h2
  have : (0 : Int64).toInt = 0 := by decide +kernel
  omega
theorem r_ldiv {a b : Int} (hd : decode K.2.2.1.2.1 pc = .ok (.ldiv, 1)) (ha : 0 ≤ a ∧ a < 9223372036854775808) (hb : 0 < b ∧ b < 9223372036854775808) (k : RW K φ σ (pc + 1) L (jl (a / b) :: st)) : RW K φ σ pc L (jl b :: jl a :: st) := by
  intro p e s m args below meth c H locs ls F hW hS hl h0
  have k := k p e s m args below meth c H locs ls F hW hS hl h0
  unfold jl at k
  rw [← i64_div ha.1 ha.2 hb.1 hb.2] at k
  exact lv_ldiv F.1 F.2.1 hd (i64_ne0 hb) k
theorem r_lrem {a b : Int} (hd : decode K.2.2.1.2.1 pc = .ok (.lrem, 1)) (ha : 0 ≤ a ∧ a < 9223372036854775808) (hb : 0 < b ∧ b < 9223372036854775808) (k : RW K φ σ (pc + 1) L (jl (a % b) :: st)) : RW K φ σ pc L (jl b :: jl a :: st) := by
  intro p e s m args below meth c H locs ls F hW hS hl h0
  have k := k p e s m args below meth c H locs ls F hW hS hl h0
  unfold jl at k
  rw [Int.emod_def, Int64.ofInt_sub, Int.mul_comm, Int64.ofInt_mul, ← i64_div ha.1 ha.2 hb.1 hb.2] at k
  exact lv_lrem F.1 F.2.1 hd (i64_ne0 hb) k
theorem r_i2l {a : Int} (hd : decode K.2.2.1.2.1 pc = .ok (.i2l, 1)) (ha : R32 a) (k : RW K φ σ (pc + 1) L (jl a :: st)) : RW K φ σ pc L (iv a :: st) :=
  fun p e s m args below meth c H locs ls F hW hS hl h0 => lv_i2l F.1 F.2.1 hd (i32_i2l ha) (k p e s m args below meth c H locs ls F hW hS hl h0)
theorem r_l2i {a : Int} (hd : decode K.2.2.1.2.1 pc = .ok (.l2i, 1)) (ha : R32 a) (k : RW K φ σ (pc + 1) L (iv a :: st)) : RW K φ σ pc L (jl a :: st) :=
  fun p e s m args below meth c H locs ls F hW hS hl h0 => lv_l2i F.1 F.2.1 hd (i64_l2i ha) (k p e s m args below meth c H locs ls F hW hS hl h0)
theorem r_i2b {a : Int} (hd : decode K.2.2.1.2.1 pc = .ok (.i2b, 1)) (ha : R32 a) (k : RW K φ σ (pc + 1) L (iv (a.bmod 256) :: st)) : RW K φ σ pc L (iv a :: st) :=
  fun p e s m args below meth c H locs ls F hW hS hl h0 => lv_i2b F.1 F.2.1 hd (i32_i2b ha) (k p e s m args below meth c H locs ls F hW hS hl h0)
theorem r_i2s {a : Int} (hd : decode K.2.2.1.2.1 pc = .ok (.i2s, 1)) (ha : R32 a) (k : RW K φ σ (pc + 1) L (iv (a.bmod 65536) :: st)) : RW K φ σ pc L (iv a :: st) :=
  fun p e s m args below meth c H locs ls F hW hS hl h0 => lv_i2s F.1 F.2.1 hd (i32_i2s ha) (k p e s m args below meth c H locs ls F hW hS hl h0)
theorem r_lcmp {a b : Int} (hd : decode K.2.2.1.2.1 pc = .ok (.lcmp, 1)) (ha : R64 a) (hb : R64 b) (k : RW K φ σ (pc + 1) L (iv (if b < a then 1 else if a = b then 0 else -1) :: st)) : RW K φ σ pc L (jl b :: jl a :: st) := by
  intro p e s m args below meth c H locs ls F hW hS hl h0
  have k := k p e s m args below meth c H locs ls F hW hS hl h0
  unfold iv at k
  rw [← lg_cmp_int ha hb] at k
  exact W.lcmp F.1 F.2.1 hd k
theorem r_lcmp0 {m : Nat} (hd : decode K.2.2.1.2.1 pc = .ok (.lcmp, 1)) (hm : m < 18446744073709551616) (k : ∀ z : Int, R32 z → (z = 0 ↔ m = 0) → RW K φ σ (pc + 1) L (iv z :: st)) : RW K φ σ pc L (jl 0 :: jl (m : Int) :: st) := by
  intro p e s m' args below meth c H locs ls F hW hS hl h0
  have hz : R32 (lg_cmp (Int64.ofInt (m : Int)) (Int64.ofInt 0)).toInt := ⟨Int32.le_toInt _, Int32.toInt_lt _⟩
  have e' : (lg_cmp (Int64.ofInt (m : Int)) (Int64.ofInt 0)).toInt = 0 ↔ m = 0 := by
    rw [← i64_nat0 hm, ← Int32.toInt_inj]
    exact Iff.rfl
  have k := k _ hz e' p e s m' args below meth c H locs ls F hW hS hl h0
  unfold iv at k
  rw [Int32.ofInt_toInt] at k
  exact W.lcmp F.1 F.2.1 hd k
theorem r_lor {a b : Nat} (hd : decode K.2.2.1.2.1 pc = .ok (.lor, 1)) (k : RW K φ σ (pc + 1) L (jl ((a ||| b : Nat) : Int) :: st)) : RW K φ σ pc L (jl (b : Int) :: jl (a : Int) :: st) := by
  intro p e s m args below meth c H locs ls F hW hS hl h0
  have k := k p e s m args below meth c H locs ls F hW hS hl h0
  unfold jl at k
  rw [← i64_or] at k
  exact lv_lor F.1 F.2.1 hd k
theorem r_land {a b : Nat} (hd : decode K.2.2.1.2.1 pc = .ok (.land, 1)) (k : RW K φ σ (pc + 1) L (jl ((a &&& b : Nat) : Int) :: st)) : RW K φ σ pc L (jl (b : Int) :: jl (a : Int) :: st) := by
  intro p e s m args below meth c H locs ls F hW hS hl h0
  have k := k p e s m args below meth c H locs ls F hW hS hl h0
  unfold jl at k
  rw [← i64_and] at k
  exact lv_land F.1 F.2.1 hd k
theorem r_lshl1 {c : Nat} (hd : decode K.2.2.1.2.1 pc = .ok (.lshl, 1)) (hc : c < 64) (k : RW K φ σ (pc + 1) L (jl ((2 ^ c : Nat) : Int) :: st)) : RW K φ σ pc L (iv (c : Int) :: jl 1 :: st) :=
  fun p e s m args below meth cc H locs ls F hW hS hl h0 => lv_lshl F.1 F.2.1 hd (i64_shl1 c hc) (k p e s m args below meth cc H locs ls F hW hS hl h0)
theorem r_ishl {a : Int} {b : Nat} (hd : decode K.2.2.1.2.1 pc = .ok (.ishl, 1)) (hb : b < 32) (k : RW K φ σ (pc + 1) L (iv (a * 2 ^ b) :: st)) : RW K φ σ pc L (iv (b : Int) :: iv a :: st) := by
  intro p e s m args below meth c H locs ls F hW hS hl h0
  have k := k p e s m args below meth c H locs ls F hW hS hl h0
  unfold iv at k
  rw [← i32_shl hb] at k
  exact lv_ishl F.1 F.2.1 hd k
theorem r_ishr {a : Int} {b : Nat} (hd : decode K.2.2.1.2.1 pc = .ok (.ishr, 1)) (ha : R32 a) (hb : b < 32) (k : RW K φ σ (pc + 1) L (iv (a / 2 ^ b) :: st)) : RW K φ σ pc L (iv (b : Int) :: iv a :: st) := by
  intro p e s m args below meth c H locs ls F hW hS hl h0
  have k := k p e s m args below meth c H locs ls F hW hS hl h0
  unfold iv at k
  rw [← i32_shr ha hb] at k
  exact lv_ishr F.1 F.2.1 hd k
theorem r_ior {a b k : Nat} (hd : decode K.2.2.1.2.1 pc = .ok (.ior, 1)) (hb : b < 2 ^ k) (kk : RW K φ σ (pc + 1) L (iv ((a * 2 ^ k + b : Nat) : Int) :: st)) : RW K φ σ pc L (iv (b : Int) :: iv ((a * 2 ^ k : Nat) : Int) :: st) := by
  intro p e s m args below meth c H locs ls F hW hS hl h0
  have k := kk p e s m args below meth c H locs ls F hW hS hl h0
  unfold iv at k
  rw [← i32_ord hb] at k
  exact lv_ior F.1 F.2.1 hd k
theorem r_iandm {a k : Nat} (hd : decode K.2.2.1.2.1 pc = .ok (.iand, 1)) (kk : RW K φ σ (pc + 1) L (iv ((a % 2 ^ k : Nat) : Int) :: st)) : RW K φ σ pc L (iv ((2 ^ k - 1 : Nat) : Int) :: iv (a : Int) :: st) := by
  intro p e s m args below meth c H locs ls F hW hS hl h0
  have k := kk p e s m args below meth c H locs ls F hW hS hl h0
  unfold iv at k
  rw [← i32_andm] at k
  exact lv_iand F.1 F.2.1 hd k
theorem r_iand31 {a : Int} (hd : decode K.2.2.1.2.1 pc = .ok (.iand, 1)) (ha : R32 a) (kk : RW K φ σ (pc + 1) L (iv (a % 32) :: st)) : RW K φ σ pc L (iv 31 :: iv a :: st) := by
  intro p e s m args below meth c H locs ls F hW hS hl h0
  have k := kk p e s m args below meth c H locs ls F hW hS hl h0
  have e := i32_and31 (Int32.ofInt a)
  rw [i32_toInt ha] at e
  unfold iv at k
  rw [← e] at k
  exact lv_iand F.1 F.2.1 hd k
theorem r_tabIn {dflt lo hi : Int} {offs : Array Int} {len : Nat} {x off : Int} {tgt : Nat} (hd : decode K.2.2.1.2.1 pc = .ok (.tableswitch dflt lo hi offs, len)) (hx : R32 x) (h1 : ¬ x < lo) (h2 : ¬ hi < x) (ho : offs[(x - lo).toNat]? = some off) (ht : (pc : Int) + off = (tgt : Int)) (k : RW K φ σ tgt L st) : RW K φ σ pc L (iv x :: st) :=
  fun p e s m args below meth c H locs ls F hW hS hl h0 => lv_tableIn F.1 F.2.1 hd (by rw [i32_toInt hx]; exact h1) (by rw [i32_toInt hx]; exact h2) (by rw [i32_toInt hx]; exact ho) ht (k p e s m args below meth c H locs ls F hW hS hl h0)
theorem r_tabOut {dflt lo hi : Int} {offs : Array Int} {len : Nat} {x : Int} {tgt : Nat} (hd : decode K.2.2.1.2.1 pc = .ok (.tableswitch dflt lo hi offs, len)) (hx : R32 x) (h : x < lo ∨ hi < x) (ht : (pc : Int) + dflt = (tgt : Int)) (k : RW K φ σ tgt L st) : RW K φ σ pc L (iv x :: st) :=
  fun p e s m args below meth c H locs ls F hW hS hl h0 => lv_tableOut F.1 F.2.1 hd (by rw [i32_toInt hx]; exact h) ht (k p e s m args below meth c H locs ls F hW hS hl h0)
theorem r_nonnull {x : Nat} {off : Int} {tgt : Nat} (hd : decode K.2.2.1.2.1 pc = .ok (.ifnonnull off, 3)) (ht : (pc : Int) + off = (tgt : Int)) (k : RW K φ σ tgt L st) : RW K φ σ pc L (.ref x :: st) :=
  fun p e s m args below meth c H locs ls F hW hS hl h0 => lv_ifnonnull F.1 F.2.1 hd ht (k p e s m args below meth c H locs ls F hW hS hl h0)
theorem r_nonnullN {off : Int} (hd : decode K.2.2.1.2.1 pc = .ok (.ifnonnull off, 3)) (k : RW K φ σ (pc + 3) L st) : RW K φ σ pc L (.null :: st) :=
  fun p e s m args below meth c H locs ls F hW hS hl h0 => lv_ifnonnullN F.1 F.2.1 hd (k p e s m args below meth c H locs ls F hW hS hl h0)
/-- a truth as Java has it -/
def bi (P : Prop) [Decidable P] : Int := if P then 1 else 0
theorem bi_R (P : Prop) [Decidable P] : R32 (bi P) := by unfold bi; split <;> exact ⟨by omega, by omega⟩
theorem r_ifeqb {P : Prop} [Decidable P] {off : Int} {tgt : Nat} (hd : decode K.2.2.1.2.1 pc = .ok (.ifCond .eq off, 3)) (ht : (pc : Int) + off = (tgt : Int)) (kt : ¬ P → RW K φ σ tgt L st) (kf : P → RW K φ σ (pc + 3) L st) : RW K φ σ pc L (iv (bi P) :: st) := by
  refine r_ifeq hd ht (bi_R P) (fun h => kt ?_) (fun h => kf ?_)
  · intro hp; unfold bi at h; rw [if_pos hp] at h; omega
  · by_cases hp : P
    · exact hp
    · unfold bi at h; rw [if_neg hp] at h; omega
theorem r_ifneb {P : Prop} [Decidable P] {off : Int} {tgt : Nat} (hd : decode K.2.2.1.2.1 pc = .ok (.ifCond .ne off, 3)) (ht : (pc : Int) + off = (tgt : Int)) (kt : P → RW K φ σ tgt L st) (kf : ¬ P → RW K φ σ (pc + 3) L st) : RW K φ σ pc L (iv (bi P) :: st) := by
  refine r_ifne hd ht (bi_R P) (fun h => kt ?_) (fun h => kf ?_)
  · by_cases hp : P
    · exact hp
    · unfold bi at h; rw [if_neg hp] at h; omega
  · intro hp; unfold bi at h; rw [if_pos hp] at h; omega
end RowsB
end
section
/-! ROWS: fields, arrays, new cells -/
def up (σ : Si) (k j : Nat) (z : Int) : Si := fun a b => if a = k ∧ b = j then z else σ a b
def upR (ρ : Rho) (k j : Nat) (r : Option Nat) : Rho := fun a b => if a = k ∧ b = j then r else ρ a b
theorem up_same {σ : Si} {k j : Nat} {z : Int} : up σ k j z k j = z := if_pos ⟨rfl, rfl⟩
theorem up_row {σ : Si} {k j a : Nat} {z : Int} (h : a ≠ k) : up σ k j z a = σ a := funext fun b => if_neg (fun q => h q.1)
theorem up_ne {σ : Si} {k j b : Nat} {z : Int} (h : b ≠ j) : up σ k j z k b = σ k b := if_neg (fun q => h q.2)
theorem up_at {σ : Si} {k j b : Nat} {z : Int} : up σ k j z k b = if b = j then z else σ k b := by
  unfold up
  by_cases h : b = j
  · rw [if_pos ⟨rfl, h⟩, if_pos h]
  · rw [if_neg (fun q => h q.2), if_neg h]
theorem upR_row {ρ : Rho} {k j a : Nat} {z : Option Nat} (h : a ≠ k) : upR ρ k j z a = ρ a := funext fun b => if_neg (fun q => h q.1)
theorem upR_at {ρ : Rho} {k j b : Nat} {z : Option Nat} : upR ρ k j z k b = if b = j then z else ρ k b := by
  unfold upR
  by_cases h : b = j
  · rw [if_pos ⟨rfl, h⟩, if_pos h]
  · rw [if_neg (fun q => h q.2), if_neg h]
/-- a field by its number in the pool of a class: field j of class t -/
def fl (own : String) (ix t j : Nat) (d : String) (fin : Bool) : Prop := ∃ C T N, vwCl[t]? = some (C, T, N) ∧ j < N ∧ (T j).2.2.1 = d ∧ (T j).2.2.2 = fin ∧ (T j).1 = C ∧ Cond.fieldLink own ix C (T j).2.1 d ∈ lw_tbl
theorem cls_cases {t : Nat} {q : vw_C} (h : vwCl[t]? = some q) : (t = 0 ∧ q = (RX0, TX0, 19)) ∨ (t = 1 ∧ q = (RX1, TX1, 7)) ∨ (t = 2 ∧ q = (RX2, TX2, 4)) ∨ (t = 3 ∧ q = (RX3, TX3, 3)) ∨ (t = 4 ∧ q = (RX4, TX4, 13)) ∨ (t = 5 ∧ q = (RX6, TX6, 8)) ∨ (t = 6 ∧ q = (RX7, TX7, 3)) ∨ (t = 7 ∧ q = (RX8, TX8, 8)) ∨ (t = 8 ∧ q = (RX9, TX9, 57)) := by
  have hl : t < 9 := (List.getElem?_eq_some_iff.mp h).1
  rcases (show t = 0 ∨ t = 1 ∨ t = 2 ∨ t = 3 ∨ t = 4 ∨ t = 5 ∨ t = 6 ∨ t = 7 ∨ t = 8 by omega) with rfl | rfl | rfl | rfl | rfl | rfl | rfl | rfl | rfl <;> (cases h; simp)
theorem inX0 : ∀ w ∈ u_ws RX0 TX0 19, w ∈ lw_tbl := by decide +kernel
theorem inX1 : ∀ w ∈ u_ws RX1 TX1 7, w ∈ lw_tbl := by decide +kernel
theorem inX2 : ∀ w ∈ u_ws RX2 TX2 4, w ∈ lw_tbl := by decide +kernel
theorem inX3 : ∀ w ∈ u_ws RX3 TX3 3, w ∈ lw_tbl := by decide +kernel
theorem inX4 : ∀ w ∈ u_ws RX4 TX4 13, w ∈ lw_tbl := by decide +kernel
theorem inX6 : ∀ w ∈ u_ws RX6 TX6 8, w ∈ lw_tbl := by decide +kernel
theorem inX7 : ∀ w ∈ u_ws RX7 TX7 3, w ∈ lw_tbl := by decide +kernel
theorem inX8 : ∀ w ∈ u_ws RX8 TX8 8, w ∈ lw_tbl := by decide +kernel
theorem inX9 : ∀ w ∈ u_ws RX9 TX9 57, w ∈ lw_tbl := by decide +kernel
theorem cls_in {t : Nat} {C : String} {T : u_T} {N : Nat} (h : vwCl[t]? = some (C, T, N)) : ∀ w ∈ u_ws C T N, w ∈ lw_tbl := by
  rcases cls_cases h with ⟨-, h⟩ | ⟨-, h⟩ | ⟨-, h⟩ | ⟨-, h⟩ | ⟨-, h⟩ | ⟨-, h⟩ | ⟨-, h⟩ | ⟨-, h⟩ | ⟨-, h⟩ <;> cases h
  · exact inX0
  · exact inX1
  · exact inX2
  · exact inX3
  · exact inX4
  · exact inX6
  · exact inX7
  · exact inX8
  · exact inX9
theorem cls_ty {t : Nat} {C : String} {T : u_T} {N : Nat} (h : vwCl[t]? = some (C, T, N)) : ∃ ty : Nat → FieldType, (∀ k, k < N → parseFieldDescriptor (T k).2.2.1 = some (ty k)) ∧ ∀ a, a < N → ∀ b, b < N → a ≠ b → (T a).2.1 ≠ (T b).2.1 := by
  rcases cls_cases h with ⟨-, h⟩ | ⟨-, h⟩ | ⟨-, h⟩ | ⟨-, h⟩ | ⟨-, h⟩ | ⟨-, h⟩ | ⟨-, h⟩ | ⟨-, h⟩ | ⟨-, h⟩ <;> cases h
  · exact ⟨_, tyX0_ok, nmX0⟩
  · exact ⟨_, tyX1_ok, nmX1⟩
  · exact ⟨_, tyX2_ok, nmX2⟩
  · exact ⟨_, tyX3_ok, nmX3⟩
  · exact ⟨_, tyX4_ok, nmX4⟩
  · exact ⟨_, tyX6_ok, nmX6⟩
  · exact ⟨_, tyX7_ok, nmX7⟩
  · exact ⟨_, tyX8_ok, nmX8⟩
  · exact ⟨_, tyX9_ok, nmX9⟩
/-- the words that calls hand on -/
def lw_gd : List Cond := lw_tbl.filter goodWord
theorem gd_mem {w : Cond} (h : w ∈ lw_tbl) (hg : goodWord w = true) : w ∈ lw_gd := List.mem_filter.mpr ⟨h, hg⟩
theorem ws_good (C : String) (T : u_T) (N : Nat) : ∀ w ∈ u_ws C T N, goodWord w = true := by
  intro w hw
  obtain ⟨k, -, rfl⟩ := List.mem_map.mp hw
  unfold u_lay
  split <;> rfl
theorem Fx.gd {M : Mi} {p : Program} {s : State} {m : MethodId} {args : Array Value} {meth : Method} {c : Code} (F : Fx M p s m args meth c) : ∀ w ∈ lw_gd, w.before args s = true := fun w h => F.2.2.2.2.2.1 w (List.mem_filter.mp h).1 (List.mem_filter.mp h).2
theorem shp_small {k t N : Nat} (h : shp k = (t, N)) : N < 3000 := by
  unfold shp at h
  have key : ∀ q ∈ shpL, q.2 < 3000 := by decide +kernel
  by_cases hk : k < shpL.length
  · rw [List.getD_eq_getElem?_getD, List.getElem?_eq_getElem hk] at h
    have := key _ (List.getElem_mem hk)
    have e : shpL[k] = (t, N) := h
    rw [e] at this
    exact this
  · rw [List.getD_eq_getElem?_getD, List.getElem?_eq_none (by omega)] at h
    cases h
    omega
theorem vwCl_lt {t : Nat} {q : vw_C} (h : vwCl[t]? = some q) : t < 9 := (List.getElem?_eq_some_iff.mp h).1
/-- a cell of numbers is written -/
theorem Wd.set {G : GG} {n : Nat} {ρ ρ' : Rho} {σ σ' : Si} {U : State} {H H1 : Heap} {k : Nat} (h : Wd G n ρ σ U H) (hk : k < n) (hz : H1.size = H.size) (hoq : ∀ q, q ≠ gB G + k → H1[q]? = H[q]?) (hσ : ∀ a, a ≠ k → σ' a = σ a) (hρ : ∀ a, a ≠ k → ρ' a = ρ a) (hat : at_ G ρ' σ' k H1) : Wd G n ρ' σ' U H1 := by
  obtain ⟨h1, h2, h3, h4⟩ := h
  refine ⟨hz.trans h1, fun a ha => ?_, h3, h4.kept (fun q hq => hoq q (fun e => hq (by unfold gA; omega)))⟩
  by_cases e : a = k
  · subst e; exact hat
  · obtain ⟨c1, c2, c3, c4, c5⟩ := h2 a ha
    have hne : H1[gB G + a]? = H[gB G + a]? := hoq _ (by omega)
    unfold at_
    rw [hσ a e, hρ a e, hne]
    refine ⟨c1, c2, c3, c4, fun t C T N ht hc => ?_⟩
    exact (c5 t C T N ht hc).kept hne
section RowsC
variable {K : Kx} {φ : Ph} {σ : Si} {pc : Nat} {L L' : List Value} {st : List Value}
theorem r_getf {ix t j k : Nat} {d : String} {fin : Bool} {v : Value} (hd : decode K.2.2.1.2.1 pc = .ok (.getfield ix, 3)) (hf : fl K.2.2.1.1.cls ix t j d fin) (hs : (shp k).1 = t) (hk : k < φ.2.2.1) (hv : (if isI d = true then iv (σ k j) else rv K.2.1 (φ.2.2.2 k j)) = v) (kk : RW K φ σ (pc + 3) L (v :: st)) : RW K φ σ pc L (rf K.2.1 k :: st) := by
  intro p e s m args below meth c H locs ls F hW hS hl h0
  obtain ⟨C, T, N, hc, hj, e1, e2, e3, hlk⟩ := hf
  obtain ⟨cell, q1, q2, q3, q4⟩ := (hW.2.1 k hk).2.2.2.2 t C T N hs hc
  obtain ⟨hSl, hfc, kC, hkC, hkind⟩ := hW.2.2.1.1 t _ hc
  obtain ⟨cf, kf, fi, f, hi, hsl⟩ := hSl j hj
  rw [e3, e1] at hi
  have hlay := u_lays F.gd (fun w hw => gd_mem (cls_in hc w hw) (ws_good C T N w hw)) hj
  rw [e3, e1] at hlay
  refine W.getf F.1 F.2.1 F.2.2.2.2.1 (F.2.2.2.2.2.1 _ hlk rfl) hi (u_facts hfc hkC hlay hi).1 q1 (by rw [q3]; exact fun h => by cases h) (v := v) ?_ rfl rfl hd (kk p e s m args below meth c H locs ls F hW hS hl h0)
  rw [hsl, q4 j hj]
  unfold fvv
  rw [e1, hv]
theorem r_geti {ix t j k : Nat} {d : String} {fin : Bool} (hd : decode K.2.2.1.2.1 pc = .ok (.getfield ix, 3)) (hf : fl K.2.2.1.1.cls ix t j d fin) (hI : isI d = true) (hs : (shp k).1 = t) (hk : k < φ.2.2.1) (kk : RW K φ σ (pc + 3) L (iv (σ k j) :: st)) : RW K φ σ pc L (rf K.2.1 k :: st) :=
  r_getf hd hf hs hk (by rw [if_pos hI]) kk
theorem r_getr {ix t j k r : Nat} {d : String} {fin : Bool} (hd : decode K.2.2.1.2.1 pc = .ok (.getfield ix, 3)) (hf : fl K.2.2.1.1.cls ix t j d fin) (hI : isI d = false) (hs : (shp k).1 = t) (hk : k < φ.2.2.1) (hr : φ.2.2.2 k j = some r) (kk : RW K φ σ (pc + 3) L (rf K.2.1 r :: st)) : RW K φ σ pc L (rf K.2.1 k :: st) :=
  r_getf hd hf hs hk (by rw [if_neg (by rw [hI]; decide), hr]; rfl) kk
theorem r_getn {ix t j k : Nat} {d : String} {fin : Bool} (hd : decode K.2.2.1.2.1 pc = .ok (.getfield ix, 3)) (hf : fl K.2.2.1.1.cls ix t j d fin) (hI : isI d = false) (hs : (shp k).1 = t) (hk : k < φ.2.2.1) (hr : φ.2.2.2 k j = none) (kk : RW K φ σ (pc + 3) L (.null :: st)) : RW K φ σ pc L (rf K.2.1 k :: st) :=
  r_getf hd hf hs hk (by rw [if_neg (by rw [hI]; decide), hr]; rfl) kk
theorem put_at {G : GG} {ρ ρ' : Rho} {σ σ' : Si} {k t j N : Nat} {C : String} {T : u_T} {v : Value} {H1 : Heap} {cell : Cell} {i : Nat} (hs : (shp k).1 = t) (hc : vwCl[t]? = some (C, T, N)) (hj : j < N) (e1 : H1[gB G + k]? = some (cell.setSlot i v)) (q2 : cell.cls = (gD G).1 t) (q3 : cell.vm = .none) (q4 : ∀ a, a < N → cell.slots[(gD G).2 t a]? = some (fvv G T (ρ k) (σ k) a)) (hi : i = (gD G).2 t j) (hap : ∀ x y, x < N → y < N → x ≠ y → (gD G).2 t x ≠ (gD G).2 t y) (hv : fvv G T (ρ' k) (σ' k) j = v) (ho : ∀ a, a ≠ j → fvv G T (ρ' k) (σ' k) a = fvv G T (ρ k) (σ k) a) : at_ G ρ' σ' k H1 := by
  have hlt := vwCl_lt hc
  refine ⟨fun N' h => ?_, fun N' h => ?_, fun N' h => ?_, fun N' h => ?_, fun t' C' T' N' ht' hc' => ?_⟩
  · rw [h] at hs; simp only at hs; omega
  · rw [h] at hs; simp only at hs; omega
  · rw [h] at hs; simp only at hs; omega
  · rw [h] at hs; simp only at hs; omega
  · have e : t' = t := by rw [← ht', ← hs]
    subst e
    rw [hc] at hc'
    cases hc'
    subst hi
    refine t_OB.to (V := updV (fvv G T (ρ k) (σ k)) j v) ⟨_, e1, q2, q3, t_set q4 hap hj v⟩ (fun a _ => ?_)
    unfold updV
    by_cases ha : a = j
    · rw [if_pos ha, ha, hv]
    · rw [if_neg ha, ho a ha]
theorem r_putg {ix t j k : Nat} {d : String} {v : Value} {ρ' : Rho} {σ' : Si} {ty : FieldType} (hd : decode K.2.2.1.2.1 pc = .ok (.putfield ix, 3)) (hf : fl K.2.2.1.1.cls ix t j d false) (hs : (shp k).1 = t) (hk : k < φ.2.2.1) (hty : parseFieldDescriptor d = some ty) (hn : narrow ty v = v) (hfit : fits ty v = true)
    (hσ : ∀ a, a ≠ k → σ' a = σ a) (hρ : ∀ a, a ≠ k → ρ' a = φ.2.2.2 a) (hv : ∀ T : u_T, (T j).2.2.1 = d → fvv K.2.1 T (ρ' k) (σ' k) j = v) (ho : ∀ (T : u_T) a, a ≠ j → fvv K.2.1 T (ρ' k) (σ' k) a = fvv K.2.1 T (φ.2.2.2 k) (σ k) a)
    (kk : RW K (φ.1, φ.2.1, φ.2.2.1, ρ') σ' (pc + 3) L st) : RW K φ σ pc L (v :: rf K.2.1 k :: st) := by
  intro p e s m args below meth c H locs ls F hW hS hl h0
  obtain ⟨C, T, N, hc, hj, e1, e2, e3, hlk⟩ := hf
  obtain ⟨cell, q1, q2, q3, q4⟩ := (hW.2.1 k hk).2.2.2.2 t C T N hs hc
  obtain ⟨hSl, hfc, kC, hkC, hkind⟩ := hW.2.2.1.1 t _ hc
  obtain ⟨cf, kf, fi, f, hi, hsl⟩ := hSl j hj
  have hin : ∀ w ∈ u_ws C T N, w ∈ lw_gd := fun w hw => gd_mem (cls_in hc w hw) (ws_good C T N w hw)
  have hlay := F.gd _ (hin _ (u_in_lay hj))
  unfold u_lay at hlay
  rw [if_neg (by rw [e2]; decide)] at hlay
  have hst := (u_facts hfc hkC (u_lays F.gd hin hj) hi).1
  obtain ⟨tys, htys, hnm⟩ := cls_ty hc
  have hap := va_apart (own := C) F.gd hin tys htys hnm hW.2.2.1 hc
  have h6 := u_store hfc hkC hkind hlay hi (by rw [e1]; exact hty) hn hfit
  rw [e3, e1] at hi
  refine W.putK F.1 F.2.1 (f := f) ⟨F.2.2.2.2.1, F.2.2.2.2.2.1 _ hlk rfl, ⟨_, _, _, hi⟩, hst⟩ (by rw [q2]; exact h6) q1 q3 (by rw [hsl]; exact k2_hasslot (q4 j hj)) rfl rfl hd fun H' g1 g2 g3 => ?_
  exact kk p e s m args below meth c H' _ ls F (hW.set hk g2 g3 hσ hρ (put_at hs hc hj g1 q2 q3 q4 hsl hap (hv T e1) (fun a ha => ho T a ha))) (hS.put g2 g3 (by unfold gA; omega)) hl h0
theorem r_putgF {ix t j k : Nat} {d : String} {v : Value} {ρ' : Rho} {σ' : Si} {ty : FieldType} (hd : decode K.2.2.1.2.1 pc = .ok (.putfield ix, 3)) (hf : fl K.2.2.1.1.cls ix t j d true) (hin0 : K.2.2.1.1.name = "<init>") (hown : ∀ C T N, vwCl[t]? = some (C, T, N) → C = K.2.2.1.1.cls) (hs : (shp k).1 = t) (hk : k < φ.2.2.1) (hty : parseFieldDescriptor d = some ty) (hn : narrow ty v = v) (hfit : fits ty v = true)
    (hσ : ∀ a, a ≠ k → σ' a = σ a) (hρ : ∀ a, a ≠ k → ρ' a = φ.2.2.2 a) (hv : ∀ T : u_T, (T j).2.2.1 = d → fvv K.2.1 T (ρ' k) (σ' k) j = v) (ho : ∀ (T : u_T) a, a ≠ j → fvv K.2.1 T (ρ' k) (σ' k) a = fvv K.2.1 T (φ.2.2.2 k) (σ k) a)
    (kk : RW K (φ.1, φ.2.1, φ.2.2.1, ρ') σ' (pc + 3) L st) : RW K φ σ pc L (v :: rf K.2.1 k :: st) := by
  intro p e s m args below meth c H locs ls F hW hS hl h0
  obtain ⟨C, T, N, hc, hj, e1, e2, e3, hlk⟩ := hf
  have hC := hown C T N hc
  obtain ⟨cell, q1, q2, q3, q4⟩ := (hW.2.1 k hk).2.2.2.2 t C T N hs hc
  obtain ⟨hSl, hfc, kC, hkC, hkind⟩ := hW.2.2.1.1 t _ hc
  obtain ⟨cf, kf, fi, f, hi, hsl⟩ := hSl j hj
  have hin : ∀ w ∈ u_ws C T N, w ∈ lw_gd := fun w hw => gd_mem (cls_in hc w hw) (ws_good C T N w hw)
  have hlay := F.gd _ (hin _ (u_in_lay hj))
  unfold u_lay at hlay
  rw [if_pos e2] at hlay
  have hst := (u_facts hfc hkC (u_lays F.gd hin hj) hi).1
  obtain ⟨tys, htys, hnm⟩ := cls_ty hc
  have hap := va_apart (own := C) F.gd hin tys htys hnm hW.2.2.1 hc
  have h6 := u_fits hfc hkC hkind (Or.inr hlay) hi (by rw [e1]; exact hty) hn hfit
  have hcf : m.cls = cf := by
    obtain ⟨_, _, c', _, _, _, -, -, hf', -, -, -, hown2, -⟩ := Cond.laysFinal_spec hlay
    have e4 : c' = cf := by have := hi.symm.trans hf'; simp at this; exact this.1.symm
    rw [e3, hC] at hown2
    rw [← e4]; exact Option.some.inj (F.2.2.2.2.1.symm.trans hown2)
  rw [e3, e1] at hi
  refine W.putFinK F.1 F.2.1 F.2.2.2.2.1 (F.2.2.2.2.2.1 _ hlk rfl) hi hst hcf (F.2.2.2.2.2.2.2.1.trans hin0) (by rw [q2]; exact h6) q1 q3 (by rw [hsl]; exact k2_hasslot (q4 j hj)) rfl rfl hd fun H' g1 g2 g3 => ?_
  exact kk p e s m args below meth c H' _ ls F (hW.set hk g2 g3 hσ hρ (put_at hs hc hj g1 q2 q3 q4 hsl hap (hv T e1) (fun a ha => ho T a ha))) (hS.put g2 g3 (by unfold gA; omega)) hl h0
theorem fvv_i {G : GG} {T : u_T} {ρ : Nat → Option Nat} {σ : Si} {k j : Nat} {z : Int} {d : String} (hI : isI d = true) (h : (T j).2.2.1 = d) : fvv G T ρ (up σ k j z k) j = iv z := by
  unfold fvv
  rw [h, if_pos hI, up_same]
theorem fvv_o {G : GG} {T : u_T} {ρ : Nat → Option Nat} {σ : Si} {k j a : Nat} {z : Int} (h : a ≠ j) : fvv G T ρ (up σ k j z k) a = fvv G T ρ (σ k) a := by
  unfold fvv
  rw [up_ne h]
/-- a number's field is written -/
theorem r_puti {ix t j k : Nat} {z : Int} (hd : decode K.2.2.1.2.1 pc = .ok (.putfield ix, 3)) (hf : fl K.2.2.1.1.cls ix t j "I" false) (hs : (shp k).1 = t) (hk : k < φ.2.2.1) (kk : RW K φ (up σ k j z) (pc + 3) L st) : RW K φ σ pc L (iv z :: rf K.2.1 k :: st) :=
  r_putg (ty := .int) (ρ' := φ.2.2.2) (σ' := up σ k j z) hd hf hs hk (by decide +kernel) rfl rfl (fun a ha => up_row ha) (fun a _ => rfl) (fun T h => fvv_i (d := "I") (by decide +kernel) h) (fun T a ha => fvv_o ha) kk
theorem nar_z {z : Int} (h : z = 0 ∨ z = 1) : narrow .boolean (iv z) = iv z := by rcases h with rfl | rfl <;> decide +kernel
theorem r_putz {ix t j k : Nat} {z : Int} (hd : decode K.2.2.1.2.1 pc = .ok (.putfield ix, 3)) (hf : fl K.2.2.1.1.cls ix t j "Z" false) (hz : z = 0 ∨ z = 1) (hs : (shp k).1 = t) (hk : k < φ.2.2.1) (kk : RW K φ (up σ k j z) (pc + 3) L st) : RW K φ σ pc L (iv z :: rf K.2.1 k :: st) :=
  r_putg (ty := .boolean) (ρ' := φ.2.2.2) (σ' := up σ k j z) hd hf hs hk (by decide +kernel) (nar_z hz) (by rcases hz with rfl | rfl <;> decide +kernel) (fun a ha => up_row ha) (fun a _ => rfl) (fun T h => fvv_i (d := "Z") (by decide +kernel) h) (fun T a ha => fvv_o ha) kk
theorem fvv_r {G : GG} {T : u_T} {ρ : Rho} {σ : Nat → Int} {k j : Nat} {r : Option Nat} {d : String} (hI : isI d = false) (h : (T j).2.2.1 = d) : fvv G T (upR ρ k j r k) σ j = rv G r := by
  unfold fvv
  rw [h, if_neg (by rw [hI]; decide), upR_at, if_pos rfl]
theorem fvv_ro {G : GG} {T : u_T} {ρ : Rho} {σ : Nat → Int} {k j a : Nat} {r : Option Nat} (h : a ≠ j) : fvv G T (upR ρ k j r k) σ a = fvv G T (ρ k) σ a := by
  unfold fvv
  rw [upR_at, if_neg h]
/-- a reference's final field, in its constructor -/
theorem r_putrF {ix t j k r : Nat} {d : String} {ty : FieldType} (hd : decode K.2.2.1.2.1 pc = .ok (.putfield ix, 3)) (hf : fl K.2.2.1.1.cls ix t j d true) (hI : isI d = false) (hin0 : K.2.2.1.1.name = "<init>") (hown : ∀ C T N, vwCl[t]? = some (C, T, N) → C = K.2.2.1.1.cls) (hs : (shp k).1 = t) (hk : k < φ.2.2.1) (hty : parseFieldDescriptor d = some ty) (hn : ∀ a, narrow ty (.ref a) = .ref a) (hfit : ∀ a, fits ty (.ref a) = true)
    (kk : RW K (φ.1, φ.2.1, φ.2.2.1, upR φ.2.2.2 k j (some r)) σ (pc + 3) L st) : RW K φ σ pc L (rf K.2.1 r :: rf K.2.1 k :: st) :=
  r_putgF (ρ' := upR φ.2.2.2 k j (some r)) (σ' := σ) hd hf hin0 hown hs hk hty (hn _) (hfit _) (fun a _ => rfl) (fun a ha => upR_row ha) (fun T h => fvv_r hI h) (fun T a ha => fvv_ro ha) kk
theorem r_putr {ix t j k r : Nat} {d : String} {ty : FieldType} (hd : decode K.2.2.1.2.1 pc = .ok (.putfield ix, 3)) (hf : fl K.2.2.1.1.cls ix t j d false) (hI : isI d = false) (hs : (shp k).1 = t) (hk : k < φ.2.2.1) (hty : parseFieldDescriptor d = some ty) (hn : ∀ a, narrow ty (.ref a) = .ref a) (hfit : ∀ a, fits ty (.ref a) = true)
    (kk : RW K (φ.1, φ.2.1, φ.2.2.1, upR φ.2.2.2 k j (some r)) σ (pc + 3) L st) : RW K φ σ pc L (rf K.2.1 r :: rf K.2.1 k :: st) :=
  r_putg (ρ' := upR φ.2.2.2 k j (some r)) (σ' := σ) hd hf hs hk hty (hn _) (hfit _) (fun a _ => rfl) (fun a ha => upR_row ha) (fun T h => fvv_r hI h) (fun T a ha => fvv_ro ha) kk
theorem r_putn {ix t j k : Nat} {d : String} {ty : FieldType} (hd : decode K.2.2.1.2.1 pc = .ok (.putfield ix, 3)) (hf : fl K.2.2.1.1.cls ix t j d false) (hI : isI d = false) (hs : (shp k).1 = t) (hk : k < φ.2.2.1) (hty : parseFieldDescriptor d = some ty) (hn : narrow ty .null = .null) (hfit : fits ty .null = true)
    (kk : RW K (φ.1, φ.2.1, φ.2.2.1, upR φ.2.2.2 k j none) σ (pc + 3) L st) : RW K φ σ pc L (.null :: rf K.2.1 k :: st) :=
  r_putg (ρ' := upR φ.2.2.2 k j none) (σ' := σ) hd hf hs hk hty hn hfit (fun a _ => rfl) (fun a ha => upR_row ha) (fun T h => fvv_r hI h) (fun T a ha => fvv_ro ha) kk
end RowsC
end
section
/-! ROWS: arrays, new cells, what is only read -/
theorem arr_no {k t N t' : Nat} (h : shp k = (t, N)) (ht : 99 < t) (h' : (shp k).1 = t') {q : vw_C} (hc : vwCl[t']? = some q) : False := by
  have := vwCl_lt hc
  rw [h] at h'
  simp only at h'
  omega
section RowsD
variable {K : Kx} {φ : Ph} {σ : Si} {pc : Nat} {L L' : List Value} {st : List Value}
theorem r_iald {k N c : Nat} {i : Int} (hd : decode K.2.2.1.2.1 pc = .ok (.iaload, 1)) (hs : shp k = (100, N)) (hk : k < φ.2.2.1) (hi : i = (c : Int)) (hc : c < N) (kk : RW K φ σ (pc + 1) L (iv (σ k c) :: st)) : RW K φ σ pc L (iv i :: rf K.2.1 k :: st) := by
  subst hi
  intro p e s m args below meth cc H locs ls F hW hS hl h0
  have hN := shp_small hs
  refine W.iald (v := iv (σ k c)) F.1 F.2.1 ((hW.2.1 k hk).1 N hs) ((hW.2.2.1.2 0 _ rfl).1 N (fun j => iv (σ k j))) (fun q => by cases q) (by show vp_in _ (arrV _ _ _).slots.size; rw [arrV_size]; exact vp_in_nat hc (by omega)) (by rw [i32_clamp (by omega), arrV_read _ _ hc]) rfl rfl hd (kk p e s m args below meth cc H locs ls F hW hS hl h0)
theorem r_zald {k N c : Nat} {i : Int} (hd : decode K.2.2.1.2.1 pc = .ok (.baload, 1)) (hs : shp k = (101, N)) (hk : k < φ.2.2.1) (hi : i = (c : Int)) (hc : c < N) (kk : RW K φ σ (pc + 1) L (iv (σ k c) :: st)) : RW K φ σ pc L (iv i :: rf K.2.1 k :: st) := by
  subst hi
  intro p e s m args below meth cc H locs ls F hW hS hl h0
  have hN := shp_small hs
  refine W.zald (v := iv (σ k c)) F.1 F.2.1 ((hW.2.1 k hk).2.1 N hs) ((hW.2.2.1.2 1 _ rfl).1 N (fun j => iv (σ k j))) (fun q => by cases q) (by show vp_in _ (arrV _ _ _).slots.size; rw [arrV_size]; exact vp_in_nat hc (by omega)) (by rw [i32_clamp (by omega), arrV_read _ _ hc]) rfl rfl hd (kk p e s m args below meth cc H locs ls F hW hS hl h0)
theorem r_lald {k N c : Nat} {i : Int} (hd : decode K.2.2.1.2.1 pc = .ok (.laload, 1)) (hs : shp k = (102, N)) (hk : k < φ.2.2.1) (hi : i = (c : Int)) (hc : c < N) (kk : RW K φ σ (pc + 1) L (jl (σ k c) :: st)) : RW K φ σ pc L (iv i :: rf K.2.1 k :: st) := by
  subst hi
  intro p e s m args below meth cc H locs ls F hW hS hl h0
  have hN := shp_small hs
  refine W.lald (v := jl (σ k c)) F.1 F.2.1 ((hW.2.1 k hk).2.2.1 N hs) ((hW.2.2.1.2 2 _ rfl).1 N (fun j => jl (σ k j))) (fun q => by cases q) (by show vp_in _ (arrV _ _ _).slots.size; rw [arrV_size]; exact vp_in_nat hc (by omega)) (by rw [i32_clamp (by omega), arrV_read _ _ hc]) rfl rfl hd (kk p e s m args below meth cc H locs ls F hW hS hl h0)
theorem r_aald {k N c r : Nat} {i : Int} (hd : decode K.2.2.1.2.1 pc = .ok (.aaload, 1)) (hs : shp k = (103, N)) (hk : k < φ.2.2.1) (hi : i = (c : Int)) (hc : c < N) (hr : φ.2.2.2 k c = some r) (kk : RW K φ σ (pc + 1) L (rf K.2.1 r :: st)) : RW K φ σ pc L (iv i :: rf K.2.1 k :: st) := by
  subst hi
  intro p e s m args below meth cc H locs ls F hW hS hl h0
  have hN := shp_small hs
  refine W.aald (ty := .array .int) (v := rf K.2.1 r) F.1 F.2.1 ((hW.2.1 k hk).2.2.2.1 N hs) ((hW.2.2.1.2 3 _ rfl).1 N (fun j => rv K.2.1 (φ.2.2.2 k j))) rfl (fun q => by cases q) (by show vp_in _ (arrV _ _ _).slots.size; rw [arrV_size]; exact vp_in_nat hc (by omega)) (by rw [i32_clamp (by omega), arrV_read _ _ hc, hr]; rfl) rfl rfl hd (kk p e s m args below meth cc H locs ls F hW hS hl h0)
theorem r_alen {k N : Nat} (hd : decode K.2.2.1.2.1 pc = .ok (.arraylength, 1)) (hs : shp k = (100, N)) (hk : k < φ.2.2.1) (kk : RW K φ σ (pc + 1) L (iv (N : Int) :: st)) : RW K φ σ pc L (rf K.2.1 k :: st) := by
  intro p e s m args below meth c H locs ls F hW hS hl h0
  refine W.alen (n := Int32.ofInt (N : Int)) F.1 F.2.1 ((hW.2.1 k hk).1 N hs) ((hW.2.2.1.2 0 _ rfl).1 N (fun j => iv (σ k j))) ?_ rfl rfl hd (kk p e s m args below meth c H locs ls F hW hS hl h0)
  rw [arrV_size]
  rfl
theorem r_iast {k N c : Nat} {i z : Int} (hd : decode K.2.2.1.2.1 pc = .ok (.iastore, 1)) (hs : shp k = (100, N)) (hk : k < φ.2.2.1) (hi : i = (c : Int)) (hc : c < N) (kk : RW K φ (up σ k c z) (pc + 1) L st) : RW K φ σ pc L (iv z :: iv i :: rf K.2.1 k :: st) := by
  subst hi
  intro p e s m args below meth cc H locs ls F hW hS hl h0
  have hN := shp_small hs
  refine W.iast F.1 F.2.1 ((hW.2.1 k hk).1 N hs) ((hW.2.2.1.2 0 _ rfl).1 N (fun j => iv (σ k j))) (fun q => by cases q) (by show vp_in _ (arrV _ _ _).slots.size; rw [arrV_size]; exact vp_in_nat hc (by omega)) rfl rfl hd fun H' g1 g2 g3 => ?_
  have hcell : H'[gB K.2.1 + k]? = some (arrV (gI K.2.1) N (fun j => iv (up σ k c z k j))) := by
    rw [i32_clamp (by omega)] at g1
    rw [g1, arrV_store]
    refine congrArg some (congrArg (arrV _ N) (funext fun j => ?_))
    unfold updV
    by_cases hj : j = c
    · rw [if_pos hj, hj, up_same]; rfl
    · rw [if_neg hj, up_ne hj]
  exact kk p e s m args below meth cc H' _ ls F (hW.set hk g2 g3 (fun a ha => up_row ha) (fun a _ => rfl) ⟨(fun N' h => by rw [hs] at h; cases h; exact hcell), (fun N' h => by rw [hs] at h; cases h), (fun N' h => by rw [hs] at h; cases h), (fun N' h => by rw [hs] at h; cases h), fun t' C' T' N' ht' hc' => (arr_no hs (by omega) ht' hc').elim⟩) (hS.put g2 g3 (by unfold gA; omega)) hl h0
theorem r_zast {k N c : Nat} {i z : Int} (hd : decode K.2.2.1.2.1 pc = .ok (.bastore, 1)) (hs : shp k = (101, N)) (hk : k < φ.2.2.1) (hi : i = (c : Int)) (hc : c < N) (hz : z = 0 ∨ z = 1) (kk : RW K φ (up σ k c z) (pc + 1) L st) : RW K φ σ pc L (iv z :: iv i :: rf K.2.1 k :: st) := by
  subst hi
  intro p e s m args below meth cc H locs ls F hW hS hl h0
  have hN := shp_small hs
  refine W.zast F.1 F.2.1 ((hW.2.1 k hk).2.1 N hs) ((hW.2.2.1.2 1 _ rfl).1 N (fun j => iv (σ k j))) (fun q => by cases q) (by show vp_in _ (arrV _ _ _).slots.size; rw [arrV_size]; exact vp_in_nat hc (by omega)) rfl rfl hd fun H' g1 g2 g3 => ?_
  have hcell : H'[gB K.2.1 + k]? = some (arrV (gZ K.2.1) N (fun j => iv (up σ k c z k j))) := by
    rw [i32_clamp (by omega)] at g1
    rw [show narrow .boolean (.int (Int32.ofInt z)) = iv z from nar_z hz] at g1
    rw [g1, arrV_store]
    refine congrArg some (congrArg (arrV _ N) (funext fun j => ?_))
    unfold updV
    by_cases hj : j = c
    · rw [if_pos hj, hj, up_same]
    · rw [if_neg hj, up_ne hj]
  exact kk p e s m args below meth cc H' _ ls F (hW.set hk g2 g3 (fun a ha => up_row ha) (fun a _ => rfl) ⟨(fun N' h => by rw [hs] at h; cases h), (fun N' h => by rw [hs] at h; cases h; exact hcell), (fun N' h => by rw [hs] at h; cases h), (fun N' h => by rw [hs] at h; cases h), fun t' C' T' N' ht' hc' => (arr_no hs (by omega) ht' hc').elim⟩) (hS.put g2 g3 (by unfold gA; omega)) hl h0
theorem r_last {k N c : Nat} {i z : Int} (hd : decode K.2.2.1.2.1 pc = .ok (.lastore, 1)) (hs : shp k = (102, N)) (hk : k < φ.2.2.1) (hi : i = (c : Int)) (hc : c < N) (kk : RW K φ (up σ k c z) (pc + 1) L st) : RW K φ σ pc L (jl z :: iv i :: rf K.2.1 k :: st) := by
  subst hi
  intro p e s m args below meth cc H locs ls F hW hS hl h0
  have hN := shp_small hs
  refine W.last F.1 F.2.1 ((hW.2.1 k hk).2.2.1 N hs) ((hW.2.2.1.2 2 _ rfl).1 N (fun j => jl (σ k j))) (fun q => by cases q) (by show vp_in _ (arrV _ _ _).slots.size; rw [arrV_size]; exact vp_in_nat hc (by omega)) rfl rfl hd fun H' g1 g2 g3 => ?_
  have hcell : H'[gB K.2.1 + k]? = some (arrV (gJ K.2.1) N (fun j => jl (up σ k c z k j))) := by
    rw [i32_clamp (by omega)] at g1
    rw [g1, arrV_store]
    refine congrArg some (congrArg (arrV _ N) (funext fun j => ?_))
    unfold updV
    by_cases hj : j = c
    · rw [if_pos hj, hj, up_same]; rfl
    · rw [if_neg hj, up_ne hj]
  exact kk p e s m args below meth cc H' _ ls F (hW.set hk g2 g3 (fun a ha => up_row ha) (fun a _ => rfl) ⟨(fun N' h => by rw [hs] at h; cases h), (fun N' h => by rw [hs] at h; cases h), (fun N' h => by rw [hs] at h; cases h; exact hcell), (fun N' h => by rw [hs] at h; cases h), fun t' C' T' N' ht' hc' => (arr_no hs (by omega) ht' hc').elim⟩) (hS.put g2 g3 (by unfold gA; omega)) hl h0
theorem Wd.push {G : GG} {n : Nat} {ρ : Rho} {σ : Si} {U : State} {H H1 : Heap} (h : Wd G n ρ σ U H) (hz : H1.size = H.size + 1) (hoq : ∀ q, q < H.size → H1[q]? = H[q]?) (hlow : gB G ≤ H.size) (hat : at_ G ρ σ n H1) : Wd G (n + 1) ρ σ U H1 := by
  obtain ⟨h1, h2, h3, h4⟩ := h
  have hX := h4.1
  refine ⟨by omega, fun a ha => ?_, h3, h4.kept (fun q hq => hoq q (by unfold gA at hq; omega))⟩
  by_cases e : a = n
  · subst e; exact hat
  · obtain ⟨c1, c2, c3, c4, c5⟩ := h2 a (by omega)
    have hne : H1[gB G + a]? = H[gB G + a]? := hoq _ (by omega)
    unfold at_
    rw [hne]
    exact ⟨c1, c2, c3, c4, fun t C T N ht hc => (c5 t C T N ht hc).kept hne⟩
theorem va_S.grow {A : Nat → Prop} {H0 H H1 : Heap} {locs : List Loc} (hS : va_S A H0 H locs) (hz : H.size ≤ H1.size) (hoq : ∀ q, q < H.size → H1[q]? = H[q]?) : va_S A H0 H1 locs :=
  ⟨Nat.le_trans hS.1 hz, fun q h1 h2 => (hoq q (Nat.lt_of_lt_of_le h1 hS.1)).trans (hS.2.1 q h1 h2), hS.2.2⟩
theorem r_new {ix t N : Nat} {C : String} {T : u_T} (hd : decode K.2.2.1.2.1 pc = .ok (.new ix, 3)) (hc : vwCl[t]? = some (C, T, N)) (hcl : Cond.classLink K.2.2.1.1.cls ix C ∈ lw_tbl) (hinst : Cond.instantiable C N ∈ lw_tbl) (hini : Cond.initialized C ∈ lw_tbl) (hs : (shp φ.2.2.1).1 = t) (hσ : ∀ j, σ φ.2.2.1 j = 0) (hρ : ∀ j, φ.2.2.2 φ.2.2.1 j = none)
    (hdf : ∀ j, j < N → ∀ ty, parseFieldDescriptor (T j).2.2.1 = some ty → defaultValue ty = if isI (T j).2.2.1 = true then iv 0 else .null) (hce : φ.1 + 1 ≤ K.2.2.2.1.cells) (hsl : φ.2.1 + N ≤ K.2.2.2.1.slots)
    (kk : RW K (φ.1 + 1, φ.2.1 + N, φ.2.2.1 + 1, φ.2.2.2) σ (pc + 3) L (rf K.2.1 φ.2.2.1 :: st)) : RW K φ σ pc L st := by
  intro p e s m args below meth c H locs ls F hW hS hl h0
  obtain ⟨tys, htys, hnm⟩ := cls_ty hc
  have hin : ∀ w ∈ u_ws C T N, w ∈ lw_gd := fun w hw => gd_mem (cls_in hc w hw) (ws_good C T N w hw)
  have hKn := hW.2.2.1.1 t _ hc
  have hB : gB K.2.1 ≤ H.size := by have := hW.1; omega
  refine W.newcK F.1 F.2.1 F.2.2.2.2.1 (F.2.2.2.2.2.1 _ hcl rfl) (F.2.2.2.2.2.1 _ hinst rfl) (F.2.2.2.2.2.1 _ hini rfl) rfl hd hce hsl hKn.2.1 hW.1 fun H1 kC hkC e1 z1 o1 => ?_
  refine kk p e s m args below meth c H1 locs ls F (hW.push (by rw [z1, hW.1]) (fun q hq => o1 q (by rw [← hW.1]; exact hq)) hB ?_) (hS.grow (by rw [z1, hW.1]; omega) (fun q hq => o1 q (by rw [← hW.1]; exact hq))) hl h0
  have hlt := vwCl_lt hc
  refine ⟨fun N' h => ?_, fun N' h => ?_, fun N' h => ?_, fun N' h => ?_, fun t' C' T' N' ht' hc' => ?_⟩
  · rw [h] at hs; simp only at hs; omega
  · rw [h] at hs; simp only at hs; omega
  · rw [h] at hs; simp only at hs; omega
  · rw [h] at hs; simp only at hs; omega
  · have e : t' = t := by rw [← ht', ← hs]
    subst e
    rw [hc] at hc'
    cases hc'
    refine (u_born tys F.gd hin hKn hkC e1 htys).to (fun j hj => ?_)
    rw [hdf j hj _ (htys j hj)]
    unfold fvv
    rw [hσ j, hρ j]
    rfl
theorem r_newi {N : Nat} (hd : decode K.2.2.1.2.1 pc = .ok (.newarray .int, 2)) (harr : Cond.arrayClass .int ∈ lw_tbl) (hs : shp φ.2.2.1 = (100, N)) (hσ : ∀ j, σ φ.2.2.1 j = 0) (hce : φ.1 + 1 ≤ K.2.2.2.1.cells) (hsl : φ.2.1 + N ≤ K.2.2.2.1.slots)
    (kk : RW K (φ.1 + 1, φ.2.1 + N, φ.2.2.1 + 1, φ.2.2.2) σ (pc + 2) L (rf K.2.1 φ.2.2.1 :: st)) : RW K φ σ pc L (iv (N : Int) :: st) := by
  intro p e s m args below meth c H locs ls F hW hS hl h0
  have hN := shp_small hs
  have hB : gB K.2.1 ≤ H.size := by have := hW.1; omega
  have hn : ¬ Int32.ofInt (N : Int) < 0 := fun h => by
    have h2 : Int32.ofInt (N : Int) < Int32.ofInt 0 := h
    rw [i32_lt ⟨by omega, by omega⟩ ⟨by omega, by omega⟩] at h2
    omega
  refine va_newaK (atype := .int) F.1 F.2.1 (F.2.2.2.2.2.1 _ harr rfl) rfl hd rfl hn (i32_clamp (by omega)) (by show N * _ ≤ _; simp only [newarray.typeOf, componentBytes]; omega) hce hsl hW.1 fun H1 cA e1 z1 o1 hAr hNm => ?_
  have hcA : gI K.2.1 = cA := by
    have h1 := (hW.2.2.1.2 0 _ rfl).2
    have h2 : s.vm.findClass ("[" ++ (FieldType.int).toString) = some (gI K.2.1) := h1
    exact Option.some.inj (h2.symm.trans hNm)
  have hcell : H1[gB K.2.1 + φ.2.2.1]? = some (arrV (gI K.2.1) N (fun j => iv (σ φ.2.2.1 j))) := by
    rw [e1, hcA]
    refine congrArg some (congrArg (arrV cA N) (funext fun j => ?_))
    rw [hσ j]
    rfl
  exact kk p e s m args below meth c H1 locs ls F (hW.push (by rw [z1, hW.1]) (fun q hq => o1 q (by rw [← hW.1]; exact hq)) hB ⟨(fun N' h => by rw [hs] at h; cases h; exact hcell), (fun N' h => by rw [hs] at h; cases h), (fun N' h => by rw [hs] at h; cases h), (fun N' h => by rw [hs] at h; cases h), fun t' C' T' N' ht' hc' => (arr_no hs (by omega) ht' hc').elim⟩) (hS.grow (by rw [z1, hW.1]; omega) (fun q hq => o1 q (by rw [← hW.1]; exact hq))) hl h0
theorem r_newz {N : Nat} (hd : decode K.2.2.1.2.1 pc = .ok (.newarray .boolean, 2)) (harr : Cond.arrayClass .boolean ∈ lw_tbl) (hs : shp φ.2.2.1 = (101, N)) (hσ : ∀ j, σ φ.2.2.1 j = 0) (hce : φ.1 + 1 ≤ K.2.2.2.1.cells) (hsl : φ.2.1 + N ≤ K.2.2.2.1.slots)
    (kk : RW K (φ.1 + 1, φ.2.1 + N, φ.2.2.1 + 1, φ.2.2.2) σ (pc + 2) L (rf K.2.1 φ.2.2.1 :: st)) : RW K φ σ pc L (iv (N : Int) :: st) := by
  intro p e s m args below meth c H locs ls F hW hS hl h0
  have hN := shp_small hs
  have hB : gB K.2.1 ≤ H.size := by have := hW.1; omega
  have hn : ¬ Int32.ofInt (N : Int) < 0 := fun h => by
    have h2 : Int32.ofInt (N : Int) < Int32.ofInt 0 := h
    rw [i32_lt ⟨by omega, by omega⟩ ⟨by omega, by omega⟩] at h2
    omega
  refine va_newaK (atype := .boolean) F.1 F.2.1 (F.2.2.2.2.2.1 _ harr rfl) rfl hd rfl hn (i32_clamp (by omega)) (by show N * _ ≤ _; simp only [newarray.typeOf, componentBytes]; omega) hce hsl hW.1 fun H1 cA e1 z1 o1 hAr hNm => ?_
  have hcA : gZ K.2.1 = cA := by
    have h1 := (hW.2.2.1.2 1 _ rfl).2
    have h2 : s.vm.findClass ("[" ++ (FieldType.boolean).toString) = some (gZ K.2.1) := h1
    exact Option.some.inj (h2.symm.trans hNm)
  have hcell : H1[gB K.2.1 + φ.2.2.1]? = some (arrV (gZ K.2.1) N (fun j => iv (σ φ.2.2.1 j))) := by
    rw [e1, hcA]
    refine congrArg some (congrArg (arrV cA N) (funext fun j => ?_))
    rw [hσ j]
    rfl
  exact kk p e s m args below meth c H1 locs ls F (hW.push (by rw [z1, hW.1]) (fun q hq => o1 q (by rw [← hW.1]; exact hq)) hB ⟨(fun N' h => by rw [hs] at h; cases h), (fun N' h => by rw [hs] at h; cases h; exact hcell), (fun N' h => by rw [hs] at h; cases h), (fun N' h => by rw [hs] at h; cases h), fun t' C' T' N' ht' hc' => (arr_no hs (by omega) ht' hc').elim⟩) (hS.grow (by rw [z1, hW.1]; omega) (fun q hq => o1 q (by rw [← hW.1]; exact hq))) hl h0
theorem r_newj {N : Nat} (hd : decode K.2.2.1.2.1 pc = .ok (.newarray .long, 2)) (harr : Cond.arrayClass .long ∈ lw_tbl) (hs : shp φ.2.2.1 = (102, N)) (hσ : ∀ j, σ φ.2.2.1 j = 0) (hce : φ.1 + 1 ≤ K.2.2.2.1.cells) (hsl : φ.2.1 + N ≤ K.2.2.2.1.slots)
    (kk : RW K (φ.1 + 1, φ.2.1 + N, φ.2.2.1 + 1, φ.2.2.2) σ (pc + 2) L (rf K.2.1 φ.2.2.1 :: st)) : RW K φ σ pc L (iv (N : Int) :: st) := by
  intro p e s m args below meth c H locs ls F hW hS hl h0
  have hN := shp_small hs
  have hB : gB K.2.1 ≤ H.size := by have := hW.1; omega
  have hn : ¬ Int32.ofInt (N : Int) < 0 := fun h => by
    have h2 : Int32.ofInt (N : Int) < Int32.ofInt 0 := h
    rw [i32_lt ⟨by omega, by omega⟩ ⟨by omega, by omega⟩] at h2
    omega
  refine va_newaK (atype := .long) F.1 F.2.1 (F.2.2.2.2.2.1 _ harr rfl) rfl hd rfl hn (i32_clamp (by omega)) (by show N * _ ≤ _; simp only [newarray.typeOf, componentBytes]; omega) hce hsl hW.1 fun H1 cA e1 z1 o1 hAr hNm => ?_
  have hcA : gJ K.2.1 = cA := by
    have h1 := (hW.2.2.1.2 2 _ rfl).2
    have h2 : s.vm.findClass ("[" ++ (FieldType.long).toString) = some (gJ K.2.1) := h1
    exact Option.some.inj (h2.symm.trans hNm)
  have hcell : H1[gB K.2.1 + φ.2.2.1]? = some (arrV (gJ K.2.1) N (fun j => jl (σ φ.2.2.1 j))) := by
    rw [e1, hcA]
    refine congrArg some (congrArg (arrV cA N) (funext fun j => ?_))
    rw [hσ j]
    rfl
  exact kk p e s m args below meth c H1 locs ls F (hW.push (by rw [z1, hW.1]) (fun q hq => o1 q (by rw [← hW.1]; exact hq)) hB ⟨(fun N' h => by rw [hs] at h; cases h), (fun N' h => by rw [hs] at h; cases h), (fun N' h => by rw [hs] at h; cases h; exact hcell), (fun N' h => by rw [hs] at h; cases h), fun t' C' T' N' ht' hc' => (arr_no hs (by omega) ht' hc').elim⟩) (hS.grow (by rw [z1, hW.1]; omega) (fun q hq => o1 q (by rw [← hW.1]; exact hq))) hl h0
theorem r_slen (hd : decode K.2.2.1.2.1 pc = .ok (.arraylength, 1)) (kk : RW K φ σ (pc + 1) L (iv (gL K.2.1 : Int) :: st)) : RW K φ σ pc L (.ref (gb K.2.1) :: st) := by
  intro p e s m args below meth c H locs ls F hW hS hl h0
  obtain ⟨scr, h1, h2, h3, h4, h5⟩ := hW.2.2.2.1
  refine W.alen (n := Int32.ofInt (gL K.2.1 : Int)) F.1 F.2.1 h1 h2 ?_ rfl rfl hd (kk p e s m args below meth c H locs ls F hW hS hl h0)
  rw [h4]
  rfl
theorem r_sld {c : Nat} {i : Int} (hd : decode K.2.2.1.2.1 pc = .ok (.iaload, 1)) (hi : i = (c : Int)) (hc : c < gL K.2.1) (kk : RW K φ σ (pc + 1) L (iv (gx K.2.1 c).toInt :: st)) : RW K φ σ pc L (iv i :: .ref (gb K.2.1) :: st) := by
  subst hi
  intro p e s m args below meth cc H locs ls F hW hS hl h0
  obtain ⟨scr, h1, h2, h3, h4, h5⟩ := hW.2.2.2.1
  have hL := hW.2.2.2.2.2.1
  refine W.iald (v := iv (gx K.2.1 c).toInt) F.1 F.2.1 h1 h2 h3 (by show vp_in _ scr.slots.size; rw [h4]; exact vp_in_nat hc (by omega)) ?_ rfl rfl hd (kk p e s m args below meth cc H locs ls F hW hS hl h0)
  rw [i32_clamp (by omega), h5 c hc]
  unfold iv
  rw [Int32.ofInt_toInt]
theorem r_getM {ix : Nat} (hd : decode K.2.2.1.2.1 pc = .ok (.getstatic ix, 3)) (hlk : Cond.fieldLink K.2.2.1.1.cls ix "AwardDesk" "MOST_OF_MARK" "[I" ∈ lw_tbl) (kk : RW K φ σ (pc + 3) L (.ref (gM K.2.1) :: st)) : RW K φ σ pc L st := by
  intro p e s m args below meth c H locs ls F hW hS hl h0
  obtain ⟨cf, kf, fi, f, a, cell, h1, h2, h3, h4, h5, h6, h7, h8⟩ := hW.2.2.2.2.2.2.1
  exact W.gets F.1 F.2.1 F.2.2.2.2.1 (F.2.2.2.2.2.1 _ hlk rfl) h1 h2 h3 h4 h5 (fun e => by rw [e] at h6; cases h6) h7 rfl hd (kk p e s m args below meth c H locs ls F hW hS hl h0)
theorem r_getR {ix : Nat} (hd : decode K.2.2.1.2.1 pc = .ok (.getstatic ix, 3)) (hlk : Cond.fieldLink K.2.2.1.1.cls ix "AwardDesk" "MOST_OF_RULE" "[I" ∈ lw_tbl) (kk : RW K φ σ (pc + 3) L (.ref (gR K.2.1) :: st)) : RW K φ σ pc L st := by
  intro p e s m args below meth c H locs ls F hW hS hl h0
  obtain ⟨cf, kf, fi, f, a, cell, h1, h2, h3, h4, h5, h6, h7, h8⟩ := hW.2.2.2.2.2.2.2.2.1
  exact W.gets F.1 F.2.1 F.2.2.2.2.1 (F.2.2.2.2.2.1 _ hlk rfl) h1 h2 h3 h4 h5 (fun e => by rw [e] at h6; cases h6) h7 rfl hd (kk p e s m args below meth c H locs ls F hW hS hl h0)
theorem r_ldM {c : Nat} {i : Int} (hd : decode K.2.2.1.2.1 pc = .ok (.iaload, 1)) (hi : i = (c : Int)) (hc : c < 3) (kk : RW K φ σ (pc + 1) L (iv (mostMark c) :: st)) : RW K φ σ pc L (iv i :: .ref (gM K.2.1) :: st) := by
  subst hi
  intro p e s m args below meth cc H locs ls F hW hS hl h0
  obtain ⟨cell, h1, h2, h3, h4, h5, h6, h7⟩ := hW.2.2.2.2.2.2.2.1
  have hin' : ¬ (Int32.ofInt (c : Int) < 0 ∨ cell.slots.size ≤ (Int32.ofInt (c : Int)).toNatClampNeg) := by
    rintro (q | q)
    · exact vp_in_nat hc (by omega) (Or.inl q)
    · rw [i32_clamp (by omega)] at q; omega
  exact W.iald (v := iv (mostMark c)) F.1 F.2.1 h1 h2 h3 hin' (by rw [i32_clamp (by omega), h6 c hc]) rfl rfl hd (kk p e s m args below meth cc H locs ls F hW hS hl h0)
theorem r_ldR {c : Nat} {i : Int} (hd : decode K.2.2.1.2.1 pc = .ok (.iaload, 1)) (hi : i = (c : Int)) (hc : c < 5) (kk : RW K φ σ (pc + 1) L (iv (mostRule c) :: st)) : RW K φ σ pc L (iv i :: .ref (gR K.2.1) :: st) := by
  subst hi
  intro p e s m args below meth cc H locs ls F hW hS hl h0
  obtain ⟨cell, h1, h2, h3, h4, h5, h6, h7⟩ := hW.2.2.2.2.2.2.2.2.2
  have hin' : ¬ (Int32.ofInt (c : Int) < 0 ∨ cell.slots.size ≤ (Int32.ofInt (c : Int)).toNatClampNeg) := by
    rintro (q | q)
    · exact vp_in_nat hc (by omega) (Or.inl q)
    · rw [i32_clamp (by omega)] at q; omega
  exact W.iald (v := iv (mostRule c)) F.1 F.2.1 h1 h2 h3 hin' (by rw [i32_clamp (by omega), h6 c hc]) rfl rfl hd (kk p e s m args below meth cc H locs ls F hW hS hl h0)
end RowsD
end
section
/-! ROWS: int[n][m], System.arraycopy, calls, ends; CONTRACTS -/
section RowsE
variable {K : Kx} {φ : Ph} {σ : Si} {pc : Nat} {L L' : List Value} {st : List Value}
theorem mul_outer (c : ClassId) (N h0 : Nat) : ∀ i : Nat, Jvm.Free.Multi.outerC c N h0 i = arrV c N (fun j => va_rf (if j < i then some (h0 + 1 + j) else none))
  | 0 => by
    show ({ cls := c, slots := Array.replicate N .null, vm := .none } : Cell) = _
    rw [arrV_new]
    refine congrArg (arrV c N) (funext fun j => ?_)
    rw [if_neg (by omega)]
    rfl
  | i + 1 => by
    show (Jvm.Free.Multi.outerC c N h0 i).setSlot i (.ref (h0 + 1 + i)) = _
    rw [mul_outer c N h0 i, arrV_store]
    refine congrArg (arrV c N) (funext fun j => ?_)
    unfold updV
    by_cases e : j = i
    · rw [if_pos e, if_pos (by omega), e]; rfl
    · by_cases h : j < i
      · rw [if_neg e, if_pos (show j < i + 1 by omega)]; show va_rf (if j < i then _ else _) = _; rw [if_pos h]
      · rw [if_neg e, if_neg (show ¬ j < i + 1 by omega)]; show va_rf (if j < i then _ else _) = _; rw [if_neg h]
theorem r_mna {ix N M : Nat} (hd : decode K.2.2.1.2.1 pc = .ok (.multianewarray ix 2, 4)) (hcl : Cond.classLink K.2.2.1.1.cls ix "[[I" ∈ lw_tbl) (harr : Cond.arrayClass .int ∈ lw_tbl) (hs : shp φ.2.2.1 = (103, N)) (hs2 : ∀ j, j < N → shp (φ.2.2.1 + 1 + j) = (100, M)) (hM : M < 3000) (hρ : ∀ j, j < N → φ.2.2.2 φ.2.2.1 j = some (φ.2.2.1 + 1 + j)) (hσ : ∀ i j, i < N → σ (φ.2.2.1 + 1 + i) j = 0)
    (hce : φ.1 + (1 + N) ≤ K.2.2.2.1.cells) (hsl : φ.2.1 + (N + N * M) ≤ K.2.2.2.1.slots)
    (kk : RW K (φ.1 + 1 + N, φ.2.1 + N + N * M, φ.2.2.1 + 1 + N, φ.2.2.2) σ (pc + 4) L (rf K.2.1 φ.2.2.1 :: st)) : RW K φ σ pc L (iv (M : Int) :: iv (N : Int) :: st) := by
  intro p e s m args below meth c H locs ls F hW hS hl h0
  have hN := shp_small hs
  have n0 : ∀ x : Nat, x < 3000 → ¬ Int32.ofInt (x : Int) < 0 := fun x hx h => by
    have h2 : Int32.ofInt (x : Int) < Int32.ofInt 0 := h
    rw [i32_lt ⟨by omega, by omega⟩ ⟨by omega, by omega⟩] at h2
    omega
  have cN : (Int32.ofInt (N : Int)).toNatClampNeg = N := i32_clamp (by omega)
  have cM : (Int32.ofInt (M : Int)).toNatClampNeg = M := i32_clamp (by omega)
  intro T hT X
  obtain ⟨vm₁, cA, comp, -, fA, fC, -, -, X', step⟩ := X.multianewarray2F F.1 (ty := .int) F.2.2.2.2.1 (F.2.2.2.2.2.1 _ hcl rfl) (Jvm.Stand.arrayOver_alikeB (Vm.Alike.refl _) F.2.2.2.2.2.2.2.2.1) (F.2.2.2.2.2.1 _ harr rfl) (g := F0 m pc ls (iv (M : Int) :: iv (N : Int) :: st)) rfl (by rw [F.2.1]; exact hd) rfl (n0 N hN) (n0 M hM) (by rw [cN]; omega) (by rw [cM]; simp only [componentBytes]; omega) (by rw [cM]; omega) rfl rfl (by rw [cN]; exact hce) (by rw [cN, cM]; exact hsl)
  have hcI : gI K.2.1 = comp := by
    have h2 : s.vm.findClass ("[" ++ (FieldType.int).toString) = some (gI K.2.1) := (hW.2.2.1.2 0 _ rfl).2
    exact Option.some.inj (h2.symm.trans fC)
  have hcII : gII K.2.1 = cA := by
    have h2 : s.vm.findClass ("[" ++ (FieldType.array .int).toString) = some (gII K.2.1) := (hW.2.2.1.2 3 _ rfl).2
    exact Option.some.inj (h2.symm.trans fA)
  rw [cN, cM] at X' step
  obtain ⟨f1, f2, -, -⟩ := Jvm.Free.Multi.fill_facts (T.setVm vm₁) cA comp N M (defaultValue .int) N
  have hTh : (T.setVm vm₁).heap = H := hT
  have fo := fun (x : Nat) (hx : x < H.size) => Jvm.Free.Multi.fill_old (T.setVm vm₁) cA comp N M (defaultValue .int) (a := x) (by rw [hTh]; exact hx) N
  have fi := fun (j : Nat) (hj : j < N) => Jvm.Free.Multi.fill_inner (T.setVm vm₁) cA comp N M (defaultValue .int) N j hj
  generalize Jvm.Free.Multi.fill (T.setVm vm₁) cA comp N M (defaultValue .int) N = E at X' step f1 f2 fo fi
  rw [hTh] at f1 f2 fo fi
  have hz := hW.1
  rw [hT] at step
  have hB : gB K.2.1 ≤ H.size := by omega
  have hWE : Wd K.2.1 (φ.2.2.1 + 1 + N) φ.2.2.2 σ s E.heap := by
    obtain ⟨w1, w2, w3, w4⟩ := hW
    refine ⟨by omega, fun a ha => ?_, w3, w4.kept (fun q hq => fo q (by unfold gA at hq; omega))⟩
    by_cases e1 : a < φ.2.2.1
    · obtain ⟨c1, c2, c3, c4, c5⟩ := w2 a e1
      have hne : E.heap[gB K.2.1 + a]? = H[gB K.2.1 + a]? := fo _ (by omega)
      unfold at_
      rw [hne]
      exact ⟨c1, c2, c3, c4, fun t C T N ht hc => (c5 t C T N ht hc).kept hne⟩
    · by_cases e2 : a = φ.2.2.1
      · subst e2
        refine ⟨fun N' h => ?_, fun N' h => ?_, fun N' h => ?_, fun N' h => ?_, fun t' C' T' N' ht' hc' => (arr_no hs (by omega) ht' hc').elim⟩
        · rw [hs] at h; cases h
        · rw [hs] at h; cases h
        · rw [hs] at h; cases h
        · rw [hs] at h; cases h
          rw [← hz, f2, mul_outer, hcII]
          refine congrArg some ?_
          unfold arrV
          congr 1
          refine congrArg Array.ofFn (funext fun j => ?_)
          show va_rf (if j.1 < N then _ else _) = rv K.2.1 (φ.2.2.2 φ.2.2.1 j.1)
          rw [if_pos j.2, hρ j.1 j.2]
          show _ = va_rf (some (gB K.2.1 + (φ.2.2.1 + 1 + j.1)))
          rw [hz]
          congr 2
          omega
      · obtain ⟨j, hj, rfl⟩ : ∃ j, j < N ∧ a = φ.2.2.1 + 1 + j := ⟨a - (φ.2.2.1 + 1), by omega, by omega⟩
        have hsj := hs2 j hj
        have hcell : E.heap[gB K.2.1 + (φ.2.2.1 + 1 + j)]? = some (arrV (gI K.2.1) M (fun i => iv (σ (φ.2.2.1 + 1 + j) i))) := by
          rw [show gB K.2.1 + (φ.2.2.1 + 1 + j) = H.size + 1 + j by omega, fi j hj, hcI]
          refine congrArg some ?_
          show ({ cls := comp, slots := Array.replicate M (defaultValue .int), vm := .none } : Cell) = _
          rw [arrV_new]
          refine congrArg (arrV comp M) (funext fun i => ?_)
          rw [hσ j i hj]
          rfl
        refine ⟨fun N' h => ?_, fun N' h => ?_, fun N' h => ?_, fun N' h => ?_, fun t' C' T' N' ht' hc' => (arr_no hsj (by omega) ht' hc').elim⟩
        · rw [hsj] at h; cases h; exact hcell
        · rw [hsj] at h; cases h
        · rw [hsj] at h; cases h
        · rw [hsj] at h; cases h
  obtain ⟨t, a1, b1⟩ := kk p e s m args below meth c E.heap locs ls F hWE (hS.grow (by omega) fo) hl h0 E rfl X'
  refine ⟨t, step t ?_, b1⟩
  rw [hz]
  exact a1
/-- n places of row k0 from sp come to row k1 from dp -/
def cpy (σ : Si) (k0 k1 sp dp n : Nat) : Si := fun a b => if a = k1 ∧ dp ≤ b ∧ b < dp + n then σ k0 (sp + (b - dp)) else σ a b
theorem cpy_row {σ : Si} {k0 k1 sp dp n a : Nat} (h : a ≠ k1) : cpy σ k0 k1 sp dp n a = σ a := funext fun b => if_neg (fun q => h q.1)
theorem r_copy {ix k0 k1 n0 n1 sp dp n : Nat} (hd : decode K.2.2.1.2.1 pc = .ok (.invokestatic ix, 3)) (hlk : Cond.methodLink K.2.2.1.1.cls ix arraycopyName ∈ lw_tbl) (hnat : Cond.native arraycopyName ∈ lw_tbl) (hstat : Cond.static arraycopyName ∈ lw_tbl) (hini : Cond.initialized "java/lang/System" ∈ lw_tbl) (hs0 : shp k0 = (100, n0)) (hs1 : shp k1 = (100, n1)) (hk0 : k0 < φ.2.2.1) (hk1 : k1 < φ.2.2.1) (h4 : sp + n ≤ n0) (h5 : dp + n ≤ n1)
    (hfr : 1 ≤ K.2.2.2.1.frames) (hlo : (st.map fun v => v.category).sum + (nativeFrameWords "java/lang/System" "arraycopy" 5 + 11) ≤ K.2.2.2.1.locals)
    (kk : RW K φ (cpy σ k0 k1 sp dp n) (pc + 3) L st) : RW K φ σ pc L (iv (n : Int) :: iv (dp : Int) :: rf K.2.1 k1 :: iv (sp : Int) :: rf K.2.1 k0 :: st) := by
  intro p e s m args below meth c H locs ls F hW hS hl h0
  have hN0 := shp_small hs0
  have hN1 := shp_small hs1
  have n0' : ∀ x : Nat, x < 6000 → ¬ Int32.ofInt (x : Int) < 0 := fun x hx h => by
    have h2 : Int32.ofInt (x : Int) < Int32.ofInt 0 := h
    rw [i32_lt ⟨by omega, by omega⟩ ⟨by omega, by omega⟩] at h2
    omega
  have tI : ∀ x : Nat, x < 6000 → (Int32.ofInt (x : Int)).toInt = x := fun x hx => i32_toInt ⟨by omega, by omega⟩
  have cl : ∀ x : Nat, x < 6000 → (Int32.ofInt (x : Int)).toNatClampNeg = x := fun x hx => i32_clamp (by omega)
  intro T hT X
  have hc0 := (hW.2.1 k0 hk0).1 n0 hs0
  have hc1 := (hW.2.1 k1 hk1).1 n1 hs1
  obtain ⟨-, j0, hj0, cm0, hjk0⟩ := (hW.2.2.1.2 0 _ rfl).1 n0 (fun j => iv (σ k0 j))
  obtain ⟨-, j1, hj1, cm1, hjk1⟩ := (hW.2.2.1.2 0 _ rfl).1 n1 (fun j => iv (σ k1 j))
  obtain ⟨vm', X', step⟩ := X.arraycopy F.1 F.2.2.2.2.1 (F.2.2.2.2.2.1 _ hlk rfl) (F.2.2.2.2.2.1 _ hnat rfl) (F.2.2.2.2.2.1 _ hstat rfl) (F.2.2.2.2.2.1 _ hini rfl) (src := gB K.2.1 + k0) (dst := gB K.2.1 + k1) (cs := arrV (gI K.2.1) n0 (fun j => iv (σ k0 j))) (cd := arrV (gI K.2.1) n1 (fun j => iv (σ k1 j))) (srcPos := Int32.ofInt (sp : Int)) (destPos := Int32.ofInt (dp : Int)) (n := Int32.ofInt (n : Int)) (by rw [hT]; exact hc0) (by rw [hT]; exact hc1)
    (fun _ h => by cases h) (fun _ h => by cases h) (fun h => by cases h) (fun h => by cases h) hj0 hj1 hjk0 hjk1 (by rfl) (n0' _ (by omega)) (n0' _ (by omega)) (n0' _ (by omega))
    (by rw [tI sp (by omega), tI n (by omega), arrV_size]; omega)
    (by rw [tI dp (by omega), tI n (by omega), arrV_size]; omega)
    (fun vm₁ _ i hi => by
      rw [cl n (by omega)] at hi
      rw [cl sp (by omega)]
      have e : (arrV (gI K.2.1) n0 (fun j => iv (σ k0 j))).slots.getD (sp + i) .null = iv (σ k0 (sp + i)) := by
        rw [Array.getD_eq_getD_getElem?, arrV_read _ _ (by omega)]
        rfl
      refine ⟨?_, ?_⟩
      · rw [e]; rfl
      · rw [e]; exact trivial)
    (g := F0 m pc ls (iv (n : Int) :: iv (dp : Int) :: rf K.2.1 k1 :: iv (sp : Int) :: rf K.2.1 k0 :: st)) rfl (by rw [F.2.2.2.1]; exact (hl.choose_spec.1.1)) (rest := st) rfl (by rw [F.2.1]; exact hd) hfr (by show 2 * 0 + _ + _ ≤ _; omega)
  have e1 : copied (arrV (gI K.2.1) n0 (fun j => iv (σ k0 j))) (arrV (gI K.2.1) n1 (fun j => iv (σ k1 j))) (Int32.ofInt (sp : Int)) (Int32.ofInt (dp : Int)) (Int32.ofInt (n : Int)) = arrV (gI K.2.1) n1 (fun j => iv (cpy σ k0 k1 sp dp n k1 j)) := by
    have h := va_copied (fun z : Int => iv z) (gI K.2.1) (gI K.2.1) (n0 := n0) (n1 := n1) (sp := sp) (dp := dp) (n := n) (fun j => σ k0 j) (fun j => σ k1 j) h4
    have e2 : (fun j => iv (cpy σ k0 k1 sp dp n k1 j)) = (fun j => iv (va_cpy (fun j => σ k0 j) (fun j => σ k1 j) sp dp n j)) := by
      funext j
      unfold cpy va_cpy
      by_cases hj : dp ≤ j ∧ j < dp + n
      · rw [if_pos ⟨rfl, hj⟩, if_pos hj]
      · rw [if_neg (fun q => hj q.2), if_neg hj]
    rw [e2, ← h]
    unfold copied
    rw [cl sp (by omega), cl dp (by omega), cl n (by omega)]
  rw [e1] at X' step
  have hlt : gB K.2.1 + k1 < H.size := (Array.getElem?_eq_some_iff.mp hc1).1
  have hheap : ((T.setVm vm').setCell (gB K.2.1 + k1) (arrV (gI K.2.1) n1 (fun j => iv (cpy σ k0 k1 sp dp n k1 j)))).heap = H.setIfInBounds (gB K.2.1 + k1) (arrV (gI K.2.1) n1 (fun j => iv (cpy σ k0 k1 sp dp n k1 j))) := by rw [← hT]; rfl
  have oq : ∀ q : Nat, q ≠ gB K.2.1 + k1 → (H.setIfInBounds (gB K.2.1 + k1) (arrV (gI K.2.1) n1 (fun j => iv (cpy σ k0 k1 sp dp n k1 j))))[q]? = H[q]? := fun q hq => by simp [Array.getElem?_setIfInBounds, Ne.symm hq]
  have hcell : (H.setIfInBounds (gB K.2.1 + k1) (arrV (gI K.2.1) n1 (fun j => iv (cpy σ k0 k1 sp dp n k1 j))))[gB K.2.1 + k1]? = some (arrV (gI K.2.1) n1 (fun j => iv (cpy σ k0 k1 sp dp n k1 j))) := by simp [Array.getElem?_setIfInBounds, hlt]
  obtain ⟨t, a1, b1⟩ := kk p e s m args below meth c _ _ ls F (hW.set hk1 (by simp) oq (fun a ha => cpy_row ha) (fun a _ => rfl) ⟨(fun N' h => by rw [hs1] at h; cases h; exact hcell), (fun N' h => by rw [hs1] at h; cases h), (fun N' h => by rw [hs1] at h; cases h), (fun N' h => by rw [hs1] at h; cases h), fun t' C' T' N' ht' hc' => (arr_no hs1 (by omega) ht' hc').elim⟩) ⟨by simp; exact hS.1, fun q g1 g2 => by
      rw [oq q (fun e => g2 (by rw [e]; unfold gA; omega))]
      exact hS.2.1 q g1 g2, fun q hq => by
      rcases List.mem_append.mp hq with h | h
      · exact hS.2.2 q h
      · obtain ⟨z, -, hz⟩ := List.mem_map.mp h
        rw [← hz]
        show gB K.2.1 ≤ _
        simp⟩ hl h0 _ hheap X'
  exact ⟨t, step t a1, b1⟩
end RowsE
end
section
/-! CONTRACTS: a method from a world (n, ρ, σ) ends with (n', ρ', σ') and an answer; calls by contract; ends -/
def wsM (M : Mi) : List Cond := Cond.code M.1 M.2.1 M.2.2.1 M.2.2.2 :: lw_gd
def rmOf (d mc ms : Nat) : Room := { frames := d, cells := mc, slots := ms, locals := 100 * d }
def QcM (G : GG) (n' : Nat) (ρ' : Rho) (Q : Si → Option Value → Prop) : Array Value → State → Outcome → State → Prop := fun _ s o t =>
  ∃ (σ' : Si) (v : Option Value), o = .returned v ∧ Q σ' v ∧ Wd G n' ρ' σ' t t.heap ∧ va_F (gA G) s t
def QtM (G : GG) (n' : Nat) (ρ' : Rho) (Q : Si → Option Value → Prop) (mc ms : Nat) : List Frame → Array Value → State → State → Prop := fun below args s => MQ below (QcM G n' ρ' Q) args s mc ms (gA G)
def PcM (G : GG) (n : Nat) (ρ : Rho) (σ : Si) (av : List Value) : Array Value → State → Prop := va_Pc av (fun U => gB G ≤ U.heap.size ∧ Wd G n ρ σ U U.heap ∧ NW U)
def Ct (l : Launch) (G : GG) (d : Nat) (M : Mi) (mc ms n : Nat) (ρ : Rho) (σ : Si) (av : List Value) (n' : Nat) (ρ' : Rho) (Q : Si → Option Value → Prop) : Prop :=
  Met l M.1 (wsM M) (rmOf d mc ms) (PcM G n ρ σ av) (QcM G n' ρ' Q) mc ms (gA G)
abbrev CtI (l : Launch) (G : GG) (d : Nat) (M : Mi) (n : Nat) (ρ : Rho) (σ : Si) (av : List Value) (Q : Si → Int → Prop) : Prop := Ct l G d M 0 0 n ρ σ av n ρ (fun σ' v => ∃ z, v = some (iv z) ∧ Q σ' z)
abbrev CtJ (l : Launch) (G : GG) (d : Nat) (M : Mi) (n : Nat) (ρ : Rho) (σ : Si) (av : List Value) (Q : Si → Int → Prop) : Prop := Ct l G d M 0 0 n ρ σ av n ρ (fun σ' v => ∃ z, v = some (jl z) ∧ Q σ' z)
abbrev CtV (l : Launch) (G : GG) (d : Nat) (M : Mi) (n : Nat) (ρ : Rho) (σ : Si) (av : List Value) (Q : Si → Prop) : Prop := Ct l G d M 0 0 n ρ σ av n ρ (fun σ' v => v = none ∧ Q σ')
/-- the walk's context of a method by contract -/
abbrev KM (l : Launch) (G : GG) (d : Nat) (M : Mi) (mc ms n' : Nat) (ρ' : Rho) (Q : Si → Option Value → Prop) : Kx := (l, G, M, rmOf d mc ms, QtM G n' ρ' Q mc ms)
abbrev KI (l : Launch) (G : GG) (d : Nat) (M : Mi) (n : Nat) (ρ : Rho) (Q : Si → Int → Prop) : Kx := KM l G d M 0 0 n ρ (fun σ' v => ∃ z, v = some (iv z) ∧ Q σ' z)
abbrev KJ (l : Launch) (G : GG) (d : Nat) (M : Mi) (n : Nat) (ρ : Rho) (Q : Si → Int → Prop) : Kx := KM l G d M 0 0 n ρ (fun σ' v => ∃ z, v = some (jl z) ∧ Q σ' z)
abbrev KV (l : Launch) (G : GG) (d : Nat) (M : Mi) (n : Nat) (ρ : Rho) (Q : Si → Prop) : Kx := KM l G d M 0 0 n ρ (fun σ' v => v = none ∧ Q σ')
/-- the locals at a method's start -/
def entL (av : List Value) (nL : Nat) : List Value := let a := av.flatMap (fun v => if isJ v = true then [v, xx] else [v]); a ++ List.replicate (nL - a.length) xx
theorem isJ_cat (v : Value) (h : v ≠ xx) : (if v.category = 2 then 1 else 0) = if isJ v = true then 1 else 0 := by
  cases v <;> first | rfl | simp [Value.category, isJ]
theorem entL_mem : ∀ (av : List Value) (i0 i : Nat) (v : Value), (av.flatMap (fun v => if isJ v = true then [v, xx] else [v]))[i]? = some v → v ≠ xx → (i0 + i, v) ∈ lv_args i0 av
  | [], i0, i, v, h, hv => by cases h
  | a :: as, i0, i, v, h, hv => by
    rw [List.flatMap_cons] at h
    by_cases hj : isJ a = true
    · have hc : a.category = 2 := by cases a <;> first | rfl | cases hj
      rw [if_pos hj] at h
      show _ ∈ (i0, a) :: lv_args (if a.category = 2 then i0 + 2 else i0 + 1) as
      rw [if_pos hc]
      match i, h with
      | 0, h => cases h; exact List.mem_cons_self
      | 1, h => cases h; exact absurd rfl hv
      | i + 2, h =>
        have := entL_mem as (i0 + 2) i v (by simpa using h) hv
        rw [show i0 + (i + 2) = i0 + 2 + i by omega]
        exact List.mem_cons_of_mem _ this
    · have hc : ¬ a.category = 2 := by cases a <;> first | (exact absurd rfl hj) | (intro h; cases h)
      rw [if_neg hj] at h
      show _ ∈ (i0, a) :: lv_args (if a.category = 2 then i0 + 2 else i0 + 1) as
      rw [if_neg hc]
      match i, h with
      | 0, h => cases h; exact List.mem_cons_self
      | i + 1, h =>
        have := entL_mem as (i0 + 1) i v (by simpa using h) hv
        rw [show i0 + (i + 1) = i0 + 1 + i by omega]
        exact List.mem_cons_of_mem _ this
theorem Ct.of {l : Launch} {G : GG} {d : Nat} {M : Mi} {mc ms n : Nat} {ρ : Rho} {σ : Si} {av : List Value} {n' : Nat} {ρ' : Rho} {Q : Si → Option Value → Prop} {L0 : List Value} (hy : plainName M.1.cls = true) (hlen : (lg_sl av).length ≤ M.2.2.1) (hL : entL av M.2.2.1 = L0)
    (h : RW (KM l G d M mc ms n' ρ' Q) (0, 0, n, ρ) σ 0 L0 []) : Ct l G d M mc ms n ρ σ av n' ρ' Q := by
  refine Met.ofW (cc := M.2.1) (maxL := M.2.2.1) (ret := M.2.2.2) hy rfl ?_
  intro p e s m args below meth c s₁ B hml hv
  obtain ⟨rfl, hB, hWd, hNW⟩ := hv
  have hts := atoms_spec (ws := wsM M) B.pre
  rw [lg_entry_eq]
  have hl := lv_entry av (n := M.2.2.1) hlen
  refine h p e s m _ below meth c s.heap [] _ ⟨B.exec, B.bytes, B.returns, hml, findClass_of_methodNamed B.named, fun w hw hg => hts w (List.mem_cons_of_mem _ (gd_mem hw hg)), B.notSynchronized, (name_of_methodNamed B.named B.method).1, hNW⟩ hWd va_S.rf ⟨_, hl, fun i v hi hv => ?_⟩ hB
  have := entL_mem av 0 i v
  rw [Nat.zero_add] at this
  refine this ?_ hv
  rw [← hL] at hi
  unfold entL at hi
  by_cases hlt : i < (av.flatMap (fun v => if isJ v = true then [v, xx] else [v])).length
  · rwa [List.getElem?_append_left hlt] at hi
  · rw [List.getElem?_append_right (by omega)] at hi
    obtain ⟨h1, h2⟩ := List.getElem?_eq_some_iff.mp hi
    rw [List.getElem_replicate] at h2
    exact absurd h2.symm hv
section Ends
variable {l : Launch} {G : GG} {M : Mi} {R : Room} {n' : Nat} {ρ' : Rho} {mc ms : Nat} {σ : Si} {pc : Nat} {L : List Value}
theorem r_ireti {Q : Si → Option Value → Prop} {z : Int} (hd : decode M.2.1 pc = .ok (.ireturn, 1)) (hr : M.2.2.2 = some .int) (hQ : Q σ (some (iv z))) : RW (l, G, M, R, QtM G n' ρ' Q mc ms) (mc, ms, n', ρ') σ pc L [iv z] := by
  intro p e s m args below meth c H locs ls F hW hS hl h0
  have hlocks := F.2.2.2.2.2.2.1
  exact W.iret (v := Int32.ofInt z) F.1 F.2.1 (F.2.2.1.trans hr) (fun t ht hw => ⟨σ, some (iv z), rfl, hQ, by rw [ht]; exact hW.moved hw.alike, hS.F ht⟩) hS.2.2 hd hlocks
theorem r_iretz {Q : Si → Option Value → Prop} {z : Int} (hd : decode M.2.1 pc = .ok (.ireturn, 1)) (hr : M.2.2.2 = some .boolean) (hz : z = 0 ∨ z = 1) (hQ : Q σ (some (iv z))) : RW (l, G, M, R, QtM G n' ρ' Q mc ms) (mc, ms, n', ρ') σ pc L [iv z] := by
  intro p e s m args below meth c H locs ls F hW hS hl h0
  have hlocks := F.2.2.2.2.2.2.1
  exact W.zret (v := Int32.ofInt z) (ty := .boolean) F.1 F.2.1 (F.2.2.1.trans hr) (nar_z hz) (fun t ht hw => ⟨σ, some (iv z), rfl, hQ, by rw [ht]; exact hW.moved hw.alike, hS.F ht⟩) hS.2.2 hd hlocks
theorem r_lret {Q : Si → Option Value → Prop} {z : Int} (hd : decode M.2.1 pc = .ok (.lreturn, 1)) (hr : M.2.2.2 = some .long) (hQ : Q σ (some (jl z))) : RW (l, G, M, R, QtM G n' ρ' Q mc ms) (mc, ms, n', ρ') σ pc L [jl z] := by
  intro p e s m args below meth c H locs ls F hW hS hl h0
  have hlocks := F.2.2.2.2.2.2.1
  exact W.lret (v := Int64.ofInt z) F.1 F.2.1 (F.2.2.1.trans hr) (fun t ht hw => ⟨σ, some (jl z), rfl, hQ, by rw [ht]; exact hW.moved hw.alike, hS.F ht⟩) hS.2.2 hd hlocks
theorem r_vret {Q : Si → Option Value → Prop} (hd : decode M.2.1 pc = .ok (.return_, 1)) (hr : M.2.2.2 = none) (hQ : Q σ none) : RW (l, G, M, R, QtM G n' ρ' Q mc ms) (mc, ms, n', ρ') σ pc L [] := by
  intro p e s m args below meth c H locs ls F hW hS hl h0
  have hlocks := F.2.2.2.2.2.2.1
  exact W.vret F.1 F.2.1 (F.2.2.1.trans hr) (fun t ht hw => ⟨σ, none, rfl, hQ, by rw [ht]; exact hW.moved hw.alike, hS.F ht⟩) hS.2.2 hd hlocks
end Ends
section CallsX
variable {p : Program} {l : Launch} {e : Env} {R : Room} {s : State} {m : MethodId} {args : Array Value} {below : List Frame} {meth : Method} {c : Code} {H : Heap} {locs : List Loc} {cells slots : Nat} {Qw : State → Prop}
theorem call_go {G : GG} {n' : Nat} {ρ' : Rho} {Q : Si → Option Value → Prop} {mc ms pc : Nat} {ls : Array Slot} {st0 rest : List Value} {a : Array Value} (hr : va_Run p l e R s m args below meth c H locs cells slots mc ms (F0 m pc ls st0) rest (QcM G n' ρ' Q a) (gA G)) (hS : va_S (gA G) s.heap H locs)
    (kk : ∀ (σ' : Si) (v : Option Value) (H1 : Heap) (locs1 : List Loc), Q σ' v → Wd G n' ρ' σ' s H1 → va_S (gA G) s.heap H1 locs1 → W p l e R s m args below meth c H1 locs1 (cells + mc) (slots + ms) Qw (F0 m (pc + 3) ls (v.toList ++ rest))) : W p l e R s m args below meth c H locs cells slots Qw (F0 m pc ls st0) := by
  intro T hT X
  obtain ⟨v, st₀, t, T', L, h0, X', hL, e1, e2, ⟨σ', v', hv, hq, hw, hz, hk⟩, st⟩ := hr T hT X
  cases hv
  rw [h0] at hz hk
  have hal : s.vm.Alike t.vm := by rw [← e2]; exact X'.warmed.alike
  obtain ⟨t2, a1, b1⟩ := kk σ' v T'.heap (locs ++ L) hq (by rw [e1]; exact hw.moved hal.symm)
    ⟨Nat.le_trans hS.1 (by rw [e1]; exact hz), fun q h1 h2 => by rw [e1, hk q (Nat.lt_of_lt_of_le h1 hS.1) h2]; exact hS.2.1 q h1 h2, fun q hq => by
      rcases List.mem_append.mp hq with h | h
      · exact hS.2.2 q h
      · exact hL q h⟩ T' rfl X'
  exact ⟨t2, st t2 a1, b1⟩
theorem PcM.blind (G : GG) (n : Nat) (ρ : Rho) (σ : Si) (av : List Value) : FrameBlind (PcM G n ρ σ av) := by
  intro a U g mk h
  obtain ⟨h1, h2, h3, h4, h5⟩ := h
  exact ⟨h1, h2, Wd.moved (u := U) (U := U.calling g mk a) (Vm.Alike.refl U.vm) h3, Jvm.Stand.arrayOver_alikeB (s := U) (U := U.calling g mk a) (Vm.Alike.refl U.vm) h4, va_Nw.same (u := U) (U := U.calling g mk a) rfl rfl h5⟩
/-- what the tables say of a method that is called -/
def okM (M : Mi) (n : Nat) : Prop := Cond.code M.1 M.2.1 M.2.2.1 M.2.2.2 ∈ lw_tbl ∧ Cond.initialized M.1.cls ∈ lw_tbl ∧ (M.1.cls ≠ "java/lang/invoke/MethodHandle" ∧ M.1.cls ≠ "java/lang/invoke/VarHandle" ∧ (parseMethodDescriptor M.1.desc).map (fun d => d.parameters.length) = some n) ∧ M.2.2.1 ≤ 60
def okV (M : Mi) (n : Nat) : Prop := okM M n ∧ Cond.instanceMethod M.1 ∈ lw_tbl ∧ Cond.selects M.1.cls M.1 M.1 ∈ lw_tbl
def okS (M : Mi) (n : Nat) : Prop := okM M n ∧ Cond.static M.1 ∈ lw_tbl
def okI (M : Mi) (n : Nat) : Prop := okM M n ∧ Cond.instanceMethod M.1 ∈ lw_tbl ∧ M.1.name = "<init>"
theorem wsM_good {M : Mi} {n : Nat} (h : okM M n) : GoodIn lw_gd (wsM M) := by
  intro w hw
  rcases List.mem_cons.mp hw with rfl | hw
  · exact ⟨gd_mem h.1 rfl, good_of_word (w := Cond.code M.1 M.2.1 M.2.2.1 M.2.2.2) rfl⟩
  · exact ⟨hw, good_of_word (List.mem_filter.mp hw).2⟩
end CallsX
/-- room for a call of depth d -/
def roomOK (R : Room) (d : Nat) : Prop := d + 1 ≤ R.frames ∧ 100 * (d + 1) ≤ R.locals
theorem roomOK.of {d d' mc ms : Nat} (h : d' + 1 ≤ d) : roomOK (rmOf d mc ms) d' := ⟨h, by show 100 * (d' + 1) ≤ 100 * d; omega⟩
def catSum (st : List Value) : Nat := (st.map fun v => v.category).sum
section RowsF
variable {K : Kx} {φ : Ph} {σ : Si} {pc : Nat} {L L' : List Value} {rest st : List Value}
theorem r_callV {M' : Mi} {d mc ms k n' t ix na : Nat} {ρ' : Rho} {Q' : Si → Option Value → Prop} {As : List Value} (hd : decode K.2.2.1.2.1 pc = .ok (.invokevirtual ix, 3)) (hC : Ct K.1 K.2.1 d M' mc ms φ.2.2.1 φ.2.2.2 σ (rf K.2.1 k :: As) n' ρ' Q') (hlk : Cond.methodLink K.2.2.1.1.cls ix M'.1 ∈ lw_tbl) (hok : okV M' na) (hna : As.length = na) (hs : (shp k).1 = t) (hk : k < φ.2.2.1) (hcl : (vwCl[t]?).map (fun q => q.1) = some M'.1.cls) (hst : st = As.reverse ++ rf K.2.1 k :: rest) (hcs : catSum rest ≤ 8) (hR : roomOK K.2.2.2.1 d) (hce : φ.1 + mc ≤ K.2.2.2.1.cells ∧ φ.2.1 + ms ≤ K.2.2.2.1.slots)
    (kk : ∀ σ' v, Q' σ' v → RW K (φ.1 + mc, φ.2.1 + ms, n', ρ') σ' (pc + 3) L (v.toList ++ rest)) : RW K φ σ pc L st := by
  subst hst
  intro p e s m args below meth c H locs ls F hW hS hl h0
  obtain ⟨⟨g1, g2, g3, g4⟩, g5, g6⟩ := hok
  have hml : c.maxLocals = ls.size := by rw [F.2.2.2.1]; exact hl.choose_spec.1.1.symm
  cases hq : vwCl[t]? with
  | none => rw [hq] at hcl; cases hcl
  | some q =>
    obtain ⟨C, T, N⟩ := q
    rw [hq] at hcl
    have hC' : C = M'.1.cls := Option.some.inj hcl
    obtain ⟨cell, q1, q2, q3, q4⟩ := (hW.2.1 k hk).2.2.2.2 t C T N hs hq
    have hfc := (hW.2.2.1.1 t _ hq).2.1
    refine call_go (va_runV (As := As) (rest := rest) (C := M'.1.cls) (n := na) ⟨F.1, F.2.1, hml, F.2.2.2.2.1, F.gd⟩ hC ⟨callB_of na F.gd (wsM_good ⟨g1, g2, g3, g4⟩) rfl rfl rfl (F.2.2.2.2.2.1 _ g2 rfl) (F.2.2.2.2.2.1 _ hlk rfl) g3 ⟨hR.1, by show 8 + (M'.2.2.1 + 11) + 100 * d ≤ _; have := hR.2; omega⟩, F.2.2.2.2.2.1 _ g5 rfl, F.2.2.2.2.2.1 _ g6 rfl⟩ ⟨PcM.blind _ _ _ _ _, ⟨cell, q1, by rw [q3]; rfl, by rw [q2, ← hC']; exact hfc⟩, fun U hU hw => ⟨rfl, by rw [hU]; have := hW.1; omega, by rw [hU]; exact hW.moved hw.alike, F.2.2.2.2.2.2.2.2.warm hw⟩⟩ rfl hna rfl rfl (by show 2 * 0 + catSum rest ≤ 8; omega) hd hce) hS (fun σ' v H1 locs1 hQ hW1 hS1 => ?_)
    exact kk σ' v hQ p e s m args below meth c H1 locs1 ls F hW1 hS1 hl h0
theorem r_callS {M' : Mi} {d mc ms n' ix na : Nat} {ρ' : Rho} {Q' : Si → Option Value → Prop} {As : List Value} (hd : decode K.2.2.1.2.1 pc = .ok (.invokestatic ix, 3)) (hC : Ct K.1 K.2.1 d M' mc ms φ.2.2.1 φ.2.2.2 σ As n' ρ' Q') (hlk : Cond.methodLink K.2.2.1.1.cls ix M'.1 ∈ lw_tbl) (hok : okS M' na) (hna : As.length = na) (hst : st = As.reverse ++ rest) (hcs : catSum rest ≤ 8) (hR : roomOK K.2.2.2.1 d) (hce : φ.1 + mc ≤ K.2.2.2.1.cells ∧ φ.2.1 + ms ≤ K.2.2.2.1.slots)
    (kk : ∀ σ' v, Q' σ' v → RW K (φ.1 + mc, φ.2.1 + ms, n', ρ') σ' (pc + 3) L (v.toList ++ rest)) : RW K φ σ pc L st := by
  subst hst
  intro p e s m args below meth c H locs ls F hW hS hl h0
  obtain ⟨⟨g1, g2, g3, g4⟩, g5⟩ := hok
  have hml : c.maxLocals = ls.size := by rw [F.2.2.2.1]; exact hl.choose_spec.1.1.symm
  refine call_go (va_runS (As := As) (rest := rest) (n := na) ⟨F.1, F.2.1, hml, F.2.2.2.2.1, F.gd⟩ hC ⟨callB_of na F.gd (wsM_good ⟨g1, g2, g3, g4⟩) rfl rfl rfl (F.2.2.2.2.2.1 _ g2 rfl) (F.2.2.2.2.2.1 _ hlk rfl) g3 ⟨hR.1, by show 8 + (M'.2.2.1 + 11) + 100 * d ≤ _; have := hR.2; omega⟩, F.2.2.2.2.2.1 _ g5 rfl⟩ ⟨PcM.blind _ _ _ _ _, fun U hU hw => ⟨rfl, by rw [hU]; have := hW.1; omega, by rw [hU]; exact hW.moved hw.alike, F.2.2.2.2.2.2.2.2.warm hw⟩⟩ rfl hna rfl rfl (by show 2 * 0 + catSum rest ≤ 8; omega) hd hce) hS (fun σ' v H1 locs1 hQ hW1 hS1 => ?_)
  exact kk σ' v hQ p e s m args below meth c H1 locs1 ls F hW1 hS1 hl h0
theorem r_callI {M' : Mi} {d mc ms k n' ix na : Nat} {ρ' : Rho} {Q' : Si → Option Value → Prop} {As : List Value} (hd : decode K.2.2.1.2.1 pc = .ok (.invokespecial ix, 3)) (hC : Ct K.1 K.2.1 d M' mc ms φ.2.2.1 φ.2.2.2 σ (rf K.2.1 k :: As) n' ρ' Q') (hret : M'.2.2.2 = none) (hlk : Cond.methodLink K.2.2.1.1.cls ix M'.1 ∈ lw_tbl) (hok : okI M' na) (hna : As.length = na) (hst : st = As.reverse ++ rf K.2.1 k :: rest) (hcs : catSum rest ≤ 8) (hR : roomOK K.2.2.2.1 d) (hce : φ.1 + mc ≤ K.2.2.2.1.cells ∧ φ.2.1 + ms ≤ K.2.2.2.1.slots)
    (kk : ∀ σ' v, Q' σ' v → RW K (φ.1 + mc, φ.2.1 + ms, n', ρ') σ' (pc + 3) L (v.toList ++ rest)) : RW K φ σ pc L st := by
  subst hst
  intro p e s m args below meth c H locs ls F hW hS hl h0
  obtain ⟨⟨g1, g2, g3, g4⟩, g5, g6⟩ := hok
  have hml : c.maxLocals = ls.size := by rw [F.2.2.2.1]; exact hl.choose_spec.1.1.symm
  have hcw := callB_of (R := K.2.2.2.1) (rm := rmOf d mc ms) na F.gd (wsM_good ⟨g1, g2, g3, g4⟩) rfl rfl rfl (F.2.2.2.2.2.1 _ g2 rfl) (F.2.2.2.2.2.1 _ hlk rfl) g3 ⟨hR.1, by show 8 + (M'.2.2.1 + 11) + 100 * d ≤ _; have := hR.2; omega⟩
  rw [hret] at hcw
  refine call_go (va_runI (As := As) (rest := rest) (n := na) ⟨F.1, F.2.1, hml, F.2.2.2.2.1, F.gd⟩ hC ⟨hcw, g6, F.2.2.2.2.2.1 _ g5 rfl⟩ ⟨PcM.blind _ _ _ _ _, fun U hU hw => ⟨rfl, by rw [hU]; have := hW.1; omega, by rw [hU]; exact hW.moved hw.alike, F.2.2.2.2.2.2.2.2.warm hw⟩⟩ rfl hna rfl rfl (by show 2 * 0 + catSum rest ≤ 8; omega) hd hce) hS (fun σ' v H1 locs1 hQ hW1 hS1 => ?_)
  exact kk σ' v hQ p e s m args below meth c H1 locs1 ls F hW1 hS1 hl h0
theorem r_callIN {M' : Mi} {d mc ms k n' na : Nat} {ρ' : Rho} {Q' : Si → Option Value → Prop} {As : List Value} (hd : decode K.2.2.1.2.1 pc = .ok (.invokespecial 31, 3)) (hC : Ct K.1 K.2.1 d M' mc ms φ.2.2.1 φ.2.2.2 σ (rf K.2.1 k :: As) n' ρ' Q') (hret : M'.2.2.2 = none) (hcls : K.2.2.1.1.cls = "AwardDesk") (hM : M'.1 = yX7_init) (hok : okI M' na) (hna : As.length = na) (hst : st = As.reverse ++ rf K.2.1 k :: rest) (hcs : catSum rest ≤ 8) (hR : roomOK K.2.2.2.1 d) (hce : φ.1 + mc ≤ K.2.2.2.1.cells ∧ φ.2.1 + ms ≤ K.2.2.2.1.slots)
    (kk : ∀ σ' v, Q' σ' v → RW K (φ.1 + mc, φ.2.1 + ms, n', ρ') σ' (pc + 3) L (v.toList ++ rest)) : RW K φ σ pc L st := by
  subst hst
  intro p e s m args below meth c H locs ls F hW hS hl h0
  obtain ⟨⟨g1, g2, g3, g4⟩, g5, g6⟩ := hok
  have hml : c.maxLocals = ls.size := by rw [F.2.2.2.1]; exact hl.choose_spec.1.1.symm
  have hcw := va_cnB (R := K.2.2.2.1) (own := K.2.2.1.1.cls) (host := "AwardDesk") (index := 31) (rm := rmOf d mc ms) na F.gd (wsM_good ⟨g1, g2, g3, g4⟩) rfl rfl rfl (by rw [hcls, hM]; exact F.2.2.2.2.2.2.2.2.2) (F.2.2.2.2.2.1 _ g2 rfl) g3 ⟨hR.1, by show 8 + (M'.2.2.1 + 11) + 100 * d ≤ _; have := hR.2; omega⟩
  rw [hret] at hcw
  refine call_go (va_runIN (As := As) (rest := rest) (n := na) ⟨F.1, F.2.1, hml, F.2.2.2.2.1, F.gd⟩ hC ⟨hcw, g6, F.2.2.2.2.2.1 _ g5 rfl⟩ ⟨PcM.blind _ _ _ _ _, fun U hU hw => ⟨rfl, by rw [hU]; have := hW.1; omega, by rw [hU]; exact hW.moved hw.alike, F.2.2.2.2.2.2.2.2.warm hw⟩⟩ rfl hna rfl rfl (by show 2 * 0 + catSum rest ≤ 8; omega) hd hce) hS (fun σ' v H1 locs1 hQ hW1 hS1 => ?_)
  exact kk σ' v hQ p e s m args below meth c H1 locs1 ls F hW1 hS1 hl h0
theorem r_objInit {ix k : Nat} (hd : decode K.2.2.1.2.1 pc = .ok (.invokespecial ix, 3)) (hlk : Cond.methodLink K.2.2.1.1.cls ix objectInit ∈ lw_tbl) (hin : Cond.instanceMethod objectInit ∈ lw_tbl) (hco : Cond.code objectInit ⟨#[0xb1]⟩ 1 none ∈ lw_tbl) (hfr : 1 ≤ K.2.2.2.1.frames) (hlo : catSum st + 12 ≤ K.2.2.2.1.locals) (kk : RW K φ σ (pc + 3) L st) : RW K φ σ pc L (rf K.2.1 k :: st) := by
  intro p e s m args below meth c H locs ls F hW hS hl h0
  exact W.objInit F.1 F.2.1 F.2.2.2.2.1 (F.2.2.2.2.2.1 _ hlk rfl) (F.2.2.2.2.2.1 _ hin rfl) (F.2.2.2.2.2.1 _ hco rfl) rfl (by rw [F.2.2.2.1]; exact hl.choose_spec.1.1) rfl hd hfr (by show 2 * 0 + catSum st + 12 ≤ _; omega) (kk p e s m args below meth c H locs ls F hW hS hl h0)
end RowsF
end
