def mX0_init : Mi := (yX0_init, cX0_init, 4, none)
theorem okX0_init : okI mX0_init 3 := ⟨⟨List.mem_of_getElem? (i := 671) (by decide +kernel), List.mem_of_getElem? (i := 58) (by decide +kernel), ⟨by decide +kernel, by decide +kernel, by decide +kernel⟩, by decide⟩, List.mem_of_getElem? (i := 670) (by decide +kernel), rfl⟩
def mX0_run : Mi := (yX0_run, cX0_run, 6, (some .int))
theorem okX0_run : okV mX0_run 4 := ⟨⟨List.mem_of_getElem? (i := 736) (by decide +kernel), List.mem_of_getElem? (i := 58) (by decide +kernel), ⟨by decide +kernel, by decide +kernel, by decide +kernel⟩, by decide⟩, List.mem_of_getElem? (i := 734) (by decide +kernel), List.mem_of_getElem? (i := 735) (by decide +kernel)⟩
def mX0_findSites : Mi := (yX0_findSites, cX0_findSites, 8, none)
theorem okX0_findSites : okV mX0_findSites 0 := ⟨⟨List.mem_of_getElem? (i := 740) (by decide +kernel), List.mem_of_getElem? (i := 58) (by decide +kernel), ⟨by decide +kernel, by decide +kernel, by decide +kernel⟩, by decide⟩, List.mem_of_getElem? (i := 739) (by decide +kernel), List.mem_of_getElem? (i := 9) (by decide +kernel)⟩
def mX0_findSitesDown : Mi := (yX0_findSitesDown, cX0_findSitesDown, 16, none)
theorem okX0_findSitesDown : okV mX0_findSitesDown 4 := ⟨⟨List.mem_of_getElem? (i := 751) (by decide +kernel), List.mem_of_getElem? (i := 58) (by decide +kernel), ⟨by decide +kernel, by decide +kernel, by decide +kernel⟩, by decide⟩, List.mem_of_getElem? (i := 750) (by decide +kernel), List.mem_of_getElem? (i := 10) (by decide +kernel)⟩
def mX0_lowBit : Mi := (yX0_lowBit, cX0_lowBit, 1, (some .long))
theorem okX0_lowBit : okS mX0_lowBit 1 := ⟨⟨List.mem_of_getElem? (i := 744) (by decide +kernel), List.mem_of_getElem? (i := 58) (by decide +kernel), ⟨by decide +kernel, by decide +kernel, by decide +kernel⟩, by decide⟩, List.mem_of_getElem? (i := 743) (by decide +kernel)⟩
def mX0_highBit : Mi := (yX0_highBit, cX0_highBit, 1, (some .long))
theorem okX0_highBit : okS mX0_highBit 1 := ⟨⟨List.mem_of_getElem? (i := 747) (by decide +kernel), List.mem_of_getElem? (i := 58) (by decide +kernel), ⟨by decide +kernel, by decide +kernel, by decide +kernel⟩, by decide⟩, List.mem_of_getElem? (i := 746) (by decide +kernel)⟩
def mX0_findTakers : Mi := (yX0_findTakers, cX0_findTakers, 5, none)
theorem okX0_findTakers : okV mX0_findTakers 3 := ⟨⟨List.mem_of_getElem? (i := 757) (by decide +kernel), List.mem_of_getElem? (i := 58) (by decide +kernel), ⟨by decide +kernel, by decide +kernel, by decide +kernel⟩, by decide⟩, List.mem_of_getElem? (i := 756) (by decide +kernel), List.mem_of_getElem? (i := 11) (by decide +kernel)⟩
def mX0_findChoices : Mi := (yX0_findChoices, cX0_findChoices, 10, none)
theorem okX0_findChoices : okV mX0_findChoices 4 := ⟨⟨List.mem_of_getElem? (i := 761) (by decide +kernel), List.mem_of_getElem? (i := 58) (by decide +kernel), ⟨by decide +kernel, by decide +kernel, by decide +kernel⟩, by decide⟩, List.mem_of_getElem? (i := 760) (by decide +kernel), List.mem_of_getElem? (i := 12) (by decide +kernel)⟩
def mX0_putFrom : Mi := (yX0_putFrom, cX0_putFrom, 11, none)
theorem okX0_putFrom : okV mX0_putFrom 4 := ⟨⟨List.mem_of_getElem? (i := 769) (by decide +kernel), List.mem_of_getElem? (i := 58) (by decide +kernel), ⟨by decide +kernel, by decide +kernel, by decide +kernel⟩, by decide⟩, List.mem_of_getElem? (i := 768) (by decide +kernel), List.mem_of_getElem? (i := 13) (by decide +kernel)⟩
def mX1_init : Mi := (yX1_init, cX1_init, 1, none)
theorem okX1_init : okI mX1_init 0 := ⟨⟨List.mem_of_getElem? (i := 71) (by decide +kernel), List.mem_of_getElem? (i := 47) (by decide +kernel), ⟨by decide +kernel, by decide +kernel, by decide +kernel⟩, by decide⟩, List.mem_of_getElem? (i := 70) (by decide +kernel), rfl⟩
def mX1_renew : Mi := (yX1_renew, cX1_renew, 6, none)
theorem okX1_renew : okV mX1_renew 2 := ⟨⟨List.mem_of_getElem? (i := 78) (by decide +kernel), List.mem_of_getElem? (i := 47) (by decide +kernel), ⟨by decide +kernel, by decide +kernel, by decide +kernel⟩, by decide⟩, List.mem_of_getElem? (i := 76) (by decide +kernel), List.mem_of_getElem? (i := 77) (by decide +kernel)⟩
def mX1_isCell : Mi := (yX1_isCell, cX1_isCell, 2, (some .boolean))
theorem okX1_isCell : okV mX1_isCell 1 := ⟨⟨List.mem_of_getElem? (i := 323) (by decide +kernel), List.mem_of_getElem? (i := 47) (by decide +kernel), ⟨by decide +kernel, by decide +kernel, by decide +kernel⟩, by decide⟩, List.mem_of_getElem? (i := 321) (by decide +kernel), List.mem_of_getElem? (i := 322) (by decide +kernel)⟩
def mX1_isClose : Mi := (yX1_isClose, cX1_isClose, 2, (some .boolean))
theorem okX1_isClose : okV mX1_isClose 1 := ⟨⟨List.mem_of_getElem? (i := 386) (by decide +kernel), List.mem_of_getElem? (i := 47) (by decide +kernel), ⟨by decide +kernel, by decide +kernel, by decide +kernel⟩, by decide⟩, List.mem_of_getElem? (i := 384) (by decide +kernel), List.mem_of_getElem? (i := 385) (by decide +kernel)⟩
def mX1_isRoad : Mi := (yX1_isRoad, cX1_isRoad, 2, (some .boolean))
theorem okX1_isRoad : okV mX1_isRoad 1 := ⟨⟨List.mem_of_getElem? (i := 404) (by decide +kernel), List.mem_of_getElem? (i := 47) (by decide +kernel), ⟨by decide +kernel, by decide +kernel, by decide +kernel⟩, by decide⟩, List.mem_of_getElem? (i := 402) (by decide +kernel), List.mem_of_getElem? (i := 403) (by decide +kernel)⟩
def mX1_isPlain : Mi := (yX1_isPlain, cX1_isPlain, 2, (some .boolean))
theorem okX1_isPlain : okV mX1_isPlain 1 := ⟨⟨List.mem_of_getElem? (i := 495) (by decide +kernel), List.mem_of_getElem? (i := 47) (by decide +kernel), ⟨by decide +kernel, by decide +kernel, by decide +kernel⟩, by decide⟩, List.mem_of_getElem? (i := 493) (by decide +kernel), List.mem_of_getElem? (i := 494) (by decide +kernel)⟩
def mX1_beside : Mi := (yX1_beside, cX1_beside, 3, (some .int))
theorem okX1_beside : okV mX1_beside 2 := ⟨⟨List.mem_of_getElem? (i := 412) (by decide +kernel), List.mem_of_getElem? (i := 47) (by decide +kernel), ⟨by decide +kernel, by decide +kernel, by decide +kernel⟩, by decide⟩, List.mem_of_getElem? (i := 410) (by decide +kernel), List.mem_of_getElem? (i := 411) (by decide +kernel)⟩
def mX1_isBesideRoad : Mi := (yX1_isBesideRoad, cX1_isBesideRoad, 4, (some .boolean))
theorem okX1_isBesideRoad : okV mX1_isBesideRoad 1 := ⟨⟨List.mem_of_getElem? (i := 632) (by decide +kernel), List.mem_of_getElem? (i := 47) (by decide +kernel), ⟨by decide +kernel, by decide +kernel, by decide +kernel⟩, by decide⟩, List.mem_of_getElem? (i := 630) (by decide +kernel), List.mem_of_getElem? (i := 631) (by decide +kernel)⟩
def mX1_roadCells : Mi := (yX1_roadCells, cX1_roadCells, 3, (some .int))
theorem okX1_roadCells : okV mX1_roadCells 0 := ⟨⟨List.mem_of_getElem? (i := 796) (by decide +kernel), List.mem_of_getElem? (i := 47) (by decide +kernel), ⟨by decide +kernel, by decide +kernel, by decide +kernel⟩, by decide⟩, List.mem_of_getElem? (i := 794) (by decide +kernel), List.mem_of_getElem? (i := 795) (by decide +kernel)⟩
def mX1_isInside : Mi := (yX1_isInside, cX1_isInside, 3, (some .boolean))
theorem okX1_isInside : okV mX1_isInside 1 := ⟨⟨List.mem_of_getElem? (i := 609) (by decide +kernel), List.mem_of_getElem? (i := 47) (by decide +kernel), ⟨by decide +kernel, by decide +kernel, by decide +kernel⟩, by decide⟩, List.mem_of_getElem? (i := 607) (by decide +kernel), List.mem_of_getElem? (i := 608) (by decide +kernel)⟩
def mX1_isIn : Mi := (yX1_isIn, cX1_isIn, 6, (some .boolean))
theorem okX1_isIn : okV mX1_isIn 2 := ⟨⟨List.mem_of_getElem? (i := 622) (by decide +kernel), List.mem_of_getElem? (i := 47) (by decide +kernel), ⟨by decide +kernel, by decide +kernel, by decide +kernel⟩, by decide⟩, List.mem_of_getElem? (i := 620) (by decide +kernel), List.mem_of_getElem? (i := 621) (by decide +kernel)⟩
def mX1_stepsTo : Mi := (yX1_stepsTo, cX1_stepsTo, 4, (some .int))
theorem okX1_stepsTo : okV mX1_stepsTo 2 := ⟨⟨List.mem_of_getElem? (i := 653) (by decide +kernel), List.mem_of_getElem? (i := 47) (by decide +kernel), ⟨by decide +kernel, by decide +kernel, by decide +kernel⟩, by decide⟩, List.mem_of_getElem? (i := 651) (by decide +kernel), List.mem_of_getElem? (i := 652) (by decide +kernel)⟩
def mX1_gap : Mi := (yX1_gap, cX1_gap, 3, (some .int))
theorem okX1_gap : okS mX1_gap 3 := ⟨⟨List.mem_of_getElem? (i := 656) (by decide +kernel), List.mem_of_getElem? (i := 47) (by decide +kernel), ⟨by decide +kernel, by decide +kernel, by decide +kernel⟩, by decide⟩, List.mem_of_getElem? (i := 655) (by decide +kernel)⟩
def mX2_init : Mi := (yX2_init, cX2_init, 3, none)
theorem okX2_init : okI mX2_init 2 := ⟨⟨List.mem_of_getElem? (i := 255) (by decide +kernel), List.mem_of_getElem? (i := 53) (by decide +kernel), ⟨by decide +kernel, by decide +kernel, by decide +kernel⟩, by decide⟩, List.mem_of_getElem? (i := 254) (by decide +kernel), rfl⟩
def mX2_clear : Mi := (yX2_clear, cX2_clear, 1, none)
theorem okX2_clear : okV mX2_clear 0 := ⟨⟨List.mem_of_getElem? (i := 260) (by decide +kernel), List.mem_of_getElem? (i := 53) (by decide +kernel), ⟨by decide +kernel, by decide +kernel, by decide +kernel⟩, by decide⟩, List.mem_of_getElem? (i := 258) (by decide +kernel), List.mem_of_getElem? (i := 259) (by decide +kernel)⟩
def mX2_isDrawn : Mi := (yX2_isDrawn, cX2_isDrawn, 2, (some .boolean))
theorem okX2_isDrawn : okV mX2_isDrawn 1 := ⟨⟨List.mem_of_getElem? (i := 597) (by decide +kernel), List.mem_of_getElem? (i := 53) (by decide +kernel), ⟨by decide +kernel, by decide +kernel, by decide +kernel⟩, by decide⟩, List.mem_of_getElem? (i := 595) (by decide +kernel), List.mem_of_getElem? (i := 596) (by decide +kernel)⟩
def mX2_drawnPlots : Mi := (yX2_drawnPlots, cX2_drawnPlots, 3, (some .int))
theorem okX2_drawnPlots : okV mX2_drawnPlots 0 := ⟨⟨List.mem_of_getElem? (i := 792) (by decide +kernel), List.mem_of_getElem? (i := 53) (by decide +kernel), ⟨by decide +kernel, by decide +kernel, by decide +kernel⟩, by decide⟩, List.mem_of_getElem? (i := 790) (by decide +kernel), List.mem_of_getElem? (i := 791) (by decide +kernel)⟩
def mX2_isInPlotAhead : Mi := (yX2_isInPlotAhead, cX2_isInPlotAhead, 4, (some .boolean))
theorem okX2_isInPlotAhead : okV mX2_isInPlotAhead 2 := ⟨⟨List.mem_of_getElem? (i := 627) (by decide +kernel), List.mem_of_getElem? (i := 53) (by decide +kernel), ⟨by decide +kernel, by decide +kernel, by decide +kernel⟩, by decide⟩, List.mem_of_getElem? (i := 626) (by decide +kernel), List.mem_of_getElem? (i := 8) (by decide +kernel)⟩
def mX2_faultOf : Mi := (yX2_faultOf, cX2_faultOf, 9, (some .int))
theorem okX2_faultOf : okV mX2_faultOf 3 := ⟨⟨List.mem_of_getElem? (i := 605) (by decide +kernel), List.mem_of_getElem? (i := 53) (by decide +kernel), ⟨by decide +kernel, by decide +kernel, by decide +kernel⟩, by decide⟩, List.mem_of_getElem? (i := 603) (by decide +kernel), List.mem_of_getElem? (i := 604) (by decide +kernel)⟩
def mX2_worthOf : Mi := (yX2_worthOf, cX2_worthOf, 4, (some .int))
theorem okX2_worthOf : okV mX2_worthOf 1 := ⟨⟨List.mem_of_getElem? (i := 638) (by decide +kernel), List.mem_of_getElem? (i := 53) (by decide +kernel), ⟨by decide +kernel, by decide +kernel, by decide +kernel⟩, by decide⟩, List.mem_of_getElem? (i := 636) (by decide +kernel), List.mem_of_getElem? (i := 637) (by decide +kernel)⟩
def mX2_hedgeOf : Mi := (yX2_hedgeOf, cX2_hedgeOf, 6, (some .int))
theorem okX2_hedgeOf : okV mX2_hedgeOf 1 := ⟨⟨List.mem_of_getElem? (i := 661) (by decide +kernel), List.mem_of_getElem? (i := 53) (by decide +kernel), ⟨by decide +kernel, by decide +kernel, by decide +kernel⟩, by decide⟩, List.mem_of_getElem? (i := 659) (by decide +kernel), List.mem_of_getElem? (i := 660) (by decide +kernel)⟩
def mX3_init : Mi := (yX3_init, cX3_init, 2, none)
theorem okX3_init : okI mX3_init 1 := ⟨⟨List.mem_of_getElem? (i := 127) (by decide +kernel), List.mem_of_getElem? (i := 49) (by decide +kernel), ⟨by decide +kernel, by decide +kernel, by decide +kernel⟩, by decide⟩, List.mem_of_getElem? (i := 126) (by decide +kernel), rfl⟩
def mX3_lay : Mi := (yX3_lay, cX3_lay, 7, (some .int))
theorem okX3_lay : okV mX3_lay 2 := ⟨⟨List.mem_of_getElem? (i := 390) (by decide +kernel), List.mem_of_getElem? (i := 49) (by decide +kernel), ⟨by decide +kernel, by decide +kernel, by decide +kernel⟩, by decide⟩, List.mem_of_getElem? (i := 388) (by decide +kernel), List.mem_of_getElem? (i := 389) (by decide +kernel)⟩
def mX3_measure : Mi := (yX3_measure, cX3_measure, 6, none)
theorem okX3_measure : okV mX3_measure 1 := ⟨⟨List.mem_of_getElem? (i := 394) (by decide +kernel), List.mem_of_getElem? (i := 49) (by decide +kernel), ⟨by decide +kernel, by decide +kernel, by decide +kernel⟩, by decide⟩, List.mem_of_getElem? (i := 393) (by decide +kernel), List.mem_of_getElem? (i := 0) (by decide +kernel)⟩
def mX3_nearestUnsettled : Mi := (yX3_nearestUnsettled, cX3_nearestUnsettled, 4, (some .int))
theorem okX3_nearestUnsettled : okV mX3_nearestUnsettled 0 := ⟨⟨List.mem_of_getElem? (i := 408) (by decide +kernel), List.mem_of_getElem? (i := 49) (by decide +kernel), ⟨by decide +kernel, by decide +kernel, by decide +kernel⟩, by decide⟩, List.mem_of_getElem? (i := 407) (by decide +kernel), List.mem_of_getElem? (i := 2) (by decide +kernel)⟩
def mX3_cellBefore : Mi := (yX3_cellBefore, cX3_cellBefore, 5, (some .int))
theorem okX3_cellBefore : okV mX3_cellBefore 1 := ⟨⟨List.mem_of_getElem? (i := 418) (by decide +kernel), List.mem_of_getElem? (i := 49) (by decide +kernel), ⟨by decide +kernel, by decide +kernel, by decide +kernel⟩, by decide⟩, List.mem_of_getElem? (i := 417) (by decide +kernel), List.mem_of_getElem? (i := 3) (by decide +kernel)⟩
def mX3_price : Mi := (yX3_price, cX3_price, 2, (some .int))
theorem okX3_price : okV mX3_price 1 := ⟨⟨List.mem_of_getElem? (i := 400) (by decide +kernel), List.mem_of_getElem? (i := 49) (by decide +kernel), ⟨by decide +kernel, by decide +kernel, by decide +kernel⟩, by decide⟩, List.mem_of_getElem? (i := 399) (by decide +kernel), List.mem_of_getElem? (i := 1) (by decide +kernel)⟩
def mX4_init : Mi := (yX4_init, cX4_init, 2, none)
theorem okX4_init : okI mX4_init 1 := ⟨⟨List.mem_of_getElem? (i := 164) (by decide +kernel), List.mem_of_getElem? (i := 51) (by decide +kernel), ⟨by decide +kernel, by decide +kernel, by decide +kernel⟩, by decide⟩, List.mem_of_getElem? (i := 163) (by decide +kernel), rfl⟩
def mX4_clear : Mi := (yX4_clear, cX4_clear, 1, none)
theorem okX4_clear : okV mX4_clear 0 := ⟨⟨List.mem_of_getElem? (i := 314) (by decide +kernel), List.mem_of_getElem? (i := 51) (by decide +kernel), ⟨by decide +kernel, by decide +kernel, by decide +kernel⟩, by decide⟩, List.mem_of_getElem? (i := 312) (by decide +kernel), List.mem_of_getElem? (i := 313) (by decide +kernel)⟩
def mX4_isClaimant : Mi := (yX4_isClaimant, cX4_isClaimant, 2, (some .boolean))
theorem okX4_isClaimant : okV mX4_isClaimant 1 := ⟨⟨List.mem_of_getElem? (i := 437) (by decide +kernel), List.mem_of_getElem? (i := 51) (by decide +kernel), ⟨by decide +kernel, by decide +kernel, by decide +kernel⟩, by decide⟩, List.mem_of_getElem? (i := 435) (by decide +kernel), List.mem_of_getElem? (i := 436) (by decide +kernel)⟩
def mX4_addClaimant : Mi := (yX4_addClaimant, cX4_addClaimant, 3, (some .int))
theorem okX4_addClaimant : okV mX4_addClaimant 2 := ⟨⟨List.mem_of_getElem? (i := 429) (by decide +kernel), List.mem_of_getElem? (i := 51) (by decide +kernel), ⟨by decide +kernel, by decide +kernel, by decide +kernel⟩, by decide⟩, List.mem_of_getElem? (i := 427) (by decide +kernel), List.mem_of_getElem? (i := 428) (by decide +kernel)⟩
def mX4_addClaim : Mi := (yX4_addClaim, cX4_addClaim, 5, (some .int))
theorem okX4_addClaim : okV mX4_addClaim 4 := ⟨⟨List.mem_of_getElem? (i := 448) (by decide +kernel), List.mem_of_getElem? (i := 51) (by decide +kernel), ⟨by decide +kernel, by decide +kernel, by decide +kernel⟩, by decide⟩, List.mem_of_getElem? (i := 446) (by decide +kernel), List.mem_of_getElem? (i := 447) (by decide +kernel)⟩
def mX4_addObjection : Mi := (yX4_addObjection, cX4_addObjection, 4, (some .int))
theorem okX4_addObjection : okV mX4_addObjection 3 := ⟨⟨List.mem_of_getElem? (i := 466) (by decide +kernel), List.mem_of_getElem? (i := 51) (by decide +kernel), ⟨by decide +kernel, by decide +kernel, by decide +kernel⟩, by decide⟩, List.mem_of_getElem? (i := 464) (by decide +kernel), List.mem_of_getElem? (i := 465) (by decide +kernel)⟩
def mX4_firstOfKind : Mi := (yX4_firstOfKind, cX4_firstOfKind, 3, (some .int))
theorem okX4_firstOfKind : okV mX4_firstOfKind 1 := ⟨⟨List.mem_of_getElem? (i := 508) (by decide +kernel), List.mem_of_getElem? (i := 51) (by decide +kernel), ⟨by decide +kernel, by decide +kernel, by decide +kernel⟩, by decide⟩, List.mem_of_getElem? (i := 506) (by decide +kernel), List.mem_of_getElem? (i := 507) (by decide +kernel)⟩
def mX4_claimantOf : Mi := (yX4_claimantOf, cX4_claimantOf, 2, (some .int))
theorem okX4_claimantOf : okV mX4_claimantOf 1 := ⟨⟨List.mem_of_getElem? (i := 529) (by decide +kernel), List.mem_of_getElem? (i := 51) (by decide +kernel), ⟨by decide +kernel, by decide +kernel, by decide +kernel⟩, by decide⟩, List.mem_of_getElem? (i := 527) (by decide +kernel), List.mem_of_getElem? (i := 528) (by decide +kernel)⟩
def mX4_lateClaims : Mi := (yX4_lateClaims, cX4_lateClaims, 4, (some .int))
theorem okX4_lateClaims : okV mX4_lateClaims 1 := ⟨⟨List.mem_of_getElem? (i := 788) (by decide +kernel), List.mem_of_getElem? (i := 51) (by decide +kernel), ⟨by decide +kernel, by decide +kernel, by decide +kernel⟩, by decide⟩, List.mem_of_getElem? (i := 786) (by decide +kernel), List.mem_of_getElem? (i := 787) (by decide +kernel)⟩
def mX4_holderAt : Mi := (yX4_holderAt, cX4_holderAt, 7, (some .int))
theorem okX4_holderAt : okV mX4_holderAt 3 := ⟨⟨List.mem_of_getElem? (i := 478) (by decide +kernel), List.mem_of_getElem? (i := 51) (by decide +kernel), ⟨by decide +kernel, by decide +kernel, by decide +kernel⟩, by decide⟩, List.mem_of_getElem? (i := 476) (by decide +kernel), List.mem_of_getElem? (i := 477) (by decide +kernel)⟩
def mX4_gatesOf : Mi := (yX4_gatesOf, cX4_gatesOf, 6, (some .int))
theorem okX4_gatesOf : okV mX4_gatesOf 3 := ⟨⟨List.mem_of_getElem? (i := 541) (by decide +kernel), List.mem_of_getElem? (i := 51) (by decide +kernel), ⟨by decide +kernel, by decide +kernel, by decide +kernel⟩, by decide⟩, List.mem_of_getElem? (i := 539) (by decide +kernel), List.mem_of_getElem? (i := 540) (by decide +kernel)⟩
def mX4_isUpheld : Mi := (yX4_isUpheld, cX4_isUpheld, 8, (some .boolean))
theorem okX4_isUpheld : okV mX4_isUpheld 2 := ⟨⟨List.mem_of_getElem? (i := 474) (by decide +kernel), List.mem_of_getElem? (i := 51) (by decide +kernel), ⟨by decide +kernel, by decide +kernel, by decide +kernel⟩, by decide⟩, List.mem_of_getElem? (i := 472) (by decide +kernel), List.mem_of_getElem? (i := 473) (by decide +kernel)⟩
def mX4_upheldObjector : Mi := (yX4_upheldObjector, cX4_upheldObjector, 5, (some .int))
theorem okX4_upheldObjector : okV mX4_upheldObjector 3 := ⟨⟨List.mem_of_getElem? (i := 524) (by decide +kernel), List.mem_of_getElem? (i := 51) (by decide +kernel), ⟨by decide +kernel, by decide +kernel, by decide +kernel⟩, by decide⟩, List.mem_of_getElem? (i := 522) (by decide +kernel), List.mem_of_getElem? (i := 523) (by decide +kernel)⟩
def mX5_of : Mi := (yX5_of, cX5_of, 3, (some .int))
theorem okX5_of : okS mX5_of 3 := ⟨⟨List.mem_of_getElem? (i := 589) (by decide +kernel), List.mem_of_getElem? (i := 57) (by decide +kernel), ⟨by decide +kernel, by decide +kernel, by decide +kernel⟩, by decide⟩, List.mem_of_getElem? (i := 588) (by decide +kernel)⟩
def mX5_firstOf : Mi := (yX5_firstOf, cX5_firstOf, 1, (some .int))
theorem okX5_firstOf : okS mX5_firstOf 1 := ⟨⟨List.mem_of_getElem? (i := 612) (by decide +kernel), List.mem_of_getElem? (i := 57) (by decide +kernel), ⟨by decide +kernel, by decide +kernel, by decide +kernel⟩, by decide⟩, List.mem_of_getElem? (i := 611) (by decide +kernel)⟩
def mX5_wideOf : Mi := (yX5_wideOf, cX5_wideOf, 1, (some .int))
theorem okX5_wideOf : okS mX5_wideOf 1 := ⟨⟨List.mem_of_getElem? (i := 615) (by decide +kernel), List.mem_of_getElem? (i := 57) (by decide +kernel), ⟨by decide +kernel, by decide +kernel, by decide +kernel⟩, by decide⟩, List.mem_of_getElem? (i := 614) (by decide +kernel)⟩
def mX5_highOf : Mi := (yX5_highOf, cX5_highOf, 1, (some .int))
theorem okX5_highOf : okS mX5_highOf 1 := ⟨⟨List.mem_of_getElem? (i := 618) (by decide +kernel), List.mem_of_getElem? (i := 57) (by decide +kernel), ⟨by decide +kernel, by decide +kernel, by decide +kernel⟩, by decide⟩, List.mem_of_getElem? (i := 617) (by decide +kernel)⟩
def mX6_init : Mi := (yX6_init, cX6_init, 4, none)
theorem okX6_init : okI mX6_init 3 := ⟨⟨List.mem_of_getElem? (i := 220) (by decide +kernel), List.mem_of_getElem? (i := 52) (by decide +kernel), ⟨by decide +kernel, by decide +kernel, by decide +kernel⟩, by decide⟩, List.mem_of_getElem? (i := 219) (by decide +kernel), rfl⟩
def mX6_value : Mi := (yX6_value, cX6_value, 3, (some .int))
theorem okX6_value : okV mX6_value 0 := ⟨⟨List.mem_of_getElem? (i := 491) (by decide +kernel), List.mem_of_getElem? (i := 52) (by decide +kernel), ⟨by decide +kernel, by decide +kernel, by decide +kernel⟩, by decide⟩, List.mem_of_getElem? (i := 489) (by decide +kernel), List.mem_of_getElem? (i := 490) (by decide +kernel)⟩
def mX6_soldOf : Mi := (yX6_soldOf, cX6_soldOf, 2, (some .int))
theorem okX6_soldOf : okV mX6_soldOf 1 := ⟨⟨List.mem_of_getElem? (i := 499) (by decide +kernel), List.mem_of_getElem? (i := 52) (by decide +kernel), ⟨by decide +kernel, by decide +kernel, by decide +kernel⟩, by decide⟩, List.mem_of_getElem? (i := 497) (by decide +kernel), List.mem_of_getElem? (i := 498) (by decide +kernel)⟩
def mX6_titheOf : Mi := (yX6_titheOf, cX6_titheOf, 2, (some .int))
theorem okX6_titheOf : okV mX6_titheOf 1 := ⟨⟨List.mem_of_getElem? (i := 504) (by decide +kernel), List.mem_of_getElem? (i := 52) (by decide +kernel), ⟨by decide +kernel, by decide +kernel, by decide +kernel⟩, by decide⟩, List.mem_of_getElem? (i := 502) (by decide +kernel), List.mem_of_getElem? (i := 503) (by decide +kernel)⟩
def mX6_restOf : Mi := (yX6_restOf, cX6_restOf, 2, (some .int))
theorem okX6_restOf : okV mX6_restOf 1 := ⟨⟨List.mem_of_getElem? (i := 513) (by decide +kernel), List.mem_of_getElem? (i := 52) (by decide +kernel), ⟨by decide +kernel, by decide +kernel, by decide +kernel⟩, by decide⟩, List.mem_of_getElem? (i := 511) (by decide +kernel), List.mem_of_getElem? (i := 512) (by decide +kernel)⟩
def mX6_weigh : Mi := (yX6_weigh, cX6_weigh, 10, none)
theorem okX6_weigh : okV mX6_weigh 2 := ⟨⟨List.mem_of_getElem? (i := 518) (by decide +kernel), List.mem_of_getElem? (i := 52) (by decide +kernel), ⟨by decide +kernel, by decide +kernel, by decide +kernel⟩, by decide⟩, List.mem_of_getElem? (i := 516) (by decide +kernel), List.mem_of_getElem? (i := 517) (by decide +kernel)⟩
def mX6_giveStrip : Mi := (yX6_giveStrip, cX6_giveStrip, 5, none)
theorem okX6_giveStrip : okV mX6_giveStrip 3 := ⟨⟨List.mem_of_getElem? (i := 533) (by decide +kernel), List.mem_of_getElem? (i := 52) (by decide +kernel), ⟨by decide +kernel, by decide +kernel, by decide +kernel⟩, by decide⟩, List.mem_of_getElem? (i := 532) (by decide +kernel), List.mem_of_getElem? (i := 4) (by decide +kernel)⟩
def mX6_giveCommon : Mi := (yX6_giveCommon, cX6_giveCommon, 6, none)
theorem okX6_giveCommon : okV mX6_giveCommon 3 := ⟨⟨List.mem_of_getElem? (i := 537) (by decide +kernel), List.mem_of_getElem? (i := 52) (by decide +kernel), ⟨by decide +kernel, by decide +kernel, by decide +kernel⟩, by decide⟩, List.mem_of_getElem? (i := 536) (by decide +kernel), List.mem_of_getElem? (i := 5) (by decide +kernel)⟩
def mX6_settleDues : Mi := (yX6_settleDues, cX6_settleDues, 5, none)
theorem okX6_settleDues : okV mX6_settleDues 2 := ⟨⟨List.mem_of_getElem? (i := 560) (by decide +kernel), List.mem_of_getElem? (i := 52) (by decide +kernel), ⟨by decide +kernel, by decide +kernel, by decide +kernel⟩, by decide⟩, List.mem_of_getElem? (i := 558) (by decide +kernel), List.mem_of_getElem? (i := 559) (by decide +kernel)⟩
def mX6_settleRates : Mi := (yX6_settleRates, cX6_settleRates, 3, none)
theorem okX6_settleRates : okV mX6_settleRates 2 := ⟨⟨List.mem_of_getElem? (i := 576) (by decide +kernel), List.mem_of_getElem? (i := 52) (by decide +kernel), ⟨by decide +kernel, by decide +kernel, by decide +kernel⟩, by decide⟩, List.mem_of_getElem? (i := 574) (by decide +kernel), List.mem_of_getElem? (i := 575) (by decide +kernel)⟩
def mX6_dueOf : Mi := (yX6_dueOf, cX6_dueOf, 4, (some .int))
theorem okX6_dueOf : okV mX6_dueOf 3 := ⟨⟨List.mem_of_getElem? (i := 556) (by decide +kernel), List.mem_of_getElem? (i := 52) (by decide +kernel), ⟨by decide +kernel, by decide +kernel, by decide +kernel⟩, by decide⟩, List.mem_of_getElem? (i := 554) (by decide +kernel), List.mem_of_getElem? (i := 555) (by decide +kernel)⟩
def mX6_coinOf : Mi := (yX6_coinOf, cX6_coinOf, 5, (some .int))
theorem okX6_coinOf : okV mX6_coinOf 3 := ⟨⟨List.mem_of_getElem? (i := 580) (by decide +kernel), List.mem_of_getElem? (i := 52) (by decide +kernel), ⟨by decide +kernel, by decide +kernel, by decide +kernel⟩, by decide⟩, List.mem_of_getElem? (i := 578) (by decide +kernel), List.mem_of_getElem? (i := 579) (by decide +kernel)⟩
def mX6_part : Mi := (yX6_part, cX6_part, 10, none)
theorem okX6_part : okV mX6_part 3 := ⟨⟨List.mem_of_getElem? (i := 567) (by decide +kernel), List.mem_of_getElem? (i := 52) (by decide +kernel), ⟨by decide +kernel, by decide +kernel, by decide +kernel⟩, by decide⟩, List.mem_of_getElem? (i := 566) (by decide +kernel), List.mem_of_getElem? (i := 6) (by decide +kernel)⟩
def mX6_greatestRest : Mi := (yX6_greatestRest, cX6_greatestRest, 3, (some .int))
theorem okX6_greatestRest : okV mX6_greatestRest 0 := ⟨⟨List.mem_of_getElem? (i := 571) (by decide +kernel), List.mem_of_getElem? (i := 52) (by decide +kernel), ⟨by decide +kernel, by decide +kernel, by decide +kernel⟩, by decide⟩, List.mem_of_getElem? (i := 570) (by decide +kernel), List.mem_of_getElem? (i := 7) (by decide +kernel)⟩
def mX6_total : Mi := (yX6_total, cX6_total, 4, (some .int))
theorem okX6_total : okS mX6_total 2 := ⟨⟨List.mem_of_getElem? (i := 547) (by decide +kernel), List.mem_of_getElem? (i := 52) (by decide +kernel), ⟨by decide +kernel, by decide +kernel, by decide +kernel⟩, by decide⟩, List.mem_of_getElem? (i := 546) (by decide +kernel)⟩
def mX7_init : Mi := (yX7_init, cX7_init, 1, none)
theorem okX7_init : okI mX7_init 0 := ⟨⟨List.mem_of_getElem? (i := 144) (by decide +kernel), List.mem_of_getElem? (i := 50) (by decide +kernel), ⟨by decide +kernel, by decide +kernel, by decide +kernel⟩, by decide⟩, List.mem_of_getElem? (i := 143) (by decide +kernel), rfl⟩
def mX7_begin : Mi := (yX7_begin, cX7_begin, 4, none)
theorem okX7_begin : okV mX7_begin 3 := ⟨⟨List.mem_of_getElem? (i := 343) (by decide +kernel), List.mem_of_getElem? (i := 50) (by decide +kernel), ⟨by decide +kernel, by decide +kernel, by decide +kernel⟩, by decide⟩, List.mem_of_getElem? (i := 341) (by decide +kernel), List.mem_of_getElem? (i := 342) (by decide +kernel)⟩
def mX7_isMissing : Mi := (yX7_isMissing, cX7_isMissing, 2, (some .boolean))
theorem okX7_isMissing : okV mX7_isMissing 1 := ⟨⟨List.mem_of_getElem? (i := 352) (by decide +kernel), List.mem_of_getElem? (i := 50) (by decide +kernel), ⟨by decide +kernel, by decide +kernel, by decide +kernel⟩, by decide⟩, List.mem_of_getElem? (i := 350) (by decide +kernel), List.mem_of_getElem? (i := 351) (by decide +kernel)⟩
def mX7_reaches : Mi := (yX7_reaches, cX7_reaches, 4, (some .boolean))
theorem okX7_reaches : okV mX7_reaches 3 := ⟨⟨List.mem_of_getElem? (i := 360) (by decide +kernel), List.mem_of_getElem? (i := 50) (by decide +kernel), ⟨by decide +kernel, by decide +kernel, by decide +kernel⟩, by decide⟩, List.mem_of_getElem? (i := 358) (by decide +kernel), List.mem_of_getElem? (i := 359) (by decide +kernel)⟩
def mX7_cut : Mi := (yX7_cut, cX7_cut, 3, (some .int))
theorem okX7_cut : okV mX7_cut 2 := ⟨⟨List.mem_of_getElem? (i := 364) (by decide +kernel), List.mem_of_getElem? (i := 50) (by decide +kernel), ⟨by decide +kernel, by decide +kernel, by decide +kernel⟩, by decide⟩, List.mem_of_getElem? (i := 362) (by decide +kernel), List.mem_of_getElem? (i := 363) (by decide +kernel)⟩
def mX7_present : Mi := (yX7_present, cX7_present, 3, (some .int))
theorem okX7_present : okV mX7_present 0 := ⟨⟨List.mem_of_getElem? (i := 800) (by decide +kernel), List.mem_of_getElem? (i := 50) (by decide +kernel), ⟨by decide +kernel, by decide +kernel, by decide +kernel⟩, by decide⟩, List.mem_of_getElem? (i := 798) (by decide +kernel), List.mem_of_getElem? (i := 799) (by decide +kernel)⟩
def mX8_init : Mi := (yX8_init, cX8_init, 1, none)
theorem okX8_init : okI mX8_init 0 := ⟨⟨List.mem_of_getElem? (i := 63) (by decide +kernel), List.mem_of_getElem? (i := 46) (by decide +kernel), ⟨by decide +kernel, by decide +kernel, by decide +kernel⟩, by decide⟩, List.mem_of_getElem? (i := 62) (by decide +kernel), rfl⟩
def mX8_land : Mi := (yX8_land, cX8_land, 3, (some .int))
theorem okX8_land : okV mX8_land 2 := ⟨⟨List.mem_of_getElem? (i := 306) (by decide +kernel), List.mem_of_getElem? (i := 46) (by decide +kernel), ⟨by decide +kernel, by decide +kernel, by decide +kernel⟩, by decide⟩, List.mem_of_getElem? (i := 304) (by decide +kernel), List.mem_of_getElem? (i := 305) (by decide +kernel)⟩
def mX8_cell : Mi := (yX8_cell, cX8_cell, 5, (some .int))
theorem okX8_cell : okV mX8_cell 3 := ⟨⟨List.mem_of_getElem? (i := 319) (by decide +kernel), List.mem_of_getElem? (i := 46) (by decide +kernel), ⟨by decide +kernel, by decide +kernel, by decide +kernel⟩, by decide⟩, List.mem_of_getElem? (i := 317) (by decide +kernel), List.mem_of_getElem? (i := 318) (by decide +kernel)⟩
def mX8_told : Mi := (yX8_told, cX8_told, 3, (some .int))
theorem okX8_told : okV mX8_told 2 := ⟨⟨List.mem_of_getElem? (i := 332) (by decide +kernel), List.mem_of_getElem? (i := 46) (by decide +kernel), ⟨by decide +kernel, by decide +kernel, by decide +kernel⟩, by decide⟩, List.mem_of_getElem? (i := 330) (by decide +kernel), List.mem_of_getElem? (i := 331) (by decide +kernel)⟩
def mX8_survey : Mi := (yX8_survey, cX8_survey, 4, (some .int))
theorem okX8_survey : okV mX8_survey 3 := ⟨⟨List.mem_of_getElem? (i := 336) (by decide +kernel), List.mem_of_getElem? (i := 46) (by decide +kernel), ⟨by decide +kernel, by decide +kernel, by decide +kernel⟩, by decide⟩, List.mem_of_getElem? (i := 334) (by decide +kernel), List.mem_of_getElem? (i := 335) (by decide +kernel)⟩
def mX8_lose : Mi := (yX8_lose, cX8_lose, 3, (some .int))
theorem okX8_lose : okV mX8_lose 1 := ⟨⟨List.mem_of_getElem? (i := 348) (by decide +kernel), List.mem_of_getElem? (i := 46) (by decide +kernel), ⟨by decide +kernel, by decide +kernel, by decide +kernel⟩, by decide⟩, List.mem_of_getElem? (i := 346) (by decide +kernel), List.mem_of_getElem? (i := 347) (by decide +kernel)⟩
def mX8_mark : Mi := (yX8_mark, cX8_mark, 5, (some .int))
theorem okX8_mark : okV mX8_mark 3 := ⟨⟨List.mem_of_getElem? (i := 356) (by decide +kernel), List.mem_of_getElem? (i := 46) (by decide +kernel), ⟨by decide +kernel, by decide +kernel, by decide +kernel⟩, by decide⟩, List.mem_of_getElem? (i := 354) (by decide +kernel), List.mem_of_getElem? (i := 355) (by decide +kernel)⟩
def mX8_copy : Mi := (yX8_copy, cX8_copy, 6, (some .int))
theorem okX8_copy : okV mX8_copy 5 := ⟨⟨List.mem_of_getElem? (i := 368) (by decide +kernel), List.mem_of_getElem? (i := 46) (by decide +kernel), ⟨by decide +kernel, by decide +kernel, by decide +kernel⟩, by decide⟩, List.mem_of_getElem? (i := 366) (by decide +kernel), List.mem_of_getElem? (i := 367) (by decide +kernel)⟩
def mX8_read : Mi := (yX8_read, cX8_read, 4, (some .int))
theorem okX8_read : okV mX8_read 1 := ⟨⟨List.mem_of_getElem? (i := 375) (by decide +kernel), List.mem_of_getElem? (i := 46) (by decide +kernel), ⟨by decide +kernel, by decide +kernel, by decide +kernel⟩, by decide⟩, List.mem_of_getElem? (i := 373) (by decide +kernel), List.mem_of_getElem? (i := 374) (by decide +kernel)⟩
def mX8_road : Mi := (yX8_road, cX8_road, 3, (some .int))
theorem okX8_road : okV mX8_road 2 := ⟨⟨List.mem_of_getElem? (i := 382) (by decide +kernel), List.mem_of_getElem? (i := 46) (by decide +kernel), ⟨by decide +kernel, by decide +kernel, by decide +kernel⟩, by decide⟩, List.mem_of_getElem? (i := 380) (by decide +kernel), List.mem_of_getElem? (i := 381) (by decide +kernel)⟩
def mX8_claimant : Mi := (yX8_claimant, cX8_claimant, 3, (some .int))
theorem okX8_claimant : okV mX8_claimant 2 := ⟨⟨List.mem_of_getElem? (i := 422) (by decide +kernel), List.mem_of_getElem? (i := 46) (by decide +kernel), ⟨by decide +kernel, by decide +kernel, by decide +kernel⟩, by decide⟩, List.mem_of_getElem? (i := 420) (by decide +kernel), List.mem_of_getElem? (i := 421) (by decide +kernel)⟩
def mX8_isOf : Mi := (yX8_isOf, cX8_isOf, 5, (some .int))
theorem okX8_isOf : okV mX8_isOf 2 := ⟨⟨List.mem_of_getElem? (i := 433) (by decide +kernel), List.mem_of_getElem? (i := 46) (by decide +kernel), ⟨by decide +kernel, by decide +kernel, by decide +kernel⟩, by decide⟩, List.mem_of_getElem? (i := 431) (by decide +kernel), List.mem_of_getElem? (i := 432) (by decide +kernel)⟩
def mX8_claim : Mi := (yX8_claim, cX8_claim, 6, (some .int))
theorem okX8_claim : okV mX8_claim 4 := ⟨⟨List.mem_of_getElem? (i := 441) (by decide +kernel), List.mem_of_getElem? (i := 46) (by decide +kernel), ⟨by decide +kernel, by decide +kernel, by decide +kernel⟩, by decide⟩, List.mem_of_getElem? (i := 439) (by decide +kernel), List.mem_of_getElem? (i := 440) (by decide +kernel)⟩
def mX8_withdraw : Mi := (yX8_withdraw, cX8_withdraw, 1, (some .int))
theorem okX8_withdraw : okV mX8_withdraw 0 := ⟨⟨List.mem_of_getElem? (i := 452) (by decide +kernel), List.mem_of_getElem? (i := 46) (by decide +kernel), ⟨by decide +kernel, by decide +kernel, by decide +kernel⟩, by decide⟩, List.mem_of_getElem? (i := 450) (by decide +kernel), List.mem_of_getElem? (i := 451) (by decide +kernel)⟩
def mX8_rule : Mi := (yX8_rule, cX8_rule, 4, (some .int))
theorem okX8_rule : okV mX8_rule 2 := ⟨⟨List.mem_of_getElem? (i := 456) (by decide +kernel), List.mem_of_getElem? (i := 46) (by decide +kernel), ⟨by decide +kernel, by decide +kernel, by decide +kernel⟩, by decide⟩, List.mem_of_getElem? (i := 454) (by decide +kernel), List.mem_of_getElem? (i := 455) (by decide +kernel)⟩
def mX8_object : Mi := (yX8_object, cX8_object, 4, (some .int))
theorem okX8_object : okV mX8_object 3 := ⟨⟨List.mem_of_getElem? (i := 462) (by decide +kernel), List.mem_of_getElem? (i := 46) (by decide +kernel), ⟨by decide +kernel, by decide +kernel, by decide +kernel⟩, by decide⟩, List.mem_of_getElem? (i := 460) (by decide +kernel), List.mem_of_getElem? (i := 461) (by decide +kernel)⟩
def mX8_upheld : Mi := (yX8_upheld, cX8_upheld, 2, (some .int))
theorem okX8_upheld : okV mX8_upheld 1 := ⟨⟨List.mem_of_getElem? (i := 470) (by decide +kernel), List.mem_of_getElem? (i := 46) (by decide +kernel), ⟨by decide +kernel, by decide +kernel, by decide +kernel⟩, by decide⟩, List.mem_of_getElem? (i := 468) (by decide +kernel), List.mem_of_getElem? (i := 469) (by decide +kernel)⟩
def mX8_holder : Mi := (yX8_holder, cX8_holder, 3, (some .int))
theorem okX8_holder : okV mX8_holder 2 := ⟨⟨List.mem_of_getElem? (i := 482) (by decide +kernel), List.mem_of_getElem? (i := 46) (by decide +kernel), ⟨by decide +kernel, by decide +kernel, by decide +kernel⟩, by decide⟩, List.mem_of_getElem? (i := 480) (by decide +kernel), List.mem_of_getElem? (i := 481) (by decide +kernel)⟩
def mX8_sum : Mi := (yX8_sum, cX8_sum, 3, (some .int))
theorem okX8_sum : okV mX8_sum 2 := ⟨⟨List.mem_of_getElem? (i := 487) (by decide +kernel), List.mem_of_getElem? (i := 46) (by decide +kernel), ⟨by decide +kernel, by decide +kernel, by decide +kernel⟩, by decide⟩, List.mem_of_getElem? (i := 485) (by decide +kernel), List.mem_of_getElem? (i := 486) (by decide +kernel)⟩
def mX8_has : Mi := (yX8_has, cX8_has, 5, (some .int))
theorem okX8_has : okV mX8_has 3 := ⟨⟨List.mem_of_getElem? (i := 552) (by decide +kernel), List.mem_of_getElem? (i := 46) (by decide +kernel), ⟨by decide +kernel, by decide +kernel, by decide +kernel⟩, by decide⟩, List.mem_of_getElem? (i := 550) (by decide +kernel), List.mem_of_getElem? (i := 551) (by decide +kernel)⟩
def mX8_allot : Mi := (yX8_allot, cX8_allot, 6, (some .int))
theorem okX8_allot : okV mX8_allot 3 := ⟨⟨List.mem_of_getElem? (i := 586) (by decide +kernel), List.mem_of_getElem? (i := 46) (by decide +kernel), ⟨by decide +kernel, by decide +kernel, by decide +kernel⟩, by decide⟩, List.mem_of_getElem? (i := 584) (by decide +kernel), List.mem_of_getElem? (i := 585) (by decide +kernel)⟩
def mX8_take : Mi := (yX8_take, cX8_take, 3, (some .int))
theorem okX8_take : okV mX8_take 1 := ⟨⟨List.mem_of_getElem? (i := 593) (by decide +kernel), List.mem_of_getElem? (i := 46) (by decide +kernel), ⟨by decide +kernel, by decide +kernel, by decide +kernel⟩, by decide⟩, List.mem_of_getElem? (i := 591) (by decide +kernel), List.mem_of_getElem? (i := 592) (by decide +kernel)⟩
def mX8_good : Mi := (yX8_good, cX8_good, 4, (some .int))
theorem okX8_good : okV mX8_good 2 := ⟨⟨List.mem_of_getElem? (i := 601) (by decide +kernel), List.mem_of_getElem? (i := 46) (by decide +kernel), ⟨by decide +kernel, by decide +kernel, by decide +kernel⟩, by decide⟩, List.mem_of_getElem? (i := 599) (by decide +kernel), List.mem_of_getElem? (i := 600) (by decide +kernel)⟩
def mX8_plot : Mi := (yX8_plot, cX8_plot, 4, (some .int))
theorem okX8_plot : okV mX8_plot 2 := ⟨⟨List.mem_of_getElem? (i := 645) (by decide +kernel), List.mem_of_getElem? (i := 46) (by decide +kernel), ⟨by decide +kernel, by decide +kernel, by decide +kernel⟩, by decide⟩, List.mem_of_getElem? (i := 643) (by decide +kernel), List.mem_of_getElem? (i := 644) (by decide +kernel)⟩
def mX8_draw : Mi := (yX8_draw, cX8_draw, 4, (some .int))
theorem okX8_draw : okV mX8_draw 3 := ⟨⟨List.mem_of_getElem? (i := 666) (by decide +kernel), List.mem_of_getElem? (i := 46) (by decide +kernel), ⟨by decide +kernel, by decide +kernel, by decide +kernel⟩, by decide⟩, List.mem_of_getElem? (i := 664) (by decide +kernel), List.mem_of_getElem? (i := 665) (by decide +kernel)⟩
def mX8_hedge : Mi := (yX8_hedge, cX8_hedge, 4, (some .int))
theorem okX8_hedge : okV mX8_hedge 2 := ⟨⟨List.mem_of_getElem? (i := 775) (by decide +kernel), List.mem_of_getElem? (i := 46) (by decide +kernel), ⟨by decide +kernel, by decide +kernel, by decide +kernel⟩, by decide⟩, List.mem_of_getElem? (i := 773) (by decide +kernel), List.mem_of_getElem? (i := 774) (by decide +kernel)⟩
def mX8_fine : Mi := (yX8_fine, cX8_fine, 5, (some .int))
theorem okX8_fine : okV mX8_fine 2 := ⟨⟨List.mem_of_getElem? (i := 779) (by decide +kernel), List.mem_of_getElem? (i := 46) (by decide +kernel), ⟨by decide +kernel, by decide +kernel, by decide +kernel⟩, by decide⟩, List.mem_of_getElem? (i := 777) (by decide +kernel), List.mem_of_getElem? (i := 778) (by decide +kernel)⟩
def mX8_count : Mi := (yX8_count, cX8_count, 2, (some .int))
theorem okX8_count : okV mX8_count 1 := ⟨⟨List.mem_of_getElem? (i := 784) (by decide +kernel), List.mem_of_getElem? (i := 46) (by decide +kernel), ⟨by decide +kernel, by decide +kernel, by decide +kernel⟩, by decide⟩, List.mem_of_getElem? (i := 782) (by decide +kernel), List.mem_of_getElem? (i := 783) (by decide +kernel)⟩
def mX8_isWithin : Mi := (yX8_isWithin, cX8_isWithin, 3, (some .boolean))
theorem okX8_isWithin : okS mX8_isWithin 3 := ⟨⟨List.mem_of_getElem? (i := 309) (by decide +kernel), List.mem_of_getElem? (i := 46) (by decide +kernel), ⟨by decide +kernel, by decide +kernel, by decide +kernel⟩, by decide⟩, List.mem_of_getElem? (i := 308) (by decide +kernel)⟩
def mX8_isDay : Mi := (yX8_isDay, cX8_isDay, 1, (some .boolean))
theorem okX8_isDay : okS mX8_isDay 1 := ⟨⟨List.mem_of_getElem? (i := 444) (by decide +kernel), List.mem_of_getElem? (i := 46) (by decide +kernel), ⟨by decide +kernel, by decide +kernel, by decide +kernel⟩, by decide⟩, List.mem_of_getElem? (i := 443) (by decide +kernel)⟩
def mX8_isMark : Mi := (yX8_isMark, cX8_isMark, 1, (some .boolean))
theorem okX8_isMark : okS mX8_isMark 1 := ⟨⟨List.mem_of_getElem? (i := 326) (by decide +kernel), List.mem_of_getElem? (i := 46) (by decide +kernel), ⟨by decide +kernel, by decide +kernel, by decide +kernel⟩, by decide⟩, List.mem_of_getElem? (i := 325) (by decide +kernel)⟩
def mX8_isKind : Mi := (yX8_isKind, cX8_isKind, 1, (some .boolean))
theorem okX8_isKind : okS mX8_isKind 1 := ⟨⟨List.mem_of_getElem? (i := 425) (by decide +kernel), List.mem_of_getElem? (i := 46) (by decide +kernel), ⟨by decide +kernel, by decide +kernel, by decide +kernel⟩, by decide⟩, List.mem_of_getElem? (i := 424) (by decide +kernel)⟩
def mX8_isSurvey : Mi := (yX8_isSurvey, cX8_isSurvey, 1, (some .boolean))
theorem okX8_isSurvey : okS mX8_isSurvey 1 := ⟨⟨List.mem_of_getElem? (i := 339) (by decide +kernel), List.mem_of_getElem? (i := 46) (by decide +kernel), ⟨by decide +kernel, by decide +kernel, by decide +kernel⟩, by decide⟩, List.mem_of_getElem? (i := 338) (by decide +kernel)⟩
def mX9_init : Mi := (yX9_init, cX9_init, 2, none)
theorem okX9_init : okI mX9_init 0 := ⟨⟨List.mem_of_getElem? (i := 806) (by decide +kernel), List.mem_of_getElem? (i := 54) (by decide +kernel), ⟨by decide +kernel, by decide +kernel, by decide +kernel⟩, by decide⟩, List.mem_of_getElem? (i := 805) (by decide +kernel), rfl⟩
def mX9_in : Mi := (yX9_in, cX9_in, 3, (some .boolean))
theorem okX9_in : okS mX9_in 3 := ⟨⟨List.mem_of_getElem? (i := 990) (by decide +kernel), List.mem_of_getElem? (i := 54) (by decide +kernel), ⟨by decide +kernel, by decide +kernel, by decide +kernel⟩, by decide⟩, List.mem_of_getElem? (i := 989) (by decide +kernel)⟩
def mX9_clearLand : Mi := (yX9_clearLand, cX9_clearLand, 2, none)
theorem okX9_clearLand : okV mX9_clearLand 0 := ⟨⟨List.mem_of_getElem? (i := 811) (by decide +kernel), List.mem_of_getElem? (i := 54) (by decide +kernel), ⟨by decide +kernel, by decide +kernel, by decide +kernel⟩, by decide⟩, List.mem_of_getElem? (i := 810) (by decide +kernel), List.mem_of_getElem? (i := 14) (by decide +kernel)⟩
def mX9_cells : Mi := (yX9_cells, cX9_cells, 1, (some .int))
theorem okX9_cells : okV mX9_cells 0 := ⟨⟨List.mem_of_getElem? (i := 994) (by decide +kernel), List.mem_of_getElem? (i := 54) (by decide +kernel), ⟨by decide +kernel, by decide +kernel, by decide +kernel⟩, by decide⟩, List.mem_of_getElem? (i := 993) (by decide +kernel), List.mem_of_getElem? (i := 15) (by decide +kernel)⟩
def mX9_isCell : Mi := (yX9_isCell, cX9_isCell, 2, (some .boolean))
theorem okX9_isCell : okV mX9_isCell 1 := ⟨⟨List.mem_of_getElem? (i := 1002) (by decide +kernel), List.mem_of_getElem? (i := 54) (by decide +kernel), ⟨by decide +kernel, by decide +kernel, by decide +kernel⟩, by decide⟩, List.mem_of_getElem? (i := 1001) (by decide +kernel), List.mem_of_getElem? (i := 16) (by decide +kernel)⟩
def mX9_isPerson : Mi := (yX9_isPerson, cX9_isPerson, 2, (some .boolean))
theorem okX9_isPerson : okV mX9_isPerson 1 := ⟨⟨List.mem_of_getElem? (i := 1066) (by decide +kernel), List.mem_of_getElem? (i := 54) (by decide +kernel), ⟨by decide +kernel, by decide +kernel, by decide +kernel⟩, by decide⟩, List.mem_of_getElem? (i := 1065) (by decide +kernel), List.mem_of_getElem? (i := 22) (by decide +kernel)⟩
def mX9_isDay : Mi := (yX9_isDay, cX9_isDay, 1, (some .boolean))
theorem okX9_isDay : okS mX9_isDay 1 := ⟨⟨List.mem_of_getElem? (i := 1073) (by decide +kernel), List.mem_of_getElem? (i := 54) (by decide +kernel), ⟨by decide +kernel, by decide +kernel, by decide +kernel⟩, by decide⟩, List.mem_of_getElem? (i := 1072) (by decide +kernel)⟩
def mX9_isPlain : Mi := (yX9_isPlain, cX9_isPlain, 2, (some .boolean))
theorem okX9_isPlain : okV mX9_isPlain 1 := ⟨⟨List.mem_of_getElem? (i := 1121) (by decide +kernel), List.mem_of_getElem? (i := 54) (by decide +kernel), ⟨by decide +kernel, by decide +kernel, by decide +kernel⟩, by decide⟩, List.mem_of_getElem? (i := 1120) (by decide +kernel), List.mem_of_getElem? (i := 28) (by decide +kernel)⟩
def mX9_beside : Mi := (yX9_beside, cX9_beside, 5, (some .int))
theorem okX9_beside : okV mX9_beside 2 := ⟨⟨List.mem_of_getElem? (i := 1050) (by decide +kernel), List.mem_of_getElem? (i := 54) (by decide +kernel), ⟨by decide +kernel, by decide +kernel, by decide +kernel⟩, by decide⟩, List.mem_of_getElem? (i := 1049) (by decide +kernel), List.mem_of_getElem? (i := 20) (by decide +kernel)⟩
def mX9_land : Mi := (yX9_land, cX9_land, 3, (some .int))
theorem okX9_land : okV mX9_land 2 := ⟨⟨List.mem_of_getElem? (i := 987) (by decide +kernel), List.mem_of_getElem? (i := 54) (by decide +kernel), ⟨by decide +kernel, by decide +kernel, by decide +kernel⟩, by decide⟩, List.mem_of_getElem? (i := 985) (by decide +kernel), List.mem_of_getElem? (i := 986) (by decide +kernel)⟩
def mX9_toldOf : Mi := (yX9_toldOf, cX9_toldOf, 3, (some .int))
theorem okX9_toldOf : okV mX9_toldOf 2 := ⟨⟨List.mem_of_getElem? (i := 1006) (by decide +kernel), List.mem_of_getElem? (i := 54) (by decide +kernel), ⟨by decide +kernel, by decide +kernel, by decide +kernel⟩, by decide⟩, List.mem_of_getElem? (i := 1005) (by decide +kernel), List.mem_of_getElem? (i := 17) (by decide +kernel)⟩
def mX9_cell : Mi := (yX9_cell, cX9_cell, 5, (some .int))
theorem okX9_cell : okV mX9_cell 3 := ⟨⟨List.mem_of_getElem? (i := 998) (by decide +kernel), List.mem_of_getElem? (i := 54) (by decide +kernel), ⟨by decide +kernel, by decide +kernel, by decide +kernel⟩, by decide⟩, List.mem_of_getElem? (i := 996) (by decide +kernel), List.mem_of_getElem? (i := 997) (by decide +kernel)⟩
def mX9_told : Mi := (yX9_told, cX9_told, 3, (some .int))
theorem okX9_told : okV mX9_told 2 := ⟨⟨List.mem_of_getElem? (i := 1010) (by decide +kernel), List.mem_of_getElem? (i := 54) (by decide +kernel), ⟨by decide +kernel, by decide +kernel, by decide +kernel⟩, by decide⟩, List.mem_of_getElem? (i := 1008) (by decide +kernel), List.mem_of_getElem? (i := 1009) (by decide +kernel)⟩
def mX9_isSurvey : Mi := (yX9_isSurvey, cX9_isSurvey, 1, (some .boolean))
theorem okX9_isSurvey : okS mX9_isSurvey 1 := ⟨⟨List.mem_of_getElem? (i := 1017) (by decide +kernel), List.mem_of_getElem? (i := 54) (by decide +kernel), ⟨by decide +kernel, by decide +kernel, by decide +kernel⟩, by decide⟩, List.mem_of_getElem? (i := 1016) (by decide +kernel)⟩
def mX9_survey : Mi := (yX9_survey, cX9_survey, 5, (some .int))
theorem okX9_survey : okV mX9_survey 3 := ⟨⟨List.mem_of_getElem? (i := 1014) (by decide +kernel), List.mem_of_getElem? (i := 54) (by decide +kernel), ⟨by decide +kernel, by decide +kernel, by decide +kernel⟩, by decide⟩, List.mem_of_getElem? (i := 1012) (by decide +kernel), List.mem_of_getElem? (i := 1013) (by decide +kernel)⟩
def mX9_lose : Mi := (yX9_lose, cX9_lose, 2, (some .int))
theorem okX9_lose : okV mX9_lose 1 := ⟨⟨List.mem_of_getElem? (i := 1021) (by decide +kernel), List.mem_of_getElem? (i := 54) (by decide +kernel), ⟨by decide +kernel, by decide +kernel, by decide +kernel⟩, by decide⟩, List.mem_of_getElem? (i := 1019) (by decide +kernel), List.mem_of_getElem? (i := 1020) (by decide +kernel)⟩
def mX9_mark : Mi := (yX9_mark, cX9_mark, 5, (some .int))
theorem okX9_mark : okV mX9_mark 3 := ⟨⟨List.mem_of_getElem? (i := 1025) (by decide +kernel), List.mem_of_getElem? (i := 54) (by decide +kernel), ⟨by decide +kernel, by decide +kernel, by decide +kernel⟩, by decide⟩, List.mem_of_getElem? (i := 1023) (by decide +kernel), List.mem_of_getElem? (i := 1024) (by decide +kernel)⟩
def mX9_copy : Mi := (yX9_copy, cX9_copy, 8, (some .int))
theorem okX9_copy : okV mX9_copy 5 := ⟨⟨List.mem_of_getElem? (i := 1029) (by decide +kernel), List.mem_of_getElem? (i := 54) (by decide +kernel), ⟨by decide +kernel, by decide +kernel, by decide +kernel⟩, by decide⟩, List.mem_of_getElem? (i := 1027) (by decide +kernel), List.mem_of_getElem? (i := 1028) (by decide +kernel)⟩
def mX9_read : Mi := (yX9_read, cX9_read, 4, (some .int))
theorem okX9_read : okV mX9_read 1 := ⟨⟨List.mem_of_getElem? (i := 1033) (by decide +kernel), List.mem_of_getElem? (i := 54) (by decide +kernel), ⟨by decide +kernel, by decide +kernel, by decide +kernel⟩, by decide⟩, List.mem_of_getElem? (i := 1031) (by decide +kernel), List.mem_of_getElem? (i := 1032) (by decide +kernel)⟩
def mX9_priceOf : Mi := (yX9_priceOf, cX9_priceOf, 2, (some .int))
theorem okX9_priceOf : okV mX9_priceOf 1 := ⟨⟨List.mem_of_getElem? (i := 1045) (by decide +kernel), List.mem_of_getElem? (i := 54) (by decide +kernel), ⟨by decide +kernel, by decide +kernel, by decide +kernel⟩, by decide⟩, List.mem_of_getElem? (i := 1044) (by decide +kernel), List.mem_of_getElem? (i := 19) (by decide +kernel)⟩
def mX9_findPrices : Mi := (yX9_findPrices, cX9_findPrices, 6, none)
theorem okX9_findPrices : okV mX9_findPrices 1 := ⟨⟨List.mem_of_getElem? (i := 1041) (by decide +kernel), List.mem_of_getElem? (i := 54) (by decide +kernel), ⟨by decide +kernel, by decide +kernel, by decide +kernel⟩, by decide⟩, List.mem_of_getElem? (i := 1040) (by decide +kernel), List.mem_of_getElem? (i := 18) (by decide +kernel)⟩
def mX9_cameFrom : Mi := (yX9_cameFrom, cX9_cameFrom, 5, (some .int))
theorem okX9_cameFrom : okV mX9_cameFrom 1 := ⟨⟨List.mem_of_getElem? (i := 1054) (by decide +kernel), List.mem_of_getElem? (i := 54) (by decide +kernel), ⟨by decide +kernel, by decide +kernel, by decide +kernel⟩, by decide⟩, List.mem_of_getElem? (i := 1053) (by decide +kernel), List.mem_of_getElem? (i := 21) (by decide +kernel)⟩
def mX9_road : Mi := (yX9_road, cX9_road, 8, (some .int))
theorem okX9_road : okV mX9_road 2 := ⟨⟨List.mem_of_getElem? (i := 1037) (by decide +kernel), List.mem_of_getElem? (i := 54) (by decide +kernel), ⟨by decide +kernel, by decide +kernel, by decide +kernel⟩, by decide⟩, List.mem_of_getElem? (i := 1035) (by decide +kernel), List.mem_of_getElem? (i := 1036) (by decide +kernel)⟩
def mX9_claimant : Mi := (yX9_claimant, cX9_claimant, 3, (some .int))
theorem okX9_claimant : okV mX9_claimant 2 := ⟨⟨List.mem_of_getElem? (i := 1058) (by decide +kernel), List.mem_of_getElem? (i := 54) (by decide +kernel), ⟨by decide +kernel, by decide +kernel, by decide +kernel⟩, by decide⟩, List.mem_of_getElem? (i := 1056) (by decide +kernel), List.mem_of_getElem? (i := 1057) (by decide +kernel)⟩
def mX9_isOf : Mi := (yX9_isOf, cX9_isOf, 3, (some .int))
theorem okX9_isOf : okV mX9_isOf 2 := ⟨⟨List.mem_of_getElem? (i := 1062) (by decide +kernel), List.mem_of_getElem? (i := 54) (by decide +kernel), ⟨by decide +kernel, by decide +kernel, by decide +kernel⟩, by decide⟩, List.mem_of_getElem? (i := 1060) (by decide +kernel), List.mem_of_getElem? (i := 1061) (by decide +kernel)⟩
def mX9_firstOf : Mi := (yX9_firstOf, cX9_firstOf, 3, (some .int))
theorem okX9_firstOf : okV mX9_firstOf 1 := ⟨⟨List.mem_of_getElem? (i := 1133) (by decide +kernel), List.mem_of_getElem? (i := 54) (by decide +kernel), ⟨by decide +kernel, by decide +kernel, by decide +kernel⟩, by decide⟩, List.mem_of_getElem? (i := 1132) (by decide +kernel), List.mem_of_getElem? (i := 31) (by decide +kernel)⟩
def mX9_claim : Mi := (yX9_claim, cX9_claim, 5, (some .int))
theorem okX9_claim : okV mX9_claim 4 := ⟨⟨List.mem_of_getElem? (i := 1070) (by decide +kernel), List.mem_of_getElem? (i := 54) (by decide +kernel), ⟨by decide +kernel, by decide +kernel, by decide +kernel⟩, by decide⟩, List.mem_of_getElem? (i := 1068) (by decide +kernel), List.mem_of_getElem? (i := 1069) (by decide +kernel)⟩
def mX9_withdraw : Mi := (yX9_withdraw, cX9_withdraw, 1, (some .int))
theorem okX9_withdraw : okV mX9_withdraw 0 := ⟨⟨List.mem_of_getElem? (i := 1077) (by decide +kernel), List.mem_of_getElem? (i := 54) (by decide +kernel), ⟨by decide +kernel, by decide +kernel, by decide +kernel⟩, by decide⟩, List.mem_of_getElem? (i := 1075) (by decide +kernel), List.mem_of_getElem? (i := 1076) (by decide +kernel)⟩
def mX9_rule : Mi := (yX9_rule, cX9_rule, 5, (some .int))
theorem okX9_rule : okV mX9_rule 2 := ⟨⟨List.mem_of_getElem? (i := 1081) (by decide +kernel), List.mem_of_getElem? (i := 54) (by decide +kernel), ⟨by decide +kernel, by decide +kernel, by decide +kernel⟩, by decide⟩, List.mem_of_getElem? (i := 1079) (by decide +kernel), List.mem_of_getElem? (i := 1080) (by decide +kernel)⟩
def mX9_object : Mi := (yX9_object, cX9_object, 4, (some .int))
theorem okX9_object : okV mX9_object 3 := ⟨⟨List.mem_of_getElem? (i := 1085) (by decide +kernel), List.mem_of_getElem? (i := 54) (by decide +kernel), ⟨by decide +kernel, by decide +kernel, by decide +kernel⟩, by decide⟩, List.mem_of_getElem? (i := 1083) (by decide +kernel), List.mem_of_getElem? (i := 1084) (by decide +kernel)⟩
def mX9_counts : Mi := (yX9_counts, cX9_counts, 3, (some .boolean))
theorem okX9_counts : okV mX9_counts 2 := ⟨⟨List.mem_of_getElem? (i := 1101) (by decide +kernel), List.mem_of_getElem? (i := 54) (by decide +kernel), ⟨by decide +kernel, by decide +kernel, by decide +kernel⟩, by decide⟩, List.mem_of_getElem? (i := 1100) (by decide +kernel), List.mem_of_getElem? (i := 25) (by decide +kernel)⟩
def mX9_holderOf : Mi := (yX9_holderOf, cX9_holderOf, 6, (some .int))
theorem okX9_holderOf : okV mX9_holderOf 2 := ⟨⟨List.mem_of_getElem? (i := 1097) (by decide +kernel), List.mem_of_getElem? (i := 54) (by decide +kernel), ⟨by decide +kernel, by decide +kernel, by decide +kernel⟩, by decide⟩, List.mem_of_getElem? (i := 1096) (by decide +kernel), List.mem_of_getElem? (i := 24) (by decide +kernel)⟩
def mX9_isUpheld : Mi := (yX9_isUpheld, cX9_isUpheld, 5, (some .boolean))
theorem okX9_isUpheld : okV mX9_isUpheld 1 := ⟨⟨List.mem_of_getElem? (i := 1093) (by decide +kernel), List.mem_of_getElem? (i := 54) (by decide +kernel), ⟨by decide +kernel, by decide +kernel, by decide +kernel⟩, by decide⟩, List.mem_of_getElem? (i := 1092) (by decide +kernel), List.mem_of_getElem? (i := 23) (by decide +kernel)⟩
def mX9_upheld : Mi := (yX9_upheld, cX9_upheld, 2, (some .int))
theorem okX9_upheld : okV mX9_upheld 1 := ⟨⟨List.mem_of_getElem? (i := 1089) (by decide +kernel), List.mem_of_getElem? (i := 54) (by decide +kernel), ⟨by decide +kernel, by decide +kernel, by decide +kernel⟩, by decide⟩, List.mem_of_getElem? (i := 1087) (by decide +kernel), List.mem_of_getElem? (i := 1088) (by decide +kernel)⟩
def mX9_holder : Mi := (yX9_holder, cX9_holder, 3, (some .int))
theorem okX9_holder : okV mX9_holder 2 := ⟨⟨List.mem_of_getElem? (i := 1105) (by decide +kernel), List.mem_of_getElem? (i := 54) (by decide +kernel), ⟨by decide +kernel, by decide +kernel, by decide +kernel⟩, by decide⟩, List.mem_of_getElem? (i := 1103) (by decide +kernel), List.mem_of_getElem? (i := 1104) (by decide +kernel)⟩
def mX9_gatesOf : Mi := (yX9_gatesOf, cX9_gatesOf, 5, (some .int))
theorem okX9_gatesOf : okV mX9_gatesOf 2 := ⟨⟨List.mem_of_getElem? (i := 1137) (by decide +kernel), List.mem_of_getElem? (i := 54) (by decide +kernel), ⟨by decide +kernel, by decide +kernel, by decide +kernel⟩, by decide⟩, List.mem_of_getElem? (i := 1136) (by decide +kernel), List.mem_of_getElem? (i := 32) (by decide +kernel)⟩
def mX9_comes : Mi := (yX9_comes, cX9_comes, 5, none)
theorem okX9_comes : okV mX9_comes 2 := ⟨⟨List.mem_of_getElem? (i := 1129) (by decide +kernel), List.mem_of_getElem? (i := 54) (by decide +kernel), ⟨by decide +kernel, by decide +kernel, by decide +kernel⟩, by decide⟩, List.mem_of_getElem? (i := 1128) (by decide +kernel), List.mem_of_getElem? (i := 30) (by decide +kernel)⟩
def mX9_objectionOn : Mi := (yX9_objectionOn, cX9_objectionOn, 4, (some .int))
theorem okX9_objectionOn : okV mX9_objectionOn 2 := ⟨⟨List.mem_of_getElem? (i := 1125) (by decide +kernel), List.mem_of_getElem? (i := 54) (by decide +kernel), ⟨by decide +kernel, by decide +kernel, by decide +kernel⟩, by decide⟩, List.mem_of_getElem? (i := 1124) (by decide +kernel), List.mem_of_getElem? (i := 29) (by decide +kernel)⟩
def mX9_findWeights : Mi := (yX9_findWeights, cX9_findWeights, 6, none)
theorem okX9_findWeights : okV mX9_findWeights 1 := ⟨⟨List.mem_of_getElem? (i := 1117) (by decide +kernel), List.mem_of_getElem? (i := 54) (by decide +kernel), ⟨by decide +kernel, by decide +kernel, by decide +kernel⟩, by decide⟩, List.mem_of_getElem? (i := 1116) (by decide +kernel), List.mem_of_getElem? (i := 27) (by decide +kernel)⟩
def mX9_part : Mi := (yX9_part, cX9_part, 9, none)
theorem okX9_part : okV mX9_part 3 := ⟨⟨List.mem_of_getElem? (i := 1141) (by decide +kernel), List.mem_of_getElem? (i := 54) (by decide +kernel), ⟨by decide +kernel, by decide +kernel, by decide +kernel⟩, by decide⟩, List.mem_of_getElem? (i := 1140) (by decide +kernel), List.mem_of_getElem? (i := 33) (by decide +kernel)⟩
def mX9_findDues : Mi := (yX9_findDues, cX9_findDues, 5, none)
theorem okX9_findDues : okV mX9_findDues 3 := ⟨⟨List.mem_of_getElem? (i := 1113) (by decide +kernel), List.mem_of_getElem? (i := 54) (by decide +kernel), ⟨by decide +kernel, by decide +kernel, by decide +kernel⟩, by decide⟩, List.mem_of_getElem? (i := 1112) (by decide +kernel), List.mem_of_getElem? (i := 26) (by decide +kernel)⟩
def mX9_sum : Mi := (yX9_sum, cX9_sum, 3, (some .int))
theorem okX9_sum : okV mX9_sum 2 := ⟨⟨List.mem_of_getElem? (i := 1109) (by decide +kernel), List.mem_of_getElem? (i := 54) (by decide +kernel), ⟨by decide +kernel, by decide +kernel, by decide +kernel⟩, by decide⟩, List.mem_of_getElem? (i := 1107) (by decide +kernel), List.mem_of_getElem? (i := 1108) (by decide +kernel)⟩
def mX9_has : Mi := (yX9_has, cX9_has, 4, (some .int))
theorem okX9_has : okV mX9_has 3 := ⟨⟨List.mem_of_getElem? (i := 1145) (by decide +kernel), List.mem_of_getElem? (i := 54) (by decide +kernel), ⟨by decide +kernel, by decide +kernel, by decide +kernel⟩, by decide⟩, List.mem_of_getElem? (i := 1143) (by decide +kernel), List.mem_of_getElem? (i := 1144) (by decide +kernel)⟩
def mX9_allot : Mi := (yX9_allot, cX9_allot, 4, (some .int))
theorem okX9_allot : okV mX9_allot 3 := ⟨⟨List.mem_of_getElem? (i := 1149) (by decide +kernel), List.mem_of_getElem? (i := 54) (by decide +kernel), ⟨by decide +kernel, by decide +kernel, by decide +kernel⟩, by decide⟩, List.mem_of_getElem? (i := 1147) (by decide +kernel), List.mem_of_getElem? (i := 1148) (by decide +kernel)⟩
def mX9_take : Mi := (yX9_take, cX9_take, 3, (some .int))
theorem okX9_take : okV mX9_take 1 := ⟨⟨List.mem_of_getElem? (i := 1153) (by decide +kernel), List.mem_of_getElem? (i := 54) (by decide +kernel), ⟨by decide +kernel, by decide +kernel, by decide +kernel⟩, by decide⟩, List.mem_of_getElem? (i := 1151) (by decide +kernel), List.mem_of_getElem? (i := 1152) (by decide +kernel)⟩
def mX9_isIn : Mi := (yX9_isIn, cX9_isIn, 5, (some .boolean))
theorem okX9_isIn : okV mX9_isIn 2 := ⟨⟨List.mem_of_getElem? (i := 1165) (by decide +kernel), List.mem_of_getElem? (i := 54) (by decide +kernel), ⟨by decide +kernel, by decide +kernel, by decide +kernel⟩, by decide⟩, List.mem_of_getElem? (i := 1164) (by decide +kernel), List.mem_of_getElem? (i := 35) (by decide +kernel)⟩
def mX9_isAhead : Mi := (yX9_isAhead, cX9_isAhead, 5, (some .boolean))
theorem okX9_isAhead : okV mX9_isAhead 2 := ⟨⟨List.mem_of_getElem? (i := 1169) (by decide +kernel), List.mem_of_getElem? (i := 54) (by decide +kernel), ⟨by decide +kernel, by decide +kernel, by decide +kernel⟩, by decide⟩, List.mem_of_getElem? (i := 1168) (by decide +kernel), List.mem_of_getElem? (i := 36) (by decide +kernel)⟩
def mX9_worthOf : Mi := (yX9_worthOf, cX9_worthOf, 4, (some .int))
theorem okX9_worthOf : okV mX9_worthOf 1 := ⟨⟨List.mem_of_getElem? (i := 1177) (by decide +kernel), List.mem_of_getElem? (i := 54) (by decide +kernel), ⟨by decide +kernel, by decide +kernel, by decide +kernel⟩, by decide⟩, List.mem_of_getElem? (i := 1176) (by decide +kernel), List.mem_of_getElem? (i := 38) (by decide +kernel)⟩
def mX9_isByRoad : Mi := (yX9_isByRoad, cX9_isByRoad, 5, (some .boolean))
theorem okX9_isByRoad : okV mX9_isByRoad 1 := ⟨⟨List.mem_of_getElem? (i := 1173) (by decide +kernel), List.mem_of_getElem? (i := 54) (by decide +kernel), ⟨by decide +kernel, by decide +kernel, by decide +kernel⟩, by decide⟩, List.mem_of_getElem? (i := 1172) (by decide +kernel), List.mem_of_getElem? (i := 37) (by decide +kernel)⟩
def mX9_goodOf : Mi := (yX9_goodOf, cX9_goodOf, 8, (some .int))
theorem okX9_goodOf : okV mX9_goodOf 2 := ⟨⟨List.mem_of_getElem? (i := 1161) (by decide +kernel), List.mem_of_getElem? (i := 54) (by decide +kernel), ⟨by decide +kernel, by decide +kernel, by decide +kernel⟩, by decide⟩, List.mem_of_getElem? (i := 1160) (by decide +kernel), List.mem_of_getElem? (i := 34) (by decide +kernel)⟩
def mX9_good : Mi := (yX9_good, cX9_good, 3, (some .int))
theorem okX9_good : okV mX9_good 2 := ⟨⟨List.mem_of_getElem? (i := 1157) (by decide +kernel), List.mem_of_getElem? (i := 54) (by decide +kernel), ⟨by decide +kernel, by decide +kernel, by decide +kernel⟩, by decide⟩, List.mem_of_getElem? (i := 1155) (by decide +kernel), List.mem_of_getElem? (i := 1156) (by decide +kernel)⟩
def mX9_farOf : Mi := (yX9_farOf, cX9_farOf, 7, (some .int))
theorem okX9_farOf : okV mX9_farOf 1 := ⟨⟨List.mem_of_getElem? (i := 1185) (by decide +kernel), List.mem_of_getElem? (i := 54) (by decide +kernel), ⟨by decide +kernel, by decide +kernel, by decide +kernel⟩, by decide⟩, List.mem_of_getElem? (i := 1184) (by decide +kernel), List.mem_of_getElem? (i := 39) (by decide +kernel)⟩
def mX9_hedgeOf : Mi := (yX9_hedgeOf, cX9_hedgeOf, 6, (some .int))
theorem okX9_hedgeOf : okV mX9_hedgeOf 1 := ⟨⟨List.mem_of_getElem? (i := 1189) (by decide +kernel), List.mem_of_getElem? (i := 54) (by decide +kernel), ⟨by decide +kernel, by decide +kernel, by decide +kernel⟩, by decide⟩, List.mem_of_getElem? (i := 1188) (by decide +kernel), List.mem_of_getElem? (i := 40) (by decide +kernel)⟩
def mX9_plot : Mi := (yX9_plot, cX9_plot, 3, (some .int))
theorem okX9_plot : okV mX9_plot 2 := ⟨⟨List.mem_of_getElem? (i := 1181) (by decide +kernel), List.mem_of_getElem? (i := 54) (by decide +kernel), ⟨by decide +kernel, by decide +kernel, by decide +kernel⟩, by decide⟩, List.mem_of_getElem? (i := 1179) (by decide +kernel), List.mem_of_getElem? (i := 1180) (by decide +kernel)⟩
def mX9_addRect : Mi := (yX9_addRect, cX9_addRect, 14, none)
theorem okX9_addRect : okV mX9_addRect 3 := ⟨⟨List.mem_of_getElem? (i := 1201) (by decide +kernel), List.mem_of_getElem? (i := 54) (by decide +kernel), ⟨by decide +kernel, by decide +kernel, by decide +kernel⟩, by decide⟩, List.mem_of_getElem? (i := 1200) (by decide +kernel), List.mem_of_getElem? (i := 42) (by decide +kernel)⟩
def mX9_findRects : Mi := (yX9_findRects, cX9_findRects, 4, none)
theorem okX9_findRects : okV mX9_findRects 0 := ⟨⟨List.mem_of_getElem? (i := 1197) (by decide +kernel), List.mem_of_getElem? (i := 54) (by decide +kernel), ⟨by decide +kernel, by decide +kernel, by decide +kernel⟩, by decide⟩, List.mem_of_getElem? (i := 1196) (by decide +kernel), List.mem_of_getElem? (i := 41) (by decide +kernel)⟩
def mX9_away : Mi := (yX9_away, cX9_away, 3, (some .int))
theorem okX9_away : okS mX9_away 3 := ⟨⟨List.mem_of_getElem? (i := 1212) (by decide +kernel), List.mem_of_getElem? (i := 54) (by decide +kernel), ⟨by decide +kernel, by decide +kernel, by decide +kernel⟩, by decide⟩, List.mem_of_getElem? (i := 1211) (by decide +kernel)⟩
def mX9_costOf : Mi := (yX9_costOf, cX9_costOf, 6, (some .int))
theorem okX9_costOf : okV mX9_costOf 2 := ⟨⟨List.mem_of_getElem? (i := 1209) (by decide +kernel), List.mem_of_getElem? (i := 54) (by decide +kernel), ⟨by decide +kernel, by decide +kernel, by decide +kernel⟩, by decide⟩, List.mem_of_getElem? (i := 1208) (by decide +kernel), List.mem_of_getElem? (i := 44) (by decide +kernel)⟩
def mX9_drawFrom : Mi := (yX9_drawFrom, cX9_drawFrom, 11, none)
theorem okX9_drawFrom : okV mX9_drawFrom 4 := ⟨⟨List.mem_of_getElem? (i := 1205) (by decide +kernel), List.mem_of_getElem? (i := 54) (by decide +kernel), ⟨by decide +kernel, by decide +kernel, by decide +kernel⟩, by decide⟩, List.mem_of_getElem? (i := 1204) (by decide +kernel), List.mem_of_getElem? (i := 43) (by decide +kernel)⟩
def mX9_draw : Mi := (yX9_draw, cX9_draw, 6, (some .int))
theorem okX9_draw : okV mX9_draw 3 := ⟨⟨List.mem_of_getElem? (i := 1193) (by decide +kernel), List.mem_of_getElem? (i := 54) (by decide +kernel), ⟨by decide +kernel, by decide +kernel, by decide +kernel⟩, by decide⟩, List.mem_of_getElem? (i := 1191) (by decide +kernel), List.mem_of_getElem? (i := 1192) (by decide +kernel)⟩
def mX9_hedge : Mi := (yX9_hedge, cX9_hedge, 4, (some .int))
theorem okX9_hedge : okV mX9_hedge 2 := ⟨⟨List.mem_of_getElem? (i := 1216) (by decide +kernel), List.mem_of_getElem? (i := 54) (by decide +kernel), ⟨by decide +kernel, by decide +kernel, by decide +kernel⟩, by decide⟩, List.mem_of_getElem? (i := 1214) (by decide +kernel), List.mem_of_getElem? (i := 1215) (by decide +kernel)⟩
def mX9_fine : Mi := (yX9_fine, cX9_fine, 4, (some .int))
theorem okX9_fine : okV mX9_fine 2 := ⟨⟨List.mem_of_getElem? (i := 1220) (by decide +kernel), List.mem_of_getElem? (i := 54) (by decide +kernel), ⟨by decide +kernel, by decide +kernel, by decide +kernel⟩, by decide⟩, List.mem_of_getElem? (i := 1218) (by decide +kernel), List.mem_of_getElem? (i := 1219) (by decide +kernel)⟩
def mX9_count : Mi := (yX9_count, cX9_count, 4, (some .int))
theorem okX9_count : okV mX9_count 1 := ⟨⟨List.mem_of_getElem? (i := 1224) (by decide +kernel), List.mem_of_getElem? (i := 54) (by decide +kernel), ⟨by decide +kernel, by decide +kernel, by decide +kernel⟩, by decide⟩, List.mem_of_getElem? (i := 1222) (by decide +kernel), List.mem_of_getElem? (i := 1223) (by decide +kernel)⟩
def mJ9_abs_0f7a4 : Mi := (yJ9_abs_0f7a4, cJ9_abs_0f7a4, 1, (some .int))
theorem okJ9_abs_0f7a4 : okS mJ9_abs_0f7a4 1 := ⟨⟨List.mem_of_getElem? (i := 641) (by decide +kernel), List.mem_of_getElem? (i := 56) (by decide +kernel), ⟨by decide +kernel, by decide +kernel, by decide +kernel⟩, by decide⟩, List.mem_of_getElem? (i := 640) (by decide +kernel)⟩
def mJ9_max_7cf53 : Mi := (yJ9_max_7cf53, cJ9_max_7cf53, 2, (some .int))
theorem okJ9_max_7cf53 : okS mJ9_max_7cf53 2 := ⟨⟨List.mem_of_getElem? (i := 544) (by decide +kernel), List.mem_of_getElem? (i := 56) (by decide +kernel), ⟨by decide +kernel, by decide +kernel, by decide +kernel⟩, by decide⟩, List.mem_of_getElem? (i := 543) (by decide +kernel)⟩
def mJ9_min_7cf53 : Mi := (yJ9_min_7cf53, cJ9_min_7cf53, 2, (some .int))
theorem okJ9_min_7cf53 : okS mJ9_min_7cf53 2 := ⟨⟨List.mem_of_getElem? (i := 378) (by decide +kernel), List.mem_of_getElem? (i := 56) (by decide +kernel), ⟨by decide +kernel, by decide +kernel, by decide +kernel⟩, by decide⟩, List.mem_of_getElem? (i := 377) (by decide +kernel)⟩
def mJ7_fill_53178 : Mi := (yJ7_fill_53178, cJ7_fill_53178, 4, none)
theorem okJ7_fill_53178 : okS mJ7_fill_53178 2 := ⟨⟨List.mem_of_getElem? (i := 81) (by decide +kernel), List.mem_of_getElem? (i := 48) (by decide +kernel), ⟨by decide +kernel, by decide +kernel, by decide +kernel⟩, by decide⟩, List.mem_of_getElem? (i := 80) (by decide +kernel)⟩
