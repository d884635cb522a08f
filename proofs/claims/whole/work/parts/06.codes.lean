set_option maxRecDepth 100000 in
theorem yc_Pa_init : lw_tbl[(245 : Nat)]? = some (.code ym_Pa_init.1 ym_Pa_init.2.1 ym_Pa_init.2.2.1 ym_Pa_init.2.2.2.1) := by exact rfl
set_option maxRecDepth 100000 in
theorem yc_Pa_begin : lw_tbl[(983 : Nat)]? = some (.code ym_Pa_begin.1 ym_Pa_begin.2.1 ym_Pa_begin.2.2.1 ym_Pa_begin.2.2.2.1) := by exact rfl
set_option maxRecDepth 100000 in
theorem yc_Pa_answer : lw_tbl[(1013 : Nat)]? = some (.code ym_Pa_answer.1 ym_Pa_answer.2.1 ym_Pa_answer.2.2.1 ym_Pa_answer.2.2.2.1) := by exact rfl
set_option maxRecDepth 100000 in
theorem yc_Pa_foundAt : lw_tbl[(1025 : Nat)]? = some (.code ym_Pa_foundAt.1 ym_Pa_foundAt.2.1 ym_Pa_foundAt.2.2.1 ym_Pa_foundAt.2.2.2.1) := by exact rfl
set_option maxRecDepth 100000 in
theorem yc_Pa_put : lw_tbl[(1004 : Nat)]? = some (.code ym_Pa_put.1 ym_Pa_put.2.1 ym_Pa_put.2.2.1 ym_Pa_put.2.2.2.1) := by exact rfl
set_option maxRecDepth 100000 in
theorem yc_Pa_backFrom : lw_tbl[(1009 : Nat)]? = some (.code ym_Pa_backFrom.1 ym_Pa_backFrom.2.1 ym_Pa_backFrom.2.2.1 ym_Pa_backFrom.2.2.2.1) := by exact rfl
set_option maxRecDepth 100000 in
theorem yc_Pa_seek : lw_tbl[(979 : Nat)]? = some (.code ym_Pa_seek.1 ym_Pa_seek.2.1 ym_Pa_seek.2.2.1 ym_Pa_seek.2.2.2.1) := by exact rfl
set_option maxRecDepth 100000 in
theorem yc_Pa_openCell : lw_tbl[(988 : Nat)]? = some (.code ym_Pa_openCell.1 ym_Pa_openCell.2.1 ym_Pa_openCell.2.2.1 ym_Pa_openCell.2.2.2.1) := by exact rfl
set_option maxRecDepth 100000 in
theorem yc_Pa_paintNext : lw_tbl[(993 : Nat)]? = some (.code ym_Pa_paintNext.1 ym_Pa_paintNext.2.1 ym_Pa_paintNext.2.2.1 ym_Pa_paintNext.2.2.2.1) := by exact rfl
set_option maxRecDepth 100000 in
theorem yc_Pa_isFree : lw_tbl[(999 : Nat)]? = some (.code ym_Pa_isFree.1 ym_Pa_isFree.2.1 ym_Pa_isFree.2.2.1 ym_Pa_isFree.2.2.2.1) := by exact rfl
set_option maxRecDepth 100000 in
theorem yc_Pa_seekAhead : lw_tbl[(1038 : Nat)]? = some (.code ym_Pa_seekAhead.1 ym_Pa_seekAhead.2.1 ym_Pa_seekAhead.2.2.1 ym_Pa_seekAhead.2.2.2.1) := by exact rfl
set_option maxRecDepth 100000 in
theorem yc_Pa_fullRow : lw_tbl[(1042 : Nat)]? = some (.code ym_Pa_fullRow.1 ym_Pa_fullRow.2.1 ym_Pa_fullRow.2.2.1 ym_Pa_fullRow.2.2.2.1) := by exact rfl
set_option maxRecDepth 100000 in
theorem yc_Pa_takeCell : lw_tbl[(1047 : Nat)]? = some (.code ym_Pa_takeCell.1 ym_Pa_takeCell.2.1 ym_Pa_takeCell.2.2.1 ym_Pa_takeCell.2.2.2.1) := by exact rfl
set_option maxRecDepth 100000 in
theorem yc_Pa_paintAhead : lw_tbl[(1052 : Nat)]? = some (.code ym_Pa_paintAhead.1 ym_Pa_paintAhead.2.1 ym_Pa_paintAhead.2.2.1 ym_Pa_paintAhead.2.2.2.1) := by exact rfl
set_option maxRecDepth 100000 in
theorem yc_Pa_strikeOut : lw_tbl[(1056 : Nat)]? = some (.code ym_Pa_strikeOut.1 ym_Pa_strikeOut.2.1 ym_Pa_strikeOut.2.2.1 ym_Pa_strikeOut.2.2.2.1) := by exact rfl
set_option maxRecDepth 100000 in
theorem yc_Sh_init : lw_tbl[(188 : Nat)]? = some (.code ym_Sh_init.1 ym_Sh_init.2.1 ym_Sh_init.2.2.1 ym_Sh_init.2.2.2.1) := by exact rfl
set_option maxRecDepth 100000 in
theorem yc_Sh_forget : lw_tbl[(406 : Nat)]? = some (.code ym_Sh_forget.1 ym_Sh_forget.2.1 ym_Sh_forget.2.2.1 ym_Sh_forget.2.2.2.1) := by exact rfl
set_option maxRecDepth 100000 in
theorem yc_Sh_begin : lw_tbl[(560 : Nat)]? = some (.code ym_Sh_begin.1 ym_Sh_begin.2.1 ym_Sh_begin.2.2.1 ym_Sh_begin.2.2.2.1) := by exact rfl
set_option maxRecDepth 100000 in
theorem yc_Sh_become : lw_tbl[(1084 : Nat)]? = some (.code ym_Sh_become.1 ym_Sh_become.2.1 ym_Sh_become.2.2.1 ym_Sh_become.2.2.2.1) := by exact rfl
set_option maxRecDepth 100000 in
theorem yc_Sh_has : lw_tbl[(524 : Nat)]? = some (.code ym_Sh_has.1 ym_Sh_has.2.1 ym_Sh_has.2.2.1 ym_Sh_has.2.2.2.1) := by exact rfl
set_option maxRecDepth 100000 in
theorem yc_Sh_hasCell : lw_tbl[(568 : Nat)]? = some (.code ym_Sh_hasCell.1 ym_Sh_hasCell.2.1 ym_Sh_hasCell.2.2.1 ym_Sh_hasCell.2.2.2.1) := by exact rfl
set_option maxRecDepth 100000 in
theorem yc_Sh_numberIn : lw_tbl[(539 : Nat)]? = some (.code ym_Sh_numberIn.1 ym_Sh_numberIn.2.1 ym_Sh_numberIn.2.2.1 ym_Sh_numberIn.2.2.2.1) := by exact rfl
set_option maxRecDepth 100000 in
theorem yc_Sh_withNumber : lw_tbl[(554 : Nat)]? = some (.code ym_Sh_withNumber.1 ym_Sh_withNumber.2.1 ym_Sh_withNumber.2.2.1 ym_Sh_withNumber.2.2.2.1) := by exact rfl
set_option maxRecDepth 100000 in
theorem yc_Sh_rowOf : lw_tbl[(536 : Nat)]? = some (.code ym_Sh_rowOf.1 ym_Sh_rowOf.2.1 ym_Sh_rowOf.2.2.1 ym_Sh_rowOf.2.2.2.1) := by exact rfl
set_option maxRecDepth 100000 in
theorem yc_Sh_numberAt : lw_tbl[(608 : Nat)]? = some (.code ym_Sh_numberAt.1 ym_Sh_numberAt.2.1 ym_Sh_numberAt.2.2.1 ym_Sh_numberAt.2.2.2.1) := by exact rfl
set_option maxRecDepth 100000 in
theorem yc_Sh_unlikeCells : lw_tbl[(699 : Nat)]? = some (.code ym_Sh_unlikeCells.1 ym_Sh_unlikeCells.2.1 ym_Sh_unlikeCells.2.2.1 ym_Sh_unlikeCells.2.2.2.1) := by exact rfl
set_option maxRecDepth 100000 in
theorem yc_Sh_firstLike : lw_tbl[(707 : Nat)]? = some (.code ym_Sh_firstLike.1 ym_Sh_firstLike.2.1 ym_Sh_firstLike.2.2.1 ym_Sh_firstLike.2.2.2.1) := by exact rfl
set_option maxRecDepth 100000 in
theorem yc_Sh_makingOf : lw_tbl[(686 : Nat)]? = some (.code ym_Sh_makingOf.1 ym_Sh_makingOf.2.1 ym_Sh_makingOf.2.2.1 ym_Sh_makingOf.2.2.2.1) := by exact rfl
set_option maxRecDepth 100000 in
theorem yc_Sh_parentOf : lw_tbl[(639 : Nat)]? = some (.code ym_Sh_parentOf.1 ym_Sh_parentOf.2.1 ym_Sh_parentOf.2.2.1 ym_Sh_parentOf.2.2.2.1) := by exact rfl
set_option maxRecDepth 100000 in
theorem yc_Sh_depthOf : lw_tbl[(720 : Nat)]? = some (.code ym_Sh_depthOf.1 ym_Sh_depthOf.2.1 ym_Sh_depthOf.2.2.1 ym_Sh_depthOf.2.2.2.1) := by exact rfl
set_option maxRecDepth 100000 in
theorem yc_Sh_meeting : lw_tbl[(635 : Nat)]? = some (.code ym_Sh_meeting.1 ym_Sh_meeting.2.1 ym_Sh_meeting.2.2.1 ym_Sh_meeting.2.2.2.1) := by exact rfl
set_option maxRecDepth 100000 in
theorem yc_Sh_lastSetter : lw_tbl[(755 : Nat)]? = some (.code ym_Sh_lastSetter.1 ym_Sh_lastSetter.2.1 ym_Sh_lastSetter.2.2.1 ym_Sh_lastSetter.2.2.2.1) := by exact rfl
set_option maxRecDepth 100000 in
theorem yc_Sh_timesSet : lw_tbl[(763 : Nat)]? = some (.code ym_Sh_timesSet.1 ym_Sh_timesSet.2.1 ym_Sh_timesSet.2.2.1 ym_Sh_timesSet.2.2.2.1) := by exact rfl
set_option maxRecDepth 100000 in
theorem yc_Sh_rootOf : lw_tbl[(532 : Nat)]? = some (.code ym_Sh_rootOf.1 ym_Sh_rootOf.2.1 ym_Sh_rootOf.2.2.1 ym_Sh_rootOf.2.2.2.1) := by exact rfl
set_option maxRecDepth 100000 in
theorem yc_Sh_areJoined : lw_tbl[(528 : Nat)]? = some (.code ym_Sh_areJoined.1 ym_Sh_areJoined.2.1 ym_Sh_areJoined.2.2.1 ym_Sh_areJoined.2.2.2.1) := by exact rfl
set_option maxRecDepth 100000 in
theorem yc_Sh_rootBits : lw_tbl[(733 : Nat)]? = some (.code ym_Sh_rootBits.1 ym_Sh_rootBits.2.1 ym_Sh_rootBits.2.2.1 ym_Sh_rootBits.2.2.2.1) := by exact rfl
set_option maxRecDepth 100000 in
theorem yc_Sh_cellsRootedAs : lw_tbl[(747 : Nat)]? = some (.code ym_Sh_cellsRootedAs.1 ym_Sh_cellsRootedAs.2.1 ym_Sh_cellsRootedAs.2.2.1 ym_Sh_cellsRootedAs.2.2.2.1) := by exact rfl
set_option maxRecDepth 100000 in
theorem yc_Sh_isDirect : lw_tbl[(520 : Nat)]? = some (.code ym_Sh_isDirect.1 ym_Sh_isDirect.2.1 ym_Sh_isDirect.2.2.1 ym_Sh_isDirect.2.2.2.1) := by exact rfl
set_option maxRecDepth 100000 in
theorem yc_Sh_linkOf : lw_tbl[(771 : Nat)]? = some (.code ym_Sh_linkOf.1 ym_Sh_linkOf.2.1 ym_Sh_linkOf.2.2.1 ym_Sh_linkOf.2.2.2.1) := by exact rfl
set_option maxRecDepth 100000 in
theorem yc_Sh_wayFrom : lw_tbl[(592 : Nat)]? = some (.code ym_Sh_wayFrom.1 ym_Sh_wayFrom.2.1 ym_Sh_wayFrom.2.2.1 ym_Sh_wayFrom.2.2.2.1) := by exact rfl
set_option maxRecDepth 100000 in
theorem yc_Sh_longestWay : lw_tbl[(788 : Nat)]? = some (.code ym_Sh_longestWay.1 ym_Sh_longestWay.2.1 ym_Sh_longestWay.2.2.1 ym_Sh_longestWay.2.2.2.1) := by exact rfl
set_option maxRecDepth 100000 in
theorem yc_Sh_directOnes : lw_tbl[(796 : Nat)]? = some (.code ym_Sh_directOnes.1 ym_Sh_directOnes.2.1 ym_Sh_directOnes.2.2.1 ym_Sh_directOnes.2.2.2.1) := by exact rfl
set_option maxRecDepth 100000 in
theorem yc_Sh_allWays : lw_tbl[(804 : Nat)]? = some (.code ym_Sh_allWays.1 ym_Sh_allWays.2.1 ym_Sh_allWays.2.2.1 ym_Sh_allWays.2.2.2.1) := by exact rfl
set_option maxRecDepth 100000 in
theorem yc_Sh_allWaysIfSnapped : lw_tbl[(812 : Nat)]? = some (.code ym_Sh_allWaysIfSnapped.1 ym_Sh_allWaysIfSnapped.2.1 ym_Sh_allWaysIfSnapped.2.2.1 ym_Sh_allWaysIfSnapped.2.2.2.1) := by exact rfl
set_option maxRecDepth 100000 in
theorem yc_Sh_withWays : lw_tbl[(845 : Nat)]? = some (.code ym_Sh_withWays.1 ym_Sh_withWays.2.1 ym_Sh_withWays.2.2.1 ym_Sh_withWays.2.2.2.1) := by exact rfl
set_option maxRecDepth 100000 in
theorem yc_Sh_wayBits : lw_tbl[(833 : Nat)]? = some (.code ym_Sh_wayBits.1 ym_Sh_wayBits.2.1 ym_Sh_wayBits.2.2.1 ym_Sh_wayBits.2.2.2.1) := by exact rfl
set_option maxRecDepth 100000 in
theorem yc_Sh_numbersIn : lw_tbl[(854 : Nat)]? = some (.code ym_Sh_numbersIn.1 ym_Sh_numbersIn.2.1 ym_Sh_numbersIn.2.2.1 ym_Sh_numbersIn.2.2.2.1) := by exact rfl
set_option maxRecDepth 100000 in
theorem yc_Sh_mostPassed : lw_tbl[(825 : Nat)]? = some (.code ym_Sh_mostPassed.1 ym_Sh_mostPassed.2.1 ym_Sh_mostPassed.2.2.1 ym_Sh_mostPassed.2.2.2.1) := by exact rfl
set_option maxRecDepth 100000 in
theorem yc_Sh_waysThrough : lw_tbl[(829 : Nat)]? = some (.code ym_Sh_waysThrough.1 ym_Sh_waysThrough.2.1 ym_Sh_waysThrough.2.2.1 ym_Sh_waysThrough.2.2.2.1) := by exact rfl
set_option maxRecDepth 100000 in
theorem yc_Sh_isTooLong : lw_tbl[(596 : Nat)]? = some (.code ym_Sh_isTooLong.1 ym_Sh_isTooLong.2.1 ym_Sh_isTooLong.2.2.1 ym_Sh_isTooLong.2.2.2.1) := by exact rfl
set_option maxRecDepth 100000 in
theorem yc_Sh_readingCost : lw_tbl[(882 : Nat)]? = some (.code ym_Sh_readingCost.1 ym_Sh_readingCost.2.1 ym_Sh_readingCost.2.2.1 ym_Sh_readingCost.2.2.2.1) := by exact rfl
set_option maxRecDepth 100000 in
theorem yc_Sh_linksBefore : lw_tbl[(584 : Nat)]? = some (.code ym_Sh_linksBefore.1 ym_Sh_linksBefore.2.1 ym_Sh_linksBefore.2.2.1 ym_Sh_linksBefore.2.2.2.1) := by exact rfl
set_option maxRecDepth 100000 in
theorem yc_Sh_readCell : lw_tbl[(580 : Nat)]? = some (.code ym_Sh_readCell.1 ym_Sh_readCell.2.1 ym_Sh_readCell.2.2.1 ym_Sh_readCell.2.2.2.1) := by exact rfl
set_option maxRecDepth 100000 in
theorem yc_Sh_reach : lw_tbl[(588 : Nat)]? = some (.code ym_Sh_reach.1 ym_Sh_reach.2.1 ym_Sh_reach.2.2.1 ym_Sh_reach.2.2.2.1) := by exact rfl
set_option maxRecDepth 100000 in
theorem yc_Sh_giveRow : lw_tbl[(600 : Nat)]? = some (.code ym_Sh_giveRow.1 ym_Sh_giveRow.2.1 ym_Sh_giveRow.2.2.1 ym_Sh_giveRow.2.2.2.1) := by exact rfl
set_option maxRecDepth 100000 in
theorem yc_Sh_turnWay : lw_tbl[(604 : Nat)]? = some (.code ym_Sh_turnWay.1 ym_Sh_turnWay.2.1 ym_Sh_turnWay.2.2.1 ym_Sh_turnWay.2.2.2.1) := by exact rfl
set_option maxRecDepth 100000 in
theorem yc_Sh_setCell : lw_tbl[(612 : Nat)]? = some (.code ym_Sh_setCell.1 ym_Sh_setCell.2.1 ym_Sh_setCell.2.2.1 ym_Sh_setCell.2.2.2.1) := by exact rfl
set_option maxRecDepth 100000 in
theorem yc_Sh_snapRow : lw_tbl[(626 : Nat)]? = some (.code ym_Sh_snapRow.1 ym_Sh_snapRow.2.1 ym_Sh_snapRow.2.2.1 ym_Sh_snapRow.2.2.2.1) := by exact rfl
set_option maxRecDepth 100000 in
theorem yc_Sh_findRoot : lw_tbl[(617 : Nat)]? = some (.code ym_Sh_findRoot.1 ym_Sh_findRoot.2.1 ym_Sh_findRoot.2.2.1 ym_Sh_findRoot.2.2.2.1) := by exact rfl
set_option maxRecDepth 100000 in
theorem yc_Sh_joinRoots : lw_tbl[(621 : Nat)]? = some (.code ym_Sh_joinRoots.1 ym_Sh_joinRoots.2.1 ym_Sh_joinRoots.2.2.1 ym_Sh_joinRoots.2.2.2.1) := by exact rfl
set_option maxRecDepth 100000 in
theorem yc_Sh_inConflict : lw_tbl[(643 : Nat)]? = some (.code ym_Sh_inConflict.1 ym_Sh_inConflict.2.1 ym_Sh_inConflict.2.2.1 ym_Sh_inConflict.2.2.2.1) := by exact rfl
set_option maxRecDepth 100000 in
theorem yc_Sh_mergedRow : lw_tbl[(631 : Nat)]? = some (.code ym_Sh_mergedRow.1 ym_Sh_mergedRow.2.1 ym_Sh_mergedRow.2.2.1 ym_Sh_mergedRow.2.2.2.1) := by exact rfl
set_option maxRecDepth 100000 in
theorem yc_Sh_conflicts : lw_tbl[(946 : Nat)]? = some (.code ym_Sh_conflicts.1 ym_Sh_conflicts.2.1 ym_Sh_conflicts.2.2.1 ym_Sh_conflicts.2.2.2.1) := by exact rfl
set_option maxRecDepth 100000 in
theorem yc_Sh_patchedRow : lw_tbl[(651 : Nat)]? = some (.code ym_Sh_patchedRow.1 ym_Sh_patchedRow.2.1 ym_Sh_patchedRow.2.2.1 ym_Sh_patchedRow.2.2.2.1) := by exact rfl
set_option maxRecDepth 100000 in
theorem yc_Sh_layOn : lw_tbl[(647 : Nat)]? = some (.code ym_Sh_layOn.1 ym_Sh_layOn.2.1 ym_Sh_layOn.2.2.1 ym_Sh_layOn.2.2.2.1) := by exact rfl
set_option maxRecDepth 100000 in
theorem yc_Sh_carryOut : lw_tbl[(576 : Nat)]? = some (.code ym_Sh_carryOut.1 ym_Sh_carryOut.2.1 ym_Sh_carryOut.2.2.1 ym_Sh_carryOut.2.2.2.1) := by exact rfl
set_option maxRecDepth 100000 in
theorem yc_St_init : lw_tbl[(283 : Nat)]? = some (.code ym_St_init.1 ym_St_init.2.1 ym_St_init.2.2.1 ym_St_init.2.2.2.1) := by exact rfl
set_option maxRecDepth 100000 in
theorem yc_St_forget : lw_tbl[(402 : Nat)]? = some (.code ym_St_forget.1 ym_St_forget.2.1 ym_St_forget.2.2.1 ym_St_forget.2.2.2.1) := by exact rfl
set_option maxRecDepth 100000 in
theorem yc_St_become : lw_tbl[(1080 : Nat)]? = some (.code ym_St_become.1 ym_St_become.2.1 ym_St_become.2.2.1 ym_St_become.2.2.2.1) := by exact rfl
set_option maxRecDepth 100000 in
theorem yc_St_acts : lw_tbl[(663 : Nat)]? = some (.code ym_St_acts.1 ym_St_acts.2.1 ym_St_acts.2.2.1 ym_St_acts.2.2.2.1) := by exact rfl
set_option maxRecDepth 100000 in
theorem yc_St_hasDeed : lw_tbl[(866 : Nat)]? = some (.code ym_St_hasDeed.1 ym_St_hasDeed.2.1 ym_St_hasDeed.2.2.1 ym_St_hasDeed.2.2.2.1) := by exact rfl
set_option maxRecDepth 100000 in
theorem yc_St_makesNone : lw_tbl[(906 : Nat)]? = some (.code ym_St_makesNone.1 ym_St_makesNone.2.1 ym_St_makesNone.2.2.1 ym_St_makesNone.2.2.2.1) := by exact rfl
set_option maxRecDepth 100000 in
theorem yc_St_partnersOf : lw_tbl[(512 : Nat)]? = some (.code ym_St_partnersOf.1 ym_St_partnersOf.2.1 ym_St_partnersOf.2.2.1 ym_St_partnersOf.2.2.2.1) := by exact rfl
set_option maxRecDepth 100000 in
theorem yc_St_arePaired : lw_tbl[(508 : Nat)]? = some (.code ym_St_arePaired.1 ym_St_arePaired.2.1 ym_St_arePaired.2.2.1 ym_St_arePaired.2.2.2.1) := by exact rfl
set_option maxRecDepth 100000 in
theorem yc_St_pairUp : lw_tbl[(564 : Nat)]? = some (.code ym_St_pairUp.1 ym_St_pairUp.2.1 ym_St_pairUp.2.2.1 ym_St_pairUp.2.2.2.1) := by exact rfl
set_option maxRecDepth 100000 in
theorem yc_St_ownNumbers : lw_tbl[(551 : Nat)]? = some (.code ym_St_ownNumbers.1 ym_St_ownNumbers.2.1 ym_St_ownNumbers.2.2.1 ym_St_ownNumbers.2.2.2.1) := by exact rfl
set_option maxRecDepth 100000 in
theorem yc_St_tell : lw_tbl[(547 : Nat)]? = some (.code ym_St_tell.1 ym_St_tell.2.1 ym_St_tell.2.2.1 ym_St_tell.2.2.2.1) := by exact rfl
set_option maxRecDepth 100000 in
theorem yc_St_perform : lw_tbl[(572 : Nat)]? = some (.code ym_St_perform.1 ym_St_perform.2.1 ym_St_perform.2.2.1 ym_St_perform.2.2.2.1) := by exact rfl
set_option maxRecDepth 100000 in
theorem yc_St_goBackTo : lw_tbl[(1100 : Nat)]? = some (.code ym_St_goBackTo.1 ym_St_goBackTo.2.1 ym_St_goBackTo.2.2.1 ym_St_goBackTo.2.2.2.1) := by exact rfl
set_option maxRecDepth 100000 in
theorem yc_St_stepsOn : lw_tbl[(890 : Nat)]? = some (.code ym_St_stepsOn.1 ym_St_stepsOn.2.1 ym_St_stepsOn.2.2.1 ym_St_stepsOn.2.2.2.1) := by exact rfl
set_option maxRecDepth 100000 in
theorem yc_St_dearestDeed : lw_tbl[(874 : Nat)]? = some (.code ym_St_dearestDeed.1 ym_St_dearestDeed.2.1 ym_St_dearestDeed.2.2.1 ym_St_dearestDeed.2.2.2.1) := by exact rfl
set_option maxRecDepth 100000 in
theorem yc_Ta_init : lw_tbl[(135 : Nat)]? = some (.code ym_Ta_init.1 ym_Ta_init.2.1 ym_Ta_init.2.2.1 ym_Ta_init.2.2.2.1) := by exact rfl
set_option maxRecDepth 100000 in
theorem yc_Ta_put : lw_tbl[(358 : Nat)]? = some (.code ym_Ta_put.1 ym_Ta_put.2.1 ym_Ta_put.2.2.1 ym_Ta_put.2.2.2.1) := by exact rfl
set_option maxRecDepth 100000 in
theorem yc_Ta_begin : lw_tbl[(370 : Nat)]? = some (.code ym_Ta_begin.1 ym_Ta_begin.2.1 ym_Ta_begin.2.2.1 ym_Ta_begin.2.2.2.1) := by exact rfl
set_option maxRecDepth 100000 in
theorem yc_Ta_byteAt : lw_tbl[(378 : Nat)]? = some (.code ym_Ta_byteAt.1 ym_Ta_byteAt.2.1 ym_Ta_byteAt.2.2.1 ym_Ta_byteAt.2.2.2.1) := by exact rfl
set_option maxRecDepth 100000 in
theorem yc_Ta_isBlank : lw_tbl[(381 : Nat)]? = some (.code ym_Ta_isBlank.1 ym_Ta_isBlank.2.1 ym_Ta_isBlank.2.2.1 ym_Ta_isBlank.2.2.2.1) := by exact rfl
set_option maxRecDepth 100000 in
theorem yc_Ta_isLetter : lw_tbl[(384 : Nat)]? = some (.code ym_Ta_isLetter.1 ym_Ta_isLetter.2.1 ym_Ta_isLetter.2.2.1 ym_Ta_isLetter.2.2.2.1) := by exact rfl
set_option maxRecDepth 100000 in
theorem yc_Ta_isDigit : lw_tbl[(391 : Nat)]? = some (.code ym_Ta_isDigit.1 ym_Ta_isDigit.2.1 ym_Ta_isDigit.2.2.1 ym_Ta_isDigit.2.2.2.1) := by exact rfl
set_option maxRecDepth 100000 in
theorem yc_Ta_takeToken : lw_tbl[(374 : Nat)]? = some (.code ym_Ta_takeToken.1 ym_Ta_takeToken.2.1 ym_Ta_takeToken.2.2.1 ym_Ta_takeToken.2.2.2.1) := by exact rfl
set_option maxRecDepth 100000 in
theorem yc_Ta_takeLetters : lw_tbl[(388 : Nat)]? = some (.code ym_Ta_takeLetters.1 ym_Ta_takeLetters.2.1 ym_Ta_takeLetters.2.2.1 ym_Ta_takeLetters.2.2.2.1) := by exact rfl
set_option maxRecDepth 100000 in
theorem yc_Ta_takeDigits : lw_tbl[(395 : Nat)]? = some (.code ym_Ta_takeDigits.1 ym_Ta_takeDigits.2.1 ym_Ta_takeDigits.2.2.1 ym_Ta_takeDigits.2.2.2.1) := by exact rfl
set_option maxRecDepth 100000 in
theorem yc_Ta_isWord : lw_tbl[(419 : Nat)]? = some (.code ym_Ta_isWord.1 ym_Ta_isWord.2.1 ym_Ta_isWord.2.2.1 ym_Ta_isWord.2.2.2.1) := by exact rfl
set_option maxRecDepth 100000 in
theorem yc_Ta_refuse : lw_tbl[(477 : Nat)]? = some (.code ym_Ta_refuse.1 ym_Ta_refuse.2.1 ym_Ta_refuse.2.2.1 ym_Ta_refuse.2.2.2.1) := by exact rfl
set_option maxRecDepth 100000 in
theorem yc_Ta_takeNumber : lw_tbl[(498 : Nat)]? = some (.code ym_Ta_takeNumber.1 ym_Ta_takeNumber.2.1 ym_Ta_takeNumber.2.2.1 ym_Ta_takeNumber.2.2.2.1) := by exact rfl
set_option maxRecDepth 100000 in
theorem yc_Ta_takeWord : lw_tbl[(494 : Nat)]? = some (.code ym_Ta_takeWord.1 ym_Ta_takeWord.2.1 ym_Ta_takeWord.2.2.1 ym_Ta_takeWord.2.2.2.1) := by exact rfl
set_option maxRecDepth 100000 in
theorem yc_Ta_takeSign : lw_tbl[(543 : Nat)]? = some (.code ym_Ta_takeSign.1 ym_Ta_takeSign.2.1 ym_Ta_takeSign.2.2.1 ym_Ta_takeSign.2.2.2.1) := by exact rfl
set_option maxRecDepth 100000 in
theorem yc_Ta_takesLine : lw_tbl[(410 : Nat)]? = some (.code ym_Ta_takesLine.1 ym_Ta_takesLine.2.1 ym_Ta_takesLine.2.2.1 ym_Ta_takesLine.2.2.2.1) := by exact rfl
set_option maxRecDepth 100000 in
theorem yc_Ta_wordKind : lw_tbl[(414 : Nat)]? = some (.code ym_Ta_wordKind.1 ym_Ta_wordKind.2.1 ym_Ta_wordKind.2.2.1 ym_Ta_wordKind.2.2.2.1) := by exact rfl
set_option maxRecDepth 100000 in
theorem yc_Ta_isOneTooMany : lw_tbl[(481 : Nat)]? = some (.code ym_Ta_isOneTooMany.1 ym_Ta_isOneTooMany.2.1 ym_Ta_isOneTooMany.2.2.1 ym_Ta_isOneTooMany.2.2.2.1) := by exact rfl
set_option maxRecDepth 100000 in
theorem yc_Ta_takeNumbers : lw_tbl[(485 : Nat)]? = some (.code ym_Ta_takeNumbers.1 ym_Ta_takeNumbers.2.1 ym_Ta_takeNumbers.2.2.1 ym_Ta_takeNumbers.2.2.2.1) := by exact rfl
set_option maxRecDepth 100000 in
theorem yc_Ta_takeStore : lw_tbl[(489 : Nat)]? = some (.code ym_Ta_takeStore.1 ym_Ta_takeStore.2.1 ym_Ta_takeStore.2.2.1 ym_Ta_takeStore.2.2.2.1) := by exact rfl
set_option maxRecDepth 100000 in
theorem yc_Ta_takePair : lw_tbl[(504 : Nat)]? = some (.code ym_Ta_takePair.1 ym_Ta_takePair.2.1 ym_Ta_takePair.2.2.1 ym_Ta_takePair.2.2.2.1) := by exact rfl
set_option maxRecDepth 100000 in
theorem yc_Ta_takeDeed : lw_tbl[(516 : Nat)]? = some (.code ym_Ta_takeDeed.1 ym_Ta_takeDeed.2.1 ym_Ta_takeDeed.2.2.1 ym_Ta_takeDeed.2.2.2.1) := by exact rfl
set_option maxRecDepth 100000 in
theorem yc_X_init : lw_tbl[(127 : Nat)]? = some (.code ym_X_init.1 ym_X_init.2.1 ym_X_init.2.2.1 ym_X_init.2.2.2.1) := by exact rfl
set_option maxRecDepth 100000 in
theorem yc_X_feed : lw_tbl[(354 : Nat)]? = some (.code ym_X_feed.1 ym_X_feed.2.1 ym_X_feed.2.2.1 ym_X_feed.2.2.2.1) := by exact rfl
set_option maxRecDepth 100000 in
theorem yc_X_end : lw_tbl[(362 : Nat)]? = some (.code ym_X_end.1 ym_X_end.2.1 ym_X_end.2.2.1 ym_X_end.2.2.2.1) := by exact rfl
set_option maxRecDepth 100000 in
theorem yc_X_store : lw_tbl[(366 : Nat)]? = some (.code ym_X_store.1 ym_X_store.2.1 ym_X_store.2.2.1 ym_X_store.2.2.2.1) := by exact rfl
set_option maxRecDepth 100000 in
theorem yc_X_fault : lw_tbl[(655 : Nat)]? = some (.code ym_X_fault.1 ym_X_fault.2.1 ym_X_fault.2.2.1 ym_X_fault.2.2.2.1) := by exact rfl
set_option maxRecDepth 100000 in
theorem yc_X_count : lw_tbl[(659 : Nat)]? = some (.code ym_X_count.1 ym_X_count.2.1 ym_X_count.2.2.1 ym_X_count.2.2.2.1) := by exact rfl
set_option maxRecDepth 100000 in
theorem yc_X_isThere : lw_tbl[(784 : Nat)]? = some (.code ym_X_isThere.1 ym_X_isThere.2.1 ym_X_isThere.2.2.1 ym_X_isThere.2.2.2.1) := by exact rfl
set_option maxRecDepth 100000 in
theorem yc_X_hasVersion : lw_tbl[(682 : Nat)]? = some (.code ym_X_hasVersion.1 ym_X_hasVersion.2.1 ym_X_hasVersion.2.2.1 ym_X_hasVersion.2.2.2.1) := by exact rfl
set_option maxRecDepth 100000 in
theorem yc_X_hasVersions : lw_tbl[(694 : Nat)]? = some (.code ym_X_hasVersions.1 ym_X_hasVersions.2.1 ym_X_hasVersions.2.2.1 ym_X_hasVersions.2.2.2.1) := by exact rfl
set_option maxRecDepth 100000 in
theorem yc_X_hasSpot : lw_tbl[(671 : Nat)]? = some (.code ym_X_hasSpot.1 ym_X_hasSpot.2.1 ym_X_hasSpot.2.2.1 ym_X_hasSpot.2.2.2.1) := by exact rfl
set_option maxRecDepth 100000 in
theorem yc_X_cell : lw_tbl[(667 : Nat)]? = some (.code ym_X_cell.1 ym_X_cell.2.1 ym_X_cell.2.2.1 ym_X_cell.2.2.2.1) := by exact rfl
set_option maxRecDepth 100000 in
theorem yc_X_version : lw_tbl[(678 : Nat)]? = some (.code ym_X_version.1 ym_X_version.2.1 ym_X_version.2.2.1 ym_X_version.2.2.2.1) := by exact rfl
set_option maxRecDepth 100000 in
theorem yc_X_unlike : lw_tbl[(690 : Nat)]? = some (.code ym_X_unlike.1 ym_X_unlike.2.1 ym_X_unlike.2.2.1 ym_X_unlike.2.2.2.1) := by exact rfl
set_option maxRecDepth 100000 in
theorem yc_X_first : lw_tbl[(703 : Nat)]? = some (.code ym_X_first.1 ym_X_first.2.1 ym_X_first.2.2.1 ym_X_first.2.2.2.1) := by exact rfl
set_option maxRecDepth 100000 in
theorem yc_X_meet : lw_tbl[(711 : Nat)]? = some (.code ym_X_meet.1 ym_X_meet.2.1 ym_X_meet.2.2.1 ym_X_meet.2.2.2.1) := by exact rfl
set_option maxRecDepth 100000 in
theorem yc_X_apart : lw_tbl[(716 : Nat)]? = some (.code ym_X_apart.1 ym_X_apart.2.1 ym_X_apart.2.2.1 ym_X_apart.2.2.2.1) := by exact rfl
set_option maxRecDepth 100000 in
theorem yc_X_root : lw_tbl[(724 : Nat)]? = some (.code ym_X_root.1 ym_X_root.2.1 ym_X_root.2.2.1 ym_X_root.2.2.2.1) := by exact rfl
set_option maxRecDepth 100000 in
theorem yc_X_roots : lw_tbl[(729 : Nat)]? = some (.code ym_X_roots.1 ym_X_roots.2.1 ym_X_roots.2.2.1 ym_X_roots.2.2.2.1) := by exact rfl
set_option maxRecDepth 100000 in
theorem yc_X_together : lw_tbl[(743 : Nat)]? = some (.code ym_X_together.1 ym_X_together.2.1 ym_X_together.2.2.1 ym_X_together.2.2.2.1) := by exact rfl
set_option maxRecDepth 100000 in
theorem yc_X_blame : lw_tbl[(751 : Nat)]? = some (.code ym_X_blame.1 ym_X_blame.2.1 ym_X_blame.2.2.1 ym_X_blame.2.2.2.1) := by exact rfl
set_option maxRecDepth 100000 in
theorem yc_X_often : lw_tbl[(759 : Nat)]? = some (.code ym_X_often.1 ym_X_often.2.1 ym_X_often.2.2.1 ym_X_often.2.2.2.1) := by exact rfl
set_option maxRecDepth 100000 in
theorem yc_X_state : lw_tbl[(767 : Nat)]? = some (.code ym_X_state.1 ym_X_state.2.1 ym_X_state.2.2.1 ym_X_state.2.2.2.1) := by exact rfl
set_option maxRecDepth 100000 in
theorem yc_X_length : lw_tbl[(775 : Nat)]? = some (.code ym_X_length.1 ym_X_length.2.1 ym_X_length.2.2.1 ym_X_length.2.2.2.1) := by exact rfl
set_option maxRecDepth 100000 in
theorem yc_X_longest : lw_tbl[(780 : Nat)]? = some (.code ym_X_longest.1 ym_X_longest.2.1 ym_X_longest.2.2.1 ym_X_longest.2.2.2.1) := by exact rfl
set_option maxRecDepth 100000 in
theorem yc_X_direct : lw_tbl[(792 : Nat)]? = some (.code ym_X_direct.1 ym_X_direct.2.1 ym_X_direct.2.2.1 ym_X_direct.2.2.2.1) := by exact rfl
set_option maxRecDepth 100000 in
theorem yc_X_ways : lw_tbl[(800 : Nat)]? = some (.code ym_X_ways.1 ym_X_ways.2.1 ym_X_ways.2.2.1 ym_X_ways.2.2.2.1) := by exact rfl
set_option maxRecDepth 100000 in
theorem yc_X_snapping : lw_tbl[(808 : Nat)]? = some (.code ym_X_snapping.1 ym_X_snapping.2.1 ym_X_snapping.2.2.1 ym_X_snapping.2.2.2.1) := by exact rfl
set_option maxRecDepth 100000 in
theorem yc_X_snap : lw_tbl[(817 : Nat)]? = some (.code ym_X_snap.1 ym_X_snap.2.1 ym_X_snap.2.2.1 ym_X_snap.2.2.2.1) := by exact rfl
set_option maxRecDepth 100000 in
theorem yc_X_busiest : lw_tbl[(821 : Nat)]? = some (.code ym_X_busiest.1 ym_X_busiest.2.1 ym_X_busiest.2.2.1 ym_X_busiest.2.2.2.1) := by exact rfl
set_option maxRecDepth 100000 in
theorem yc_X_hasAllOf : lw_tbl[(841 : Nat)]? = some (.code ym_X_hasAllOf.1 ym_X_hasAllOf.2.1 ym_X_hasAllOf.2.2.1 ym_X_hasAllOf.2.2.2.1) := by exact rfl
set_option maxRecDepth 100000 in
theorem yc_X_keeps : lw_tbl[(837 : Nat)]? = some (.code ym_X_keeps.1 ym_X_keeps.2.1 ym_X_keeps.2.2.1 ym_X_keeps.2.2.2.1) := by exact rfl
set_option maxRecDepth 100000 in
theorem yc_X_room : lw_tbl[(850 : Nat)]? = some (.code ym_X_room.1 ym_X_room.2.1 ym_X_room.2.2.1 ym_X_room.2.2.2.1) := by exact rfl
set_option maxRecDepth 100000 in
theorem yc_X_ledger : lw_tbl[(858 : Nat)]? = some (.code ym_X_ledger.1 ym_X_ledger.2.1 ym_X_ledger.2.2.1 ym_X_ledger.2.2.2.1) := by exact rfl
set_option maxRecDepth 100000 in
theorem yc_X_spent : lw_tbl[(862 : Nat)]? = some (.code ym_X_spent.1 ym_X_spent.2.1 ym_X_spent.2.2.1 ym_X_spent.2.2.2.1) := by exact rfl
set_option maxRecDepth 100000 in
theorem yc_X_dearest : lw_tbl[(870 : Nat)]? = some (.code ym_X_dearest.1 ym_X_dearest.2.1 ym_X_dearest.2.2.1 ym_X_dearest.2.2.2.1) := by exact rfl
set_option maxRecDepth 100000 in
theorem yc_X_cost : lw_tbl[(878 : Nat)]? = some (.code ym_X_cost.1 ym_X_cost.2.1 ym_X_cost.2.2.1 ym_X_cost.2.2.2.1) := by exact rfl
set_option maxRecDepth 100000 in
theorem yc_X_by : lw_tbl[(886 : Nat)]? = some (.code ym_X_by.1 ym_X_by.2.1 ym_X_by.2.2.1 ym_X_by.2.2.2.1) := by exact rfl
set_option maxRecDepth 100000 in
theorem yc_X_cutting : lw_tbl[(894 : Nat)]? = some (.code ym_X_cutting.1 ym_X_cutting.2.1 ym_X_cutting.2.2.1 ym_X_cutting.2.2.2.1) := by exact rfl
set_option maxRecDepth 100000 in
theorem yc_X_cut : lw_tbl[(898 : Nat)]? = some (.code ym_X_cut.1 ym_X_cut.2.1 ym_X_cut.2.2.1 ym_X_cut.2.2.2.1) := by exact rfl
set_option maxRecDepth 100000 in
theorem yc_X_without : lw_tbl[(902 : Nat)]? = some (.code ym_X_without.1 ym_X_without.2.1 ym_X_without.2.2.1 ym_X_without.2.2.2.1) := by exact rfl
set_option maxRecDepth 100000 in
theorem yc_X_hasActLeft : lw_tbl[(915 : Nat)]? = some (.code ym_X_hasActLeft.1 ym_X_hasActLeft.2.1 ym_X_hasActLeft.2.2.1 ym_X_hasActLeft.2.2.2.1) := by exact rfl
set_option maxRecDepth 100000 in
theorem yc_X_hasRoomFor : lw_tbl[(924 : Nat)]? = some (.code ym_X_hasRoomFor.1 ym_X_hasRoomFor.2.1 ym_X_hasRoomFor.2.2.1 ym_X_hasRoomFor.2.2.2.1) := by exact rfl
set_option maxRecDepth 100000 in
theorem yc_X_reads : lw_tbl[(911 : Nat)]? = some (.code ym_X_reads.1 ym_X_reads.2.1 ym_X_reads.2.2.1 ym_X_reads.2.2.2.1) := by exact rfl
set_option maxRecDepth 100000 in
theorem yc_X_sets : lw_tbl[(920 : Nat)]? = some (.code ym_X_sets.1 ym_X_sets.2.1 ym_X_sets.2.2.1 ym_X_sets.2.2.2.1) := by exact rfl
set_option maxRecDepth 100000 in
theorem yc_X_joins : lw_tbl[(928 : Nat)]? = some (.code ym_X_joins.1 ym_X_joins.2.1 ym_X_joins.2.2.1 ym_X_joins.2.2.2.1) := by exact rfl
set_option maxRecDepth 100000 in
theorem yc_X_finds : lw_tbl[(933 : Nat)]? = some (.code ym_X_finds.1 ym_X_finds.2.1 ym_X_finds.2.2.1 ym_X_finds.2.2.2.1) := by exact rfl
set_option maxRecDepth 100000 in
theorem yc_X_snaps : lw_tbl[(937 : Nat)]? = some (.code ym_X_snaps.1 ym_X_snaps.2.1 ym_X_snaps.2.2.1 ym_X_snaps.2.2.2.1) := by exact rfl
set_option maxRecDepth 100000 in
theorem yc_X_merging : lw_tbl[(942 : Nat)]? = some (.code ym_X_merging.1 ym_X_merging.2.1 ym_X_merging.2.2.1 ym_X_merging.2.2.2.1) := by exact rfl
set_option maxRecDepth 100000 in
theorem yc_X_merged : lw_tbl[(951 : Nat)]? = some (.code ym_X_merged.1 ym_X_merged.2.1 ym_X_merged.2.2.1 ym_X_merged.2.2.2.1) := by exact rfl
set_option maxRecDepth 100000 in
theorem yc_X_merges : lw_tbl[(956 : Nat)]? = some (.code ym_X_merges.1 ym_X_merges.2.1 ym_X_merges.2.2.1 ym_X_merges.2.2.2.1) := by exact rfl
set_option maxRecDepth 100000 in
theorem yc_X_patching : lw_tbl[(961 : Nat)]? = some (.code ym_X_patching.1 ym_X_patching.2.1 ym_X_patching.2.2.1 ym_X_patching.2.2.2.1) := by exact rfl
set_option maxRecDepth 100000 in
theorem yc_X_patches : lw_tbl[(966 : Nat)]? = some (.code ym_X_patches.1 ym_X_patches.2.1 ym_X_patches.2.2.1 ym_X_patches.2.2.2.1) := by exact rfl
set_option maxRecDepth 100000 in
theorem yc_X_mayColour : lw_tbl[(975 : Nat)]? = some (.code ym_X_mayColour.1 ym_X_mayColour.2.1 ym_X_mayColour.2.2.1 ym_X_mayColour.2.2.2.1) := by exact rfl
set_option maxRecDepth 100000 in
theorem yc_X_search : lw_tbl[(971 : Nat)]? = some (.code ym_X_search.1 ym_X_search.2.1 ym_X_search.2.2.1 ym_X_search.2.2.2.1) := by exact rfl
set_option maxRecDepth 100000 in
theorem yc_X_searchBy : lw_tbl[(1017 : Nat)]? = some (.code ym_X_searchBy.1 ym_X_searchBy.2.1 ym_X_searchBy.2.2.1 ym_X_searchBy.2.2.2.1) := by exact rfl
set_option maxRecDepth 100000 in
theorem yc_X_colour : lw_tbl[(1021 : Nat)]? = some (.code ym_X_colour.1 ym_X_colour.2.1 ym_X_colour.2.2.1 ym_X_colour.2.2.2.1) := by exact rfl
set_option maxRecDepth 100000 in
theorem yc_X_colours : lw_tbl[(1030 : Nat)]? = some (.code ym_X_colours.1 ym_X_colours.2.1 ym_X_colours.2.2.1 ym_X_colours.2.2.2.1) := by exact rfl
set_option maxRecDepth 100000 in
theorem yc_X_forward : lw_tbl[(1034 : Nat)]? = some (.code ym_X_forward.1 ym_X_forward.2.1 ym_X_forward.2.2.1 ym_X_forward.2.2.2.1) := by exact rfl
set_option maxRecDepth 100000 in
theorem yc_X_forwardBy : lw_tbl[(1060 : Nat)]? = some (.code ym_X_forwardBy.1 ym_X_forwardBy.2.1 ym_X_forwardBy.2.2.1 ym_X_forwardBy.2.2.2.1) := by exact rfl
set_option maxRecDepth 100000 in
theorem yc_X_hue : lw_tbl[(1064 : Nat)]? = some (.code ym_X_hue.1 ym_X_hue.2.1 ym_X_hue.2.2.1 ym_X_hue.2.2.2.1) := by exact rfl
set_option maxRecDepth 100000 in
theorem yc_X_imageAt : lw_tbl[(1076 : Nat)]? = some (.code ym_X_imageAt.1 ym_X_imageAt.2.1 ym_X_imageAt.2.2.1 ym_X_imageAt.2.2.2.1) := by exact rfl
set_option maxRecDepth 100000 in
theorem yc_X_image : lw_tbl[(1072 : Nat)]? = some (.code ym_X_image.1 ym_X_image.2.1 ym_X_image.2.2.1 ym_X_image.2.2.2.1) := by exact rfl
set_option maxRecDepth 100000 in
theorem yc_X_back : lw_tbl[(1092 : Nat)]? = some (.code ym_X_back.1 ym_X_back.2.1 ym_X_back.2.2.1 ym_X_back.2.2.2.1) := by exact rfl
set_option maxRecDepth 100000 in
theorem yc_X_undo : lw_tbl[(1096 : Nat)]? = some (.code ym_X_undo.1 ym_X_undo.2.1 ym_X_undo.2.2.1 ym_X_undo.2.2.2.1) := by exact rfl
set_option maxRecDepth 100000 in
theorem yc_X_anew : lw_tbl[(1106 : Nat)]? = some (.code ym_X_anew.1 ym_X_anew.2.1 ym_X_anew.2.2.1 ym_X_anew.2.2.2.1) := by exact rfl
set_option maxRecDepth 100000 in
theorem yc_Mo_in : lw_tbl[(1239 : Nat)]? = some (.code ym_Mo_in.1 ym_Mo_in.2.1 ym_Mo_in.2.2.1 ym_Mo_in.2.2.2.1) := by exact rfl
set_option maxRecDepth 100000 in
theorem yc_Mo_has : lw_tbl[(1299 : Nat)]? = some (.code ym_Mo_has.1 ym_Mo_has.2.1 ym_Mo_has.2.2.1 ym_Mo_has.2.2.2.1) := by exact rfl
set_option maxRecDepth 100000 in
theorem yc_Mo_bitsOf : lw_tbl[(1481 : Nat)]? = some (.code ym_Mo_bitsOf.1 ym_Mo_bitsOf.2.1 ym_Mo_bitsOf.2.2.1 ym_Mo_bitsOf.2.2.2.1) := by exact rfl
set_option maxRecDepth 100000 in
theorem yc_Mo_init : lw_tbl[(1111 : Nat)]? = some (.code ym_Mo_init.1 ym_Mo_init.2.1 ym_Mo_init.2.2.1 ym_Mo_init.2.2.2.1) := by exact rfl
set_option maxRecDepth 100000 in
theorem yc_Mo_feed : lw_tbl[(1232 : Nat)]? = some (.code ym_Mo_feed.1 ym_Mo_feed.2.1 ym_Mo_feed.2.2.1 ym_Mo_feed.2.2.2.1) := by exact rfl
set_option maxRecDepth 100000 in
theorem yc_Mo_end : lw_tbl[(1236 : Nat)]? = some (.code ym_Mo_end.1 ym_Mo_end.2.1 ym_Mo_end.2.2.1 ym_Mo_end.2.2.2.1) := by exact rfl
set_option maxRecDepth 100000 in
theorem yc_Mo_at : lw_tbl[(1348 : Nat)]? = some (.code ym_Mo_at.1 ym_Mo_at.2.1 ym_Mo_at.2.2.1 ym_Mo_at.2.2.2.1) := by exact rfl
set_option maxRecDepth 100000 in
theorem yc_Mo_begins : lw_tbl[(1328 : Nat)]? = some (.code ym_Mo_begins.1 ym_Mo_begins.2.1 ym_Mo_begins.2.2.1 ym_Mo_begins.2.2.2.1) := by exact rfl
set_option maxRecDepth 100000 in
theorem yc_Mo_straight : lw_tbl[(1332 : Nat)]? = some (.code ym_Mo_straight.1 ym_Mo_straight.2.1 ym_Mo_straight.2.2.1 ym_Mo_straight.2.2.2.1) := by exact rfl
set_option maxRecDepth 100000 in
theorem yc_Mo_links : lw_tbl[(1352 : Nat)]? = some (.code ym_Mo_links.1 ym_Mo_links.2.1 ym_Mo_links.2.2.1 ym_Mo_links.2.2.2.1) := by exact rfl
set_option maxRecDepth 100000 in
theorem yc_Mo_lengthOf : lw_tbl[(1360 : Nat)]? = some (.code ym_Mo_lengthOf.1 ym_Mo_lengthOf.2.1 ym_Mo_lengthOf.2.2.1 ym_Mo_lengthOf.2.2.2.1) := by exact rfl
set_option maxRecDepth 100000 in
theorem yc_Mo_turns : lw_tbl[(1368 : Nat)]? = some (.code ym_Mo_turns.1 ym_Mo_turns.2.1 ym_Mo_turns.2.2.1 ym_Mo_turns.2.2.2.1) := by exact rfl
set_option maxRecDepth 100000 in
theorem yc_Mo_snap : lw_tbl[(1364 : Nat)]? = some (.code ym_Mo_snap.1 ym_Mo_snap.2.1 ym_Mo_snap.2.2.1 ym_Mo_snap.2.2.2.1) := by exact rfl
set_option maxRecDepth 100000 in
theorem yc_Mo_reach : lw_tbl[(1356 : Nat)]? = some (.code ym_Mo_reach.1 ym_Mo_reach.2.1 ym_Mo_reach.2.2.1 ym_Mo_reach.2.2.2.1) := by exact rfl
set_option maxRecDepth 100000 in
theorem yc_Mo_along : lw_tbl[(1384 : Nat)]? = some (.code ym_Mo_along.1 ym_Mo_along.2.1 ym_Mo_along.2.2.1 ym_Mo_along.2.2.2.1) := by exact rfl
set_option maxRecDepth 100000 in
theorem yc_Mo_read : lw_tbl[(1380 : Nat)]? = some (.code ym_Mo_read.1 ym_Mo_read.2.1 ym_Mo_read.2.2.1 ym_Mo_read.2.2.2.1) := by exact rfl
set_option maxRecDepth 100000 in
theorem yc_Mo_set : lw_tbl[(1344 : Nat)]? = some (.code ym_Mo_set.1 ym_Mo_set.2.1 ym_Mo_set.2.2.1 ym_Mo_set.2.2.2.1) := by exact rfl
set_option maxRecDepth 100000 in
theorem yc_Mo_rootOf : lw_tbl[(1413 : Nat)]? = some (.code ym_Mo_rootOf.1 ym_Mo_rootOf.2.1 ym_Mo_rootOf.2.2.1 ym_Mo_rootOf.2.2.2.1) := by exact rfl
set_option maxRecDepth 100000 in
theorem yc_Mo_find : lw_tbl[(1376 : Nat)]? = some (.code ym_Mo_find.1 ym_Mo_find.2.1 ym_Mo_find.2.2.1 ym_Mo_find.2.2.2.1) := by exact rfl
set_option maxRecDepth 100000 in
theorem yc_Mo_join : lw_tbl[(1372 : Nat)]? = some (.code ym_Mo_join.1 ym_Mo_join.2.1 ym_Mo_join.2.2.1 ym_Mo_join.2.2.2.1) := by exact rfl
set_option maxRecDepth 100000 in
theorem yc_Mo_meetOf : lw_tbl[(1401 : Nat)]? = some (.code ym_Mo_meetOf.1 ym_Mo_meetOf.2.1 ym_Mo_meetOf.2.2.1 ym_Mo_meetOf.2.2.2.1) := by exact rfl
set_option maxRecDepth 100000 in
theorem yc_Mo_isConflict : lw_tbl[(1397 : Nat)]? = some (.code ym_Mo_isConflict.1 ym_Mo_isConflict.2.1 ym_Mo_isConflict.2.2.1 ym_Mo_isConflict.2.2.2.1) := by exact rfl
set_option maxRecDepth 100000 in
theorem yc_Mo_mergedOf : lw_tbl[(1393 : Nat)]? = some (.code ym_Mo_mergedOf.1 ym_Mo_mergedOf.2.1 ym_Mo_mergedOf.2.2.1 ym_Mo_mergedOf.2.2.2.1) := by exact rfl
set_option maxRecDepth 100000 in
theorem yc_Mo_mergeMany : lw_tbl[(1572 : Nat)]? = some (.code ym_Mo_mergeMany.1 ym_Mo_mergeMany.2.1 ym_Mo_mergeMany.2.2.1 ym_Mo_mergeMany.2.2.2.1) := by exact rfl
set_option maxRecDepth 100000 in
theorem yc_Mo_merge : lw_tbl[(1389 : Nat)]? = some (.code ym_Mo_merge.1 ym_Mo_merge.2.1 ym_Mo_merge.2.2.1 ym_Mo_merge.2.2.2.1) := by exact rfl
set_option maxRecDepth 100000 in
theorem yc_Mo_isPatched : lw_tbl[(1409 : Nat)]? = some (.code ym_Mo_isPatched.1 ym_Mo_isPatched.2.1 ym_Mo_isPatched.2.2.1 ym_Mo_isPatched.2.2.2.1) := by exact rfl
set_option maxRecDepth 100000 in
theorem yc_Mo_patchMany : lw_tbl[(1584 : Nat)]? = some (.code ym_Mo_patchMany.1 ym_Mo_patchMany.2.1 ym_Mo_patchMany.2.2.1 ym_Mo_patchMany.2.2.2.1) := by exact rfl
set_option maxRecDepth 100000 in
theorem yc_Mo_patch : lw_tbl[(1405 : Nat)]? = some (.code ym_Mo_patch.1 ym_Mo_patch.2.1 ym_Mo_patch.2.2.1 ym_Mo_patch.2.2.2.1) := by exact rfl
set_option maxRecDepth 100000 in
theorem yc_Mo_deed : lw_tbl[(1340 : Nat)]? = some (.code ym_Mo_deed.1 ym_Mo_deed.2.1 ym_Mo_deed.2.2.1 ym_Mo_deed.2.2.2.1) := by exact rfl
set_option maxRecDepth 100000 in
theorem yc_Mo_does : lw_tbl[(1336 : Nat)]? = some (.code ym_Mo_does.1 ym_Mo_does.2.1 ym_Mo_does.2.2.1 ym_Mo_does.2.2.2.1) := by exact rfl
set_option maxRecDepth 100000 in
theorem yc_Mo_plays : lw_tbl[(1324 : Nat)]? = some (.code ym_Mo_plays.1 ym_Mo_plays.2.1 ym_Mo_plays.2.2.1 ym_Mo_plays.2.2.2.1) := by exact rfl
set_option maxRecDepth 100000 in
theorem yc_Mo_plays2 : lw_tbl[(1320 : Nat)]? = some (.code ym_Mo_plays2.1 ym_Mo_plays2.2.1 ym_Mo_plays2.2.2.1 ym_Mo_plays2.2.2.2.1) := by exact rfl
set_option maxRecDepth 100000 in
theorem yc_Mo_isAt : lw_tbl[(1251 : Nat)]? = some (.code ym_Mo_isAt.1 ym_Mo_isAt.2.1 ym_Mo_isAt.2.2.1 ym_Mo_isAt.2.2.2.1) := by exact rfl
set_option maxRecDepth 100000 in
theorem yc_Mo_next : lw_tbl[(1247 : Nat)]? = some (.code ym_Mo_next.1 ym_Mo_next.2.1 ym_Mo_next.2.2.1 ym_Mo_next.2.2.2.1) := by exact rfl
set_option maxRecDepth 100000 in
theorem yc_Mo_faults : lw_tbl[(1272 : Nat)]? = some (.code ym_Mo_faults.1 ym_Mo_faults.2.1 ym_Mo_faults.2.2.1 ym_Mo_faults.2.2.2.1) := by exact rfl
set_option maxRecDepth 100000 in
theorem yc_Mo_isWord : lw_tbl[(1262 : Nat)]? = some (.code ym_Mo_isWord.1 ym_Mo_isWord.2.1 ym_Mo_isWord.2.2.1 ym_Mo_isWord.2.2.2.1) := by exact rfl
set_option maxRecDepth 100000 in
theorem yc_Mo_passes : lw_tbl[(1268 : Nat)]? = some (.code ym_Mo_passes.1 ym_Mo_passes.2.1 ym_Mo_passes.2.2.1 ym_Mo_passes.2.2.2.1) := by exact rfl
set_option maxRecDepth 100000 in
theorem yc_Mo_number : lw_tbl[(1281 : Nat)]? = some (.code ym_Mo_number.1 ym_Mo_number.2.1 ym_Mo_number.2.2.1 ym_Mo_number.2.2.2.1) := by exact rfl
set_option maxRecDepth 100000 in
theorem yc_Mo_needs : lw_tbl[(1303 : Nat)]? = some (.code ym_Mo_needs.1 ym_Mo_needs.2.1 ym_Mo_needs.2.2.1 ym_Mo_needs.2.2.2.1) := by exact rfl
set_option maxRecDepth 100000 in
theorem yc_Mo_named : lw_tbl[(1277 : Nat)]? = some (.code ym_Mo_named.1 ym_Mo_named.2.1 ym_Mo_named.2.2.1 ym_Mo_named.2.2.2.1) := by exact rfl
set_option maxRecDepth 100000 in
theorem yc_Mo_readsCell : lw_tbl[(1292 : Nat)]? = some (.code ym_Mo_readsCell.1 ym_Mo_readsCell.2.1 ym_Mo_readsCell.2.2.1 ym_Mo_readsCell.2.2.2.1) := by exact rfl
set_option maxRecDepth 100000 in
theorem yc_Mo_isCell : lw_tbl[(1296 : Nat)]? = some (.code ym_Mo_isCell.1 ym_Mo_isCell.2.1 ym_Mo_isCell.2.2.1 ym_Mo_isCell.2.2.2.1) := by exact rfl
set_option maxRecDepth 100000 in
theorem yc_Mo_readsStore : lw_tbl[(1257 : Nat)]? = some (.code ym_Mo_readsStore.1 ym_Mo_readsStore.2.1 ym_Mo_readsStore.2.2.1 ym_Mo_readsStore.2.2.2.1) := by exact rfl
set_option maxRecDepth 100000 in
theorem yc_Mo_readsPair : lw_tbl[(1288 : Nat)]? = some (.code ym_Mo_readsPair.1 ym_Mo_readsPair.2.1 ym_Mo_readsPair.2.2.1 ym_Mo_readsPair.2.2.2.1) := by exact rfl
set_option maxRecDepth 100000 in
theorem yc_Mo_kindHere : lw_tbl[(1307 : Nat)]? = some (.code ym_Mo_kindHere.1 ym_Mo_kindHere.2.1 ym_Mo_kindHere.2.2.1 ym_Mo_kindHere.2.2.2.1) := by exact rfl
set_option maxRecDepth 100000 in
theorem yc_Mo_readsDeed : lw_tbl[(1316 : Nat)]? = some (.code ym_Mo_readsDeed.1 ym_Mo_readsDeed.2.1 ym_Mo_readsDeed.2.2.1 ym_Mo_readsDeed.2.2.2.1) := by exact rfl
set_option maxRecDepth 100000 in
theorem yc_Mo_lays : lw_tbl[(1417 : Nat)]? = some (.code ym_Mo_lays.1 ym_Mo_lays.2.1 ym_Mo_lays.2.2.1 ym_Mo_lays.2.2.2.1) := by exact rfl
set_option maxRecDepth 100000 in
theorem yc_Mo_store : lw_tbl[(1243 : Nat)]? = some (.code ym_Mo_store.1 ym_Mo_store.2.1 ym_Mo_store.2.2.1 ym_Mo_store.2.2.2.1) := by exact rfl
set_option maxRecDepth 100000 in
theorem yc_Mo_fault : lw_tbl[(1421 : Nat)]? = some (.code ym_Mo_fault.1 ym_Mo_fault.2.1 ym_Mo_fault.2.2.1 ym_Mo_fault.2.2.2.1) := by exact rfl
set_option maxRecDepth 100000 in
theorem yc_Mo_is : lw_tbl[(1429 : Nat)]? = some (.code ym_Mo_is.1 ym_Mo_is.2.1 ym_Mo_is.2.2.1 ym_Mo_is.2.2.2.1) := by exact rfl
set_option maxRecDepth 100000 in
theorem yc_Mo_isVersion : lw_tbl[(1437 : Nat)]? = some (.code ym_Mo_isVersion.1 ym_Mo_isVersion.2.1 ym_Mo_isVersion.2.2.1 ym_Mo_isVersion.2.2.2.1) := by exact rfl
set_option maxRecDepth 100000 in
theorem yc_Mo_count : lw_tbl[(1425 : Nat)]? = some (.code ym_Mo_count.1 ym_Mo_count.2.1 ym_Mo_count.2.2.1 ym_Mo_count.2.2.2.1) := by exact rfl
set_option maxRecDepth 100000 in
theorem yc_Mo_cell : lw_tbl[(1433 : Nat)]? = some (.code ym_Mo_cell.1 ym_Mo_cell.2.1 ym_Mo_cell.2.2.1 ym_Mo_cell.2.2.2.1) := by exact rfl
set_option maxRecDepth 100000 in
theorem yc_Mo_version : lw_tbl[(1441 : Nat)]? = some (.code ym_Mo_version.1 ym_Mo_version.2.1 ym_Mo_version.2.2.1 ym_Mo_version.2.2.2.1) := by exact rfl
set_option maxRecDepth 100000 in
theorem yc_Mo_unlikeOf : lw_tbl[(1454 : Nat)]? = some (.code ym_Mo_unlikeOf.1 ym_Mo_unlikeOf.2.1 ym_Mo_unlikeOf.2.2.1 ym_Mo_unlikeOf.2.2.2.1) := by exact rfl
set_option maxRecDepth 100000 in
theorem yc_Mo_areVersions : lw_tbl[(1450 : Nat)]? = some (.code ym_Mo_areVersions.1 ym_Mo_areVersions.2.1 ym_Mo_areVersions.2.2.1 ym_Mo_areVersions.2.2.2.1) := by exact rfl
set_option maxRecDepth 100000 in
theorem yc_Mo_unlike : lw_tbl[(1446 : Nat)]? = some (.code ym_Mo_unlike.1 ym_Mo_unlike.2.1 ym_Mo_unlike.2.2.1 ym_Mo_unlike.2.2.2.1) := by exact rfl
set_option maxRecDepth 100000 in
theorem yc_Mo_first : lw_tbl[(1458 : Nat)]? = some (.code ym_Mo_first.1 ym_Mo_first.2.1 ym_Mo_first.2.2.1 ym_Mo_first.2.2.2.1) := by exact rfl
set_option maxRecDepth 100000 in
theorem yc_Mo_backTo : lw_tbl[(1470 : Nat)]? = some (.code ym_Mo_backTo.1 ym_Mo_backTo.2.1 ym_Mo_backTo.2.2.1 ym_Mo_backTo.2.2.2.1) := by exact rfl
set_option maxRecDepth 100000 in
theorem yc_Mo_meet : lw_tbl[(1462 : Nat)]? = some (.code ym_Mo_meet.1 ym_Mo_meet.2.1 ym_Mo_meet.2.2.1 ym_Mo_meet.2.2.2.1) := by exact rfl
set_option maxRecDepth 100000 in
theorem yc_Mo_apart : lw_tbl[(1466 : Nat)]? = some (.code ym_Mo_apart.1 ym_Mo_apart.2.1 ym_Mo_apart.2.2.1 ym_Mo_apart.2.2.2.1) := by exact rfl
set_option maxRecDepth 100000 in
theorem yc_Mo_root : lw_tbl[(1474 : Nat)]? = some (.code ym_Mo_root.1 ym_Mo_root.2.1 ym_Mo_root.2.2.1 ym_Mo_root.2.2.2.1) := by exact rfl
set_option maxRecDepth 100000 in
theorem yc_Mo_roots : lw_tbl[(1478 : Nat)]? = some (.code ym_Mo_roots.1 ym_Mo_roots.2.1 ym_Mo_roots.2.2.1 ym_Mo_roots.2.2.2.1) := by exact rfl
set_option maxRecDepth 100000 in
theorem yc_Mo_together : lw_tbl[(1485 : Nat)]? = some (.code ym_Mo_together.1 ym_Mo_together.2.1 ym_Mo_together.2.2.1 ym_Mo_together.2.2.2.1) := by exact rfl
set_option maxRecDepth 100000 in
theorem yc_Mo_state : lw_tbl[(1489 : Nat)]? = some (.code ym_Mo_state.1 ym_Mo_state.2.1 ym_Mo_state.2.2.1 ym_Mo_state.2.2.2.1) := by exact rfl
set_option maxRecDepth 100000 in
theorem yc_Mo_length : lw_tbl[(1494 : Nat)]? = some (.code ym_Mo_length.1 ym_Mo_length.2.1 ym_Mo_length.2.2.1 ym_Mo_length.2.2.2.1) := by exact rfl
set_option maxRecDepth 100000 in
theorem yc_Mo_longest : lw_tbl[(1498 : Nat)]? = some (.code ym_Mo_longest.1 ym_Mo_longest.2.1 ym_Mo_longest.2.2.1 ym_Mo_longest.2.2.2.1) := by exact rfl
set_option maxRecDepth 100000 in
theorem yc_Mo_direct : lw_tbl[(1502 : Nat)]? = some (.code ym_Mo_direct.1 ym_Mo_direct.2.1 ym_Mo_direct.2.2.1 ym_Mo_direct.2.2.2.1) := by exact rfl
set_option maxRecDepth 100000 in
theorem yc_Mo_ledger : lw_tbl[(1506 : Nat)]? = some (.code ym_Mo_ledger.1 ym_Mo_ledger.2.1 ym_Mo_ledger.2.2.1 ym_Mo_ledger.2.2.2.1) := by exact rfl
set_option maxRecDepth 100000 in
theorem yc_Mo_spent : lw_tbl[(1510 : Nat)]? = some (.code ym_Mo_spent.1 ym_Mo_spent.2.1 ym_Mo_spent.2.2.1 ym_Mo_spent.2.2.2.1) := by exact rfl
set_option maxRecDepth 100000 in
theorem yc_Mo_dearest : lw_tbl[(1514 : Nat)]? = some (.code ym_Mo_dearest.1 ym_Mo_dearest.2.1 ym_Mo_dearest.2.2.1 ym_Mo_dearest.2.2.2.1) := by exact rfl
set_option maxRecDepth 100000 in
theorem yc_Mo_cost : lw_tbl[(1518 : Nat)]? = some (.code ym_Mo_cost.1 ym_Mo_cost.2.1 ym_Mo_cost.2.2.1 ym_Mo_cost.2.2.2.1) := by exact rfl
set_option maxRecDepth 100000 in
theorem yc_Mo_by : lw_tbl[(1522 : Nat)]? = some (.code ym_Mo_by.1 ym_Mo_by.2.1 ym_Mo_by.2.2.1 ym_Mo_by.2.2.2.1) := by exact rfl
set_option maxRecDepth 100000 in
theorem yc_Mo_cutting : lw_tbl[(1526 : Nat)]? = some (.code ym_Mo_cutting.1 ym_Mo_cutting.2.1 ym_Mo_cutting.2.2.1 ym_Mo_cutting.2.2.2.1) := by exact rfl
set_option maxRecDepth 100000 in
theorem yc_Mo_cut : lw_tbl[(1531 : Nat)]? = some (.code ym_Mo_cut.1 ym_Mo_cut.2.1 ym_Mo_cut.2.2.1 ym_Mo_cut.2.2.2.1) := by exact rfl
set_option maxRecDepth 100000 in
theorem yc_Mo_without : lw_tbl[(1535 : Nat)]? = some (.code ym_Mo_without.1 ym_Mo_without.2.1 ym_Mo_without.2.2.1 ym_Mo_without.2.2.2.1) := by exact rfl
set_option maxRecDepth 100000 in
theorem yc_Mo_acts : lw_tbl[(1548 : Nat)]? = some (.code ym_Mo_acts.1 ym_Mo_acts.2.1 ym_Mo_acts.2.2.1 ym_Mo_acts.2.2.2.1) := by exact rfl
set_option maxRecDepth 100000 in
theorem yc_Mo_isFull : lw_tbl[(1544 : Nat)]? = some (.code ym_Mo_isFull.1 ym_Mo_isFull.2.1 ym_Mo_isFull.2.2.1 ym_Mo_isFull.2.2.2.1) := by exact rfl
set_option maxRecDepth 100000 in
theorem yc_Mo_reads : lw_tbl[(1540 : Nat)]? = some (.code ym_Mo_reads.1 ym_Mo_reads.2.1 ym_Mo_reads.2.2.1 ym_Mo_reads.2.2.2.1) := by exact rfl
set_option maxRecDepth 100000 in
theorem yc_Mo_sets : lw_tbl[(1552 : Nat)]? = some (.code ym_Mo_sets.1 ym_Mo_sets.2.1 ym_Mo_sets.2.2.1 ym_Mo_sets.2.2.2.1) := by exact rfl
set_option maxRecDepth 100000 in
theorem yc_Mo_joins : lw_tbl[(1556 : Nat)]? = some (.code ym_Mo_joins.1 ym_Mo_joins.2.1 ym_Mo_joins.2.2.1 ym_Mo_joins.2.2.2.1) := by exact rfl
set_option maxRecDepth 100000 in
theorem yc_Mo_finds : lw_tbl[(1560 : Nat)]? = some (.code ym_Mo_finds.1 ym_Mo_finds.2.1 ym_Mo_finds.2.2.1 ym_Mo_finds.2.2.2.1) := by exact rfl
set_option maxRecDepth 100000 in
theorem yc_Mo_snaps : lw_tbl[(1564 : Nat)]? = some (.code ym_Mo_snaps.1 ym_Mo_snaps.2.1 ym_Mo_snaps.2.2.1 ym_Mo_snaps.2.2.2.1) := by exact rfl
set_option maxRecDepth 100000 in
theorem yc_Mo_merges : lw_tbl[(1568 : Nat)]? = some (.code ym_Mo_merges.1 ym_Mo_merges.2.1 ym_Mo_merges.2.2.1 ym_Mo_merges.2.2.2.1) := by exact rfl
set_option maxRecDepth 100000 in
theorem yc_Mo_areThree : lw_tbl[(1580 : Nat)]? = some (.code ym_Mo_areThree.1 ym_Mo_areThree.2.1 ym_Mo_areThree.2.2.1 ym_Mo_areThree.2.2.2.1) := by exact rfl
set_option maxRecDepth 100000 in
theorem yc_Mo_patches : lw_tbl[(1576 : Nat)]? = some (.code ym_Mo_patches.1 ym_Mo_patches.2.1 ym_Mo_patches.2.2.1 ym_Mo_patches.2.2.2.1) := by exact rfl
set_option maxRecDepth 100000 in
theorem yc_Mo_patching : lw_tbl[(1588 : Nat)]? = some (.code ym_Mo_patching.1 ym_Mo_patching.2.1 ym_Mo_patching.2.2.1 ym_Mo_patching.2.2.2.1) := by exact rfl
set_option maxRecDepth 100000 in
theorem yc_Mo_merging : lw_tbl[(1592 : Nat)]? = some (.code ym_Mo_merging.1 ym_Mo_merging.2.1 ym_Mo_merging.2.2.1 ym_Mo_merging.2.2.2.1) := by exact rfl
set_option maxRecDepth 100000 in
theorem yc_Mo_merged : lw_tbl[(1596 : Nat)]? = some (.code ym_Mo_merged.1 ym_Mo_merged.2.1 ym_Mo_merged.2.2.1 ym_Mo_merged.2.2.2.1) := by exact rfl
set_option maxRecDepth 100000 in
theorem yc_Mo_blame : lw_tbl[(1600 : Nat)]? = some (.code ym_Mo_blame.1 ym_Mo_blame.2.1 ym_Mo_blame.2.2.1 ym_Mo_blame.2.2.2.1) := by exact rfl
set_option maxRecDepth 100000 in
theorem yc_Mo_often : lw_tbl[(1604 : Nat)]? = some (.code ym_Mo_often.1 ym_Mo_often.2.1 ym_Mo_often.2.2.1 ym_Mo_often.2.2.2.1) := by exact rfl
set_option maxRecDepth 100000 in
theorem yc_Mo_isSet : lw_tbl[(1612 : Nat)]? = some (.code ym_Mo_isSet.1 ym_Mo_isSet.2.1 ym_Mo_isSet.2.2.1 ym_Mo_isSet.2.2.2.1) := by exact rfl
set_option maxRecDepth 100000 in
theorem yc_Mo_keptOf : lw_tbl[(1616 : Nat)]? = some (.code ym_Mo_keptOf.1 ym_Mo_keptOf.2.1 ym_Mo_keptOf.2.2.1 ym_Mo_keptOf.2.2.2.1) := by exact rfl
set_option maxRecDepth 100000 in
theorem yc_Mo_keeps : lw_tbl[(1608 : Nat)]? = some (.code ym_Mo_keeps.1 ym_Mo_keeps.2.1 ym_Mo_keeps.2.2.1 ym_Mo_keeps.2.2.2.1) := by exact rfl
set_option maxRecDepth 100000 in
theorem yc_Mo_room : lw_tbl[(1621 : Nat)]? = some (.code ym_Mo_room.1 ym_Mo_room.2.1 ym_Mo_room.2.2.1 ym_Mo_room.2.2.2.1) := by exact rfl
set_option maxRecDepth 100000 in
theorem yc_Mo_busiest : lw_tbl[(1625 : Nat)]? = some (.code ym_Mo_busiest.1 ym_Mo_busiest.2.1 ym_Mo_busiest.2.2.1 ym_Mo_busiest.2.2.2.1) := by exact rfl
set_option maxRecDepth 100000 in
theorem yc_Mo_isOnWay : lw_tbl[(1629 : Nat)]? = some (.code ym_Mo_isOnWay.1 ym_Mo_isOnWay.2.1 ym_Mo_isOnWay.2.2.1 ym_Mo_isOnWay.2.2.2.1) := by exact rfl
set_option maxRecDepth 100000 in
theorem yc_Mo_waysOf : lw_tbl[(1637 : Nat)]? = some (.code ym_Mo_waysOf.1 ym_Mo_waysOf.2.1 ym_Mo_waysOf.2.2.1 ym_Mo_waysOf.2.2.2.1) := by exact rfl
set_option maxRecDepth 100000 in
theorem yc_Mo_ways : lw_tbl[(1633 : Nat)]? = some (.code ym_Mo_ways.1 ym_Mo_ways.2.1 ym_Mo_ways.2.2.1 ym_Mo_ways.2.2.2.1) := by exact rfl
set_option maxRecDepth 100000 in
theorem yc_Mo_snapping : lw_tbl[(1641 : Nat)]? = some (.code ym_Mo_snapping.1 ym_Mo_snapping.2.1 ym_Mo_snapping.2.2.1 ym_Mo_snapping.2.2.2.1) := by exact rfl
set_option maxRecDepth 100000 in
theorem yc_Mo_snap2 : lw_tbl[(1645 : Nat)]? = some (.code ym_Mo_snap2.1 ym_Mo_snap2.2.1 ym_Mo_snap2.2.2.1 ym_Mo_snap2.2.2.2.1) := by exact rfl
set_option maxRecDepth 100000 in
theorem yc_Mo_image : lw_tbl[(1651 : Nat)]? = some (.code ym_Mo_image.1 ym_Mo_image.2.1 ym_Mo_image.2.2.1 ym_Mo_image.2.2.2.1) := by exact rfl
set_option maxRecDepth 100000 in
theorem yc_Mo_back : lw_tbl[(1655 : Nat)]? = some (.code ym_Mo_back.1 ym_Mo_back.2.1 ym_Mo_back.2.2.1 ym_Mo_back.2.2.2.1) := by exact rfl
set_option maxRecDepth 100000 in
theorem yc_Mo_isNone : lw_tbl[(1671 : Nat)]? = some (.code ym_Mo_isNone.1 ym_Mo_isNone.2.1 ym_Mo_isNone.2.2.1 ym_Mo_isNone.2.2.2.1) := by exact rfl
set_option maxRecDepth 100000 in
theorem yc_Mo_searches : lw_tbl[(1667 : Nat)]? = some (.code ym_Mo_searches.1 ym_Mo_searches.2.1 ym_Mo_searches.2.2.1 ym_Mo_searches.2.2.2.1) := by exact rfl
set_option maxRecDepth 100000 in
theorem yc_Mo_goesOn : lw_tbl[(1675 : Nat)]? = some (.code ym_Mo_goesOn.1 ym_Mo_goesOn.2.1 ym_Mo_goesOn.2.2.1 ym_Mo_goesOn.2.2.2.1) := by exact rfl
set_option maxRecDepth 100000 in
theorem yc_Mo_areColours : lw_tbl[(1663 : Nat)]? = some (.code ym_Mo_areColours.1 ym_Mo_areColours.2.1 ym_Mo_areColours.2.2.1 ym_Mo_areColours.2.2.2.1) := by exact rfl
set_option maxRecDepth 100000 in
theorem yc_Mo_search : lw_tbl[(1659 : Nat)]? = some (.code ym_Mo_search.1 ym_Mo_search.2.1 ym_Mo_search.2.2.1 ym_Mo_search.2.2.2.1) := by exact rfl
set_option maxRecDepth 100000 in
theorem yc_Mo_searchBy : lw_tbl[(1679 : Nat)]? = some (.code ym_Mo_searchBy.1 ym_Mo_searchBy.2.1 ym_Mo_searchBy.2.2.1 ym_Mo_searchBy.2.2.2.1) := by exact rfl
set_option maxRecDepth 100000 in
theorem yc_Mo_colour : lw_tbl[(1683 : Nat)]? = some (.code ym_Mo_colour.1 ym_Mo_colour.2.1 ym_Mo_colour.2.2.1 ym_Mo_colour.2.2.2.1) := by exact rfl
set_option maxRecDepth 100000 in
theorem yc_Mo_colours : lw_tbl[(1687 : Nat)]? = some (.code ym_Mo_colours.1 ym_Mo_colours.2.1 ym_Mo_colours.2.2.1 ym_Mo_colours.2.2.2.1) := by exact rfl
set_option maxRecDepth 100000 in
theorem yc_Mo_isTaken : lw_tbl[(1703 : Nat)]? = some (.code ym_Mo_isTaken.1 ym_Mo_isTaken.2.1 ym_Mo_isTaken.2.2.1 ym_Mo_isTaken.2.2.2.1) := by exact rfl
set_option maxRecDepth 100000 in
theorem yc_Mo_takes : lw_tbl[(1699 : Nat)]? = some (.code ym_Mo_takes.1 ym_Mo_takes.2.1 ym_Mo_takes.2.2.1 ym_Mo_takes.2.2.2.1) := by exact rfl
set_option maxRecDepth 100000 in
theorem yc_Mo_setOr : lw_tbl[(1711 : Nat)]? = some (.code ym_Mo_setOr.1 ym_Mo_setOr.2.1 ym_Mo_setOr.2.2.1 ym_Mo_setOr.2.2.2.1) := by exact rfl
set_option maxRecDepth 100000 in
theorem yc_Mo_lets : lw_tbl[(1707 : Nat)]? = some (.code ym_Mo_lets.1 ym_Mo_lets.2.1 ym_Mo_lets.2.2.1 ym_Mo_lets.2.2.2.1) := by exact rfl
set_option maxRecDepth 100000 in
theorem yc_Mo_looksAhead : lw_tbl[(1695 : Nat)]? = some (.code ym_Mo_looksAhead.1 ym_Mo_looksAhead.2.1 ym_Mo_looksAhead.2.2.1 ym_Mo_looksAhead.2.2.2.1) := by exact rfl
set_option maxRecDepth 100000 in
theorem yc_Mo_goesAhead : lw_tbl[(1715 : Nat)]? = some (.code ym_Mo_goesAhead.1 ym_Mo_goesAhead.2.1 ym_Mo_goesAhead.2.2.1 ym_Mo_goesAhead.2.2.2.1) := by exact rfl
set_option maxRecDepth 100000 in
theorem yc_Mo_forward : lw_tbl[(1691 : Nat)]? = some (.code ym_Mo_forward.1 ym_Mo_forward.2.1 ym_Mo_forward.2.2.1 ym_Mo_forward.2.2.2.1) := by exact rfl
set_option maxRecDepth 100000 in
theorem yc_Mo_forwardBy : lw_tbl[(1719 : Nat)]? = some (.code ym_Mo_forwardBy.1 ym_Mo_forwardBy.2.1 ym_Mo_forwardBy.2.2.1 ym_Mo_forwardBy.2.2.2.1) := by exact rfl
set_option maxRecDepth 100000 in
theorem yc_Mo_hue : lw_tbl[(1723 : Nat)]? = some (.code ym_Mo_hue.1 ym_Mo_hue.2.1 ym_Mo_hue.2.2.1 ym_Mo_hue.2.2.2.1) := by exact rfl
set_option maxRecDepth 100000 in
theorem yc_Mo_undo : lw_tbl[(1727 : Nat)]? = some (.code ym_Mo_undo.1 ym_Mo_undo.2.1 ym_Mo_undo.2.2.1 ym_Mo_undo.2.2.2.1) := by exact rfl
set_option maxRecDepth 100000 in
theorem yc_Mo_anew : lw_tbl[(1731 : Nat)]? = some (.code ym_Mo_anew.1 ym_Mo_anew.2.1 ym_Mo_anew.2.2.1 ym_Mo_anew.2.2.2.1) := by exact rfl
set_option maxRecDepth 100000 in
theorem yc_In_numberOfTrailingZeros : lw_tbl[(1067 : Nat)]? = some (.code ym_In_numberOfTrailingZeros.1 ym_In_numberOfTrailingZeros.2.1 ym_In_numberOfTrailingZeros.2.2.1 ym_In_numberOfTrailingZeros.2.2.2.1) := by exact rfl
set_option maxRecDepth 100000 in
theorem yc_In_bitCount : lw_tbl[(736 : Nat)]? = some (.code ym_In_bitCount.1 ym_In_bitCount.2.1 ym_In_bitCount.2.2.1 ym_In_bitCount.2.2.2.1) := by exact rfl
def mz_cdr (l : List mz_Y) : Prop := ∀ Y ∈ l, (Cond.code Y.1 Y.2.1 Y.2.2.1 Y.2.2.2.1) ∈ lw_tbl
theorem mz_cda_0 : mz_cdr (mz_all_0.take 32) := List.forall_mem_cons.mpr ⟨List.mem_of_getElem? yc_Pa_init, List.forall_mem_cons.mpr ⟨List.mem_of_getElem? yc_Pa_begin, List.forall_mem_cons.mpr ⟨List.mem_of_getElem? yc_Pa_answer, List.forall_mem_cons.mpr ⟨List.mem_of_getElem? yc_Pa_foundAt, List.forall_mem_cons.mpr ⟨List.mem_of_getElem? yc_Pa_put, List.forall_mem_cons.mpr ⟨List.mem_of_getElem? yc_Pa_backFrom, List.forall_mem_cons.mpr ⟨List.mem_of_getElem? yc_Pa_seek, List.forall_mem_cons.mpr ⟨List.mem_of_getElem? yc_Pa_openCell, List.forall_mem_cons.mpr ⟨List.mem_of_getElem? yc_Pa_paintNext, List.forall_mem_cons.mpr ⟨List.mem_of_getElem? yc_Pa_isFree, List.forall_mem_cons.mpr ⟨List.mem_of_getElem? yc_Pa_seekAhead, List.forall_mem_cons.mpr ⟨List.mem_of_getElem? yc_Pa_fullRow, List.forall_mem_cons.mpr ⟨List.mem_of_getElem? yc_Pa_takeCell, List.forall_mem_cons.mpr ⟨List.mem_of_getElem? yc_Pa_paintAhead, List.forall_mem_cons.mpr ⟨List.mem_of_getElem? yc_Pa_strikeOut, List.forall_mem_cons.mpr ⟨List.mem_of_getElem? yc_Sh_init, List.forall_mem_cons.mpr ⟨List.mem_of_getElem? yc_Sh_forget, List.forall_mem_cons.mpr ⟨List.mem_of_getElem? yc_Sh_begin, List.forall_mem_cons.mpr ⟨List.mem_of_getElem? yc_Sh_become, List.forall_mem_cons.mpr ⟨List.mem_of_getElem? yc_Sh_has, List.forall_mem_cons.mpr ⟨List.mem_of_getElem? yc_Sh_hasCell, List.forall_mem_cons.mpr ⟨List.mem_of_getElem? yc_Sh_numberIn, List.forall_mem_cons.mpr ⟨List.mem_of_getElem? yc_Sh_withNumber, List.forall_mem_cons.mpr ⟨List.mem_of_getElem? yc_Sh_rowOf, List.forall_mem_cons.mpr ⟨List.mem_of_getElem? yc_Sh_numberAt, List.forall_mem_cons.mpr ⟨List.mem_of_getElem? yc_Sh_unlikeCells, List.forall_mem_cons.mpr ⟨List.mem_of_getElem? yc_Sh_firstLike, List.forall_mem_cons.mpr ⟨List.mem_of_getElem? yc_Sh_makingOf, List.forall_mem_cons.mpr ⟨List.mem_of_getElem? yc_Sh_parentOf, List.forall_mem_cons.mpr ⟨List.mem_of_getElem? yc_Sh_depthOf, List.forall_mem_cons.mpr ⟨List.mem_of_getElem? yc_Sh_meeting, List.forall_mem_cons.mpr ⟨List.mem_of_getElem? yc_Sh_lastSetter, fun _ h => absurd h List.not_mem_nil⟩⟩⟩⟩⟩⟩⟩⟩⟩⟩⟩⟩⟩⟩⟩⟩⟩⟩⟩⟩⟩⟩⟩⟩⟩⟩⟩⟩⟩⟩⟩⟩
theorem mz_cda_1 : mz_cdr (mz_all_1.take 32) := List.forall_mem_cons.mpr ⟨List.mem_of_getElem? yc_Sh_timesSet, List.forall_mem_cons.mpr ⟨List.mem_of_getElem? yc_Sh_rootOf, List.forall_mem_cons.mpr ⟨List.mem_of_getElem? yc_Sh_areJoined, List.forall_mem_cons.mpr ⟨List.mem_of_getElem? yc_Sh_rootBits, List.forall_mem_cons.mpr ⟨List.mem_of_getElem? yc_Sh_cellsRootedAs, List.forall_mem_cons.mpr ⟨List.mem_of_getElem? yc_Sh_isDirect, List.forall_mem_cons.mpr ⟨List.mem_of_getElem? yc_Sh_linkOf, List.forall_mem_cons.mpr ⟨List.mem_of_getElem? yc_Sh_wayFrom, List.forall_mem_cons.mpr ⟨List.mem_of_getElem? yc_Sh_longestWay, List.forall_mem_cons.mpr ⟨List.mem_of_getElem? yc_Sh_directOnes, List.forall_mem_cons.mpr ⟨List.mem_of_getElem? yc_Sh_allWays, List.forall_mem_cons.mpr ⟨List.mem_of_getElem? yc_Sh_allWaysIfSnapped, List.forall_mem_cons.mpr ⟨List.mem_of_getElem? yc_Sh_withWays, List.forall_mem_cons.mpr ⟨List.mem_of_getElem? yc_Sh_wayBits, List.forall_mem_cons.mpr ⟨List.mem_of_getElem? yc_Sh_numbersIn, List.forall_mem_cons.mpr ⟨List.mem_of_getElem? yc_Sh_mostPassed, List.forall_mem_cons.mpr ⟨List.mem_of_getElem? yc_Sh_waysThrough, List.forall_mem_cons.mpr ⟨List.mem_of_getElem? yc_Sh_isTooLong, List.forall_mem_cons.mpr ⟨List.mem_of_getElem? yc_Sh_readingCost, List.forall_mem_cons.mpr ⟨List.mem_of_getElem? yc_Sh_linksBefore, List.forall_mem_cons.mpr ⟨List.mem_of_getElem? yc_Sh_readCell, List.forall_mem_cons.mpr ⟨List.mem_of_getElem? yc_Sh_reach, List.forall_mem_cons.mpr ⟨List.mem_of_getElem? yc_Sh_giveRow, List.forall_mem_cons.mpr ⟨List.mem_of_getElem? yc_Sh_turnWay, List.forall_mem_cons.mpr ⟨List.mem_of_getElem? yc_Sh_setCell, List.forall_mem_cons.mpr ⟨List.mem_of_getElem? yc_Sh_snapRow, List.forall_mem_cons.mpr ⟨List.mem_of_getElem? yc_Sh_findRoot, List.forall_mem_cons.mpr ⟨List.mem_of_getElem? yc_Sh_joinRoots, List.forall_mem_cons.mpr ⟨List.mem_of_getElem? yc_Sh_inConflict, List.forall_mem_cons.mpr ⟨List.mem_of_getElem? yc_Sh_mergedRow, List.forall_mem_cons.mpr ⟨List.mem_of_getElem? yc_Sh_conflicts, List.forall_mem_cons.mpr ⟨List.mem_of_getElem? yc_Sh_patchedRow, fun _ h => absurd h List.not_mem_nil⟩⟩⟩⟩⟩⟩⟩⟩⟩⟩⟩⟩⟩⟩⟩⟩⟩⟩⟩⟩⟩⟩⟩⟩⟩⟩⟩⟩⟩⟩⟩⟩
theorem mz_cda_2 : mz_cdr (mz_all_2.take 32) := List.forall_mem_cons.mpr ⟨List.mem_of_getElem? yc_Sh_layOn, List.forall_mem_cons.mpr ⟨List.mem_of_getElem? yc_Sh_carryOut, List.forall_mem_cons.mpr ⟨List.mem_of_getElem? yc_St_init, List.forall_mem_cons.mpr ⟨List.mem_of_getElem? yc_St_forget, List.forall_mem_cons.mpr ⟨List.mem_of_getElem? yc_St_become, List.forall_mem_cons.mpr ⟨List.mem_of_getElem? yc_St_acts, List.forall_mem_cons.mpr ⟨List.mem_of_getElem? yc_St_hasDeed, List.forall_mem_cons.mpr ⟨List.mem_of_getElem? yc_St_makesNone, List.forall_mem_cons.mpr ⟨List.mem_of_getElem? yc_St_partnersOf, List.forall_mem_cons.mpr ⟨List.mem_of_getElem? yc_St_arePaired, List.forall_mem_cons.mpr ⟨List.mem_of_getElem? yc_St_pairUp, List.forall_mem_cons.mpr ⟨List.mem_of_getElem? yc_St_ownNumbers, List.forall_mem_cons.mpr ⟨List.mem_of_getElem? yc_St_tell, List.forall_mem_cons.mpr ⟨List.mem_of_getElem? yc_St_perform, List.forall_mem_cons.mpr ⟨List.mem_of_getElem? yc_St_goBackTo, List.forall_mem_cons.mpr ⟨List.mem_of_getElem? yc_St_stepsOn, List.forall_mem_cons.mpr ⟨List.mem_of_getElem? yc_St_dearestDeed, List.forall_mem_cons.mpr ⟨List.mem_of_getElem? yc_Ta_init, List.forall_mem_cons.mpr ⟨List.mem_of_getElem? yc_Ta_put, List.forall_mem_cons.mpr ⟨List.mem_of_getElem? yc_Ta_begin, List.forall_mem_cons.mpr ⟨List.mem_of_getElem? yc_Ta_byteAt, List.forall_mem_cons.mpr ⟨List.mem_of_getElem? yc_Ta_isBlank, List.forall_mem_cons.mpr ⟨List.mem_of_getElem? yc_Ta_isLetter, List.forall_mem_cons.mpr ⟨List.mem_of_getElem? yc_Ta_isDigit, List.forall_mem_cons.mpr ⟨List.mem_of_getElem? yc_Ta_takeToken, List.forall_mem_cons.mpr ⟨List.mem_of_getElem? yc_Ta_takeLetters, List.forall_mem_cons.mpr ⟨List.mem_of_getElem? yc_Ta_takeDigits, List.forall_mem_cons.mpr ⟨List.mem_of_getElem? yc_Ta_isWord, List.forall_mem_cons.mpr ⟨List.mem_of_getElem? yc_Ta_refuse, List.forall_mem_cons.mpr ⟨List.mem_of_getElem? yc_Ta_takeNumber, List.forall_mem_cons.mpr ⟨List.mem_of_getElem? yc_Ta_takeWord, List.forall_mem_cons.mpr ⟨List.mem_of_getElem? yc_Ta_takeSign, fun _ h => absurd h List.not_mem_nil⟩⟩⟩⟩⟩⟩⟩⟩⟩⟩⟩⟩⟩⟩⟩⟩⟩⟩⟩⟩⟩⟩⟩⟩⟩⟩⟩⟩⟩⟩⟩⟩
theorem mz_cda_3 : mz_cdr (mz_all_3.take 32) := List.forall_mem_cons.mpr ⟨List.mem_of_getElem? yc_Ta_takesLine, List.forall_mem_cons.mpr ⟨List.mem_of_getElem? yc_Ta_wordKind, List.forall_mem_cons.mpr ⟨List.mem_of_getElem? yc_Ta_isOneTooMany, List.forall_mem_cons.mpr ⟨List.mem_of_getElem? yc_Ta_takeNumbers, List.forall_mem_cons.mpr ⟨List.mem_of_getElem? yc_Ta_takeStore, List.forall_mem_cons.mpr ⟨List.mem_of_getElem? yc_Ta_takePair, List.forall_mem_cons.mpr ⟨List.mem_of_getElem? yc_Ta_takeDeed, List.forall_mem_cons.mpr ⟨List.mem_of_getElem? yc_X_init, List.forall_mem_cons.mpr ⟨List.mem_of_getElem? yc_X_feed, List.forall_mem_cons.mpr ⟨List.mem_of_getElem? yc_X_end, List.forall_mem_cons.mpr ⟨List.mem_of_getElem? yc_X_store, List.forall_mem_cons.mpr ⟨List.mem_of_getElem? yc_X_fault, List.forall_mem_cons.mpr ⟨List.mem_of_getElem? yc_X_count, List.forall_mem_cons.mpr ⟨List.mem_of_getElem? yc_X_isThere, List.forall_mem_cons.mpr ⟨List.mem_of_getElem? yc_X_hasVersion, List.forall_mem_cons.mpr ⟨List.mem_of_getElem? yc_X_hasVersions, List.forall_mem_cons.mpr ⟨List.mem_of_getElem? yc_X_hasSpot, List.forall_mem_cons.mpr ⟨List.mem_of_getElem? yc_X_cell, List.forall_mem_cons.mpr ⟨List.mem_of_getElem? yc_X_version, List.forall_mem_cons.mpr ⟨List.mem_of_getElem? yc_X_unlike, List.forall_mem_cons.mpr ⟨List.mem_of_getElem? yc_X_first, List.forall_mem_cons.mpr ⟨List.mem_of_getElem? yc_X_meet, List.forall_mem_cons.mpr ⟨List.mem_of_getElem? yc_X_apart, List.forall_mem_cons.mpr ⟨List.mem_of_getElem? yc_X_root, List.forall_mem_cons.mpr ⟨List.mem_of_getElem? yc_X_roots, List.forall_mem_cons.mpr ⟨List.mem_of_getElem? yc_X_together, List.forall_mem_cons.mpr ⟨List.mem_of_getElem? yc_X_blame, List.forall_mem_cons.mpr ⟨List.mem_of_getElem? yc_X_often, List.forall_mem_cons.mpr ⟨List.mem_of_getElem? yc_X_state, List.forall_mem_cons.mpr ⟨List.mem_of_getElem? yc_X_length, List.forall_mem_cons.mpr ⟨List.mem_of_getElem? yc_X_longest, List.forall_mem_cons.mpr ⟨List.mem_of_getElem? yc_X_direct, fun _ h => absurd h List.not_mem_nil⟩⟩⟩⟩⟩⟩⟩⟩⟩⟩⟩⟩⟩⟩⟩⟩⟩⟩⟩⟩⟩⟩⟩⟩⟩⟩⟩⟩⟩⟩⟩⟩
theorem mz_cda_4 : mz_cdr (mz_all_4.take 32) := List.forall_mem_cons.mpr ⟨List.mem_of_getElem? yc_X_ways, List.forall_mem_cons.mpr ⟨List.mem_of_getElem? yc_X_snapping, List.forall_mem_cons.mpr ⟨List.mem_of_getElem? yc_X_snap, List.forall_mem_cons.mpr ⟨List.mem_of_getElem? yc_X_busiest, List.forall_mem_cons.mpr ⟨List.mem_of_getElem? yc_X_hasAllOf, List.forall_mem_cons.mpr ⟨List.mem_of_getElem? yc_X_keeps, List.forall_mem_cons.mpr ⟨List.mem_of_getElem? yc_X_room, List.forall_mem_cons.mpr ⟨List.mem_of_getElem? yc_X_ledger, List.forall_mem_cons.mpr ⟨List.mem_of_getElem? yc_X_spent, List.forall_mem_cons.mpr ⟨List.mem_of_getElem? yc_X_dearest, List.forall_mem_cons.mpr ⟨List.mem_of_getElem? yc_X_cost, List.forall_mem_cons.mpr ⟨List.mem_of_getElem? yc_X_by, List.forall_mem_cons.mpr ⟨List.mem_of_getElem? yc_X_cutting, List.forall_mem_cons.mpr ⟨List.mem_of_getElem? yc_X_cut, List.forall_mem_cons.mpr ⟨List.mem_of_getElem? yc_X_without, List.forall_mem_cons.mpr ⟨List.mem_of_getElem? yc_X_hasActLeft, List.forall_mem_cons.mpr ⟨List.mem_of_getElem? yc_X_hasRoomFor, List.forall_mem_cons.mpr ⟨List.mem_of_getElem? yc_X_reads, List.forall_mem_cons.mpr ⟨List.mem_of_getElem? yc_X_sets, List.forall_mem_cons.mpr ⟨List.mem_of_getElem? yc_X_joins, List.forall_mem_cons.mpr ⟨List.mem_of_getElem? yc_X_finds, List.forall_mem_cons.mpr ⟨List.mem_of_getElem? yc_X_snaps, List.forall_mem_cons.mpr ⟨List.mem_of_getElem? yc_X_merging, List.forall_mem_cons.mpr ⟨List.mem_of_getElem? yc_X_merged, List.forall_mem_cons.mpr ⟨List.mem_of_getElem? yc_X_merges, List.forall_mem_cons.mpr ⟨List.mem_of_getElem? yc_X_patching, List.forall_mem_cons.mpr ⟨List.mem_of_getElem? yc_X_patches, List.forall_mem_cons.mpr ⟨List.mem_of_getElem? yc_X_mayColour, List.forall_mem_cons.mpr ⟨List.mem_of_getElem? yc_X_search, List.forall_mem_cons.mpr ⟨List.mem_of_getElem? yc_X_searchBy, List.forall_mem_cons.mpr ⟨List.mem_of_getElem? yc_X_colour, List.forall_mem_cons.mpr ⟨List.mem_of_getElem? yc_X_colours, fun _ h => absurd h List.not_mem_nil⟩⟩⟩⟩⟩⟩⟩⟩⟩⟩⟩⟩⟩⟩⟩⟩⟩⟩⟩⟩⟩⟩⟩⟩⟩⟩⟩⟩⟩⟩⟩⟩
theorem mz_cda_5 : mz_cdr (mz_all_5.take 32) := List.forall_mem_cons.mpr ⟨List.mem_of_getElem? yc_X_forward, List.forall_mem_cons.mpr ⟨List.mem_of_getElem? yc_X_forwardBy, List.forall_mem_cons.mpr ⟨List.mem_of_getElem? yc_X_hue, List.forall_mem_cons.mpr ⟨List.mem_of_getElem? yc_X_imageAt, List.forall_mem_cons.mpr ⟨List.mem_of_getElem? yc_X_image, List.forall_mem_cons.mpr ⟨List.mem_of_getElem? yc_X_back, List.forall_mem_cons.mpr ⟨List.mem_of_getElem? yc_X_undo, List.forall_mem_cons.mpr ⟨List.mem_of_getElem? yc_X_anew, List.forall_mem_cons.mpr ⟨List.mem_of_getElem? yc_Mo_in, List.forall_mem_cons.mpr ⟨List.mem_of_getElem? yc_Mo_has, List.forall_mem_cons.mpr ⟨List.mem_of_getElem? yc_Mo_bitsOf, List.forall_mem_cons.mpr ⟨List.mem_of_getElem? yc_Mo_init, List.forall_mem_cons.mpr ⟨List.mem_of_getElem? yc_Mo_feed, List.forall_mem_cons.mpr ⟨List.mem_of_getElem? yc_Mo_end, List.forall_mem_cons.mpr ⟨List.mem_of_getElem? yc_Mo_at, List.forall_mem_cons.mpr ⟨List.mem_of_getElem? yc_Mo_begins, List.forall_mem_cons.mpr ⟨List.mem_of_getElem? yc_Mo_straight, List.forall_mem_cons.mpr ⟨List.mem_of_getElem? yc_Mo_links, List.forall_mem_cons.mpr ⟨List.mem_of_getElem? yc_Mo_lengthOf, List.forall_mem_cons.mpr ⟨List.mem_of_getElem? yc_Mo_turns, List.forall_mem_cons.mpr ⟨List.mem_of_getElem? yc_Mo_snap, List.forall_mem_cons.mpr ⟨List.mem_of_getElem? yc_Mo_reach, List.forall_mem_cons.mpr ⟨List.mem_of_getElem? yc_Mo_along, List.forall_mem_cons.mpr ⟨List.mem_of_getElem? yc_Mo_read, List.forall_mem_cons.mpr ⟨List.mem_of_getElem? yc_Mo_set, List.forall_mem_cons.mpr ⟨List.mem_of_getElem? yc_Mo_rootOf, List.forall_mem_cons.mpr ⟨List.mem_of_getElem? yc_Mo_find, List.forall_mem_cons.mpr ⟨List.mem_of_getElem? yc_Mo_join, List.forall_mem_cons.mpr ⟨List.mem_of_getElem? yc_Mo_meetOf, List.forall_mem_cons.mpr ⟨List.mem_of_getElem? yc_Mo_isConflict, List.forall_mem_cons.mpr ⟨List.mem_of_getElem? yc_Mo_mergedOf, List.forall_mem_cons.mpr ⟨List.mem_of_getElem? yc_Mo_mergeMany, fun _ h => absurd h List.not_mem_nil⟩⟩⟩⟩⟩⟩⟩⟩⟩⟩⟩⟩⟩⟩⟩⟩⟩⟩⟩⟩⟩⟩⟩⟩⟩⟩⟩⟩⟩⟩⟩⟩
theorem mz_cda_6 : mz_cdr (mz_all_6.take 32) := List.forall_mem_cons.mpr ⟨List.mem_of_getElem? yc_Mo_merge, List.forall_mem_cons.mpr ⟨List.mem_of_getElem? yc_Mo_isPatched, List.forall_mem_cons.mpr ⟨List.mem_of_getElem? yc_Mo_patchMany, List.forall_mem_cons.mpr ⟨List.mem_of_getElem? yc_Mo_patch, List.forall_mem_cons.mpr ⟨List.mem_of_getElem? yc_Mo_deed, List.forall_mem_cons.mpr ⟨List.mem_of_getElem? yc_Mo_does, List.forall_mem_cons.mpr ⟨List.mem_of_getElem? yc_Mo_plays, List.forall_mem_cons.mpr ⟨List.mem_of_getElem? yc_Mo_plays2, List.forall_mem_cons.mpr ⟨List.mem_of_getElem? yc_Mo_isAt, List.forall_mem_cons.mpr ⟨List.mem_of_getElem? yc_Mo_next, List.forall_mem_cons.mpr ⟨List.mem_of_getElem? yc_Mo_faults, List.forall_mem_cons.mpr ⟨List.mem_of_getElem? yc_Mo_isWord, List.forall_mem_cons.mpr ⟨List.mem_of_getElem? yc_Mo_passes, List.forall_mem_cons.mpr ⟨List.mem_of_getElem? yc_Mo_number, List.forall_mem_cons.mpr ⟨List.mem_of_getElem? yc_Mo_needs, List.forall_mem_cons.mpr ⟨List.mem_of_getElem? yc_Mo_named, List.forall_mem_cons.mpr ⟨List.mem_of_getElem? yc_Mo_readsCell, List.forall_mem_cons.mpr ⟨List.mem_of_getElem? yc_Mo_isCell, List.forall_mem_cons.mpr ⟨List.mem_of_getElem? yc_Mo_readsStore, List.forall_mem_cons.mpr ⟨List.mem_of_getElem? yc_Mo_readsPair, List.forall_mem_cons.mpr ⟨List.mem_of_getElem? yc_Mo_kindHere, List.forall_mem_cons.mpr ⟨List.mem_of_getElem? yc_Mo_readsDeed, List.forall_mem_cons.mpr ⟨List.mem_of_getElem? yc_Mo_lays, List.forall_mem_cons.mpr ⟨List.mem_of_getElem? yc_Mo_store, List.forall_mem_cons.mpr ⟨List.mem_of_getElem? yc_Mo_fault, List.forall_mem_cons.mpr ⟨List.mem_of_getElem? yc_Mo_is, List.forall_mem_cons.mpr ⟨List.mem_of_getElem? yc_Mo_isVersion, List.forall_mem_cons.mpr ⟨List.mem_of_getElem? yc_Mo_count, List.forall_mem_cons.mpr ⟨List.mem_of_getElem? yc_Mo_cell, List.forall_mem_cons.mpr ⟨List.mem_of_getElem? yc_Mo_version, List.forall_mem_cons.mpr ⟨List.mem_of_getElem? yc_Mo_unlikeOf, List.forall_mem_cons.mpr ⟨List.mem_of_getElem? yc_Mo_areVersions, fun _ h => absurd h List.not_mem_nil⟩⟩⟩⟩⟩⟩⟩⟩⟩⟩⟩⟩⟩⟩⟩⟩⟩⟩⟩⟩⟩⟩⟩⟩⟩⟩⟩⟩⟩⟩⟩⟩
theorem mz_cda_7 : mz_cdr (mz_all_7.take 32) := List.forall_mem_cons.mpr ⟨List.mem_of_getElem? yc_Mo_unlike, List.forall_mem_cons.mpr ⟨List.mem_of_getElem? yc_Mo_first, List.forall_mem_cons.mpr ⟨List.mem_of_getElem? yc_Mo_backTo, List.forall_mem_cons.mpr ⟨List.mem_of_getElem? yc_Mo_meet, List.forall_mem_cons.mpr ⟨List.mem_of_getElem? yc_Mo_apart, List.forall_mem_cons.mpr ⟨List.mem_of_getElem? yc_Mo_root, List.forall_mem_cons.mpr ⟨List.mem_of_getElem? yc_Mo_roots, List.forall_mem_cons.mpr ⟨List.mem_of_getElem? yc_Mo_together, List.forall_mem_cons.mpr ⟨List.mem_of_getElem? yc_Mo_state, List.forall_mem_cons.mpr ⟨List.mem_of_getElem? yc_Mo_length, List.forall_mem_cons.mpr ⟨List.mem_of_getElem? yc_Mo_longest, List.forall_mem_cons.mpr ⟨List.mem_of_getElem? yc_Mo_direct, List.forall_mem_cons.mpr ⟨List.mem_of_getElem? yc_Mo_ledger, List.forall_mem_cons.mpr ⟨List.mem_of_getElem? yc_Mo_spent, List.forall_mem_cons.mpr ⟨List.mem_of_getElem? yc_Mo_dearest, List.forall_mem_cons.mpr ⟨List.mem_of_getElem? yc_Mo_cost, List.forall_mem_cons.mpr ⟨List.mem_of_getElem? yc_Mo_by, List.forall_mem_cons.mpr ⟨List.mem_of_getElem? yc_Mo_cutting, List.forall_mem_cons.mpr ⟨List.mem_of_getElem? yc_Mo_cut, List.forall_mem_cons.mpr ⟨List.mem_of_getElem? yc_Mo_without, List.forall_mem_cons.mpr ⟨List.mem_of_getElem? yc_Mo_acts, List.forall_mem_cons.mpr ⟨List.mem_of_getElem? yc_Mo_isFull, List.forall_mem_cons.mpr ⟨List.mem_of_getElem? yc_Mo_reads, List.forall_mem_cons.mpr ⟨List.mem_of_getElem? yc_Mo_sets, List.forall_mem_cons.mpr ⟨List.mem_of_getElem? yc_Mo_joins, List.forall_mem_cons.mpr ⟨List.mem_of_getElem? yc_Mo_finds, List.forall_mem_cons.mpr ⟨List.mem_of_getElem? yc_Mo_snaps, List.forall_mem_cons.mpr ⟨List.mem_of_getElem? yc_Mo_merges, List.forall_mem_cons.mpr ⟨List.mem_of_getElem? yc_Mo_areThree, List.forall_mem_cons.mpr ⟨List.mem_of_getElem? yc_Mo_patches, List.forall_mem_cons.mpr ⟨List.mem_of_getElem? yc_Mo_patching, List.forall_mem_cons.mpr ⟨List.mem_of_getElem? yc_Mo_merging, fun _ h => absurd h List.not_mem_nil⟩⟩⟩⟩⟩⟩⟩⟩⟩⟩⟩⟩⟩⟩⟩⟩⟩⟩⟩⟩⟩⟩⟩⟩⟩⟩⟩⟩⟩⟩⟩⟩
theorem mz_cda_8 : mz_cdr (mz_all_8.take 32) := List.forall_mem_cons.mpr ⟨List.mem_of_getElem? yc_Mo_merged, List.forall_mem_cons.mpr ⟨List.mem_of_getElem? yc_Mo_blame, List.forall_mem_cons.mpr ⟨List.mem_of_getElem? yc_Mo_often, List.forall_mem_cons.mpr ⟨List.mem_of_getElem? yc_Mo_isSet, List.forall_mem_cons.mpr ⟨List.mem_of_getElem? yc_Mo_keptOf, List.forall_mem_cons.mpr ⟨List.mem_of_getElem? yc_Mo_keeps, List.forall_mem_cons.mpr ⟨List.mem_of_getElem? yc_Mo_room, List.forall_mem_cons.mpr ⟨List.mem_of_getElem? yc_Mo_busiest, List.forall_mem_cons.mpr ⟨List.mem_of_getElem? yc_Mo_isOnWay, List.forall_mem_cons.mpr ⟨List.mem_of_getElem? yc_Mo_waysOf, List.forall_mem_cons.mpr ⟨List.mem_of_getElem? yc_Mo_ways, List.forall_mem_cons.mpr ⟨List.mem_of_getElem? yc_Mo_snapping, List.forall_mem_cons.mpr ⟨List.mem_of_getElem? yc_Mo_snap2, List.forall_mem_cons.mpr ⟨List.mem_of_getElem? yc_Mo_image, List.forall_mem_cons.mpr ⟨List.mem_of_getElem? yc_Mo_back, List.forall_mem_cons.mpr ⟨List.mem_of_getElem? yc_Mo_isNone, List.forall_mem_cons.mpr ⟨List.mem_of_getElem? yc_Mo_searches, List.forall_mem_cons.mpr ⟨List.mem_of_getElem? yc_Mo_goesOn, List.forall_mem_cons.mpr ⟨List.mem_of_getElem? yc_Mo_areColours, List.forall_mem_cons.mpr ⟨List.mem_of_getElem? yc_Mo_search, List.forall_mem_cons.mpr ⟨List.mem_of_getElem? yc_Mo_searchBy, List.forall_mem_cons.mpr ⟨List.mem_of_getElem? yc_Mo_colour, List.forall_mem_cons.mpr ⟨List.mem_of_getElem? yc_Mo_colours, List.forall_mem_cons.mpr ⟨List.mem_of_getElem? yc_Mo_isTaken, List.forall_mem_cons.mpr ⟨List.mem_of_getElem? yc_Mo_takes, List.forall_mem_cons.mpr ⟨List.mem_of_getElem? yc_Mo_setOr, List.forall_mem_cons.mpr ⟨List.mem_of_getElem? yc_Mo_lets, List.forall_mem_cons.mpr ⟨List.mem_of_getElem? yc_Mo_looksAhead, List.forall_mem_cons.mpr ⟨List.mem_of_getElem? yc_Mo_goesAhead, List.forall_mem_cons.mpr ⟨List.mem_of_getElem? yc_Mo_forward, List.forall_mem_cons.mpr ⟨List.mem_of_getElem? yc_Mo_forwardBy, List.forall_mem_cons.mpr ⟨List.mem_of_getElem? yc_Mo_hue, fun _ h => absurd h List.not_mem_nil⟩⟩⟩⟩⟩⟩⟩⟩⟩⟩⟩⟩⟩⟩⟩⟩⟩⟩⟩⟩⟩⟩⟩⟩⟩⟩⟩⟩⟩⟩⟩⟩
theorem mz_cda_9 : mz_cdr (mz_all_9.take 4) := List.forall_mem_cons.mpr ⟨List.mem_of_getElem? yc_Mo_undo, List.forall_mem_cons.mpr ⟨List.mem_of_getElem? yc_Mo_anew, List.forall_mem_cons.mpr ⟨List.mem_of_getElem? yc_In_numberOfTrailingZeros, List.forall_mem_cons.mpr ⟨List.mem_of_getElem? yc_In_bitCount, fun _ h => absurd h List.not_mem_nil⟩⟩⟩⟩
theorem mz_cda : ∀ y, y < 292 → (Cond.code (mz_yD y).1 (mz_yD y).2.1 (mz_yD y).2.2.1 (mz_yD y).2.2.2.1) ∈ lw_tbl := by
  have key : ∀ (l : List mz_Y) (k n : Nat) (d : mz_Y), mz_cdr (l.take n) → k < n → n ≤ l.length → (Cond.code (l.getD k d).1 (l.getD k d).2.1 (l.getD k d).2.2.1 (l.getD k d).2.2.2.1) ∈ lw_tbl := by
    intro l k n d hl hk hn
    have h1 : k < l.length := by omega
    have h2 : l.getD k d = l[k] := by rw [List.getD_eq_getElem?_getD, List.getElem?_eq_getElem h1]; rfl
    rw [h2]
    refine hl _ (List.mem_of_getElem? (i := k) ?_)
    rw [List.getElem?_take_of_lt hk, List.getElem?_eq_getElem h1]
  intro y hy
  unfold mz_yD
  split
  · exact key _ _ 32 _ mz_cda_0 (by omega) (by decide)
  · exact key _ _ 32 _ mz_cda_1 (by omega) (by decide)
  · exact key _ _ 32 _ mz_cda_2 (by omega) (by decide)
  · exact key _ _ 32 _ mz_cda_3 (by omega) (by decide)
  · exact key _ _ 32 _ mz_cda_4 (by omega) (by decide)
  · exact key _ _ 32 _ mz_cda_5 (by omega) (by decide)
  · exact key _ _ 32 _ mz_cda_6 (by omega) (by decide)
  · exact key _ _ 32 _ mz_cda_7 (by omega) (by decide)
  · exact key _ _ 32 _ mz_cda_8 (by omega) (by decide)
  · rename_i h0 h1 h2 h3 h4 h5 h6 h7 h8
    have g0 : ¬ y / 32 = 0 := h0
    have g1 : ¬ y / 32 = 1 := h1
    have g2 : ¬ y / 32 = 2 := h2
    have g3 : ¬ y / 32 = 3 := h3
    have g4 : ¬ y / 32 = 4 := h4
    have g5 : ¬ y / 32 = 5 := h5
    have g6 : ¬ y / 32 = 6 := h6
    have g7 : ¬ y / 32 = 7 := h7
    have g8 : ¬ y / 32 = 8 := h8
    exact key _ _ 4 _ mz_cda_9 (by omega) (by decide)

