theorem yk_Pa_init : mz_ck ym_Pa_init = true := by decide +kernel
theorem yk_Pa_begin : mz_ck ym_Pa_begin = true := by decide +kernel
theorem yk_Pa_answer : mz_ck ym_Pa_answer = true := by decide +kernel
theorem yk_Pa_foundAt : mz_ck ym_Pa_foundAt = true := by decide +kernel
theorem yk_Pa_put : mz_ck ym_Pa_put = true := by decide +kernel
theorem yk_Pa_backFrom : mz_ck ym_Pa_backFrom = true := by decide +kernel
theorem yk_Pa_seek : mz_ck ym_Pa_seek = true := by decide +kernel
theorem yk_Pa_openCell : mz_ck ym_Pa_openCell = true := by decide +kernel
theorem yk_Pa_paintNext : mz_ck ym_Pa_paintNext = true := by decide +kernel
theorem yk_Pa_isFree : mz_ck ym_Pa_isFree = true := by decide +kernel
theorem yk_Pa_seekAhead : mz_ck ym_Pa_seekAhead = true := by decide +kernel
theorem yk_Pa_fullRow : mz_ck ym_Pa_fullRow = true := by decide +kernel
theorem yk_Pa_takeCell : mz_ck ym_Pa_takeCell = true := by decide +kernel
theorem yk_Pa_paintAhead : mz_ck ym_Pa_paintAhead = true := by decide +kernel
theorem yk_Pa_strikeOut : mz_ck ym_Pa_strikeOut = true := by decide +kernel
theorem yk_Sh_init : mz_ck ym_Sh_init = true := by decide +kernel
theorem yk_Sh_forget : mz_ck ym_Sh_forget = true := by decide +kernel
theorem yk_Sh_begin : mz_ck ym_Sh_begin = true := by decide +kernel
theorem yk_Sh_become : mz_ck ym_Sh_become = true := by decide +kernel
theorem yk_Sh_has : mz_ck ym_Sh_has = true := by decide +kernel
theorem yk_Sh_hasCell : mz_ck ym_Sh_hasCell = true := by decide +kernel
theorem yk_Sh_numberIn : mz_ck ym_Sh_numberIn = true := by decide +kernel
theorem yk_Sh_withNumber : mz_ck ym_Sh_withNumber = true := by decide +kernel
theorem yk_Sh_rowOf : mz_ck ym_Sh_rowOf = true := by decide +kernel
theorem yk_Sh_numberAt : mz_ck ym_Sh_numberAt = true := by decide +kernel
theorem yk_Sh_unlikeCells : mz_ck ym_Sh_unlikeCells = true := by decide +kernel
theorem yk_Sh_firstLike : mz_ck ym_Sh_firstLike = true := by decide +kernel
theorem yk_Sh_makingOf : mz_ck ym_Sh_makingOf = true := by decide +kernel
theorem yk_Sh_parentOf : mz_ck ym_Sh_parentOf = true := by decide +kernel
theorem yk_Sh_depthOf : mz_ck ym_Sh_depthOf = true := by decide +kernel
theorem yk_Sh_meeting : mz_ck ym_Sh_meeting = true := by decide +kernel
theorem yk_Sh_lastSetter : mz_ck ym_Sh_lastSetter = true := by decide +kernel
theorem yk_Sh_timesSet : mz_ck ym_Sh_timesSet = true := by decide +kernel
theorem yk_Sh_rootOf : mz_ck ym_Sh_rootOf = true := by decide +kernel
theorem yk_Sh_areJoined : mz_ck ym_Sh_areJoined = true := by decide +kernel
theorem yk_Sh_rootBits : mz_ck ym_Sh_rootBits = true := by decide +kernel
theorem yk_Sh_cellsRootedAs : mz_ck ym_Sh_cellsRootedAs = true := by decide +kernel
theorem yk_Sh_isDirect : mz_ck ym_Sh_isDirect = true := by decide +kernel
theorem yk_Sh_linkOf : mz_ck ym_Sh_linkOf = true := by decide +kernel
theorem yk_Sh_wayFrom : mz_ck ym_Sh_wayFrom = true := by decide +kernel
theorem yk_Sh_longestWay : mz_ck ym_Sh_longestWay = true := by decide +kernel
theorem yk_Sh_directOnes : mz_ck ym_Sh_directOnes = true := by decide +kernel
theorem yk_Sh_allWays : mz_ck ym_Sh_allWays = true := by decide +kernel
theorem yk_Sh_allWaysIfSnapped : mz_ck ym_Sh_allWaysIfSnapped = true := by decide +kernel
theorem yk_Sh_withWays : mz_ck ym_Sh_withWays = true := by decide +kernel
theorem yk_Sh_wayBits : mz_ck ym_Sh_wayBits = true := by decide +kernel
theorem yk_Sh_numbersIn : mz_ck ym_Sh_numbersIn = true := by decide +kernel
theorem yk_Sh_mostPassed : mz_ck ym_Sh_mostPassed = true := by decide +kernel
theorem yk_Sh_waysThrough : mz_ck ym_Sh_waysThrough = true := by decide +kernel
theorem yk_Sh_isTooLong : mz_ck ym_Sh_isTooLong = true := by decide +kernel
theorem yk_Sh_readingCost : mz_ck ym_Sh_readingCost = true := by decide +kernel
theorem yk_Sh_linksBefore : mz_ck ym_Sh_linksBefore = true := by decide +kernel
theorem yk_Sh_readCell : mz_ck ym_Sh_readCell = true := by decide +kernel
theorem yk_Sh_reach : mz_ck ym_Sh_reach = true := by decide +kernel
theorem yk_Sh_giveRow : mz_ck ym_Sh_giveRow = true := by decide +kernel
theorem yk_Sh_turnWay : mz_ck ym_Sh_turnWay = true := by decide +kernel
theorem yk_Sh_setCell : mz_ck ym_Sh_setCell = true := by decide +kernel
theorem yk_Sh_snapRow : mz_ck ym_Sh_snapRow = true := by decide +kernel
theorem yk_Sh_findRoot : mz_ck ym_Sh_findRoot = true := by decide +kernel
theorem yk_Sh_joinRoots : mz_ck ym_Sh_joinRoots = true := by decide +kernel
theorem yk_Sh_inConflict : mz_ck ym_Sh_inConflict = true := by decide +kernel
theorem yk_Sh_mergedRow : mz_ck ym_Sh_mergedRow = true := by decide +kernel
theorem yk_Sh_conflicts : mz_ck ym_Sh_conflicts = true := by decide +kernel
theorem yk_Sh_patchedRow : mz_ck ym_Sh_patchedRow = true := by decide +kernel
theorem yk_Sh_layOn : mz_ck ym_Sh_layOn = true := by decide +kernel
theorem yk_Sh_carryOut : mz_ck ym_Sh_carryOut = true := by decide +kernel
theorem yk_St_init : mz_ck ym_St_init = true := by decide +kernel
theorem yk_St_forget : mz_ck ym_St_forget = true := by decide +kernel
theorem yk_St_become : mz_ck ym_St_become = true := by decide +kernel
theorem yk_St_acts : mz_ck ym_St_acts = true := by decide +kernel
theorem yk_St_hasDeed : mz_ck ym_St_hasDeed = true := by decide +kernel
theorem yk_St_makesNone : mz_ck ym_St_makesNone = true := by decide +kernel
theorem yk_St_partnersOf : mz_ck ym_St_partnersOf = true := by decide +kernel
theorem yk_St_arePaired : mz_ck ym_St_arePaired = true := by decide +kernel
theorem yk_St_pairUp : mz_ck ym_St_pairUp = true := by decide +kernel
theorem yk_St_ownNumbers : mz_ck ym_St_ownNumbers = true := by decide +kernel
theorem yk_St_tell : mz_ck ym_St_tell = true := by decide +kernel
theorem yk_St_perform : mz_ck ym_St_perform = true := by decide +kernel
theorem yk_St_goBackTo : mz_ck ym_St_goBackTo = true := by decide +kernel
theorem yk_St_stepsOn : mz_ck ym_St_stepsOn = true := by decide +kernel
theorem yk_St_dearestDeed : mz_ck ym_St_dearestDeed = true := by decide +kernel
theorem yk_Ta_init : mz_ck ym_Ta_init = true := by decide +kernel
theorem yk_Ta_put : mz_ck ym_Ta_put = true := by decide +kernel
theorem yk_Ta_begin : mz_ck ym_Ta_begin = true := by decide +kernel
theorem yk_Ta_byteAt : mz_ck ym_Ta_byteAt = true := by decide +kernel
theorem yk_Ta_isBlank : mz_ck ym_Ta_isBlank = true := by decide +kernel
theorem yk_Ta_isLetter : mz_ck ym_Ta_isLetter = true := by decide +kernel
theorem yk_Ta_isDigit : mz_ck ym_Ta_isDigit = true := by decide +kernel
theorem yk_Ta_takeToken : mz_ck ym_Ta_takeToken = true := by decide +kernel
theorem yk_Ta_takeLetters : mz_ck ym_Ta_takeLetters = true := by decide +kernel
theorem yk_Ta_takeDigits : mz_ck ym_Ta_takeDigits = true := by decide +kernel
theorem yk_Ta_isWord : mz_ck ym_Ta_isWord = true := by decide +kernel
theorem yk_Ta_refuse : mz_ck ym_Ta_refuse = true := by decide +kernel
theorem yk_Ta_takeNumber : mz_ck ym_Ta_takeNumber = true := by decide +kernel
theorem yk_Ta_takeWord : mz_ck ym_Ta_takeWord = true := by decide +kernel
theorem yk_Ta_takeSign : mz_ck ym_Ta_takeSign = true := by decide +kernel
theorem yk_Ta_takesLine : mz_ck ym_Ta_takesLine = true := by decide +kernel
theorem yk_Ta_wordKind : mz_ck ym_Ta_wordKind = true := by decide +kernel
theorem yk_Ta_isOneTooMany : mz_ck ym_Ta_isOneTooMany = true := by decide +kernel
theorem yk_Ta_takeNumbers : mz_ck ym_Ta_takeNumbers = true := by decide +kernel
theorem yk_Ta_takeStore : mz_ck ym_Ta_takeStore = true := by decide +kernel
theorem yk_Ta_takePair : mz_ck ym_Ta_takePair = true := by decide +kernel
theorem yk_Ta_takeDeed : mz_ck ym_Ta_takeDeed = true := by decide +kernel
theorem yk_X_init : mz_ck ym_X_init = true := by decide +kernel
theorem yk_X_feed : mz_ck ym_X_feed = true := by decide +kernel
theorem yk_X_end : mz_ck ym_X_end = true := by decide +kernel
theorem yk_X_store : mz_ck ym_X_store = true := by decide +kernel
theorem yk_X_fault : mz_ck ym_X_fault = true := by decide +kernel
theorem yk_X_count : mz_ck ym_X_count = true := by decide +kernel
theorem yk_X_isThere : mz_ck ym_X_isThere = true := by decide +kernel
theorem yk_X_hasVersion : mz_ck ym_X_hasVersion = true := by decide +kernel
theorem yk_X_hasVersions : mz_ck ym_X_hasVersions = true := by decide +kernel
theorem yk_X_hasSpot : mz_ck ym_X_hasSpot = true := by decide +kernel
theorem yk_X_cell : mz_ck ym_X_cell = true := by decide +kernel
theorem yk_X_version : mz_ck ym_X_version = true := by decide +kernel
theorem yk_X_unlike : mz_ck ym_X_unlike = true := by decide +kernel
theorem yk_X_first : mz_ck ym_X_first = true := by decide +kernel
theorem yk_X_meet : mz_ck ym_X_meet = true := by decide +kernel
theorem yk_X_apart : mz_ck ym_X_apart = true := by decide +kernel
theorem yk_X_root : mz_ck ym_X_root = true := by decide +kernel
theorem yk_X_roots : mz_ck ym_X_roots = true := by decide +kernel
theorem yk_X_together : mz_ck ym_X_together = true := by decide +kernel
theorem yk_X_blame : mz_ck ym_X_blame = true := by decide +kernel
theorem yk_X_often : mz_ck ym_X_often = true := by decide +kernel
theorem yk_X_state : mz_ck ym_X_state = true := by decide +kernel
theorem yk_X_length : mz_ck ym_X_length = true := by decide +kernel
theorem yk_X_longest : mz_ck ym_X_longest = true := by decide +kernel
theorem yk_X_direct : mz_ck ym_X_direct = true := by decide +kernel
theorem yk_X_ways : mz_ck ym_X_ways = true := by decide +kernel
theorem yk_X_snapping : mz_ck ym_X_snapping = true := by decide +kernel
theorem yk_X_snap : mz_ck ym_X_snap = true := by decide +kernel
theorem yk_X_busiest : mz_ck ym_X_busiest = true := by decide +kernel
theorem yk_X_hasAllOf : mz_ck ym_X_hasAllOf = true := by decide +kernel
theorem yk_X_keeps : mz_ck ym_X_keeps = true := by decide +kernel
theorem yk_X_room : mz_ck ym_X_room = true := by decide +kernel
theorem yk_X_ledger : mz_ck ym_X_ledger = true := by decide +kernel
theorem yk_X_spent : mz_ck ym_X_spent = true := by decide +kernel
theorem yk_X_dearest : mz_ck ym_X_dearest = true := by decide +kernel
theorem yk_X_cost : mz_ck ym_X_cost = true := by decide +kernel
theorem yk_X_by : mz_ck ym_X_by = true := by decide +kernel
theorem yk_X_cutting : mz_ck ym_X_cutting = true := by decide +kernel
theorem yk_X_cut : mz_ck ym_X_cut = true := by decide +kernel
theorem yk_X_without : mz_ck ym_X_without = true := by decide +kernel
theorem yk_X_hasActLeft : mz_ck ym_X_hasActLeft = true := by decide +kernel
theorem yk_X_hasRoomFor : mz_ck ym_X_hasRoomFor = true := by decide +kernel
theorem yk_X_reads : mz_ck ym_X_reads = true := by decide +kernel
theorem yk_X_sets : mz_ck ym_X_sets = true := by decide +kernel
theorem yk_X_joins : mz_ck ym_X_joins = true := by decide +kernel
theorem yk_X_finds : mz_ck ym_X_finds = true := by decide +kernel
theorem yk_X_snaps : mz_ck ym_X_snaps = true := by decide +kernel
theorem yk_X_merging : mz_ck ym_X_merging = true := by decide +kernel
theorem yk_X_merged : mz_ck ym_X_merged = true := by decide +kernel
theorem yk_X_merges : mz_ck ym_X_merges = true := by decide +kernel
theorem yk_X_patching : mz_ck ym_X_patching = true := by decide +kernel
theorem yk_X_patches : mz_ck ym_X_patches = true := by decide +kernel
theorem yk_X_mayColour : mz_ck ym_X_mayColour = true := by decide +kernel
theorem yk_X_search : mz_ck ym_X_search = true := by decide +kernel
theorem yk_X_searchBy : mz_ck ym_X_searchBy = true := by decide +kernel
theorem yk_X_colour : mz_ck ym_X_colour = true := by decide +kernel
theorem yk_X_colours : mz_ck ym_X_colours = true := by decide +kernel
theorem yk_X_forward : mz_ck ym_X_forward = true := by decide +kernel
theorem yk_X_forwardBy : mz_ck ym_X_forwardBy = true := by decide +kernel
theorem yk_X_hue : mz_ck ym_X_hue = true := by decide +kernel
theorem yk_X_imageAt : mz_ck ym_X_imageAt = true := by decide +kernel
theorem yk_X_image : mz_ck ym_X_image = true := by decide +kernel
theorem yk_X_back : mz_ck ym_X_back = true := by decide +kernel
theorem yk_X_undo : mz_ck ym_X_undo = true := by decide +kernel
theorem yk_X_anew : mz_ck ym_X_anew = true := by decide +kernel
theorem yk_Mo_in : mz_ck ym_Mo_in = true := by decide +kernel
theorem yk_Mo_has : mz_ck ym_Mo_has = true := by decide +kernel
theorem yk_Mo_bitsOf : mz_ck ym_Mo_bitsOf = true := by decide +kernel
theorem yk_Mo_init : mz_ck ym_Mo_init = true := by decide +kernel
theorem yk_Mo_feed : mz_ck ym_Mo_feed = true := by decide +kernel
theorem yk_Mo_end : mz_ck ym_Mo_end = true := by decide +kernel
theorem yk_Mo_at : mz_ck ym_Mo_at = true := by decide +kernel
theorem yk_Mo_begins : mz_ck ym_Mo_begins = true := by decide +kernel
theorem yk_Mo_straight : mz_ck ym_Mo_straight = true := by decide +kernel
theorem yk_Mo_links : mz_ck ym_Mo_links = true := by decide +kernel
theorem yk_Mo_lengthOf : mz_ck ym_Mo_lengthOf = true := by decide +kernel
theorem yk_Mo_turns : mz_ck ym_Mo_turns = true := by decide +kernel
theorem yk_Mo_snap : mz_ck ym_Mo_snap = true := by decide +kernel
theorem yk_Mo_reach : mz_ck ym_Mo_reach = true := by decide +kernel
theorem yk_Mo_along : mz_ck ym_Mo_along = true := by decide +kernel
theorem yk_Mo_read : mz_ck ym_Mo_read = true := by decide +kernel
theorem yk_Mo_set : mz_ck ym_Mo_set = true := by decide +kernel
theorem yk_Mo_rootOf : mz_ck ym_Mo_rootOf = true := by decide +kernel
theorem yk_Mo_find : mz_ck ym_Mo_find = true := by decide +kernel
theorem yk_Mo_join : mz_ck ym_Mo_join = true := by decide +kernel
theorem yk_Mo_meetOf : mz_ck ym_Mo_meetOf = true := by decide +kernel
theorem yk_Mo_isConflict : mz_ck ym_Mo_isConflict = true := by decide +kernel
theorem yk_Mo_mergedOf : mz_ck ym_Mo_mergedOf = true := by decide +kernel
theorem yk_Mo_mergeMany : mz_ck ym_Mo_mergeMany = true := by decide +kernel
theorem yk_Mo_merge : mz_ck ym_Mo_merge = true := by decide +kernel
theorem yk_Mo_isPatched : mz_ck ym_Mo_isPatched = true := by decide +kernel
theorem yk_Mo_patchMany : mz_ck ym_Mo_patchMany = true := by decide +kernel
theorem yk_Mo_patch : mz_ck ym_Mo_patch = true := by decide +kernel
theorem yk_Mo_deed : mz_ck ym_Mo_deed = true := by decide +kernel
theorem yk_Mo_does : mz_ck ym_Mo_does = true := by decide +kernel
theorem yk_Mo_plays : mz_ck ym_Mo_plays = true := by decide +kernel
theorem yk_Mo_plays2 : mz_ck ym_Mo_plays2 = true := by decide +kernel
theorem yk_Mo_isAt : mz_ck ym_Mo_isAt = true := by decide +kernel
theorem yk_Mo_next : mz_ck ym_Mo_next = true := by decide +kernel
theorem yk_Mo_faults : mz_ck ym_Mo_faults = true := by decide +kernel
theorem yk_Mo_isWord : mz_ck ym_Mo_isWord = true := by decide +kernel
theorem yk_Mo_passes : mz_ck ym_Mo_passes = true := by decide +kernel
theorem yk_Mo_number : mz_ck ym_Mo_number = true := by decide +kernel
theorem yk_Mo_needs : mz_ck ym_Mo_needs = true := by decide +kernel
theorem yk_Mo_named : mz_ck ym_Mo_named = true := by decide +kernel
theorem yk_Mo_readsCell : mz_ck ym_Mo_readsCell = true := by decide +kernel
theorem yk_Mo_isCell : mz_ck ym_Mo_isCell = true := by decide +kernel
theorem yk_Mo_readsStore : mz_ck ym_Mo_readsStore = true := by decide +kernel
theorem yk_Mo_readsPair : mz_ck ym_Mo_readsPair = true := by decide +kernel
theorem yk_Mo_kindHere : mz_ck ym_Mo_kindHere = true := by decide +kernel
theorem yk_Mo_readsDeed : mz_ck ym_Mo_readsDeed = true := by decide +kernel
theorem yk_Mo_lays : mz_ck ym_Mo_lays = true := by decide +kernel
theorem yk_Mo_store : mz_ck ym_Mo_store = true := by decide +kernel
theorem yk_Mo_fault : mz_ck ym_Mo_fault = true := by decide +kernel
theorem yk_Mo_is : mz_ck ym_Mo_is = true := by decide +kernel
theorem yk_Mo_isVersion : mz_ck ym_Mo_isVersion = true := by decide +kernel
theorem yk_Mo_count : mz_ck ym_Mo_count = true := by decide +kernel
theorem yk_Mo_cell : mz_ck ym_Mo_cell = true := by decide +kernel
theorem yk_Mo_version : mz_ck ym_Mo_version = true := by decide +kernel
theorem yk_Mo_unlikeOf : mz_ck ym_Mo_unlikeOf = true := by decide +kernel
theorem yk_Mo_areVersions : mz_ck ym_Mo_areVersions = true := by decide +kernel
theorem yk_Mo_unlike : mz_ck ym_Mo_unlike = true := by decide +kernel
theorem yk_Mo_first : mz_ck ym_Mo_first = true := by decide +kernel
theorem yk_Mo_backTo : mz_ck ym_Mo_backTo = true := by decide +kernel
theorem yk_Mo_meet : mz_ck ym_Mo_meet = true := by decide +kernel
theorem yk_Mo_apart : mz_ck ym_Mo_apart = true := by decide +kernel
theorem yk_Mo_root : mz_ck ym_Mo_root = true := by decide +kernel
theorem yk_Mo_roots : mz_ck ym_Mo_roots = true := by decide +kernel
theorem yk_Mo_together : mz_ck ym_Mo_together = true := by decide +kernel
theorem yk_Mo_state : mz_ck ym_Mo_state = true := by decide +kernel
theorem yk_Mo_length : mz_ck ym_Mo_length = true := by decide +kernel
theorem yk_Mo_longest : mz_ck ym_Mo_longest = true := by decide +kernel
theorem yk_Mo_direct : mz_ck ym_Mo_direct = true := by decide +kernel
theorem yk_Mo_ledger : mz_ck ym_Mo_ledger = true := by decide +kernel
theorem yk_Mo_spent : mz_ck ym_Mo_spent = true := by decide +kernel
theorem yk_Mo_dearest : mz_ck ym_Mo_dearest = true := by decide +kernel
theorem yk_Mo_cost : mz_ck ym_Mo_cost = true := by decide +kernel
theorem yk_Mo_by : mz_ck ym_Mo_by = true := by decide +kernel
theorem yk_Mo_cutting : mz_ck ym_Mo_cutting = true := by decide +kernel
theorem yk_Mo_cut : mz_ck ym_Mo_cut = true := by decide +kernel
theorem yk_Mo_without : mz_ck ym_Mo_without = true := by decide +kernel
theorem yk_Mo_acts : mz_ck ym_Mo_acts = true := by decide +kernel
theorem yk_Mo_isFull : mz_ck ym_Mo_isFull = true := by decide +kernel
theorem yk_Mo_reads : mz_ck ym_Mo_reads = true := by decide +kernel
theorem yk_Mo_sets : mz_ck ym_Mo_sets = true := by decide +kernel
theorem yk_Mo_joins : mz_ck ym_Mo_joins = true := by decide +kernel
theorem yk_Mo_finds : mz_ck ym_Mo_finds = true := by decide +kernel
theorem yk_Mo_snaps : mz_ck ym_Mo_snaps = true := by decide +kernel
theorem yk_Mo_merges : mz_ck ym_Mo_merges = true := by decide +kernel
theorem yk_Mo_areThree : mz_ck ym_Mo_areThree = true := by decide +kernel
theorem yk_Mo_patches : mz_ck ym_Mo_patches = true := by decide +kernel
theorem yk_Mo_patching : mz_ck ym_Mo_patching = true := by decide +kernel
theorem yk_Mo_merging : mz_ck ym_Mo_merging = true := by decide +kernel
theorem yk_Mo_merged : mz_ck ym_Mo_merged = true := by decide +kernel
theorem yk_Mo_blame : mz_ck ym_Mo_blame = true := by decide +kernel
theorem yk_Mo_often : mz_ck ym_Mo_often = true := by decide +kernel
theorem yk_Mo_isSet : mz_ck ym_Mo_isSet = true := by decide +kernel
theorem yk_Mo_keptOf : mz_ck ym_Mo_keptOf = true := by decide +kernel
theorem yk_Mo_keeps : mz_ck ym_Mo_keeps = true := by decide +kernel
theorem yk_Mo_room : mz_ck ym_Mo_room = true := by decide +kernel
theorem yk_Mo_busiest : mz_ck ym_Mo_busiest = true := by decide +kernel
theorem yk_Mo_isOnWay : mz_ck ym_Mo_isOnWay = true := by decide +kernel
theorem yk_Mo_waysOf : mz_ck ym_Mo_waysOf = true := by decide +kernel
theorem yk_Mo_ways : mz_ck ym_Mo_ways = true := by decide +kernel
theorem yk_Mo_snapping : mz_ck ym_Mo_snapping = true := by decide +kernel
theorem yk_Mo_snap2 : mz_ck ym_Mo_snap2 = true := by decide +kernel
theorem yk_Mo_image : mz_ck ym_Mo_image = true := by decide +kernel
theorem yk_Mo_back : mz_ck ym_Mo_back = true := by decide +kernel
theorem yk_Mo_isNone : mz_ck ym_Mo_isNone = true := by decide +kernel
theorem yk_Mo_searches : mz_ck ym_Mo_searches = true := by decide +kernel
theorem yk_Mo_goesOn : mz_ck ym_Mo_goesOn = true := by decide +kernel
theorem yk_Mo_areColours : mz_ck ym_Mo_areColours = true := by decide +kernel
theorem yk_Mo_search : mz_ck ym_Mo_search = true := by decide +kernel
theorem yk_Mo_searchBy : mz_ck ym_Mo_searchBy = true := by decide +kernel
theorem yk_Mo_colour : mz_ck ym_Mo_colour = true := by decide +kernel
theorem yk_Mo_colours : mz_ck ym_Mo_colours = true := by decide +kernel
theorem yk_Mo_isTaken : mz_ck ym_Mo_isTaken = true := by decide +kernel
theorem yk_Mo_takes : mz_ck ym_Mo_takes = true := by decide +kernel
theorem yk_Mo_setOr : mz_ck ym_Mo_setOr = true := by decide +kernel
theorem yk_Mo_lets : mz_ck ym_Mo_lets = true := by decide +kernel
theorem yk_Mo_looksAhead : mz_ck ym_Mo_looksAhead = true := by decide +kernel
theorem yk_Mo_goesAhead : mz_ck ym_Mo_goesAhead = true := by decide +kernel
theorem yk_Mo_forward : mz_ck ym_Mo_forward = true := by decide +kernel
theorem yk_Mo_forwardBy : mz_ck ym_Mo_forwardBy = true := by decide +kernel
theorem yk_Mo_hue : mz_ck ym_Mo_hue = true := by decide +kernel
theorem yk_Mo_undo : mz_ck ym_Mo_undo = true := by decide +kernel
theorem yk_Mo_anew : mz_ck ym_Mo_anew = true := by decide +kernel
theorem yk_In_numberOfTrailingZeros : mz_ck ym_In_numberOfTrailingZeros = true := by decide +kernel
theorem yk_In_bitCount : mz_ck ym_In_bitCount = true := by decide +kernel
theorem yk_Ma_max : mz_ck ym_Ma_max = true := by decide +kernel
theorem yk_Ma_min : mz_ck ym_Ma_min = true := by decide +kernel
def mz_cke (Y : mz_Y) (e : mz_En) : Bool := decide (decode Y.2.1 e.1 = .ok (e.2.1, e.2.2.1)) && mz_ln0 e.2.1 e.2.2.1 && mz_ck2 Y e.1 e.2.1 e.2.2.2
def mz_ckr (l : List mz_Y) : Prop := ∀ Y ∈ l, mz_ck Y = true
theorem mz_cka_0 : mz_ckr (mz_all_0.take 32) := List.forall_mem_cons.mpr ⟨yk_Pa_init, List.forall_mem_cons.mpr ⟨yk_Pa_begin, List.forall_mem_cons.mpr ⟨yk_Pa_answer, List.forall_mem_cons.mpr ⟨yk_Pa_foundAt, List.forall_mem_cons.mpr ⟨yk_Pa_put, List.forall_mem_cons.mpr ⟨yk_Pa_backFrom, List.forall_mem_cons.mpr ⟨yk_Pa_seek, List.forall_mem_cons.mpr ⟨yk_Pa_openCell, List.forall_mem_cons.mpr ⟨yk_Pa_paintNext, List.forall_mem_cons.mpr ⟨yk_Pa_isFree, List.forall_mem_cons.mpr ⟨yk_Pa_seekAhead, List.forall_mem_cons.mpr ⟨yk_Pa_fullRow, List.forall_mem_cons.mpr ⟨yk_Pa_takeCell, List.forall_mem_cons.mpr ⟨yk_Pa_paintAhead, List.forall_mem_cons.mpr ⟨yk_Pa_strikeOut, List.forall_mem_cons.mpr ⟨yk_Sh_init, List.forall_mem_cons.mpr ⟨yk_Sh_forget, List.forall_mem_cons.mpr ⟨yk_Sh_begin, List.forall_mem_cons.mpr ⟨yk_Sh_become, List.forall_mem_cons.mpr ⟨yk_Sh_has, List.forall_mem_cons.mpr ⟨yk_Sh_hasCell, List.forall_mem_cons.mpr ⟨yk_Sh_numberIn, List.forall_mem_cons.mpr ⟨yk_Sh_withNumber, List.forall_mem_cons.mpr ⟨yk_Sh_rowOf, List.forall_mem_cons.mpr ⟨yk_Sh_numberAt, List.forall_mem_cons.mpr ⟨yk_Sh_unlikeCells, List.forall_mem_cons.mpr ⟨yk_Sh_firstLike, List.forall_mem_cons.mpr ⟨yk_Sh_makingOf, List.forall_mem_cons.mpr ⟨yk_Sh_parentOf, List.forall_mem_cons.mpr ⟨yk_Sh_depthOf, List.forall_mem_cons.mpr ⟨yk_Sh_meeting, List.forall_mem_cons.mpr ⟨yk_Sh_lastSetter, fun _ h => absurd h List.not_mem_nil⟩⟩⟩⟩⟩⟩⟩⟩⟩⟩⟩⟩⟩⟩⟩⟩⟩⟩⟩⟩⟩⟩⟩⟩⟩⟩⟩⟩⟩⟩⟩⟩
theorem mz_cka_1 : mz_ckr (mz_all_1.take 32) := List.forall_mem_cons.mpr ⟨yk_Sh_timesSet, List.forall_mem_cons.mpr ⟨yk_Sh_rootOf, List.forall_mem_cons.mpr ⟨yk_Sh_areJoined, List.forall_mem_cons.mpr ⟨yk_Sh_rootBits, List.forall_mem_cons.mpr ⟨yk_Sh_cellsRootedAs, List.forall_mem_cons.mpr ⟨yk_Sh_isDirect, List.forall_mem_cons.mpr ⟨yk_Sh_linkOf, List.forall_mem_cons.mpr ⟨yk_Sh_wayFrom, List.forall_mem_cons.mpr ⟨yk_Sh_longestWay, List.forall_mem_cons.mpr ⟨yk_Sh_directOnes, List.forall_mem_cons.mpr ⟨yk_Sh_allWays, List.forall_mem_cons.mpr ⟨yk_Sh_allWaysIfSnapped, List.forall_mem_cons.mpr ⟨yk_Sh_withWays, List.forall_mem_cons.mpr ⟨yk_Sh_wayBits, List.forall_mem_cons.mpr ⟨yk_Sh_numbersIn, List.forall_mem_cons.mpr ⟨yk_Sh_mostPassed, List.forall_mem_cons.mpr ⟨yk_Sh_waysThrough, List.forall_mem_cons.mpr ⟨yk_Sh_isTooLong, List.forall_mem_cons.mpr ⟨yk_Sh_readingCost, List.forall_mem_cons.mpr ⟨yk_Sh_linksBefore, List.forall_mem_cons.mpr ⟨yk_Sh_readCell, List.forall_mem_cons.mpr ⟨yk_Sh_reach, List.forall_mem_cons.mpr ⟨yk_Sh_giveRow, List.forall_mem_cons.mpr ⟨yk_Sh_turnWay, List.forall_mem_cons.mpr ⟨yk_Sh_setCell, List.forall_mem_cons.mpr ⟨yk_Sh_snapRow, List.forall_mem_cons.mpr ⟨yk_Sh_findRoot, List.forall_mem_cons.mpr ⟨yk_Sh_joinRoots, List.forall_mem_cons.mpr ⟨yk_Sh_inConflict, List.forall_mem_cons.mpr ⟨yk_Sh_mergedRow, List.forall_mem_cons.mpr ⟨yk_Sh_conflicts, List.forall_mem_cons.mpr ⟨yk_Sh_patchedRow, fun _ h => absurd h List.not_mem_nil⟩⟩⟩⟩⟩⟩⟩⟩⟩⟩⟩⟩⟩⟩⟩⟩⟩⟩⟩⟩⟩⟩⟩⟩⟩⟩⟩⟩⟩⟩⟩⟩
theorem mz_cka_2 : mz_ckr (mz_all_2.take 32) := List.forall_mem_cons.mpr ⟨yk_Sh_layOn, List.forall_mem_cons.mpr ⟨yk_Sh_carryOut, List.forall_mem_cons.mpr ⟨yk_St_init, List.forall_mem_cons.mpr ⟨yk_St_forget, List.forall_mem_cons.mpr ⟨yk_St_become, List.forall_mem_cons.mpr ⟨yk_St_acts, List.forall_mem_cons.mpr ⟨yk_St_hasDeed, List.forall_mem_cons.mpr ⟨yk_St_makesNone, List.forall_mem_cons.mpr ⟨yk_St_partnersOf, List.forall_mem_cons.mpr ⟨yk_St_arePaired, List.forall_mem_cons.mpr ⟨yk_St_pairUp, List.forall_mem_cons.mpr ⟨yk_St_ownNumbers, List.forall_mem_cons.mpr ⟨yk_St_tell, List.forall_mem_cons.mpr ⟨yk_St_perform, List.forall_mem_cons.mpr ⟨yk_St_goBackTo, List.forall_mem_cons.mpr ⟨yk_St_stepsOn, List.forall_mem_cons.mpr ⟨yk_St_dearestDeed, List.forall_mem_cons.mpr ⟨yk_Ta_init, List.forall_mem_cons.mpr ⟨yk_Ta_put, List.forall_mem_cons.mpr ⟨yk_Ta_begin, List.forall_mem_cons.mpr ⟨yk_Ta_byteAt, List.forall_mem_cons.mpr ⟨yk_Ta_isBlank, List.forall_mem_cons.mpr ⟨yk_Ta_isLetter, List.forall_mem_cons.mpr ⟨yk_Ta_isDigit, List.forall_mem_cons.mpr ⟨yk_Ta_takeToken, List.forall_mem_cons.mpr ⟨yk_Ta_takeLetters, List.forall_mem_cons.mpr ⟨yk_Ta_takeDigits, List.forall_mem_cons.mpr ⟨yk_Ta_isWord, List.forall_mem_cons.mpr ⟨yk_Ta_refuse, List.forall_mem_cons.mpr ⟨yk_Ta_takeNumber, List.forall_mem_cons.mpr ⟨yk_Ta_takeWord, List.forall_mem_cons.mpr ⟨yk_Ta_takeSign, fun _ h => absurd h List.not_mem_nil⟩⟩⟩⟩⟩⟩⟩⟩⟩⟩⟩⟩⟩⟩⟩⟩⟩⟩⟩⟩⟩⟩⟩⟩⟩⟩⟩⟩⟩⟩⟩⟩
theorem mz_cka_3 : mz_ckr (mz_all_3.take 32) := List.forall_mem_cons.mpr ⟨yk_Ta_takesLine, List.forall_mem_cons.mpr ⟨yk_Ta_wordKind, List.forall_mem_cons.mpr ⟨yk_Ta_isOneTooMany, List.forall_mem_cons.mpr ⟨yk_Ta_takeNumbers, List.forall_mem_cons.mpr ⟨yk_Ta_takeStore, List.forall_mem_cons.mpr ⟨yk_Ta_takePair, List.forall_mem_cons.mpr ⟨yk_Ta_takeDeed, List.forall_mem_cons.mpr ⟨yk_X_init, List.forall_mem_cons.mpr ⟨yk_X_feed, List.forall_mem_cons.mpr ⟨yk_X_end, List.forall_mem_cons.mpr ⟨yk_X_store, List.forall_mem_cons.mpr ⟨yk_X_fault, List.forall_mem_cons.mpr ⟨yk_X_count, List.forall_mem_cons.mpr ⟨yk_X_isThere, List.forall_mem_cons.mpr ⟨yk_X_hasVersion, List.forall_mem_cons.mpr ⟨yk_X_hasVersions, List.forall_mem_cons.mpr ⟨yk_X_hasSpot, List.forall_mem_cons.mpr ⟨yk_X_cell, List.forall_mem_cons.mpr ⟨yk_X_version, List.forall_mem_cons.mpr ⟨yk_X_unlike, List.forall_mem_cons.mpr ⟨yk_X_first, List.forall_mem_cons.mpr ⟨yk_X_meet, List.forall_mem_cons.mpr ⟨yk_X_apart, List.forall_mem_cons.mpr ⟨yk_X_root, List.forall_mem_cons.mpr ⟨yk_X_roots, List.forall_mem_cons.mpr ⟨yk_X_together, List.forall_mem_cons.mpr ⟨yk_X_blame, List.forall_mem_cons.mpr ⟨yk_X_often, List.forall_mem_cons.mpr ⟨yk_X_state, List.forall_mem_cons.mpr ⟨yk_X_length, List.forall_mem_cons.mpr ⟨yk_X_longest, List.forall_mem_cons.mpr ⟨yk_X_direct, fun _ h => absurd h List.not_mem_nil⟩⟩⟩⟩⟩⟩⟩⟩⟩⟩⟩⟩⟩⟩⟩⟩⟩⟩⟩⟩⟩⟩⟩⟩⟩⟩⟩⟩⟩⟩⟩⟩
theorem mz_cka_4 : mz_ckr (mz_all_4.take 32) := List.forall_mem_cons.mpr ⟨yk_X_ways, List.forall_mem_cons.mpr ⟨yk_X_snapping, List.forall_mem_cons.mpr ⟨yk_X_snap, List.forall_mem_cons.mpr ⟨yk_X_busiest, List.forall_mem_cons.mpr ⟨yk_X_hasAllOf, List.forall_mem_cons.mpr ⟨yk_X_keeps, List.forall_mem_cons.mpr ⟨yk_X_room, List.forall_mem_cons.mpr ⟨yk_X_ledger, List.forall_mem_cons.mpr ⟨yk_X_spent, List.forall_mem_cons.mpr ⟨yk_X_dearest, List.forall_mem_cons.mpr ⟨yk_X_cost, List.forall_mem_cons.mpr ⟨yk_X_by, List.forall_mem_cons.mpr ⟨yk_X_cutting, List.forall_mem_cons.mpr ⟨yk_X_cut, List.forall_mem_cons.mpr ⟨yk_X_without, List.forall_mem_cons.mpr ⟨yk_X_hasActLeft, List.forall_mem_cons.mpr ⟨yk_X_hasRoomFor, List.forall_mem_cons.mpr ⟨yk_X_reads, List.forall_mem_cons.mpr ⟨yk_X_sets, List.forall_mem_cons.mpr ⟨yk_X_joins, List.forall_mem_cons.mpr ⟨yk_X_finds, List.forall_mem_cons.mpr ⟨yk_X_snaps, List.forall_mem_cons.mpr ⟨yk_X_merging, List.forall_mem_cons.mpr ⟨yk_X_merged, List.forall_mem_cons.mpr ⟨yk_X_merges, List.forall_mem_cons.mpr ⟨yk_X_patching, List.forall_mem_cons.mpr ⟨yk_X_patches, List.forall_mem_cons.mpr ⟨yk_X_mayColour, List.forall_mem_cons.mpr ⟨yk_X_search, List.forall_mem_cons.mpr ⟨yk_X_searchBy, List.forall_mem_cons.mpr ⟨yk_X_colour, List.forall_mem_cons.mpr ⟨yk_X_colours, fun _ h => absurd h List.not_mem_nil⟩⟩⟩⟩⟩⟩⟩⟩⟩⟩⟩⟩⟩⟩⟩⟩⟩⟩⟩⟩⟩⟩⟩⟩⟩⟩⟩⟩⟩⟩⟩⟩
theorem mz_cka_5 : mz_ckr (mz_all_5.take 32) := List.forall_mem_cons.mpr ⟨yk_X_forward, List.forall_mem_cons.mpr ⟨yk_X_forwardBy, List.forall_mem_cons.mpr ⟨yk_X_hue, List.forall_mem_cons.mpr ⟨yk_X_imageAt, List.forall_mem_cons.mpr ⟨yk_X_image, List.forall_mem_cons.mpr ⟨yk_X_back, List.forall_mem_cons.mpr ⟨yk_X_undo, List.forall_mem_cons.mpr ⟨yk_X_anew, List.forall_mem_cons.mpr ⟨yk_Mo_in, List.forall_mem_cons.mpr ⟨yk_Mo_has, List.forall_mem_cons.mpr ⟨yk_Mo_bitsOf, List.forall_mem_cons.mpr ⟨yk_Mo_init, List.forall_mem_cons.mpr ⟨yk_Mo_feed, List.forall_mem_cons.mpr ⟨yk_Mo_end, List.forall_mem_cons.mpr ⟨yk_Mo_at, List.forall_mem_cons.mpr ⟨yk_Mo_begins, List.forall_mem_cons.mpr ⟨yk_Mo_straight, List.forall_mem_cons.mpr ⟨yk_Mo_links, List.forall_mem_cons.mpr ⟨yk_Mo_lengthOf, List.forall_mem_cons.mpr ⟨yk_Mo_turns, List.forall_mem_cons.mpr ⟨yk_Mo_snap, List.forall_mem_cons.mpr ⟨yk_Mo_reach, List.forall_mem_cons.mpr ⟨yk_Mo_along, List.forall_mem_cons.mpr ⟨yk_Mo_read, List.forall_mem_cons.mpr ⟨yk_Mo_set, List.forall_mem_cons.mpr ⟨yk_Mo_rootOf, List.forall_mem_cons.mpr ⟨yk_Mo_find, List.forall_mem_cons.mpr ⟨yk_Mo_join, List.forall_mem_cons.mpr ⟨yk_Mo_meetOf, List.forall_mem_cons.mpr ⟨yk_Mo_isConflict, List.forall_mem_cons.mpr ⟨yk_Mo_mergedOf, List.forall_mem_cons.mpr ⟨yk_Mo_mergeMany, fun _ h => absurd h List.not_mem_nil⟩⟩⟩⟩⟩⟩⟩⟩⟩⟩⟩⟩⟩⟩⟩⟩⟩⟩⟩⟩⟩⟩⟩⟩⟩⟩⟩⟩⟩⟩⟩⟩
theorem mz_cka_6 : mz_ckr (mz_all_6.take 32) := List.forall_mem_cons.mpr ⟨yk_Mo_merge, List.forall_mem_cons.mpr ⟨yk_Mo_isPatched, List.forall_mem_cons.mpr ⟨yk_Mo_patchMany, List.forall_mem_cons.mpr ⟨yk_Mo_patch, List.forall_mem_cons.mpr ⟨yk_Mo_deed, List.forall_mem_cons.mpr ⟨yk_Mo_does, List.forall_mem_cons.mpr ⟨yk_Mo_plays, List.forall_mem_cons.mpr ⟨yk_Mo_plays2, List.forall_mem_cons.mpr ⟨yk_Mo_isAt, List.forall_mem_cons.mpr ⟨yk_Mo_next, List.forall_mem_cons.mpr ⟨yk_Mo_faults, List.forall_mem_cons.mpr ⟨yk_Mo_isWord, List.forall_mem_cons.mpr ⟨yk_Mo_passes, List.forall_mem_cons.mpr ⟨yk_Mo_number, List.forall_mem_cons.mpr ⟨yk_Mo_needs, List.forall_mem_cons.mpr ⟨yk_Mo_named, List.forall_mem_cons.mpr ⟨yk_Mo_readsCell, List.forall_mem_cons.mpr ⟨yk_Mo_isCell, List.forall_mem_cons.mpr ⟨yk_Mo_readsStore, List.forall_mem_cons.mpr ⟨yk_Mo_readsPair, List.forall_mem_cons.mpr ⟨yk_Mo_kindHere, List.forall_mem_cons.mpr ⟨yk_Mo_readsDeed, List.forall_mem_cons.mpr ⟨yk_Mo_lays, List.forall_mem_cons.mpr ⟨yk_Mo_store, List.forall_mem_cons.mpr ⟨yk_Mo_fault, List.forall_mem_cons.mpr ⟨yk_Mo_is, List.forall_mem_cons.mpr ⟨yk_Mo_isVersion, List.forall_mem_cons.mpr ⟨yk_Mo_count, List.forall_mem_cons.mpr ⟨yk_Mo_cell, List.forall_mem_cons.mpr ⟨yk_Mo_version, List.forall_mem_cons.mpr ⟨yk_Mo_unlikeOf, List.forall_mem_cons.mpr ⟨yk_Mo_areVersions, fun _ h => absurd h List.not_mem_nil⟩⟩⟩⟩⟩⟩⟩⟩⟩⟩⟩⟩⟩⟩⟩⟩⟩⟩⟩⟩⟩⟩⟩⟩⟩⟩⟩⟩⟩⟩⟩⟩
theorem mz_cka_7 : mz_ckr (mz_all_7.take 32) := List.forall_mem_cons.mpr ⟨yk_Mo_unlike, List.forall_mem_cons.mpr ⟨yk_Mo_first, List.forall_mem_cons.mpr ⟨yk_Mo_backTo, List.forall_mem_cons.mpr ⟨yk_Mo_meet, List.forall_mem_cons.mpr ⟨yk_Mo_apart, List.forall_mem_cons.mpr ⟨yk_Mo_root, List.forall_mem_cons.mpr ⟨yk_Mo_roots, List.forall_mem_cons.mpr ⟨yk_Mo_together, List.forall_mem_cons.mpr ⟨yk_Mo_state, List.forall_mem_cons.mpr ⟨yk_Mo_length, List.forall_mem_cons.mpr ⟨yk_Mo_longest, List.forall_mem_cons.mpr ⟨yk_Mo_direct, List.forall_mem_cons.mpr ⟨yk_Mo_ledger, List.forall_mem_cons.mpr ⟨yk_Mo_spent, List.forall_mem_cons.mpr ⟨yk_Mo_dearest, List.forall_mem_cons.mpr ⟨yk_Mo_cost, List.forall_mem_cons.mpr ⟨yk_Mo_by, List.forall_mem_cons.mpr ⟨yk_Mo_cutting, List.forall_mem_cons.mpr ⟨yk_Mo_cut, List.forall_mem_cons.mpr ⟨yk_Mo_without, List.forall_mem_cons.mpr ⟨yk_Mo_acts, List.forall_mem_cons.mpr ⟨yk_Mo_isFull, List.forall_mem_cons.mpr ⟨yk_Mo_reads, List.forall_mem_cons.mpr ⟨yk_Mo_sets, List.forall_mem_cons.mpr ⟨yk_Mo_joins, List.forall_mem_cons.mpr ⟨yk_Mo_finds, List.forall_mem_cons.mpr ⟨yk_Mo_snaps, List.forall_mem_cons.mpr ⟨yk_Mo_merges, List.forall_mem_cons.mpr ⟨yk_Mo_areThree, List.forall_mem_cons.mpr ⟨yk_Mo_patches, List.forall_mem_cons.mpr ⟨yk_Mo_patching, List.forall_mem_cons.mpr ⟨yk_Mo_merging, fun _ h => absurd h List.not_mem_nil⟩⟩⟩⟩⟩⟩⟩⟩⟩⟩⟩⟩⟩⟩⟩⟩⟩⟩⟩⟩⟩⟩⟩⟩⟩⟩⟩⟩⟩⟩⟩⟩
theorem mz_cka_8 : mz_ckr (mz_all_8.take 32) := List.forall_mem_cons.mpr ⟨yk_Mo_merged, List.forall_mem_cons.mpr ⟨yk_Mo_blame, List.forall_mem_cons.mpr ⟨yk_Mo_often, List.forall_mem_cons.mpr ⟨yk_Mo_isSet, List.forall_mem_cons.mpr ⟨yk_Mo_keptOf, List.forall_mem_cons.mpr ⟨yk_Mo_keeps, List.forall_mem_cons.mpr ⟨yk_Mo_room, List.forall_mem_cons.mpr ⟨yk_Mo_busiest, List.forall_mem_cons.mpr ⟨yk_Mo_isOnWay, List.forall_mem_cons.mpr ⟨yk_Mo_waysOf, List.forall_mem_cons.mpr ⟨yk_Mo_ways, List.forall_mem_cons.mpr ⟨yk_Mo_snapping, List.forall_mem_cons.mpr ⟨yk_Mo_snap2, List.forall_mem_cons.mpr ⟨yk_Mo_image, List.forall_mem_cons.mpr ⟨yk_Mo_back, List.forall_mem_cons.mpr ⟨yk_Mo_isNone, List.forall_mem_cons.mpr ⟨yk_Mo_searches, List.forall_mem_cons.mpr ⟨yk_Mo_goesOn, List.forall_mem_cons.mpr ⟨yk_Mo_areColours, List.forall_mem_cons.mpr ⟨yk_Mo_search, List.forall_mem_cons.mpr ⟨yk_Mo_searchBy, List.forall_mem_cons.mpr ⟨yk_Mo_colour, List.forall_mem_cons.mpr ⟨yk_Mo_colours, List.forall_mem_cons.mpr ⟨yk_Mo_isTaken, List.forall_mem_cons.mpr ⟨yk_Mo_takes, List.forall_mem_cons.mpr ⟨yk_Mo_setOr, List.forall_mem_cons.mpr ⟨yk_Mo_lets, List.forall_mem_cons.mpr ⟨yk_Mo_looksAhead, List.forall_mem_cons.mpr ⟨yk_Mo_goesAhead, List.forall_mem_cons.mpr ⟨yk_Mo_forward, List.forall_mem_cons.mpr ⟨yk_Mo_forwardBy, List.forall_mem_cons.mpr ⟨yk_Mo_hue, fun _ h => absurd h List.not_mem_nil⟩⟩⟩⟩⟩⟩⟩⟩⟩⟩⟩⟩⟩⟩⟩⟩⟩⟩⟩⟩⟩⟩⟩⟩⟩⟩⟩⟩⟩⟩⟩⟩
theorem mz_cka_9 : mz_ckr (mz_all_9.take 6) := List.forall_mem_cons.mpr ⟨yk_Mo_undo, List.forall_mem_cons.mpr ⟨yk_Mo_anew, List.forall_mem_cons.mpr ⟨yk_In_numberOfTrailingZeros, List.forall_mem_cons.mpr ⟨yk_In_bitCount, List.forall_mem_cons.mpr ⟨yk_Ma_max, List.forall_mem_cons.mpr ⟨yk_Ma_min, fun _ h => absurd h List.not_mem_nil⟩⟩⟩⟩⟩⟩
theorem mz_cka : ∀ y, y < 294 → mz_ck (mz_yD y) = true := by
  have key : ∀ (l : List mz_Y) (k n : Nat) (d : mz_Y), mz_ckr (l.take n) → k < n → n ≤ l.length → mz_ck (l.getD k d) = true := by
    intro l k n d hl hk hn
    have h1 : k < l.length := by omega
    have h2 : l.getD k d = l[k] := by rw [List.getD_eq_getElem?_getD, List.getElem?_eq_getElem h1]; rfl
    rw [h2]
    refine hl _ (List.mem_of_getElem? (i := k) ?_)
    rw [List.getElem?_take_of_lt hk, List.getElem?_eq_getElem h1]
  intro y hy
  unfold mz_yD
  split
  · exact key _ _ 32 _ mz_cka_0 (by omega) (by decide)
  · exact key _ _ 32 _ mz_cka_1 (by omega) (by decide)
  · exact key _ _ 32 _ mz_cka_2 (by omega) (by decide)
  · exact key _ _ 32 _ mz_cka_3 (by omega) (by decide)
  · exact key _ _ 32 _ mz_cka_4 (by omega) (by decide)
  · exact key _ _ 32 _ mz_cka_5 (by omega) (by decide)
  · exact key _ _ 32 _ mz_cka_6 (by omega) (by decide)
  · exact key _ _ 32 _ mz_cka_7 (by omega) (by decide)
  · exact key _ _ 32 _ mz_cka_8 (by omega) (by decide)
  · rename_i h0 h1 h2 h3 h4 h5 h6 h7 h8
    have g0 : ¬ y / 32 = 0 := h0
    have g1 : ¬ y / 32 = 1 := h1
    have g2 : ¬ y / 32 = 2 := h2
    have g3 : ¬ y / 32 = 3 := h3
    have g4 : ¬ y / 32 = 4 := h4
    have g5 : ¬ y / 32 = 5 := h5
    have g6 : ¬ y / 32 = 6 := h6
    have g7 : ¬ y / 32 = 7 := h7
    have g8 : ¬ y / 32 = 8 := h8
    exact key _ _ 6 _ mz_cka_9 (by omega) (by decide)

