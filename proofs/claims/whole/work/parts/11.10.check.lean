/-! The checks of the code by the tables. -/
set_option maxRecDepth 100000 in
theorem pk_X0_init : pm_eC false pm_MT pe_X0_init = true := by decide +kernel
set_option maxRecDepth 100000 in
theorem pk_X0_begin : pm_eC false pm_MT pe_X0_begin = true := by decide +kernel
set_option maxRecDepth 100000 in
theorem pk_X0_endsWith : pm_eC false pm_MT pe_X0_endsWith = true := by decide +kernel
set_option maxRecDepth 100000 in
theorem pk_X0_nextStep : pm_eC false pm_MT pe_X0_nextStep = true := by decide +kernel
set_option maxRecDepth 100000 in
theorem pk_X0_copyFrom : pm_eC false pm_MT pe_X0_copyFrom = true := by decide +kernel
set_option maxRecDepth 100000 in
theorem pk_X1_init : pm_eC false pm_MT pe_X1_init = true := by decide +kernel
set_option maxRecDepth 100000 in
theorem pk_X1_clear : pm_eC false pm_MT pe_X1_clear = true := by decide +kernel
set_option maxRecDepth 100000 in
theorem pk_X1_copyFrom : pm_eC false pm_MT pe_X1_copyFrom = true := by decide +kernel
set_option maxRecDepth 100000 in
theorem pk_X2_init : pm_eC false pm_MT pe_X2_init = true := by decide +kernel
set_option maxRecDepth 100000 in
theorem pk_X2_serve : pm_eC false pm_MT pe_X2_serve = true := by decide +kernel
set_option maxRecDepth 100000 in
theorem pk_X2_remember : pm_eC false pm_MT pe_X2_remember = true := by decide +kernel
set_option maxRecDepth 100000 in
theorem pk_X2_partOf : pm_eC false pm_MT pe_X2_partOf = true := by decide +kernel
set_option maxRecDepth 100000 in
theorem pk_X2_rowOf : pm_eC false pm_MT pe_X2_rowOf = true := by decide +kernel
set_option maxRecDepth 100000 in
theorem pk_X2_moveUp : pm_eC false pm_MT pe_X2_moveUp = true := by decide +kernel
set_option maxRecDepth 100000 in
theorem pk_X2_comeIn : pm_eC false pm_MT pe_X2_comeIn = true := by decide +kernel
set_option maxRecDepth 100000 in
theorem pk_X2_leaveWindow : pm_eC false pm_MT pe_X2_leaveWindow = true := by decide +kernel
set_option maxRecDepth 100000 in
theorem pk_X2_goOut : pm_eC false pm_MT pe_X2_goOut = true := by decide +kernel
set_option maxRecDepth 100000 in
theorem pk_X2_beats : pm_eC false pm_MT pe_X2_beats = true := by decide +kernel
set_option maxRecDepth 100000 in
theorem pk_X2_fit : pm_eC false pm_MT pe_X2_fit = true := by decide +kernel
set_option maxRecDepth 100000 in
theorem pk_X2_dropColdest : pm_eC false pm_MT pe_X2_dropColdest = true := by decide +kernel
set_option maxRecDepth 100000 in
theorem pk_X2_setting : pm_eC false pm_MT pe_X2_setting = true := by decide +kernel
set_option maxRecDepth 100000 in
theorem pk_X2_set : pm_eC false pm_MT pe_X2_set = true := by decide +kernel
set_option maxRecDepth 100000 in
theorem pk_X2_hotKeys : pm_eC false pm_MT pe_X2_hotKeys = true := by decide +kernel
set_option maxRecDepth 100000 in
theorem pk_X2_sortIn : pm_eC false pm_MT pe_X2_sortIn = true := by decide +kernel
set_option maxRecDepth 100000 in
theorem pk_X2_keysWith : pm_eC false pm_MT pe_X2_keysWith = true := by decide +kernel
set_option maxRecDepth 100000 in
theorem pk_X2_startLike : pm_eC false pm_MT pe_X2_startLike = true := by decide +kernel
set_option maxRecDepth 100000 in
theorem pk_X2_copyFrom : pm_eC false pm_MT pe_X2_copyFrom = true := by decide +kernel
set_option maxRecDepth 100000 in
theorem pk_X3_init : pm_eC false pm_MT pe_X3_init = true := by decide +kernel
set_option maxRecDepth 100000 in
theorem pk_X3_isText : pm_eC false pm_MT pe_X3_isText = true := by decide +kernel
set_option maxRecDepth 100000 in
theorem pk_X3_remove : pm_eC false pm_MT pe_X3_remove = true := by decide +kernel
set_option maxRecDepth 100000 in
theorem pk_X3_copyFrom : pm_eC false pm_MT pe_X3_copyFrom = true := by decide +kernel
set_option maxRecDepth 100000 in
theorem pk_X3_holds : pm_eC false pm_MT pe_X3_holds = true := by decide +kernel
set_option maxRecDepth 100000 in
theorem pk_X3_joined : pm_eC false pm_MT pe_X3_joined = true := by decide +kernel
set_option maxRecDepth 100000 in
theorem pk_X4_init : pm_eC false pm_MT pe_X4_init = true := by decide +kernel
set_option maxRecDepth 100000 in
theorem pk_X4_read : pm_eC false pm_MT pe_X4_read = true := by decide +kernel
set_option maxRecDepth 100000 in
theorem pk_X4_readEither : pm_eC false pm_MT pe_X4_readEither = true := by decide +kernel
set_option maxRecDepth 100000 in
theorem pk_X4_readAll : pm_eC false pm_MT pe_X4_readAll = true := by decide +kernel
set_option maxRecDepth 100000 in
theorem pk_X4_readAtom : pm_eC false pm_MT pe_X4_readAtom = true := by decide +kernel
set_option maxRecDepth 100000 in
theorem pk_X4_readSign : pm_eC false pm_MT pe_X4_readSign = true := by decide +kernel
set_option maxRecDepth 100000 in
theorem pk_X4_readSum : pm_eC false pm_MT pe_X4_readSum = true := by decide +kernel
set_option maxRecDepth 100000 in
theorem pk_X5_init : pm_eC false pm_MT pe_X5_init = true := by decide +kernel
set_option maxRecDepth 100000 in
theorem pk_X5_measure : pm_eC false pm_MT pe_X5_measure = true := by decide +kernel
set_option maxRecDepth 100000 in
theorem pk_X5_plainHits : pm_eC false pm_MT pe_X5_plainHits = true := by decide +kernel
set_option maxRecDepth 100000 in
theorem pk_X5_idealHits : pm_eC false pm_MT pe_X5_idealHits = true := by decide +kernel
set_option maxRecDepth 100000 in
theorem pk_X5_nextAsk : pm_eC false pm_MT pe_X5_nextAsk = true := by decide +kernel
set_option maxRecDepth 100000 in
theorem pk_X5_latestDue : pm_eC false pm_MT pe_X5_latestDue = true := by decide +kernel
set_option maxRecDepth 100000 in
theorem pk_X5_timesOf : pm_eC false pm_MT pe_X5_timesOf = true := by decide +kernel
set_option maxRecDepth 100000 in
theorem pk_X5_commonest : pm_eC false pm_MT pe_X5_commonest = true := by decide +kernel
set_option maxRecDepth 100000 in
theorem pk_X5_unlikeKeys : pm_eC false pm_MT pe_X5_unlikeKeys = true := by decide +kernel
set_option maxRecDepth 100000 in
theorem pk_X5_longestUnlike : pm_eC false pm_MT pe_X5_longestUnlike = true := by decide +kernel
set_option maxRecDepth 100000 in
theorem pk_X5_widestGap : pm_eC false pm_MT pe_X5_widestGap = true := by decide +kernel
set_option maxRecDepth 100000 in
theorem pk_X5_askAhead : pm_eC false pm_MT pe_X5_askAhead = true := by decide +kernel
set_option maxRecDepth 100000 in
theorem pk_X5_writeTo : pm_eC false pm_MT pe_X5_writeTo = true := by decide +kernel
set_option maxRecDepth 100000 in
theorem pk_X5_runFrom : pm_eC false pm_MT pe_X5_runFrom = true := by decide +kernel
set_option maxRecDepth 100000 in
theorem pk_X5_writeNumber : pm_eC false pm_MT pe_X5_writeNumber = true := by decide +kernel
set_option maxRecDepth 100000 in
theorem pk_X6_init : pm_eC false pm_MT pe_X6_init = true := by decide +kernel
set_option maxRecDepth 100000 in
theorem pk_X6_size : pm_eC false pm_MT pe_X6_size = true := by decide +kernel
set_option maxRecDepth 100000 in
theorem pk_X6_get : pm_eC false pm_MT pe_X6_get = true := by decide +kernel
set_option maxRecDepth 100000 in
theorem pk_X6_last : pm_eC false pm_MT pe_X6_last = true := by decide +kernel
set_option maxRecDepth 100000 in
theorem pk_X6_put : pm_eC false pm_MT pe_X6_put = true := by decide +kernel
set_option maxRecDepth 100000 in
theorem pk_X6_append : pm_eC false pm_MT pe_X6_append = true := by decide +kernel
set_option maxRecDepth 100000 in
theorem pk_X6_insert : pm_eC false pm_MT pe_X6_insert = true := by decide +kernel
set_option maxRecDepth 100000 in
theorem pk_X6_removeAt : pm_eC false pm_MT pe_X6_removeAt = true := by decide +kernel
set_option maxRecDepth 100000 in
theorem pk_X6_removeLast : pm_eC false pm_MT pe_X6_removeLast = true := by decide +kernel
set_option maxRecDepth 100000 in
theorem pk_X6_find : pm_eC false pm_MT pe_X6_find = true := by decide +kernel
set_option maxRecDepth 100000 in
theorem pk_X6_cut : pm_eC false pm_MT pe_X6_cut = true := by decide +kernel
set_option maxRecDepth 100000 in
theorem pk_X6_copyFrom : pm_eC false pm_MT pe_X6_copyFrom = true := by decide +kernel
set_option maxRecDepth 100000 in
theorem pk_X7_init : pm_eC false pm_MT pe_X7_init = true := by decide +kernel
set_option maxRecDepth 100000 in
theorem pk_X7_windowFor : pm_eC false pm_MT pe_X7_windowFor = true := by decide +kernel
set_option maxRecDepth 100000 in
theorem pk_X7_mainFor : pm_eC false pm_MT pe_X7_mainFor = true := by decide +kernel
set_option maxRecDepth 100000 in
theorem pk_X7_safeFor : pm_eC false pm_MT pe_X7_safeFor = true := by decide +kernel
set_option maxRecDepth 100000 in
theorem pk_X7_partFor : pm_eC false pm_MT pe_X7_partFor = true := by decide +kernel
set_option maxRecDepth 100000 in
theorem pk_X7_moveDoor : pm_eC false pm_MT pe_X7_moveDoor = true := by decide +kernel
set_option maxRecDepth 100000 in
theorem pk_X7_copyFrom : pm_eC false pm_MT pe_X7_copyFrom = true := by decide +kernel
set_option maxRecDepth 100000 in
theorem pk_X8_init : pm_eC false pm_MT pe_X8_init = true := by decide +kernel
set_option maxRecDepth 100000 in
theorem pk_X8_places : pm_eC false pm_MT pe_X8_places = true := by decide +kernel
set_option maxRecDepth 100000 in
theorem pk_X8_placeOf : pm_eC false pm_MT pe_X8_placeOf = true := by decide +kernel
set_option maxRecDepth 100000 in
theorem pk_X8_mixed : pm_eC false pm_MT pe_X8_mixed = true := by decide +kernel
set_option maxRecDepth 100000 in
theorem pk_X8_counterOf : pm_eC false pm_MT pe_X8_counterOf = true := by decide +kernel
set_option maxRecDepth 100000 in
theorem pk_X8_sharedRows : pm_eC false pm_MT pe_X8_sharedRows = true := by decide +kernel
set_option maxRecDepth 100000 in
theorem pk_X8_hasNoted : pm_eC false pm_MT pe_X8_hasNoted = true := by decide +kernel
set_option maxRecDepth 100000 in
theorem pk_X8_isNote : pm_eC false pm_MT pe_X8_isNote = true := by decide +kernel
set_option maxRecDepth 100000 in
theorem pk_X8_setNote : pm_eC false pm_MT pe_X8_setNote = true := by decide +kernel
set_option maxRecDepth 100000 in
theorem pk_X8_estimateOf : pm_eC false pm_MT pe_X8_estimateOf = true := by decide +kernel
set_option maxRecDepth 100000 in
theorem pk_X8_add : pm_eC false pm_MT pe_X8_add = true := by decide +kernel
set_option maxRecDepth 100000 in
theorem pk_X8_raiseCounters : pm_eC false pm_MT pe_X8_raiseCounters = true := by decide +kernel
set_option maxRecDepth 100000 in
theorem pk_X8_halveAll : pm_eC false pm_MT pe_X8_halveAll = true := by decide +kernel
set_option maxRecDepth 100000 in
theorem pk_X8_forgetNotes : pm_eC false pm_MT pe_X8_forgetNotes = true := by decide +kernel
set_option maxRecDepth 100000 in
theorem pk_X8_setSample : pm_eC false pm_MT pe_X8_setSample = true := by decide +kernel
set_option maxRecDepth 100000 in
theorem pk_X8_setWide : pm_eC false pm_MT pe_X8_setWide = true := by decide +kernel
set_option maxRecDepth 100000 in
theorem pk_X8_bitsSet : pm_eC false pm_MT pe_X8_bitsSet = true := by decide +kernel
set_option maxRecDepth 100000 in
theorem pk_X8_countersUsed : pm_eC false pm_MT pe_X8_countersUsed = true := by decide +kernel
set_option maxRecDepth 100000 in
theorem pk_X8_countersTogether : pm_eC false pm_MT pe_X8_countersTogether = true := by decide +kernel
set_option maxRecDepth 100000 in
theorem pk_X8_startLike : pm_eC false pm_MT pe_X8_startLike = true := by decide +kernel
set_option maxRecDepth 100000 in
theorem pk_X8_copyFrom : pm_eC false pm_MT pe_X8_copyFrom = true := by decide +kernel
set_option maxRecDepth 100000 in
theorem pk_X9_init : pm_eC false pm_MT pe_X9_init = true := by decide +kernel
set_option maxRecDepth 100000 in
theorem pk_X9_cutUp : pm_eC false pm_MT pe_X9_cutUp = true := by decide +kernel
set_option maxRecDepth 100000 in
theorem pk_X9_cutOne : pm_eC false pm_MT pe_X9_cutOne = true := by decide +kernel
set_option maxRecDepth 100000 in
theorem pk_X9_behindDigits : pm_eC false pm_MT pe_X9_behindDigits = true := by decide +kernel
set_option maxRecDepth 100000 in
theorem pk_X9_behindLetters : pm_eC false pm_MT pe_X9_behindLetters = true := by decide +kernel
set_option maxRecDepth 100000 in
theorem pk_X9_numberOf : pm_eC false pm_MT pe_X9_numberOf = true := by decide +kernel
set_option maxRecDepth 100000 in
theorem pk_X9_wordOf : pm_eC false pm_MT pe_X9_wordOf = true := by decide +kernel
set_option maxRecDepth 100000 in
theorem pk_X9_isWord : pm_eC false pm_MT pe_X9_isWord = true := by decide +kernel
set_option maxRecDepth 100000 in
theorem pk_X9_isLetter : pm_eC false pm_MT pe_X9_isLetter = true := by decide +kernel
set_option maxRecDepth 100000 in
theorem pk_X9_isDigit : pm_eC false pm_MT pe_X9_isDigit = true := by decide +kernel
set_option maxRecDepth 100000 in
theorem pk_X9_kind : pm_eC false pm_MT pe_X9_kind = true := by decide +kernel
set_option maxRecDepth 100000 in
theorem pk_X9_takes : pm_eC false pm_MT pe_X9_takes = true := by decide +kernel
set_option maxRecDepth 100000 in
theorem pk_X9_need : pm_eC false pm_MT pe_X9_need = true := by decide +kernel
set_option maxRecDepth 100000 in
theorem pk_X9_needNumber : pm_eC false pm_MT pe_X9_needNumber = true := by decide +kernel
set_option maxRecDepth 100000 in
theorem pk_X9_failed : pm_eC false pm_MT pe_X9_failed = true := by decide +kernel
set_option maxRecDepth 100000 in
theorem pk_X9_fail : pm_eC false pm_MT pe_X9_fail = true := by decide +kernel
set_option maxRecDepth 100000 in
theorem pk_X9_faultByte : pm_eC false pm_MT pe_X9_faultByte = true := by decide +kernel
set_option maxRecDepth 100000 in
theorem pk_X10_init : pm_eC false pm_MT pe_X10_init = true := by decide +kernel
set_option maxRecDepth 100000 in
theorem pk_X10_read : pm_eC false pm_MT pe_X10_read = true := by decide +kernel
set_option maxRecDepth 100000 in
theorem pk_X10_readItems : pm_eC false pm_MT pe_X10_readItems = true := by decide +kernel
set_option maxRecDepth 100000 in
theorem pk_X10_readItem : pm_eC false pm_MT pe_X10_readItem = true := by decide +kernel
set_option maxRecDepth 100000 in
theorem pk_X10_readRange : pm_eC false pm_MT pe_X10_readRange = true := by decide +kernel
set_option maxRecDepth 100000 in
theorem pk_X10_readTimes : pm_eC false pm_MT pe_X10_readTimes = true := by decide +kernel
set_option maxRecDepth 100000 in
theorem pk_X10_failUnless : pm_eC false pm_MT pe_X10_failUnless = true := by decide +kernel
set_option maxRecDepth 100000 in
theorem pk_X10_repeatFrom : pm_eC false pm_MT pe_X10_repeatFrom = true := by decide +kernel
set_option maxRecDepth 100000 in
theorem pk_X10_fits : pm_eC false pm_MT pe_X10_fits = true := by decide +kernel
set_option maxRecDepth 100000 in
theorem pk_X11_init : pm_eC false pm_MT pe_X11_init = true := by decide +kernel
set_option maxRecDepth 100000 in
theorem pk_X11_feed : pm_eC false pm_MT pe_X11_feed = true := by decide +kernel
set_option maxRecDepth 100000 in
theorem pk_X11_appendBytes : pm_eC false pm_MT pe_X11_appendBytes = true := by decide +kernel
set_option maxRecDepth 100000 in
theorem pk_X11_end : pm_eC false pm_MT pe_X11_end = true := by decide +kernel
set_option maxRecDepth 100000 in
theorem pk_X11_free : pm_eC false pm_MT pe_X11_free = true := by decide +kernel
set_option maxRecDepth 100000 in
theorem pk_X11_fault : pm_eC false pm_MT pe_X11_fault = true := by decide +kernel
set_option maxRecDepth 100000 in
theorem pk_X11_out : pm_eC false pm_MT pe_X11_out = true := by decide +kernel
set_option maxRecDepth 100000 in
theorem pk_X11_halve : pm_eC false pm_MT pe_X11_halve = true := by decide +kernel
set_option maxRecDepth 100000 in
theorem pk_X11_doorman : pm_eC false pm_MT pe_X11_doorman = true := by decide +kernel
set_option maxRecDepth 100000 in
theorem pk_X11_hitsBehind : pm_eC false pm_MT pe_X11_hitsBehind = true := by decide +kernel
set_option maxRecDepth 100000 in
theorem pk_X11_best : pm_eC false pm_MT pe_X11_best = true := by decide +kernel
set_option maxRecDepth 100000 in
theorem pk_X11_enough : pm_eC false pm_MT pe_X11_enough = true := by decide +kernel
set_option maxRecDepth 100000 in
theorem pk_X11_history : pm_eC false pm_MT pe_X11_history = true := by decide +kernel
set_option maxRecDepth 100000 in
theorem pk_X11_hot : pm_eC false pm_MT pe_X11_hot = true := by decide +kernel
set_option maxRecDepth 100000 in
theorem pk_X11_heat : pm_eC false pm_MT pe_X11_heat = true := by decide +kernel
set_option maxRecDepth 100000 in
theorem pk_X11_write : pm_eC false pm_MT pe_X11_write = true := by decide +kernel
set_option maxRecDepth 100000 in
theorem pk_X11_octet : pm_eC false pm_MT pe_X11_octet = true := by decide +kernel
set_option maxRecDepth 100000 in
theorem pk_X11_keep : pm_eC false pm_MT pe_X11_keep = true := by decide +kernel
set_option maxRecDepth 100000 in
theorem pk_X11_count : pm_eC false pm_MT pe_X11_count = true := by decide +kernel
set_option maxRecDepth 100000 in
theorem pk_X11_countMore : pm_eC false pm_MT pe_X11_countMore = true := by decide +kernel
set_option maxRecDepth 100000 in
theorem pk_X11_isKey : pm_eC false pm_MT pe_X11_isKey = true := by decide +kernel
set_option maxRecDepth 100000 in
theorem pk_X11_isPart : pm_eC false pm_MT pe_X11_isPart = true := by decide +kernel
set_option maxRecDepth 100000 in
theorem pk_X11_isRoom : pm_eC false pm_MT pe_X11_isRoom = true := by decide +kernel
set_option maxRecDepth 100000 in
theorem pk_X11_isSetting : pm_eC false pm_MT pe_X11_isSetting = true := by decide +kernel
set_option maxRecDepth 100000 in
theorem pk_X12_thrown : pm_eC false pm_MT pe_X12_thrown = true := by decide +kernel
set_option maxRecDepth 100000 in
theorem pk_X12_throwsIf : pm_eC false pm_MT pe_X12_throwsIf = true := by decide +kernel
set_option maxRecDepth 100000 in
theorem pk_X12_in : pm_eC false pm_MT pe_X12_in = true := by decide +kernel
set_option maxRecDepth 100000 in
theorem pk_X12_copies : pm_eC false pm_MT pe_X12_copies = true := by decide +kernel
set_option maxRecDepth 100000 in
theorem pk_X12_init : pm_eC false pm_MT pe_X12_init = true := by decide +kernel
set_option maxRecDepth 100000 in
theorem pk_X12_forgetsLatest : pm_eC false pm_MT pe_X12_forgetsLatest = true := by decide +kernel
set_option maxRecDepth 100000 in
theorem pk_X12_feed : pm_eC false pm_MT pe_X12_feed = true := by decide +kernel
set_option maxRecDepth 100000 in
theorem pk_X12_end : pm_eC false pm_MT pe_X12_end = true := by decide +kernel
set_option maxRecDepth 100000 in
theorem pk_X12_begins : pm_eC false pm_MT pe_X12_begins = true := by decide +kernel
set_option maxRecDepth 100000 in
theorem pk_X12_hasFailed : pm_eC false pm_MT pe_X12_hasFailed = true := by decide +kernel
set_option maxRecDepth 100000 in
theorem pk_X12_isAt : pm_eC false pm_MT pe_X12_isAt = true := by decide +kernel
set_option maxRecDepth 100000 in
theorem pk_X12_blanks : pm_eC false pm_MT pe_X12_blanks = true := by decide +kernel
set_option maxRecDepth 100000 in
theorem pk_X12_failsAt : pm_eC false pm_MT pe_X12_failsAt = true := by decide +kernel
set_option maxRecDepth 100000 in
theorem pk_X12_isSign : pm_eC false pm_MT pe_X12_isSign = true := by decide +kernel
set_option maxRecDepth 100000 in
theorem pk_X12_takes : pm_eC false pm_MT pe_X12_takes = true := by decide +kernel
set_option maxRecDepth 100000 in
theorem pk_X12_asksSign : pm_eC false pm_MT pe_X12_asksSign = true := by decide +kernel
set_option maxRecDepth 100000 in
theorem pk_X12_wordMany : pm_eC false pm_MT pe_X12_wordMany = true := by decide +kernel
set_option maxRecDepth 100000 in
theorem pk_X12_takesWord : pm_eC false pm_MT pe_X12_takesWord = true := by decide +kernel
set_option maxRecDepth 100000 in
theorem pk_X12_isNumber : pm_eC false pm_MT pe_X12_isNumber = true := by decide +kernel
set_option maxRecDepth 100000 in
theorem pk_X12_number : pm_eC false pm_MT pe_X12_number = true := by decide +kernel
set_option maxRecDepth 100000 in
theorem pk_X12_fault : pm_eC false pm_MT pe_X12_fault = true := by decide +kernel
set_option maxRecDepth 100000 in
theorem pk_X12_codes : pm_eC false pm_MT pe_X12_codes = true := by decide +kernel
set_option maxRecDepth 100000 in
theorem pk_X12_some : pm_eC false pm_MT pe_X12_some = true := by decide +kernel
set_option maxRecDepth 100000 in
theorem pk_X12_every : pm_eC false pm_MT pe_X12_every = true := by decide +kernel
set_option maxRecDepth 100000 in
theorem pk_X12_atom : pm_eC false pm_MT pe_X12_atom = true := by decide +kernel
set_option maxRecDepth 100000 in
theorem pk_X12_sum : pm_eC false pm_MT pe_X12_sum = true := by decide +kernel
set_option maxRecDepth 100000 in
theorem pk_X12_fact : pm_eC false pm_MT pe_X12_fact = true := by decide +kernel
set_option maxRecDepth 100000 in
theorem pk_X12_part : pm_eC false pm_MT pe_X12_part = true := by decide +kernel
set_option maxRecDepth 100000 in
theorem pk_X12_law : pm_eC false pm_MT pe_X12_law = true := by decide +kernel
set_option maxRecDepth 100000 in
theorem pk_X12_free : pm_eC false pm_MT pe_X12_free = true := by decide +kernel
set_option maxRecDepth 100000 in
theorem pk_X12_factOf : pm_eC false pm_MT pe_X12_factOf = true := by decide +kernel
set_option maxRecDepth 100000 in
theorem pk_X12_doesWin : pm_eC false pm_MT pe_X12_doesWin = true := by decide +kernel
set_option maxRecDepth 100000 in
theorem pk_X12_joined : pm_eC false pm_MT pe_X12_joined = true := by decide +kernel
set_option maxRecDepth 100000 in
theorem pk_X12_hashed : pm_eC false pm_MT pe_X12_hashed = true := by decide +kernel
set_option maxRecDepth 100000 in
theorem pk_X12_placeOf : pm_eC false pm_MT pe_X12_placeOf = true := by decide +kernel
set_option maxRecDepth 100000 in
theorem pk_X12_counterAt : pm_eC false pm_MT pe_X12_counterAt = true := by decide +kernel
set_option maxRecDepth 100000 in
theorem pk_X12_bitAt : pm_eC false pm_MT pe_X12_bitAt = true := by decide +kernel
set_option maxRecDepth 100000 in
theorem pk_X12_hasNoted : pm_eC false pm_MT pe_X12_hasNoted = true := by decide +kernel
set_option maxRecDepth 100000 in
theorem pk_X12_estimateOf : pm_eC false pm_MT pe_X12_estimateOf = true := by decide +kernel
set_option maxRecDepth 100000 in
theorem pk_X12_counts : pm_eC false pm_MT pe_X12_counts = true := by decide +kernel
set_option maxRecDepth 100000 in
theorem pk_X12_halves : pm_eC false pm_MT pe_X12_halves = true := by decide +kernel
set_option maxRecDepth 100000 in
theorem pk_X12_partAt : pm_eC false pm_MT pe_X12_partAt = true := by decide +kernel
set_option maxRecDepth 100000 in
theorem pk_X12_many : pm_eC false pm_MT pe_X12_many = true := by decide +kernel
set_option maxRecDepth 100000 in
theorem pk_X12_keyAt : pm_eC false pm_MT pe_X12_keyAt = true := by decide +kernel
set_option maxRecDepth 100000 in
theorem pk_X12_isFor : pm_eC false pm_MT pe_X12_isFor = true := by decide +kernel
set_option maxRecDepth 100000 in
theorem pk_X12_mainFor : pm_eC false pm_MT pe_X12_mainFor = true := by decide +kernel
set_option maxRecDepth 100000 in
theorem pk_X12_mainMany : pm_eC false pm_MT pe_X12_mainMany = true := by decide +kernel
set_option maxRecDepth 100000 in
theorem pk_X12_toFront : pm_eC false pm_MT pe_X12_toFront = true := by decide +kernel
set_option maxRecDepth 100000 in
theorem pk_X12_takesOut : pm_eC false pm_MT pe_X12_takesOut = true := by decide +kernel
set_option maxRecDepth 100000 in
theorem pk_X12_takesLast : pm_eC false pm_MT pe_X12_takesLast = true := by decide +kernel
set_option maxRecDepth 100000 in
theorem pk_X12_indexOf : pm_eC false pm_MT pe_X12_indexOf = true := by decide +kernel
set_option maxRecDepth 100000 in
theorem pk_X12_whereIs : pm_eC false pm_MT pe_X12_whereIs = true := by decide +kernel
set_option maxRecDepth 100000 in
theorem pk_X12_goesOut : pm_eC false pm_MT pe_X12_goesOut = true := by decide +kernel
set_option maxRecDepth 100000 in
theorem pk_X12_regrets : pm_eC false pm_MT pe_X12_regrets = true := by decide +kernel
set_option maxRecDepth 100000 in
theorem pk_X12_remembers : pm_eC false pm_MT pe_X12_remembers = true := by decide +kernel
set_option maxRecDepth 100000 in
theorem pk_X12_asks : pm_eC false pm_MT pe_X12_asks = true := by decide +kernel
set_option maxRecDepth 100000 in
theorem pk_X12_hits : pm_eC false pm_MT pe_X12_hits = true := by decide +kernel
set_option maxRecDepth 100000 in
theorem pk_X12_misses : pm_eC false pm_MT pe_X12_misses = true := by decide +kernel
set_option maxRecDepth 100000 in
theorem pk_X12_contests : pm_eC false pm_MT pe_X12_contests = true := by decide +kernel
set_option maxRecDepth 100000 in
theorem pk_X12_climbs : pm_eC false pm_MT pe_X12_climbs = true := by decide +kernel
set_option maxRecDepth 100000 in
theorem pk_X12_fits : pm_eC false pm_MT pe_X12_fits = true := by decide +kernel
set_option maxRecDepth 100000 in
theorem pk_X12_items : pm_eC false pm_MT pe_X12_items = true := by decide +kernel
set_option maxRecDepth 100000 in
theorem pk_X12_item : pm_eC false pm_MT pe_X12_item = true := by decide +kernel
set_option maxRecDepth 100000 in
theorem pk_X12_trace : pm_eC false pm_MT pe_X12_trace = true := by decide +kernel
set_option maxRecDepth 100000 in
theorem pk_X12_noKey : pm_eC false pm_MT pe_X12_noKey = true := by decide +kernel
set_option maxRecDepth 100000 in
theorem pk_X12_ask : pm_eC false pm_MT pe_X12_ask = true := by decide +kernel
set_option maxRecDepth 100000 in
theorem pk_X12_where : pm_eC false pm_MT pe_X12_where = true := by decide +kernel
set_option maxRecDepth 100000 in
theorem pk_X12_part_ : pm_eC false pm_MT pe_X12_part_ = true := by decide +kernel
set_option maxRecDepth 100000 in
theorem pk_X12_at : pm_eC false pm_MT pe_X12_at = true := by decide +kernel
set_option maxRecDepth 100000 in
theorem pk_X12_latest : pm_eC false pm_MT pe_X12_latest = true := by decide +kernel
set_option maxRecDepth 100000 in
theorem pk_X12_out : pm_eC false pm_MT pe_X12_out = true := by decide +kernel
set_option maxRecDepth 100000 in
theorem pk_X12_estimate : pm_eC false pm_MT pe_X12_estimate = true := by decide +kernel
set_option maxRecDepth 100000 in
theorem pk_X12_place : pm_eC false pm_MT pe_X12_place = true := by decide +kernel
set_option maxRecDepth 100000 in
theorem pk_X12_counter : pm_eC false pm_MT pe_X12_counter = true := by decide +kernel
set_option maxRecDepth 100000 in
theorem pk_X12_meets : pm_eC false pm_MT pe_X12_meets = true := by decide +kernel
set_option maxRecDepth 100000 in
theorem pk_X12_noted : pm_eC false pm_MT pe_X12_noted = true := by decide +kernel
set_option maxRecDepth 100000 in
theorem pk_X12_halve : pm_eC false pm_MT pe_X12_halve = true := by decide +kernel
set_option maxRecDepth 100000 in
theorem pk_X12_wins : pm_eC false pm_MT pe_X12_wins = true := by decide +kernel
set_option maxRecDepth 100000 in
theorem pk_X12_isRight : pm_eC false pm_MT pe_X12_isRight = true := by decide +kernel
set_option maxRecDepth 100000 in
theorem pk_X12_forgetsCounted : pm_eC false pm_MT pe_X12_forgetsCounted = true := by decide +kernel
set_option maxRecDepth 100000 in
theorem pk_X12_beginsPeriod : pm_eC false pm_MT pe_X12_beginsPeriod = true := by decide +kernel
set_option maxRecDepth 100000 in
theorem pk_X12_tell : pm_eC false pm_MT pe_X12_tell = true := by decide +kernel
set_option maxRecDepth 100000 in
theorem pk_X12_doorman : pm_eC false pm_MT pe_X12_doorman = true := by decide +kernel
set_option maxRecDepth 100000 in
theorem pk_X12_pastMany : pm_eC false pm_MT pe_X12_pastMany = true := by decide +kernel
set_option maxRecDepth 100000 in
theorem pk_X12_pastAt : pm_eC false pm_MT pe_X12_pastAt = true := by decide +kernel
set_option maxRecDepth 100000 in
theorem pk_X12_againBy : pm_eC false pm_MT pe_X12_againBy = true := by decide +kernel
set_option maxRecDepth 100000 in
theorem pk_X12_again : pm_eC false pm_MT pe_X12_again = true := by decide +kernel
set_option maxRecDepth 100000 in
theorem pk_X12_best : pm_eC false pm_MT pe_X12_best = true := by decide +kernel
set_option maxRecDepth 100000 in
theorem pk_X12_plainBy : pm_eC false pm_MT pe_X12_plainBy = true := by decide +kernel
set_option maxRecDepth 100000 in
theorem pk_X12_plain : pm_eC false pm_MT pe_X12_plain = true := by decide +kernel
set_option maxRecDepth 100000 in
theorem pk_X12_nextAsk : pm_eC false pm_MT pe_X12_nextAsk = true := by decide +kernel
set_option maxRecDepth 100000 in
theorem pk_X12_ideal : pm_eC false pm_MT pe_X12_ideal = true := by decide +kernel
set_option maxRecDepth 100000 in
theorem pk_X12_enough : pm_eC false pm_MT pe_X12_enough = true := by decide +kernel
set_option maxRecDepth 100000 in
theorem pk_X12_asked : pm_eC false pm_MT pe_X12_asked = true := by decide +kernel
set_option maxRecDepth 100000 in
theorem pk_X12_needed : pm_eC false pm_MT pe_X12_needed = true := by decide +kernel
set_option maxRecDepth 100000 in
theorem pk_X12_twin : pm_eC false pm_MT pe_X12_twin = true := by decide +kernel
set_option maxRecDepth 100000 in
theorem pk_X12_history : pm_eC false pm_MT pe_X12_history = true := by decide +kernel
set_option maxRecDepth 100000 in
theorem pk_X12_timesOf : pm_eC false pm_MT pe_X12_timesOf = true := by decide +kernel
set_option maxRecDepth 100000 in
theorem pk_X12_unlikeFrom : pm_eC false pm_MT pe_X12_unlikeFrom = true := by decide +kernel
set_option maxRecDepth 100000 in
theorem pk_X12_unlike : pm_eC false pm_MT pe_X12_unlike = true := by decide +kernel
set_option maxRecDepth 100000 in
theorem pk_X12_mostAsked : pm_eC false pm_MT pe_X12_mostAsked = true := by decide +kernel
set_option maxRecDepth 100000 in
theorem pk_X12_past : pm_eC false pm_MT pe_X12_past = true := by decide +kernel
set_option maxRecDepth 100000 in
theorem pk_X12_hot : pm_eC false pm_MT pe_X12_hot = true := by decide +kernel
set_option maxRecDepth 100000 in
theorem pk_X12_heat : pm_eC false pm_MT pe_X12_heat = true := by decide +kernel
set_option maxRecDepth 100000 in
theorem pk_X12_says : pm_eC false pm_MT pe_X12_says = true := by decide +kernel
set_option maxRecDepth 100000 in
theorem pk_X12_saysNumber : pm_eC false pm_MT pe_X12_saysNumber = true := by decide +kernel
set_option maxRecDepth 100000 in
theorem pk_X12_runFrom : pm_eC false pm_MT pe_X12_runFrom = true := by decide +kernel
set_option maxRecDepth 100000 in
theorem pk_X12_write : pm_eC false pm_MT pe_X12_write = true := by decide +kernel
set_option maxRecDepth 100000 in
theorem pk_X12_octet : pm_eC false pm_MT pe_X12_octet = true := by decide +kernel
set_option maxRecDepth 100000 in
theorem pk_X12_keep : pm_eC false pm_MT pe_X12_keep = true := by decide +kernel
set_option maxRecDepth 100000 in
theorem pk_X12_back : pm_eC false pm_MT pe_X12_back = true := by decide +kernel
set_option maxRecDepth 100000 in
theorem pk_X12_sumOf : pm_eC false pm_MT pe_X12_sumOf = true := by decide +kernel
set_option maxRecDepth 100000 in
theorem pk_X12_count : pm_eC false pm_MT pe_X12_count = true := by decide +kernel
set_option maxRecDepth 100000 in
theorem pk_X11_law : pm_eC true pm_MT pe_X11_law = true := by decide +kernel
set_option maxRecDepth 100000 in
theorem pk_X11_trace : pm_eC true pm_MT pe_X11_trace = true := by decide +kernel
set_option maxRecDepth 100000 in
theorem pk_X11_ask : pm_eC true pm_MT pe_X11_ask = true := by decide +kernel
set_option maxRecDepth 100000 in
theorem pk_X11_where : pm_eC true pm_MT pe_X11_where = true := by decide +kernel
set_option maxRecDepth 100000 in
theorem pk_X11_part : pm_eC true pm_MT pe_X11_part = true := by decide +kernel
set_option maxRecDepth 100000 in
theorem pk_X11_at : pm_eC true pm_MT pe_X11_at = true := by decide +kernel
set_option maxRecDepth 100000 in
theorem pk_X11_latest : pm_eC true pm_MT pe_X11_latest = true := by decide +kernel
set_option maxRecDepth 100000 in
theorem pk_X11_estimate : pm_eC true pm_MT pe_X11_estimate = true := by decide +kernel
set_option maxRecDepth 100000 in
theorem pk_X11_place : pm_eC true pm_MT pe_X11_place = true := by decide +kernel
set_option maxRecDepth 100000 in
theorem pk_X11_counter : pm_eC true pm_MT pe_X11_counter = true := by decide +kernel
set_option maxRecDepth 100000 in
theorem pk_X11_meets : pm_eC true pm_MT pe_X11_meets = true := by decide +kernel
set_option maxRecDepth 100000 in
theorem pk_X11_noted : pm_eC true pm_MT pe_X11_noted = true := by decide +kernel
set_option maxRecDepth 100000 in
theorem pk_X11_wins : pm_eC true pm_MT pe_X11_wins = true := by decide +kernel
set_option maxRecDepth 100000 in
theorem pk_X11_tell : pm_eC true pm_MT pe_X11_tell = true := by decide +kernel
set_option maxRecDepth 100000 in
theorem pk_X11_again : pm_eC true pm_MT pe_X11_again = true := by decide +kernel
set_option maxRecDepth 100000 in
theorem pk_X11_plain : pm_eC true pm_MT pe_X11_plain = true := by decide +kernel
set_option maxRecDepth 100000 in
theorem pk_X11_ideal : pm_eC true pm_MT pe_X11_ideal = true := by decide +kernel
set_option maxRecDepth 100000 in
theorem pk_X11_needed : pm_eC true pm_MT pe_X11_needed = true := by decide +kernel
set_option maxRecDepth 100000 in
theorem pk_X11_twin : pm_eC true pm_MT pe_X11_twin = true := by decide +kernel
set_option maxRecDepth 100000 in
theorem pk_X11_past : pm_eC true pm_MT pe_X11_past = true := by decide +kernel
set_option maxRecDepth 100000 in
theorem pk_X11_asked : pm_eC true pm_MT pe_X11_asked = true := by decide +kernel
set_option maxRecDepth 100000 in
theorem pk_X11_back : pm_eC true pm_MT pe_X11_back = true := by decide +kernel
theorem pm_MT_0 : ∀ e ∈ ([pe_X0_init, pe_X0_begin, pe_X0_endsWith, pe_X0_nextStep, pe_X0_copyFrom, pe_X1_init, pe_X1_clear, pe_X1_copyFrom, pe_X2_init, pe_X2_serve, pe_X2_remember, pe_X2_partOf, pe_X2_rowOf, pe_X2_moveUp, pe_X2_comeIn, pe_X2_leaveWindow, pe_X2_goOut, pe_X2_beats, pe_X2_fit, pe_X2_dropColdest, pe_X2_setting, pe_X2_set, pe_X2_hotKeys, pe_X2_sortIn, pe_X2_keysWith, pe_X2_startLike, pe_X2_copyFrom, pe_X3_init, pe_X3_isText, pe_X3_remove, pe_X3_copyFrom, pe_X3_holds, pe_X3_joined, pe_X4_init, pe_X4_read, pe_X4_readEither, pe_X4_readAll, pe_X4_readAtom, pe_X4_readSign, pe_X4_readSum] : List pmE), pm_eG false pm_MT e := List.forall_mem_cons.mpr ⟨pm_eC_spec pk_X0_init, List.forall_mem_cons.mpr ⟨pm_eC_spec pk_X0_begin, List.forall_mem_cons.mpr ⟨pm_eC_spec pk_X0_endsWith, List.forall_mem_cons.mpr ⟨pm_eC_spec pk_X0_nextStep, List.forall_mem_cons.mpr ⟨pm_eC_spec pk_X0_copyFrom, List.forall_mem_cons.mpr ⟨pm_eC_spec pk_X1_init, List.forall_mem_cons.mpr ⟨pm_eC_spec pk_X1_clear, List.forall_mem_cons.mpr ⟨pm_eC_spec pk_X1_copyFrom, List.forall_mem_cons.mpr ⟨pm_eC_spec pk_X2_init, List.forall_mem_cons.mpr ⟨pm_eC_spec pk_X2_serve, List.forall_mem_cons.mpr ⟨pm_eC_spec pk_X2_remember, List.forall_mem_cons.mpr ⟨pm_eC_spec pk_X2_partOf, List.forall_mem_cons.mpr ⟨pm_eC_spec pk_X2_rowOf, List.forall_mem_cons.mpr ⟨pm_eC_spec pk_X2_moveUp, List.forall_mem_cons.mpr ⟨pm_eC_spec pk_X2_comeIn, List.forall_mem_cons.mpr ⟨pm_eC_spec pk_X2_leaveWindow, List.forall_mem_cons.mpr ⟨pm_eC_spec pk_X2_goOut, List.forall_mem_cons.mpr ⟨pm_eC_spec pk_X2_beats, List.forall_mem_cons.mpr ⟨pm_eC_spec pk_X2_fit, List.forall_mem_cons.mpr ⟨pm_eC_spec pk_X2_dropColdest, List.forall_mem_cons.mpr ⟨pm_eC_spec pk_X2_setting, List.forall_mem_cons.mpr ⟨pm_eC_spec pk_X2_set, List.forall_mem_cons.mpr ⟨pm_eC_spec pk_X2_hotKeys, List.forall_mem_cons.mpr ⟨pm_eC_spec pk_X2_sortIn, List.forall_mem_cons.mpr ⟨pm_eC_spec pk_X2_keysWith, List.forall_mem_cons.mpr ⟨pm_eC_spec pk_X2_startLike, List.forall_mem_cons.mpr ⟨pm_eC_spec pk_X2_copyFrom, List.forall_mem_cons.mpr ⟨pm_eC_spec pk_X3_init, List.forall_mem_cons.mpr ⟨pm_eC_spec pk_X3_isText, List.forall_mem_cons.mpr ⟨pm_eC_spec pk_X3_remove, List.forall_mem_cons.mpr ⟨pm_eC_spec pk_X3_copyFrom, List.forall_mem_cons.mpr ⟨pm_eC_spec pk_X3_holds, List.forall_mem_cons.mpr ⟨pm_eC_spec pk_X3_joined, List.forall_mem_cons.mpr ⟨pm_eC_spec pk_X4_init, List.forall_mem_cons.mpr ⟨pm_eC_spec pk_X4_read, List.forall_mem_cons.mpr ⟨pm_eC_spec pk_X4_readEither, List.forall_mem_cons.mpr ⟨pm_eC_spec pk_X4_readAll, List.forall_mem_cons.mpr ⟨pm_eC_spec pk_X4_readAtom, List.forall_mem_cons.mpr ⟨pm_eC_spec pk_X4_readSign, List.forall_mem_cons.mpr ⟨pm_eC_spec pk_X4_readSum, fun _ h => absurd h List.not_mem_nil⟩⟩⟩⟩⟩⟩⟩⟩⟩⟩⟩⟩⟩⟩⟩⟩⟩⟩⟩⟩⟩⟩⟩⟩⟩⟩⟩⟩⟩⟩⟩⟩⟩⟩⟩⟩⟩⟩⟩⟩
theorem pm_MT_1 : ∀ e ∈ ([pe_X5_init, pe_X5_measure, pe_X5_plainHits, pe_X5_idealHits, pe_X5_nextAsk, pe_X5_latestDue, pe_X5_timesOf, pe_X5_commonest, pe_X5_unlikeKeys, pe_X5_longestUnlike, pe_X5_widestGap, pe_X5_askAhead, pe_X5_writeTo, pe_X5_runFrom, pe_X5_writeNumber, pe_X6_init, pe_X6_size, pe_X6_get, pe_X6_last, pe_X6_put, pe_X6_append, pe_X6_insert, pe_X6_removeAt, pe_X6_removeLast, pe_X6_find, pe_X6_cut, pe_X6_copyFrom, pe_X7_init, pe_X7_windowFor, pe_X7_mainFor, pe_X7_safeFor, pe_X7_partFor, pe_X7_moveDoor, pe_X7_copyFrom, pe_X8_init, pe_X8_places, pe_X8_placeOf, pe_X8_mixed, pe_X8_counterOf, pe_X8_sharedRows] : List pmE), pm_eG false pm_MT e := List.forall_mem_cons.mpr ⟨pm_eC_spec pk_X5_init, List.forall_mem_cons.mpr ⟨pm_eC_spec pk_X5_measure, List.forall_mem_cons.mpr ⟨pm_eC_spec pk_X5_plainHits, List.forall_mem_cons.mpr ⟨pm_eC_spec pk_X5_idealHits, List.forall_mem_cons.mpr ⟨pm_eC_spec pk_X5_nextAsk, List.forall_mem_cons.mpr ⟨pm_eC_spec pk_X5_latestDue, List.forall_mem_cons.mpr ⟨pm_eC_spec pk_X5_timesOf, List.forall_mem_cons.mpr ⟨pm_eC_spec pk_X5_commonest, List.forall_mem_cons.mpr ⟨pm_eC_spec pk_X5_unlikeKeys, List.forall_mem_cons.mpr ⟨pm_eC_spec pk_X5_longestUnlike, List.forall_mem_cons.mpr ⟨pm_eC_spec pk_X5_widestGap, List.forall_mem_cons.mpr ⟨pm_eC_spec pk_X5_askAhead, List.forall_mem_cons.mpr ⟨pm_eC_spec pk_X5_writeTo, List.forall_mem_cons.mpr ⟨pm_eC_spec pk_X5_runFrom, List.forall_mem_cons.mpr ⟨pm_eC_spec pk_X5_writeNumber, List.forall_mem_cons.mpr ⟨pm_eC_spec pk_X6_init, List.forall_mem_cons.mpr ⟨pm_eC_spec pk_X6_size, List.forall_mem_cons.mpr ⟨pm_eC_spec pk_X6_get, List.forall_mem_cons.mpr ⟨pm_eC_spec pk_X6_last, List.forall_mem_cons.mpr ⟨pm_eC_spec pk_X6_put, List.forall_mem_cons.mpr ⟨pm_eC_spec pk_X6_append, List.forall_mem_cons.mpr ⟨pm_eC_spec pk_X6_insert, List.forall_mem_cons.mpr ⟨pm_eC_spec pk_X6_removeAt, List.forall_mem_cons.mpr ⟨pm_eC_spec pk_X6_removeLast, List.forall_mem_cons.mpr ⟨pm_eC_spec pk_X6_find, List.forall_mem_cons.mpr ⟨pm_eC_spec pk_X6_cut, List.forall_mem_cons.mpr ⟨pm_eC_spec pk_X6_copyFrom, List.forall_mem_cons.mpr ⟨pm_eC_spec pk_X7_init, List.forall_mem_cons.mpr ⟨pm_eC_spec pk_X7_windowFor, List.forall_mem_cons.mpr ⟨pm_eC_spec pk_X7_mainFor, List.forall_mem_cons.mpr ⟨pm_eC_spec pk_X7_safeFor, List.forall_mem_cons.mpr ⟨pm_eC_spec pk_X7_partFor, List.forall_mem_cons.mpr ⟨pm_eC_spec pk_X7_moveDoor, List.forall_mem_cons.mpr ⟨pm_eC_spec pk_X7_copyFrom, List.forall_mem_cons.mpr ⟨pm_eC_spec pk_X8_init, List.forall_mem_cons.mpr ⟨pm_eC_spec pk_X8_places, List.forall_mem_cons.mpr ⟨pm_eC_spec pk_X8_placeOf, List.forall_mem_cons.mpr ⟨pm_eC_spec pk_X8_mixed, List.forall_mem_cons.mpr ⟨pm_eC_spec pk_X8_counterOf, List.forall_mem_cons.mpr ⟨pm_eC_spec pk_X8_sharedRows, fun _ h => absurd h List.not_mem_nil⟩⟩⟩⟩⟩⟩⟩⟩⟩⟩⟩⟩⟩⟩⟩⟩⟩⟩⟩⟩⟩⟩⟩⟩⟩⟩⟩⟩⟩⟩⟩⟩⟩⟩⟩⟩⟩⟩⟩⟩
theorem pm_MT_2 : ∀ e ∈ ([pe_X8_hasNoted, pe_X8_isNote, pe_X8_setNote, pe_X8_estimateOf, pe_X8_add, pe_X8_raiseCounters, pe_X8_halveAll, pe_X8_forgetNotes, pe_X8_setSample, pe_X8_setWide, pe_X8_bitsSet, pe_X8_countersUsed, pe_X8_countersTogether, pe_X8_startLike, pe_X8_copyFrom, pe_X9_init, pe_X9_cutUp, pe_X9_cutOne, pe_X9_behindDigits, pe_X9_behindLetters, pe_X9_numberOf, pe_X9_wordOf, pe_X9_isWord, pe_X9_isLetter, pe_X9_isDigit, pe_X9_kind, pe_X9_takes, pe_X9_need, pe_X9_needNumber, pe_X9_failed, pe_X9_fail, pe_X9_faultByte, pe_X10_init, pe_X10_read, pe_X10_readItems, pe_X10_readItem, pe_X10_readRange, pe_X10_readTimes, pe_X10_failUnless, pe_X10_repeatFrom] : List pmE), pm_eG false pm_MT e := List.forall_mem_cons.mpr ⟨pm_eC_spec pk_X8_hasNoted, List.forall_mem_cons.mpr ⟨pm_eC_spec pk_X8_isNote, List.forall_mem_cons.mpr ⟨pm_eC_spec pk_X8_setNote, List.forall_mem_cons.mpr ⟨pm_eC_spec pk_X8_estimateOf, List.forall_mem_cons.mpr ⟨pm_eC_spec pk_X8_add, List.forall_mem_cons.mpr ⟨pm_eC_spec pk_X8_raiseCounters, List.forall_mem_cons.mpr ⟨pm_eC_spec pk_X8_halveAll, List.forall_mem_cons.mpr ⟨pm_eC_spec pk_X8_forgetNotes, List.forall_mem_cons.mpr ⟨pm_eC_spec pk_X8_setSample, List.forall_mem_cons.mpr ⟨pm_eC_spec pk_X8_setWide, List.forall_mem_cons.mpr ⟨pm_eC_spec pk_X8_bitsSet, List.forall_mem_cons.mpr ⟨pm_eC_spec pk_X8_countersUsed, List.forall_mem_cons.mpr ⟨pm_eC_spec pk_X8_countersTogether, List.forall_mem_cons.mpr ⟨pm_eC_spec pk_X8_startLike, List.forall_mem_cons.mpr ⟨pm_eC_spec pk_X8_copyFrom, List.forall_mem_cons.mpr ⟨pm_eC_spec pk_X9_init, List.forall_mem_cons.mpr ⟨pm_eC_spec pk_X9_cutUp, List.forall_mem_cons.mpr ⟨pm_eC_spec pk_X9_cutOne, List.forall_mem_cons.mpr ⟨pm_eC_spec pk_X9_behindDigits, List.forall_mem_cons.mpr ⟨pm_eC_spec pk_X9_behindLetters, List.forall_mem_cons.mpr ⟨pm_eC_spec pk_X9_numberOf, List.forall_mem_cons.mpr ⟨pm_eC_spec pk_X9_wordOf, List.forall_mem_cons.mpr ⟨pm_eC_spec pk_X9_isWord, List.forall_mem_cons.mpr ⟨pm_eC_spec pk_X9_isLetter, List.forall_mem_cons.mpr ⟨pm_eC_spec pk_X9_isDigit, List.forall_mem_cons.mpr ⟨pm_eC_spec pk_X9_kind, List.forall_mem_cons.mpr ⟨pm_eC_spec pk_X9_takes, List.forall_mem_cons.mpr ⟨pm_eC_spec pk_X9_need, List.forall_mem_cons.mpr ⟨pm_eC_spec pk_X9_needNumber, List.forall_mem_cons.mpr ⟨pm_eC_spec pk_X9_failed, List.forall_mem_cons.mpr ⟨pm_eC_spec pk_X9_fail, List.forall_mem_cons.mpr ⟨pm_eC_spec pk_X9_faultByte, List.forall_mem_cons.mpr ⟨pm_eC_spec pk_X10_init, List.forall_mem_cons.mpr ⟨pm_eC_spec pk_X10_read, List.forall_mem_cons.mpr ⟨pm_eC_spec pk_X10_readItems, List.forall_mem_cons.mpr ⟨pm_eC_spec pk_X10_readItem, List.forall_mem_cons.mpr ⟨pm_eC_spec pk_X10_readRange, List.forall_mem_cons.mpr ⟨pm_eC_spec pk_X10_readTimes, List.forall_mem_cons.mpr ⟨pm_eC_spec pk_X10_failUnless, List.forall_mem_cons.mpr ⟨pm_eC_spec pk_X10_repeatFrom, fun _ h => absurd h List.not_mem_nil⟩⟩⟩⟩⟩⟩⟩⟩⟩⟩⟩⟩⟩⟩⟩⟩⟩⟩⟩⟩⟩⟩⟩⟩⟩⟩⟩⟩⟩⟩⟩⟩⟩⟩⟩⟩⟩⟩⟩⟩
theorem pm_MT_3 : ∀ e ∈ ([pe_X10_fits, pe_X11_init, pe_X11_feed, pe_X11_appendBytes, pe_X11_end, pe_X11_free, pe_X11_fault, pe_X11_out, pe_X11_halve, pe_X11_doorman, pe_X11_hitsBehind, pe_X11_best, pe_X11_enough, pe_X11_history, pe_X11_hot, pe_X11_heat, pe_X11_write, pe_X11_octet, pe_X11_keep, pe_X11_count, pe_X11_countMore, pe_X11_isKey, pe_X11_isPart, pe_X11_isRoom, pe_X11_isSetting, pe_X12_thrown, pe_X12_throwsIf, pe_X12_in, pe_X12_copies, pe_X12_init, pe_X12_forgetsLatest, pe_X12_feed, pe_X12_end, pe_X12_begins, pe_X12_hasFailed, pe_X12_isAt, pe_X12_blanks, pe_X12_failsAt, pe_X12_isSign, pe_X12_takes] : List pmE), pm_eG false pm_MT e := List.forall_mem_cons.mpr ⟨pm_eC_spec pk_X10_fits, List.forall_mem_cons.mpr ⟨pm_eC_spec pk_X11_init, List.forall_mem_cons.mpr ⟨pm_eC_spec pk_X11_feed, List.forall_mem_cons.mpr ⟨pm_eC_spec pk_X11_appendBytes, List.forall_mem_cons.mpr ⟨pm_eC_spec pk_X11_end, List.forall_mem_cons.mpr ⟨pm_eC_spec pk_X11_free, List.forall_mem_cons.mpr ⟨pm_eC_spec pk_X11_fault, List.forall_mem_cons.mpr ⟨pm_eC_spec pk_X11_out, List.forall_mem_cons.mpr ⟨pm_eC_spec pk_X11_halve, List.forall_mem_cons.mpr ⟨pm_eC_spec pk_X11_doorman, List.forall_mem_cons.mpr ⟨pm_eC_spec pk_X11_hitsBehind, List.forall_mem_cons.mpr ⟨pm_eC_spec pk_X11_best, List.forall_mem_cons.mpr ⟨pm_eC_spec pk_X11_enough, List.forall_mem_cons.mpr ⟨pm_eC_spec pk_X11_history, List.forall_mem_cons.mpr ⟨pm_eC_spec pk_X11_hot, List.forall_mem_cons.mpr ⟨pm_eC_spec pk_X11_heat, List.forall_mem_cons.mpr ⟨pm_eC_spec pk_X11_write, List.forall_mem_cons.mpr ⟨pm_eC_spec pk_X11_octet, List.forall_mem_cons.mpr ⟨pm_eC_spec pk_X11_keep, List.forall_mem_cons.mpr ⟨pm_eC_spec pk_X11_count, List.forall_mem_cons.mpr ⟨pm_eC_spec pk_X11_countMore, List.forall_mem_cons.mpr ⟨pm_eC_spec pk_X11_isKey, List.forall_mem_cons.mpr ⟨pm_eC_spec pk_X11_isPart, List.forall_mem_cons.mpr ⟨pm_eC_spec pk_X11_isRoom, List.forall_mem_cons.mpr ⟨pm_eC_spec pk_X11_isSetting, List.forall_mem_cons.mpr ⟨pm_eC_spec pk_X12_thrown, List.forall_mem_cons.mpr ⟨pm_eC_spec pk_X12_throwsIf, List.forall_mem_cons.mpr ⟨pm_eC_spec pk_X12_in, List.forall_mem_cons.mpr ⟨pm_eC_spec pk_X12_copies, List.forall_mem_cons.mpr ⟨pm_eC_spec pk_X12_init, List.forall_mem_cons.mpr ⟨pm_eC_spec pk_X12_forgetsLatest, List.forall_mem_cons.mpr ⟨pm_eC_spec pk_X12_feed, List.forall_mem_cons.mpr ⟨pm_eC_spec pk_X12_end, List.forall_mem_cons.mpr ⟨pm_eC_spec pk_X12_begins, List.forall_mem_cons.mpr ⟨pm_eC_spec pk_X12_hasFailed, List.forall_mem_cons.mpr ⟨pm_eC_spec pk_X12_isAt, List.forall_mem_cons.mpr ⟨pm_eC_spec pk_X12_blanks, List.forall_mem_cons.mpr ⟨pm_eC_spec pk_X12_failsAt, List.forall_mem_cons.mpr ⟨pm_eC_spec pk_X12_isSign, List.forall_mem_cons.mpr ⟨pm_eC_spec pk_X12_takes, fun _ h => absurd h List.not_mem_nil⟩⟩⟩⟩⟩⟩⟩⟩⟩⟩⟩⟩⟩⟩⟩⟩⟩⟩⟩⟩⟩⟩⟩⟩⟩⟩⟩⟩⟩⟩⟩⟩⟩⟩⟩⟩⟩⟩⟩⟩
theorem pm_MT_4 : ∀ e ∈ ([pe_X12_asksSign, pe_X12_wordMany, pe_X12_takesWord, pe_X12_isNumber, pe_X12_number, pe_X12_fault, pe_X12_codes, pe_X12_some, pe_X12_every, pe_X12_atom, pe_X12_sum, pe_X12_fact, pe_X12_part, pe_X12_law, pe_X12_free, pe_X12_factOf, pe_X12_doesWin, pe_X12_joined, pe_X12_hashed, pe_X12_placeOf, pe_X12_counterAt, pe_X12_bitAt, pe_X12_hasNoted, pe_X12_estimateOf, pe_X12_counts, pe_X12_halves, pe_X12_partAt, pe_X12_many, pe_X12_keyAt, pe_X12_isFor, pe_X12_mainFor, pe_X12_mainMany, pe_X12_toFront, pe_X12_takesOut, pe_X12_takesLast, pe_X12_indexOf, pe_X12_whereIs, pe_X12_goesOut, pe_X12_regrets, pe_X12_remembers] : List pmE), pm_eG false pm_MT e := List.forall_mem_cons.mpr ⟨pm_eC_spec pk_X12_asksSign, List.forall_mem_cons.mpr ⟨pm_eC_spec pk_X12_wordMany, List.forall_mem_cons.mpr ⟨pm_eC_spec pk_X12_takesWord, List.forall_mem_cons.mpr ⟨pm_eC_spec pk_X12_isNumber, List.forall_mem_cons.mpr ⟨pm_eC_spec pk_X12_number, List.forall_mem_cons.mpr ⟨pm_eC_spec pk_X12_fault, List.forall_mem_cons.mpr ⟨pm_eC_spec pk_X12_codes, List.forall_mem_cons.mpr ⟨pm_eC_spec pk_X12_some, List.forall_mem_cons.mpr ⟨pm_eC_spec pk_X12_every, List.forall_mem_cons.mpr ⟨pm_eC_spec pk_X12_atom, List.forall_mem_cons.mpr ⟨pm_eC_spec pk_X12_sum, List.forall_mem_cons.mpr ⟨pm_eC_spec pk_X12_fact, List.forall_mem_cons.mpr ⟨pm_eC_spec pk_X12_part, List.forall_mem_cons.mpr ⟨pm_eC_spec pk_X12_law, List.forall_mem_cons.mpr ⟨pm_eC_spec pk_X12_free, List.forall_mem_cons.mpr ⟨pm_eC_spec pk_X12_factOf, List.forall_mem_cons.mpr ⟨pm_eC_spec pk_X12_doesWin, List.forall_mem_cons.mpr ⟨pm_eC_spec pk_X12_joined, List.forall_mem_cons.mpr ⟨pm_eC_spec pk_X12_hashed, List.forall_mem_cons.mpr ⟨pm_eC_spec pk_X12_placeOf, List.forall_mem_cons.mpr ⟨pm_eC_spec pk_X12_counterAt, List.forall_mem_cons.mpr ⟨pm_eC_spec pk_X12_bitAt, List.forall_mem_cons.mpr ⟨pm_eC_spec pk_X12_hasNoted, List.forall_mem_cons.mpr ⟨pm_eC_spec pk_X12_estimateOf, List.forall_mem_cons.mpr ⟨pm_eC_spec pk_X12_counts, List.forall_mem_cons.mpr ⟨pm_eC_spec pk_X12_halves, List.forall_mem_cons.mpr ⟨pm_eC_spec pk_X12_partAt, List.forall_mem_cons.mpr ⟨pm_eC_spec pk_X12_many, List.forall_mem_cons.mpr ⟨pm_eC_spec pk_X12_keyAt, List.forall_mem_cons.mpr ⟨pm_eC_spec pk_X12_isFor, List.forall_mem_cons.mpr ⟨pm_eC_spec pk_X12_mainFor, List.forall_mem_cons.mpr ⟨pm_eC_spec pk_X12_mainMany, List.forall_mem_cons.mpr ⟨pm_eC_spec pk_X12_toFront, List.forall_mem_cons.mpr ⟨pm_eC_spec pk_X12_takesOut, List.forall_mem_cons.mpr ⟨pm_eC_spec pk_X12_takesLast, List.forall_mem_cons.mpr ⟨pm_eC_spec pk_X12_indexOf, List.forall_mem_cons.mpr ⟨pm_eC_spec pk_X12_whereIs, List.forall_mem_cons.mpr ⟨pm_eC_spec pk_X12_goesOut, List.forall_mem_cons.mpr ⟨pm_eC_spec pk_X12_regrets, List.forall_mem_cons.mpr ⟨pm_eC_spec pk_X12_remembers, fun _ h => absurd h List.not_mem_nil⟩⟩⟩⟩⟩⟩⟩⟩⟩⟩⟩⟩⟩⟩⟩⟩⟩⟩⟩⟩⟩⟩⟩⟩⟩⟩⟩⟩⟩⟩⟩⟩⟩⟩⟩⟩⟩⟩⟩⟩
theorem pm_MT_5 : ∀ e ∈ ([pe_X12_asks, pe_X12_hits, pe_X12_misses, pe_X12_contests, pe_X12_climbs, pe_X12_fits, pe_X12_items, pe_X12_item, pe_X12_trace, pe_X12_noKey, pe_X12_ask, pe_X12_where, pe_X12_part_, pe_X12_at, pe_X12_latest, pe_X12_out, pe_X12_estimate, pe_X12_place, pe_X12_counter, pe_X12_meets, pe_X12_noted, pe_X12_halve, pe_X12_wins, pe_X12_isRight, pe_X12_forgetsCounted, pe_X12_beginsPeriod, pe_X12_tell, pe_X12_doorman, pe_X12_pastMany, pe_X12_pastAt, pe_X12_againBy, pe_X12_again, pe_X12_best, pe_X12_plainBy, pe_X12_plain, pe_X12_nextAsk, pe_X12_ideal, pe_X12_enough, pe_X12_asked, pe_X12_needed] : List pmE), pm_eG false pm_MT e := List.forall_mem_cons.mpr ⟨pm_eC_spec pk_X12_asks, List.forall_mem_cons.mpr ⟨pm_eC_spec pk_X12_hits, List.forall_mem_cons.mpr ⟨pm_eC_spec pk_X12_misses, List.forall_mem_cons.mpr ⟨pm_eC_spec pk_X12_contests, List.forall_mem_cons.mpr ⟨pm_eC_spec pk_X12_climbs, List.forall_mem_cons.mpr ⟨pm_eC_spec pk_X12_fits, List.forall_mem_cons.mpr ⟨pm_eC_spec pk_X12_items, List.forall_mem_cons.mpr ⟨pm_eC_spec pk_X12_item, List.forall_mem_cons.mpr ⟨pm_eC_spec pk_X12_trace, List.forall_mem_cons.mpr ⟨pm_eC_spec pk_X12_noKey, List.forall_mem_cons.mpr ⟨pm_eC_spec pk_X12_ask, List.forall_mem_cons.mpr ⟨pm_eC_spec pk_X12_where, List.forall_mem_cons.mpr ⟨pm_eC_spec pk_X12_part_, List.forall_mem_cons.mpr ⟨pm_eC_spec pk_X12_at, List.forall_mem_cons.mpr ⟨pm_eC_spec pk_X12_latest, List.forall_mem_cons.mpr ⟨pm_eC_spec pk_X12_out, List.forall_mem_cons.mpr ⟨pm_eC_spec pk_X12_estimate, List.forall_mem_cons.mpr ⟨pm_eC_spec pk_X12_place, List.forall_mem_cons.mpr ⟨pm_eC_spec pk_X12_counter, List.forall_mem_cons.mpr ⟨pm_eC_spec pk_X12_meets, List.forall_mem_cons.mpr ⟨pm_eC_spec pk_X12_noted, List.forall_mem_cons.mpr ⟨pm_eC_spec pk_X12_halve, List.forall_mem_cons.mpr ⟨pm_eC_spec pk_X12_wins, List.forall_mem_cons.mpr ⟨pm_eC_spec pk_X12_isRight, List.forall_mem_cons.mpr ⟨pm_eC_spec pk_X12_forgetsCounted, List.forall_mem_cons.mpr ⟨pm_eC_spec pk_X12_beginsPeriod, List.forall_mem_cons.mpr ⟨pm_eC_spec pk_X12_tell, List.forall_mem_cons.mpr ⟨pm_eC_spec pk_X12_doorman, List.forall_mem_cons.mpr ⟨pm_eC_spec pk_X12_pastMany, List.forall_mem_cons.mpr ⟨pm_eC_spec pk_X12_pastAt, List.forall_mem_cons.mpr ⟨pm_eC_spec pk_X12_againBy, List.forall_mem_cons.mpr ⟨pm_eC_spec pk_X12_again, List.forall_mem_cons.mpr ⟨pm_eC_spec pk_X12_best, List.forall_mem_cons.mpr ⟨pm_eC_spec pk_X12_plainBy, List.forall_mem_cons.mpr ⟨pm_eC_spec pk_X12_plain, List.forall_mem_cons.mpr ⟨pm_eC_spec pk_X12_nextAsk, List.forall_mem_cons.mpr ⟨pm_eC_spec pk_X12_ideal, List.forall_mem_cons.mpr ⟨pm_eC_spec pk_X12_enough, List.forall_mem_cons.mpr ⟨pm_eC_spec pk_X12_asked, List.forall_mem_cons.mpr ⟨pm_eC_spec pk_X12_needed, fun _ h => absurd h List.not_mem_nil⟩⟩⟩⟩⟩⟩⟩⟩⟩⟩⟩⟩⟩⟩⟩⟩⟩⟩⟩⟩⟩⟩⟩⟩⟩⟩⟩⟩⟩⟩⟩⟩⟩⟩⟩⟩⟩⟩⟩⟩
theorem pm_MT_6 : ∀ e ∈ ([pe_X12_twin, pe_X12_history, pe_X12_timesOf, pe_X12_unlikeFrom, pe_X12_unlike, pe_X12_mostAsked, pe_X12_past, pe_X12_hot, pe_X12_heat, pe_X12_says, pe_X12_saysNumber, pe_X12_runFrom, pe_X12_write, pe_X12_octet, pe_X12_keep, pe_X12_back, pe_X12_sumOf, pe_X12_count] : List pmE), pm_eG false pm_MT e := List.forall_mem_cons.mpr ⟨pm_eC_spec pk_X12_twin, List.forall_mem_cons.mpr ⟨pm_eC_spec pk_X12_history, List.forall_mem_cons.mpr ⟨pm_eC_spec pk_X12_timesOf, List.forall_mem_cons.mpr ⟨pm_eC_spec pk_X12_unlikeFrom, List.forall_mem_cons.mpr ⟨pm_eC_spec pk_X12_unlike, List.forall_mem_cons.mpr ⟨pm_eC_spec pk_X12_mostAsked, List.forall_mem_cons.mpr ⟨pm_eC_spec pk_X12_past, List.forall_mem_cons.mpr ⟨pm_eC_spec pk_X12_hot, List.forall_mem_cons.mpr ⟨pm_eC_spec pk_X12_heat, List.forall_mem_cons.mpr ⟨pm_eC_spec pk_X12_says, List.forall_mem_cons.mpr ⟨pm_eC_spec pk_X12_saysNumber, List.forall_mem_cons.mpr ⟨pm_eC_spec pk_X12_runFrom, List.forall_mem_cons.mpr ⟨pm_eC_spec pk_X12_write, List.forall_mem_cons.mpr ⟨pm_eC_spec pk_X12_octet, List.forall_mem_cons.mpr ⟨pm_eC_spec pk_X12_keep, List.forall_mem_cons.mpr ⟨pm_eC_spec pk_X12_back, List.forall_mem_cons.mpr ⟨pm_eC_spec pk_X12_sumOf, List.forall_mem_cons.mpr ⟨pm_eC_spec pk_X12_count, fun _ h => absurd h List.not_mem_nil⟩⟩⟩⟩⟩⟩⟩⟩⟩⟩⟩⟩⟩⟩⟩⟩⟩⟩
