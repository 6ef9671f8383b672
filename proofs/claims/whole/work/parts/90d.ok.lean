/-! Every method passes the check. -/
section ZOKD
theorem zo_Model_must : zOkM kModel_must = true := by decide +kernel
theorem zo_Model_many : zOkM kModel_many = true := by decide +kernel
theorem zo_Model_lay : zOkM kModel_lay = true := by decide +kernel
theorem zo_Model_named : zOkM kModel_named = true := by decide +kernel
theorem zo_Model_number : zOkM kModel_number = true := by decide +kernel
theorem zo_Model_indexOf : zOkM kModel_indexOf = true := by decide +kernel
theorem zo_Model_value : zOkM kModel_value = true := by decide +kernel
theorem zo_Model_set : zOkM kModel_set = true := by decide +kernel
theorem zo_Model_take : zOkM kModel_take = true := by decide +kernel
theorem zo_Model_jump : zOkM kModel_jump = true := by decide +kernel
theorem zo_Model_variable : zOkM kModel_variable = true := by decide +kernel
theorem zo_Model_errorAt : zOkM kModel_errorAt = true := by decide +kernel
theorem zo_Model_programs : zOkM kModel_programs = true := by decide +kernel
theorem zo_Model_count : zOkM kModel_count = true := by decide +kernel
theorem zo_Model_isProgram : zOkM kModel_isProgram = true := by decide +kernel
theorem zo_Model_counted : zOkM kModel_counted = true := by decide +kernel
theorem zo_Model_findReach : zOkM kModel_findReach = true := by decide +kernel
theorem zo_Model_follows : zOkM kModel_follows = true := by decide +kernel
theorem zo_Model_get : zOkM kModel_get = true := by decide +kernel
theorem zo_Model_get2 : zOkM kModel_get2 = true := by decide +kernel
theorem zo_Model_jumps : zOkM kModel_jumps = true := by decide +kernel
theorem zo_Model_placeOf : zOkM kModel_placeOf = true := by decide +kernel
theorem zo_Model_beginsBlock : zOkM kModel_beginsBlock = true := by decide +kernel
theorem zo_Model_loopEnd : zOkM kModel_loopEnd = true := by decide +kernel
theorem zo_Model_leadsTo : zOkM kModel_leadsTo = true := by decide +kernel
theorem zo_Model_code : zOkM kModel_code = true := by decide +kernel
theorem zo_Model_isInstruction : zOkM kModel_isInstruction = true := by decide +kernel
theorem zo_Model_number2 : zOkM kModel_number2 = true := by decide +kernel
theorem zo_Model_numberOf : zOkM kModel_numberOf = true := by decide +kernel
theorem zo_Model_live : zOkM kModel_live = true := by decide +kernel
theorem zo_Model_findLive : zOkM kModel_findLive = true := by decide +kernel
theorem zo_Model_ahead : zOkM kModel_ahead = true := by decide +kernel
theorem zo_Model_assigns : zOkM kModel_assigns = true := by decide +kernel
theorem zo_Model_pass : zOkM kModel_pass = true := by decide +kernel
theorem zo_Model_begin : zOkM kModel_begin = true := by decide +kernel
theorem zo_Model_make : zOkM kModel_make = true := by decide +kernel
theorem zo_Model_fold : zOkM kModel_fold = true := by decide +kernel
theorem zo_Model_isNumber : zOkM kModel_isNumber = true := by decide +kernel
theorem zo_Model_two : zOkM kModel_two = true := by decide +kernel
theorem zo_Model_takeOut : zOkM kModel_takeOut = true := by decide +kernel
theorem zo_Model_copy : zOkM kModel_copy = true := by decide +kernel
theorem zo_Model_value2 : zOkM kModel_value2 = true := by decide +kernel
theorem zo_Model_isSameTwo : zOkM kModel_isSameTwo = true := by decide +kernel
theorem zo_Model_isSameValue : zOkM kModel_isSameValue = true := by decide +kernel
theorem zo_Model_reads : zOkM kModel_reads = true := by decide +kernel
theorem zo_Model_isKept : zOkM kModel_isKept = true := by decide +kernel
theorem zo_Model_drop : zOkM kModel_drop = true := by decide +kernel
theorem zo_Model_isIdle : zOkM kModel_isIdle = true := by decide +kernel
theorem zo_Model_move : zOkM kModel_move = true := by decide +kernel
theorem zo_Model_moveOne : zOkM kModel_moveOne = true := by decide +kernel
theorem zo_Model_canMove : zOkM kModel_canMove = true := by decide +kernel
theorem zo_Model_better : zOkM kModel_better = true := by decide +kernel
theorem zo_Model_put : zOkM kModel_put = true := by decide +kernel
theorem zo_Model_empty : zOkM kModel_empty = true := by decide +kernel
theorem zo_Model_run : zOkM kModel_run = true := by decide +kernel
theorem zo_Model_runWith : zOkM kModel_runWith = true := by decide +kernel
theorem zo_Model_behindLabels : zOkM kModel_behindLabels = true := by decide +kernel
theorem zo_Model_step : zOkM kModel_step = true := by decide +kernel
theorem zo_Model_valueOf : zOkM kModel_valueOf = true := by decide +kernel
theorem zo_Model_ran : zOkM kModel_ran = true := by decide +kernel
theorem zo_Model_output : zOkM kModel_output = true := by decide +kernel
theorem zo_Model_variable2 : zOkM kModel_variable2 = true := by decide +kernel
theorem zo_Model_differ : zOkM kModel_differ = true := by decide +kernel
theorem zo_Model_areCases : zOkM kModel_areCases = true := by decide +kernel
theorem zo_Model_inputsOf : zOkM kModel_inputsOf = true := by decide +kernel
theorem zo_Model_layCase : zOkM kModel_layCase = true := by decide +kernel
theorem zo_Model_isOther : zOkM kModel_isOther = true := by decide +kernel
theorem zo_Model_share : zOkM kModel_share = true := by decide +kernel
theorem zo_Model_digest : zOkM kModel_digest = true := by decide +kernel
theorem zl_law : (zCode kLaw_law).2.length ≤ 840 := by decide +kernel
theorem zo_Law_law : zOkM kLaw_law = true := by
  unfold zOkM
  refine List.all_eq_true.mpr fun i hi => ?_
  have hi := List.mem_range.mp hi
  have hi2 : i < 840 := Nat.lt_of_lt_of_le hi zl_law
  obtain ⟨en, he⟩ : ∃ en, (zCode kLaw_law).2[i]? = some en := ⟨_, List.getElem?_eq_getElem hi⟩
  rw [he]
  show zOk1 kLaw_law i en = true
  by_cases h0 : i < 60
  · exact zOkR_at zr_law_0 (by omega) (by omega) he
  by_cases h1 : i < 120
  · exact zOkR_at zr_law_1 (by omega) (by omega) he
  by_cases h2 : i < 180
  · exact zOkR_at zr_law_2 (by omega) (by omega) he
  by_cases h3 : i < 240
  · exact zOkR_at zr_law_3 (by omega) (by omega) he
  by_cases h4 : i < 300
  · exact zOkR_at zr_law_4 (by omega) (by omega) he
  by_cases h5 : i < 360
  · exact zOkR_at zr_law_5 (by omega) (by omega) he
  by_cases h6 : i < 420
  · exact zOkR_at zr_law_6 (by omega) (by omega) he
  by_cases h7 : i < 480
  · exact zOkR_at zr_law_7 (by omega) (by omega) he
  by_cases h8 : i < 540
  · exact zOkR_at zr_law_8 (by omega) (by omega) he
  by_cases h9 : i < 600
  · exact zOkR_at zr_law_9 (by omega) (by omega) he
  by_cases h10 : i < 660
  · exact zOkR_at zr_law_10 (by omega) (by omega) he
  by_cases h11 : i < 720
  · exact zOkR_at zr_law_11 (by omega) (by omega) he
  by_cases h12 : i < 780
  · exact zOkR_at zr_law_12 (by omega) (by omega) he
  exact zOkR_at zr_law_13 (by omega) (by omega) he
theorem zOkC0 : ∀ j, j < 10 → 10 * 0 + j < 279 → zOkM (10 * 0 + j) = true
  | 0, _, _ => zo_PassForge_init
  | 1, _, _ => zo_Program_init
  | 2, _, _ => zo_Tape_init
  | 3, _, _ => zo_Reader_init
  | 4, _, _ => zo_Tokens_init
  | 5, _, _ => zo_Names_init
  | 6, _, _ => zo_Flow_init
  | 7, _, _ => zo_BlockPasses_init
  | 8, _, _ => zo_FlowPasses_init
  | 9, _, _ => zo_Machine_init
  | j + 10, h, _ => absurd h (by omega)
theorem zOkC1 : ∀ j, j < 10 → 10 * 1 + j < 279 → zOkM (10 * 1 + j) = true
  | 0, _, _ => zo_PassForge_errorAt
  | 1, _, _ => zo_Reader_faultPlace
  | 2, _, _ => zo_PassForge_programs
  | 3, _, _ => zo_PassForge_empty
  | 4, _, _ => zo_PassForge_digest
  | 5, _, _ => zo_PassForge_mix
  | 6, _, _ => zo_PassForge_mixProgram
  | 7, _, _ => zo_Program_tally
  | 8, _, _ => zo_Program_size
  | 9, _, _ => zo_Program_part
  | j + 10, h, _ => absurd h (by omega)
theorem zOkC2 : ∀ j, j < 10 → 10 * 2 + j < 279 → zOkM (10 * 2 + j) = true
  | 0, _, _ => zo_Program_sortAt
  | 1, _, _ => zo_Program_targetAt
  | 2, _, _ => zo_Program_opAt
  | 3, _, _ => zo_Program_firstVariableAt
  | 4, _, _ => zo_Program_secondVariableAt
  | 5, _, _ => zo_Program_firstNumberAt
  | 6, _, _ => zo_Program_secondNumberAt
  | 7, _, _ => zo_Program_liveAt
  | 8, _, _ => zo_Tape_size
  | 9, _, _ => zo_Machine_report
  | j + 10, h, _ => absurd h (by omega)
theorem zOkC3 : ∀ j, j < 10 → 10 * 3 + j < 279 → zOkM (10 * 3 + j) = true
  | 0, _, _ => zo_Machine_kept
  | 1, _, _ => zo_Math_min
  | 2, _, _ => zo_Machine_keptAt
  | 3, _, _ => zo_Machine_valueOf
  | 4, _, _ => zo_Law_feed
  | 5, _, _ => zo_PassForge_feed
  | 6, _, _ => zo_Tape_room
  | 7, _, _ => zo_Tape_addFour
  | 8, _, _ => zo_Law_trim
  | 9, _, _ => zo_PassForge_trim
  | j + 10, h, _ => absurd h (by omega)
theorem zOkC4 : ∀ j, j < 10 → 10 * 4 + j < 279 → zOkM (10 * 4 + j) = true
  | 0, _, _ => zo_Tape_shorten
  | 1, _, _ => zo_Law_compile
  | 2, _, _ => zo_PassForge_compile
  | 3, _, _ => zo_PassForge_freshProgram
  | 4, _, _ => zo_Reader_read
  | 5, _, _ => zo_Names_clear
  | 6, _, _ => zo_Program_clear
  | 7, _, _ => zo_Tokens_cut
  | 8, _, _ => zo_Tokens_cutOne
  | 9, _, _ => zo_Tape_byteAt
  | j + 10, h, _ => absurd h (by omega)
theorem zOkC5 : ∀ j, j < 10 → 10 * 5 + j < 279 → zOkM (10 * 5 + j) = true
  | 0, _, _ => zo_Tokens_isLetter
  | 1, _, _ => zo_Tokens_cutWord
  | 2, _, _ => zo_Tokens_isDigit
  | 3, _, _ => zo_Tokens_kindOfWord
  | 4, _, _ => zo_Tokens_add
  | 5, _, _ => zo_Tokens_cutNumber
  | 6, _, _ => zo_Tokens_isSymbol
  | 7, _, _ => zo_Tokens_opOf
  | 8, _, _ => zo_Math_max
  | 9, _, _ => zo_Reader_readLine
  | j + 10, h, _ => absurd h (by omega)
theorem zOkC6 : ∀ j, j < 10 → 10 * 6 + j < 279 → zOkM (10 * 6 + j) = true
  | 0, _, _ => zo_Tokens_kind
  | 1, _, _ => zo_Tokens_start
  | 2, _, _ => zo_Reader_fail
  | 3, _, _ => zo_Reader_forgetInstruction
  | 4, _, _ => zo_Reader_readNamed
  | 5, _, _ => zo_Tokens_content
  | 6, _, _ => zo_Tokens_toNext
  | 7, _, _ => zo_Names_find
  | 8, _, _ => zo_Names_setOnce
  | 9, _, _ => zo_Reader_add
  | j + 10, h, _ => absurd h (by omega)
theorem zOkC7 : ∀ j, j < 10 → 10 * 7 + j < 279 → zOkM (10 * 7 + j) = true
  | 0, _, _ => zo_Program_add
  | 1, _, _ => zo_Program_setFirst
  | 2, _, _ => zo_Program_has
  | 3, _, _ => zo_Program_setSecond
  | 4, _, _ => zo_Reader_take
  | 5, _, _ => zo_Reader_readValue
  | 6, _, _ => zo_Reader_takeName
  | 7, _, _ => zo_Reader_keepFirst
  | 8, _, _ => zo_Reader_keepSecond
  | 9, _, _ => zo_Reader_readName
  | j + 10, h, _ => absurd h (by omega)
theorem zOkC8 : ∀ j, j < 10 → 10 * 8 + j < 279 → zOkM (10 * 8 + j) = true
  | 0, _, _ => zo_Names_firstUnset
  | 1, _, _ => zo_Names_size
  | 2, _, _ => zo_Program_setNames
  | 3, _, _ => zo_PassForge_accept
  | 4, _, _ => zo_Flow_measure
  | 5, _, _ => zo_Flow_look
  | 6, _, _ => zo_Program_link
  | 7, _, _ => zo_Program_isLabel
  | 8, _, _ => zo_Program_isJump
  | 9, _, _ => zo_Flow_reach
  | j + 10, h, _ => absurd h (by omega)
theorem zOkC9 : ∀ j, j < 10 → 10 * 9 + j < 279 → zOkM (10 * 9 + j) = true
  | 0, _, _ => zo_Flow_goForward
  | 1, _, _ => zo_Flow_reaches
  | 2, _, _ => zo_Program_nextOf
  | 3, _, _ => zo_Program_jumpOf
  | 4, _, _ => zo_Flow_goBackward
  | 5, _, _ => zo_Flow_aheadOf
  | 6, _, _ => zo_Flow_liveAhead
  | 7, _, _ => zo_Program_readSet
  | 8, _, _ => zo_Program_setOf
  | 9, _, _ => zo_Program_assignedSet
  | j + 10, h, _ => absurd h (by omega)
theorem zOkC10 : ∀ j, j < 10 → 10 * 10 + j < 279 → zOkM (10 * 10 + j) = true
  | 0, _, _ => zo_Program_assigned
  | 1, _, _ => zo_Program_startsBlock
  | 2, _, _ => zo_Program_loopEnd
  | 3, _, _ => zo_Program_jumpsTo
  | 4, _, _ => zo_Program_isEnteredBehind
  | 5, _, _ => zo_Flow_liveBehind
  | 6, _, _ => zo_Program_setLive
  | 7, _, _ => zo_Program_setMeasures
  | 8, _, _ => zo_Law_count
  | 9, _, _ => zo_PassForge_count
  | j + 10, h, _ => absurd h (by omega)
theorem zOkC11 : ∀ j, j < 10 → 10 * 11 + j < 279 → zOkM (10 * 11 + j) = true
  | 0, _, _ => zo_PassForge_programAt
  | 1, _, _ => zo_Law_code
  | 2, _, _ => zo_PassForge_code
  | 3, _, _ => zo_PassForge_programWith
  | 4, _, _ => zo_Law_number
  | 5, _, _ => zo_PassForge_number
  | 6, _, _ => zo_Law_live
  | 7, _, _ => zo_PassForge_live
  | 8, _, _ => zo_Law_pass
  | 9, _, _ => zo_PassForge_pass
  | j + 10, h, _ => absurd h (by omega)
theorem zOkC12 : ∀ j, j < 10 → 10 * 12 + j < 279 → zOkM (10 * 12 + j) = true
  | 0, _, _ => zo_Program_become
  | 1, _, _ => zo_Program_layDown
  | 2, _, _ => zo_PassForge_changeBy
  | 3, _, _ => zo_BlockPasses_fold
  | 4, _, _ => zo_BlockPasses_forgetNumbers
  | 5, _, _ => zo_BlockPasses_putNumbers
  | 6, _, _ => zo_BlockPasses_knows
  | 7, _, _ => zo_BlockPasses_knownOf
  | 8, _, _ => zo_BlockPasses_foldOne
  | 9, _, _ => zo_PassForge_reckon
  | j + 10, h, _ => absurd h (by omega)
theorem zOkC13 : ∀ j, j < 10 → 10 * 13 + j < 279 → zOkM (10 * 13 + j) = true
  | 0, _, _ => zo_Program_setPlain
  | 1, _, _ => zo_Program_mark
  | 2, _, _ => zo_Program_setGoto
  | 3, _, _ => zo_BlockPasses_learnNumber
  | 4, _, _ => zo_Program_removeMarked
  | 5, _, _ => zo_BlockPasses_lookThroughCopies
  | 6, _, _ => zo_BlockPasses_forgetCopies
  | 7, _, _ => zo_BlockPasses_putCopies
  | 8, _, _ => zo_BlockPasses_copiedBy
  | 9, _, _ => zo_BlockPasses_learnCopy
  | j + 10, h, _ => absurd h (by omega)
theorem zOkC14 : ∀ j, j < 10 → 10 * 14 + j < 279 → zOkM (10 * 14 + j) = true
  | 0, _, _ => zo_BlockPasses_takeValues
  | 1, _, _ => zo_BlockPasses_sameValue
  | 2, _, _ => zo_BlockPasses_reckonsSame
  | 3, _, _ => zo_BlockPasses_canTurn
  | 4, _, _ => zo_BlockPasses_assignedBetween
  | 5, _, _ => zo_FlowPasses_drop
  | 6, _, _ => zo_FlowPasses_firstNeedless
  | 7, _, _ => zo_FlowPasses_isNeedless
  | 8, _, _ => zo_Program_pastLabels
  | 9, _, _ => zo_Program_removeAt
  | j + 10, h, _ => absurd h (by omega)
theorem zOkC15 : ∀ j, j < 10 → 10 * 15 + j < 279 → zOkM (10 * 15 + j) = true
  | 0, _, _ => zo_FlowPasses_move
  | 1, _, _ => zo_FlowPasses_moveFirst
  | 2, _, _ => zo_FlowPasses_firstMovable
  | 3, _, _ => zo_FlowPasses_outsideAhead
  | 4, _, _ => zo_Program_moveUp
  | 5, _, _ => zo_Law_better
  | 6, _, _ => zo_PassForge_better
  | 7, _, _ => zo_Law_put
  | 8, _, _ => zo_PassForge_put
  | 9, _, _ => zo_Law_run
  | j + 10, h, _ => absurd h (by omega)
theorem zOkC16 : ∀ j, j < 10 → 10 * 16 + j < 279 → zOkM (10 * 16 + j) = true
  | 0, _, _ => zo_PassForge_run
  | 1, _, _ => zo_Machine_execute
  | 2, _, _ => zo_Machine_setValue
  | 3, _, _ => zo_Machine_follow
  | 4, _, _ => zo_Machine_operand
  | 5, _, _ => zo_Machine_putOut
  | 6, _, _ => zo_Machine_steps
  | 7, _, _ => zo_Law_ran
  | 8, _, _ => zo_PassForge_ran
  | 9, _, _ => zo_Law_output
  | j + 10, h, _ => absurd h (by omega)
theorem zOkC17 : ∀ j, j < 10 → 10 * 17 + j < 279 → zOkM (10 * 17 + j) = true
  | 0, _, _ => zo_PassForge_output
  | 1, _, _ => zo_Law_variable
  | 2, _, _ => zo_PassForge_variable
  | 3, _, _ => zo_Law_differ
  | 4, _, _ => zo_PassForge_differ
  | 5, _, _ => zo_PassForge_inputsOf
  | 6, _, _ => zo_PassForge_clearDigits
  | 7, _, _ => zo_Machine_isUnlike
  | 8, _, _ => zo_PassForge_countUpDigits
  | 9, _, _ => zo_Law_share
  | j + 10, h, _ => absurd h (by omega)
theorem zOkC18 : ∀ j, j < 10 → 10 * 18 + j < 279 → zOkM (10 * 18 + j) = true
  | 0, _, _ => zo_PassForge_share
  | 1, _, _ => zo_Model_init
  | 2, _, _ => zo_Model_thrown
  | 3, _, _ => zo_Model_feed
  | 4, _, _ => zo_Model_fail
  | 5, _, _ => zo_Model_four
  | 6, _, _ => zo_Model_trim
  | 7, _, _ => zo_Model_isIn
  | 8, _, _ => zo_Model_compile
  | 9, _, _ => zo_Model_next
  | j + 10, h, _ => absurd h (by omega)
theorem zOkC19 : ∀ j, j < 10 → 10 * 19 + j < 279 → zOkM (10 * 19 + j) = true
  | 0, _, _ => zo_Model_byteAt
  | 1, _, _ => zo_Model_isLetter
  | 2, _, _ => zo_Model_isDigit
  | 3, _, _ => zo_Model_keyOf
  | 4, _, _ => zo_String_indexOf
  | 5, _, _ => zo_String_isLatin1
  | 6, _, _ => zo_String_length
  | 7, _, _ => zo_String_coder
  | 8, _, _ => zo_StringLatin1_indexOf
  | 9, _, _ => zo_StringLatin1_canEncode
  | j + 10, h, _ => absurd h (by omega)
theorem zOkC20 : ∀ j, j < 10 → 10 * 20 + j < 279 → zOkM (10 * 20 + j) = true
  | 0, _, _ => zo_StringLatin1_indexOfChar
  | 1, _, _ => zo_String_charAt
  | 2, _, _ => zo_StringLatin1_charAt
  | 3, _, _ => zo_String_checkIndex
  | 4, _, _ => zo_Preconditions_checkIndex
  | 5, _, _ => zo_String_indexOf2
  | 6, _, _ => zo_Model_line
  | 7, _, _ => zo_Model_wrong
  | 8, _, _ => zo_Wrong_init
  | 9, _, _ => zo_Model_must
  | j + 10, h, _ => absurd h (by omega)
theorem zOkC21 : ∀ j, j < 10 → 10 * 21 + j < 279 → zOkM (10 * 21 + j) = true
  | 0, _, _ => zo_Model_many
  | 1, _, _ => zo_Model_lay
  | 2, _, _ => zo_Model_named
  | 3, _, _ => zo_Model_number
  | 4, _, _ => zo_Model_indexOf
  | 5, _, _ => zo_Model_value
  | 6, _, _ => zo_Model_set
  | 7, _, _ => zo_Model_take
  | 8, _, _ => zo_Model_jump
  | 9, _, _ => zo_Model_variable
  | j + 10, h, _ => absurd h (by omega)
theorem zOkC22 : ∀ j, j < 10 → 10 * 22 + j < 279 → zOkM (10 * 22 + j) = true
  | 0, _, _ => zo_Model_errorAt
  | 1, _, _ => zo_Model_programs
  | 2, _, _ => zo_Model_count
  | 3, _, _ => zo_Model_isProgram
  | 4, _, _ => zo_Model_counted
  | 5, _, _ => zo_Model_findReach
  | 6, _, _ => zo_Model_follows
  | 7, _, _ => zo_Model_get
  | 8, _, _ => zo_Model_get2
  | 9, _, _ => zo_Model_jumps
  | j + 10, h, _ => absurd h (by omega)
theorem zOkC23 : ∀ j, j < 10 → 10 * 23 + j < 279 → zOkM (10 * 23 + j) = true
  | 0, _, _ => zo_Model_placeOf
  | 1, _, _ => zo_Model_beginsBlock
  | 2, _, _ => zo_Model_loopEnd
  | 3, _, _ => zo_Model_leadsTo
  | 4, _, _ => zo_Model_code
  | 5, _, _ => zo_Model_isInstruction
  | 6, _, _ => zo_Model_number2
  | 7, _, _ => zo_Model_numberOf
  | 8, _, _ => zo_Model_live
  | 9, _, _ => zo_Model_findLive
  | j + 10, h, _ => absurd h (by omega)
theorem zOkC24 : ∀ j, j < 10 → 10 * 24 + j < 279 → zOkM (10 * 24 + j) = true
  | 0, _, _ => zo_Model_ahead
  | 1, _, _ => zo_Model_assigns
  | 2, _, _ => zo_Model_pass
  | 3, _, _ => zo_Model_begin
  | 4, _, _ => zo_Model_make
  | 5, _, _ => zo_Model_fold
  | 6, _, _ => zo_Model_isNumber
  | 7, _, _ => zo_Model_two
  | 8, _, _ => zo_Model_takeOut
  | 9, _, _ => zo_Model_copy
  | j + 10, h, _ => absurd h (by omega)
theorem zOkC25 : ∀ j, j < 10 → 10 * 25 + j < 279 → zOkM (10 * 25 + j) = true
  | 0, _, _ => zo_Model_value2
  | 1, _, _ => zo_Model_isSameTwo
  | 2, _, _ => zo_Model_isSameValue
  | 3, _, _ => zo_Model_reads
  | 4, _, _ => zo_Model_isKept
  | 5, _, _ => zo_Model_drop
  | 6, _, _ => zo_Model_isIdle
  | 7, _, _ => zo_Model_move
  | 8, _, _ => zo_Model_moveOne
  | 9, _, _ => zo_Model_canMove
  | j + 10, h, _ => absurd h (by omega)
theorem zOkC26 : ∀ j, j < 10 → 10 * 26 + j < 279 → zOkM (10 * 26 + j) = true
  | 0, _, _ => zo_Model_better
  | 1, _, _ => zo_Model_put
  | 2, _, _ => zo_Model_empty
  | 3, _, _ => zo_Model_run
  | 4, _, _ => zo_Model_runWith
  | 5, _, _ => zo_Model_behindLabels
  | 6, _, _ => zo_Model_step
  | 7, _, _ => zo_Model_valueOf
  | 8, _, _ => zo_Model_ran
  | 9, _, _ => zo_Model_output
  | j + 10, h, _ => absurd h (by omega)
theorem zOkC27 : ∀ j, j < 10 → 10 * 27 + j < 279 → zOkM (10 * 27 + j) = true
  | 0, _, _ => zo_Model_variable2
  | 1, _, _ => zo_Model_differ
  | 2, _, _ => zo_Model_areCases
  | 3, _, _ => zo_Model_inputsOf
  | 4, _, _ => zo_Model_layCase
  | 5, _, _ => zo_Model_isOther
  | 6, _, _ => zo_Model_share
  | 7, _, _ => zo_Model_digest
  | 8, _, _ => zo_Law_law
  | j + 9, _, h => absurd h (by omega)
theorem zOkD : ∀ i j, j < 10 → 10 * i + j < 279 → zOkM (10 * i + j) = true
  | 0, j, h, k => zOkC0 j h k
  | 1, j, h, k => zOkC1 j h k
  | 2, j, h, k => zOkC2 j h k
  | 3, j, h, k => zOkC3 j h k
  | 4, j, h, k => zOkC4 j h k
  | 5, j, h, k => zOkC5 j h k
  | 6, j, h, k => zOkC6 j h k
  | 7, j, h, k => zOkC7 j h k
  | 8, j, h, k => zOkC8 j h k
  | 9, j, h, k => zOkC9 j h k
  | 10, j, h, k => zOkC10 j h k
  | 11, j, h, k => zOkC11 j h k
  | 12, j, h, k => zOkC12 j h k
  | 13, j, h, k => zOkC13 j h k
  | 14, j, h, k => zOkC14 j h k
  | 15, j, h, k => zOkC15 j h k
  | 16, j, h, k => zOkC16 j h k
  | 17, j, h, k => zOkC17 j h k
  | 18, j, h, k => zOkC18 j h k
  | 19, j, h, k => zOkC19 j h k
  | 20, j, h, k => zOkC20 j h k
  | 21, j, h, k => zOkC21 j h k
  | 22, j, h, k => zOkC22 j h k
  | 23, j, h, k => zOkC23 j h k
  | 24, j, h, k => zOkC24 j h k
  | 25, j, h, k => zOkC25 j h k
  | 26, j, h, k => zOkC26 j h k
  | 27, j, h, k => zOkC27 j h k
  | i + 28, j, _, h => absurd h (by omega)
theorem zCodeL_len : zCodeL.length = 279 := by decide +kernel
theorem zCode_out {k : Nat} (h : ¬ k < 279) : zCode k = (0, []) := by
  unfold zCode
  rw [List.getD_eq_getElem?_getD, List.getElem?_eq_none (by rw [zCodeL_len]; omega)]
  rfl
theorem zOkAll (k : Nat) : zOkM k = true := by
  by_cases h : k < 279
  · have := zOkD (k / 10) (k % 10) (by omega) (by omega)
    rw [show 10 * (k / 10) + k % 10 = k by omega] at this
    exact this
  · unfold zOkM
    rw [zCode_out h]
    rfl
theorem zPc0_lt : ∀ k, k < 279 → zPc k 0 = 0 := by decide +kernel
theorem zPc0 (k : Nat) : zPc k 0 = 0 := by
  by_cases h : k < 279
  · exact zPc0_lt k h
  · unfold zPc
    rw [zCode_out h]
    rfl
end ZOKD
