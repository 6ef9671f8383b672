/-! Every method passes the check. -/
section ZOKD
theorem zo_Model_many : zOkM kModel_many = true := by decide +kernel
theorem zo_Model_lay : zOkM kModel_lay = true := by decide +kernel
theorem zo_Model_named : zOkM kModel_named = true := by decide +kernel
theorem zo_Model_number : zOkM kModel_number = true := by decide +kernel
theorem zo_Model_indexOf : zOkM kModel_indexOf = true := by decide +kernel
theorem zo_Model_value : zOkM kModel_value = true := by decide +kernel
theorem zo_Model_set : zOkM kModel_set = true := by decide +kernel
theorem zo_Model_take : zOkM kModel_take = true := by decide +kernel
theorem zo_Model_jump : zOkM kModel_jump = true := by decide +kernel
theorem zo_Model_variable : zOkM kModel_variable = true := by decide +kernel
theorem zo_Model_errorAt : zOkM kModel_errorAt = true := by decide +kernel
theorem zo_Model_programs : zOkM kModel_programs = true := by decide +kernel
theorem zo_Model_count : zOkM kModel_count = true := by decide +kernel
theorem zo_Model_isProgram : zOkM kModel_isProgram = true := by decide +kernel
theorem zo_Model_counted : zOkM kModel_counted = true := by decide +kernel
theorem zo_Model_findReach : zOkM kModel_findReach = true := by decide +kernel
theorem zo_Model_follows : zOkM kModel_follows = true := by decide +kernel
theorem zo_Model_get : zOkM kModel_get = true := by decide +kernel
theorem zo_Model_get2 : zOkM kModel_get2 = true := by decide +kernel
theorem zo_Model_jumps : zOkM kModel_jumps = true := by decide +kernel
theorem zo_Model_placeOf : zOkM kModel_placeOf = true := by decide +kernel
theorem zo_Model_beginsBlock : zOkM kModel_beginsBlock = true := by decide +kernel
theorem zo_Model_loopEnd : zOkM kModel_loopEnd = true := by decide +kernel
theorem zo_Model_leadsTo : zOkM kModel_leadsTo = true := by decide +kernel
theorem zo_Model_code : zOkM kModel_code = true := by decide +kernel
theorem zo_Model_isInstruction : zOkM kModel_isInstruction = true := by decide +kernel
theorem zo_Model_number2 : zOkM kModel_number2 = true := by decide +kernel
theorem zo_Model_numberOf : zOkM kModel_numberOf = true := by decide +kernel
theorem zo_Model_live : zOkM kModel_live = true := by decide +kernel
theorem zo_Model_findLive : zOkM kModel_findLive = true := by decide +kernel
theorem zo_Model_ahead : zOkM kModel_ahead = true := by decide +kernel
theorem zo_Model_assigns : zOkM kModel_assigns = true := by decide +kernel
theorem zo_Model_pass : zOkM kModel_pass = true := by decide +kernel
theorem zo_Model_begin : zOkM kModel_begin = true := by decide +kernel
theorem zo_Model_make : zOkM kModel_make = true := by decide +kernel
theorem zo_Model_fold : zOkM kModel_fold = true := by decide +kernel
theorem zo_Model_isNumber : zOkM kModel_isNumber = true := by decide +kernel
theorem zo_Model_two : zOkM kModel_two = true := by decide +kernel
theorem zo_Model_takeOut : zOkM kModel_takeOut = true := by decide +kernel
theorem zo_Model_copy : zOkM kModel_copy = true := by decide +kernel
theorem zo_Model_value2 : zOkM kModel_value2 = true := by decide +kernel
theorem zo_Model_isSameTwo : zOkM kModel_isSameTwo = true := by decide +kernel
theorem zo_Model_isSameValue : zOkM kModel_isSameValue = true := by decide +kernel
theorem zo_Model_reads : zOkM kModel_reads = true := by decide +kernel
theorem zo_Model_isKept : zOkM kModel_isKept = true := by decide +kernel
theorem zo_Model_drop : zOkM kModel_drop = true := by decide +kernel
theorem zo_Model_isIdle : zOkM kModel_isIdle = true := by decide +kernel
theorem zo_Model_move : zOkM kModel_move = true := by decide +kernel
theorem zo_Model_moveOne : zOkM kModel_moveOne = true := by decide +kernel
theorem zo_Model_canMove : zOkM kModel_canMove = true := by decide +kernel
theorem zo_Model_better : zOkM kModel_better = true := by decide +kernel
theorem zo_Model_put : zOkM kModel_put = true := by decide +kernel
theorem zo_Model_empty : zOkM kModel_empty = true := by decide +kernel
theorem zo_Model_run : zOkM kModel_run = true := by decide +kernel
theorem zo_Model_runWith : zOkM kModel_runWith = true := by decide +kernel
theorem zo_Model_behindLabels : zOkM kModel_behindLabels = true := by decide +kernel
theorem zo_Model_step : zOkM kModel_step = true := by decide +kernel
theorem zo_Model_valueOf : zOkM kModel_valueOf = true := by decide +kernel
theorem zo_Model_ran : zOkM kModel_ran = true := by decide +kernel
theorem zo_Model_output : zOkM kModel_output = true := by decide +kernel
theorem zo_Model_variable2 : zOkM kModel_variable2 = true := by decide +kernel
theorem zo_Model_differ : zOkM kModel_differ = true := by decide +kernel
theorem zo_Model_areCases : zOkM kModel_areCases = true := by decide +kernel
theorem zo_Model_inputsOf : zOkM kModel_inputsOf = true := by decide +kernel
theorem zo_Model_layCase : zOkM kModel_layCase = true := by decide +kernel
theorem zo_Model_isOther : zOkM kModel_isOther = true := by decide +kernel
theorem zo_Model_share : zOkM kModel_share = true := by decide +kernel
theorem zo_Model_digest : zOkM kModel_digest = true := by decide +kernel
theorem zl_law : (zCode kLaw_law).2.length ≤ 840 := by decide +kernel
theorem zo_Law_law : zOkM kLaw_law = true := by
  unfold zOkM
  refine List.all_eq_true.mpr fun i hi => ?_
  have hi := List.mem_range.mp hi
  have hi2 : i < 840 := Nat.lt_of_lt_of_le hi zl_law
  obtain ⟨en, he⟩ : ∃ en, (zCode kLaw_law).2[i]? = some en := ⟨_, List.getElem?_eq_getElem hi⟩
  rw [he]
  show zOk1 kLaw_law i en = true
  by_cases h0 : i < 60
  · exact zOkR_at zr_law_0 (by omega) (by omega) he
  by_cases h1 : i < 120
  · exact zOkR_at zr_law_1 (by omega) (by omega) he
  by_cases h2 : i < 180
  · exact zOkR_at zr_law_2 (by omega) (by omega) he
  by_cases h3 : i < 240
  · exact zOkR_at zr_law_3 (by omega) (by omega) he
  by_cases h4 : i < 300
  · exact zOkR_at zr_law_4 (by omega) (by omega) he
  by_cases h5 : i < 360
  · exact zOkR_at zr_law_5 (by omega) (by omega) he
  by_cases h6 : i < 420
  · exact zOkR_at zr_law_6 (by omega) (by omega) he
  by_cases h7 : i < 480
  · exact zOkR_at zr_law_7 (by omega) (by omega) he
  by_cases h8 : i < 540
  · exact zOkR_at zr_law_8 (by omega) (by omega) he
  by_cases h9 : i < 600
  · exact zOkR_at zr_law_9 (by omega) (by omega) he
  by_cases h10 : i < 660
  · exact zOkR_at zr_law_10 (by omega) (by omega) he
  by_cases h11 : i < 720
  · exact zOkR_at zr_law_11 (by omega) (by omega) he
  by_cases h12 : i < 780
  · exact zOkR_at zr_law_12 (by omega) (by omega) he
  exact zOkR_at zr_law_13 (by omega) (by omega) he
theorem zOkC0 : ∀ j, j < 10 → 10 * 0 + j < 278 → zOkM (10 * 0 + j) = true
  | 0, _, _ => zo_PassForge_init
  | 1, _, _ => zo_Program_init
  | 2, _, _ => zo_Tape_init
  | 3, _, _ => zo_Reader_init
  | 4, _, _ => zo_Tokens_init
  | 5, _, _ => zo_Names_init
  | 6, _, _ => zo_Flow_init
  | 7, _, _ => zo_BlockPasses_init
  | 8, _, _ => zo_FlowPasses_init
  | 9, _, _ => zo_Machine_init
  | j + 10, h, _ => absurd h (by omega)
theorem zOkC1 : ∀ j, j < 10 → 10 * 1 + j < 278 → zOkM (10 * 1 + j) = true
  | 0, _, _ => zo_PassForge_errorAt
  | 1, _, _ => zo_Reader_faultPlace
  | 2, _, _ => zo_PassForge_programs
  | 3, _, _ => zo_PassForge_empty
  | 4, _, _ => zo_PassForge_digest
  | 5, _, _ => zo_PassForge_mix
  | 6, _, _ => zo_PassForge_mixProgram
  | 7, _, _ => zo_Program_tally
  | 8, _, _ => zo_Program_size
  | 9, _, _ => zo_Program_part
  | j + 10, h, _ => absurd h (by omega)
theorem zOkC2 : ∀ j, j < 10 → 10 * 2 + j < 278 → zOkM (10 * 2 + j) = true
  | 0, _, _ => zo_Program_sortAt
  | 1, _, _ => zo_Program_targetAt
  | 2, _, _ => zo_Program_opAt
  | 3, _, _ => zo_Program_firstVariableAt
  | 4, _, _ => zo_Program_secondVariableAt
  | 5, _, _ => zo_Program_firstNumberAt
  | 6, _, _ => zo_Program_secondNumberAt
  | 7, _, _ => zo_Program_liveAt
  | 8, _, _ => zo_Tape_size
  | 9, _, _ => zo_Machine_report
  | j + 10, h, _ => absurd h (by omega)
theorem zOkC3 : ∀ j, j < 10 → 10 * 3 + j < 278 → zOkM (10 * 3 + j) = true
  | 0, _, _ => zo_Machine_kept
  | 1, _, _ => zo_Math_min
  | 2, _, _ => zo_Machine_keptAt
  | 3, _, _ => zo_Machine_valueOf
  | 4, _, _ => zo_Law_feed
  | 5, _, _ => zo_PassForge_feed
  | 6, _, _ => zo_Tape_room
  | 7, _, _ => zo_Tape_addFour
  | 8, _, _ => zo_Law_trim
  | 9, _, _ => zo_PassForge_trim
  | j + 10, h, _ => absurd h (by omega)
theorem zOkC4 : ∀ j, j < 10 → 10 * 4 + j < 278 → zOkM (10 * 4 + j) = true
  | 0, _, _ => zo_Tape_shorten
  | 1, _, _ => zo_Law_compile
  | 2, _, _ => zo_PassForge_compile
  | 3, _, _ => zo_PassForge_freshProgram
  | 4, _, _ => zo_Reader_read
  | 5, _, _ => zo_Names_clear
  | 6, _, _ => zo_Program_clear
  | 7, _, _ => zo_Tokens_cut
  | 8, _, _ => zo_Tape_byteAt
  | 9, _, _ => zo_Tokens_isLetter
  | j + 10, h, _ => absurd h (by omega)
theorem zOkC5 : ∀ j, j < 10 → 10 * 5 + j < 278 → zOkM (10 * 5 + j) = true
  | 0, _, _ => zo_Tokens_cutWord
  | 1, _, _ => zo_Tokens_isDigit
  | 2, _, _ => zo_Tokens_kindOfWord
  | 3, _, _ => zo_Tokens_add
  | 4, _, _ => zo_Tokens_cutNumber
  | 5, _, _ => zo_Tokens_isSymbol
  | 6, _, _ => zo_Tokens_opOf
  | 7, _, _ => zo_Reader_readLine
  | 8, _, _ => zo_Tokens_kind
  | 9, _, _ => zo_Tokens_start
  | j + 10, h, _ => absurd h (by omega)
theorem zOkC6 : ∀ j, j < 10 → 10 * 6 + j < 278 → zOkM (10 * 6 + j) = true
  | 0, _, _ => zo_Reader_fail
  | 1, _, _ => zo_Reader_forgetInstruction
  | 2, _, _ => zo_Reader_readNamed
  | 3, _, _ => zo_Tokens_content
  | 4, _, _ => zo_Tokens_toNext
  | 5, _, _ => zo_Names_find
  | 6, _, _ => zo_Names_setOnce
  | 7, _, _ => zo_Reader_add
  | 8, _, _ => zo_Program_add
  | 9, _, _ => zo_Program_setFirst
  | j + 10, h, _ => absurd h (by omega)
theorem zOkC7 : ∀ j, j < 10 → 10 * 7 + j < 278 → zOkM (10 * 7 + j) = true
  | 0, _, _ => zo_Program_has
  | 1, _, _ => zo_Program_setSecond
  | 2, _, _ => zo_Reader_take
  | 3, _, _ => zo_Reader_readValue
  | 4, _, _ => zo_Reader_takeName
  | 5, _, _ => zo_Reader_keepFirst
  | 6, _, _ => zo_Reader_keepSecond
  | 7, _, _ => zo_Reader_readName
  | 8, _, _ => zo_Names_firstUnset
  | 9, _, _ => zo_Names_size
  | j + 10, h, _ => absurd h (by omega)
theorem zOkC8 : ∀ j, j < 10 → 10 * 8 + j < 278 → zOkM (10 * 8 + j) = true
  | 0, _, _ => zo_Program_setNames
  | 1, _, _ => zo_PassForge_accept
  | 2, _, _ => zo_Flow_measure
  | 3, _, _ => zo_Flow_look
  | 4, _, _ => zo_Program_link
  | 5, _, _ => zo_Program_isLabel
  | 6, _, _ => zo_Program_isJump
  | 7, _, _ => zo_Flow_reach
  | 8, _, _ => zo_Flow_goForward
  | 9, _, _ => zo_Flow_reaches
  | j + 10, h, _ => absurd h (by omega)
theorem zOkC9 : ∀ j, j < 10 → 10 * 9 + j < 278 → zOkM (10 * 9 + j) = true
  | 0, _, _ => zo_Program_nextOf
  | 1, _, _ => zo_Program_jumpOf
  | 2, _, _ => zo_Flow_goBackward
  | 3, _, _ => zo_Flow_aheadOf
  | 4, _, _ => zo_Flow_liveAhead
  | 5, _, _ => zo_Program_readSet
  | 6, _, _ => zo_Program_setOf
  | 7, _, _ => zo_Program_assignedSet
  | 8, _, _ => zo_Program_assigned
  | 9, _, _ => zo_Program_startsBlock
  | j + 10, h, _ => absurd h (by omega)
theorem zOkC10 : ∀ j, j < 10 → 10 * 10 + j < 278 → zOkM (10 * 10 + j) = true
  | 0, _, _ => zo_Program_loopEnd
  | 1, _, _ => zo_Program_jumpsTo
  | 2, _, _ => zo_Program_isEnteredBehind
  | 3, _, _ => zo_Flow_liveBehind
  | 4, _, _ => zo_Program_setLive
  | 5, _, _ => zo_Program_setMeasures
  | 6, _, _ => zo_Law_count
  | 7, _, _ => zo_PassForge_count
  | 8, _, _ => zo_PassForge_programAt
  | 9, _, _ => zo_Law_code
  | j + 10, h, _ => absurd h (by omega)
theorem zOkC11 : ∀ j, j < 10 → 10 * 11 + j < 278 → zOkM (10 * 11 + j) = true
  | 0, _, _ => zo_PassForge_code
  | 1, _, _ => zo_PassForge_programWith
  | 2, _, _ => zo_Law_number
  | 3, _, _ => zo_PassForge_number
  | 4, _, _ => zo_Law_live
  | 5, _, _ => zo_PassForge_live
  | 6, _, _ => zo_Law_pass
  | 7, _, _ => zo_PassForge_pass
  | 8, _, _ => zo_Program_become
  | 9, _, _ => zo_Program_layDown
  | j + 10, h, _ => absurd h (by omega)
theorem zOkC12 : ∀ j, j < 10 → 10 * 12 + j < 278 → zOkM (10 * 12 + j) = true
  | 0, _, _ => zo_PassForge_changeBy
  | 1, _, _ => zo_BlockPasses_fold
  | 2, _, _ => zo_BlockPasses_forgetNumbers
  | 3, _, _ => zo_BlockPasses_putNumbers
  | 4, _, _ => zo_BlockPasses_knows
  | 5, _, _ => zo_BlockPasses_knownOf
  | 6, _, _ => zo_BlockPasses_foldOne
  | 7, _, _ => zo_PassForge_reckon
  | 8, _, _ => zo_Program_setPlain
  | 9, _, _ => zo_Program_mark
  | j + 10, h, _ => absurd h (by omega)
theorem zOkC13 : ∀ j, j < 10 → 10 * 13 + j < 278 → zOkM (10 * 13 + j) = true
  | 0, _, _ => zo_Program_setGoto
  | 1, _, _ => zo_BlockPasses_learnNumber
  | 2, _, _ => zo_Program_removeMarked
  | 3, _, _ => zo_BlockPasses_lookThroughCopies
  | 4, _, _ => zo_BlockPasses_forgetCopies
  | 5, _, _ => zo_BlockPasses_putCopies
  | 6, _, _ => zo_BlockPasses_copiedBy
  | 7, _, _ => zo_BlockPasses_learnCopy
  | 8, _, _ => zo_BlockPasses_takeValues
  | 9, _, _ => zo_BlockPasses_sameValue
  | j + 10, h, _ => absurd h (by omega)
theorem zOkC14 : ∀ j, j < 10 → 10 * 14 + j < 278 → zOkM (10 * 14 + j) = true
  | 0, _, _ => zo_BlockPasses_reckonsSame
  | 1, _, _ => zo_BlockPasses_canTurn
  | 2, _, _ => zo_BlockPasses_assignedBetween
  | 3, _, _ => zo_FlowPasses_drop
  | 4, _, _ => zo_FlowPasses_firstNeedless
  | 5, _, _ => zo_FlowPasses_isNeedless
  | 6, _, _ => zo_Program_pastLabels
  | 7, _, _ => zo_Program_removeAt
  | 8, _, _ => zo_FlowPasses_move
  | 9, _, _ => zo_FlowPasses_moveFirst
  | j + 10, h, _ => absurd h (by omega)
theorem zOkC15 : ∀ j, j < 10 → 10 * 15 + j < 278 → zOkM (10 * 15 + j) = true
  | 0, _, _ => zo_FlowPasses_firstMovable
  | 1, _, _ => zo_FlowPasses_outsideAhead
  | 2, _, _ => zo_Program_moveUp
  | 3, _, _ => zo_Law_better
  | 4, _, _ => zo_PassForge_better
  | 5, _, _ => zo_Law_put
  | 6, _, _ => zo_PassForge_put
  | 7, _, _ => zo_Law_run
  | 8, _, _ => zo_PassForge_run
  | 9, _, _ => zo_Machine_execute
  | j + 10, h, _ => absurd h (by omega)
theorem zOkC16 : ∀ j, j < 10 → 10 * 16 + j < 278 → zOkM (10 * 16 + j) = true
  | 0, _, _ => zo_Machine_setValue
  | 1, _, _ => zo_Machine_follow
  | 2, _, _ => zo_Machine_operand
  | 3, _, _ => zo_Machine_putOut
  | 4, _, _ => zo_Machine_steps
  | 5, _, _ => zo_Law_ran
  | 6, _, _ => zo_PassForge_ran
  | 7, _, _ => zo_Law_output
  | 8, _, _ => zo_PassForge_output
  | 9, _, _ => zo_Law_variable
  | j + 10, h, _ => absurd h (by omega)
theorem zOkC17 : ∀ j, j < 10 → 10 * 17 + j < 278 → zOkM (10 * 17 + j) = true
  | 0, _, _ => zo_PassForge_variable
  | 1, _, _ => zo_Law_differ
  | 2, _, _ => zo_PassForge_differ
  | 3, _, _ => zo_PassForge_inputsOf
  | 4, _, _ => zo_PassForge_clearDigits
  | 5, _, _ => zo_Machine_isUnlike
  | 6, _, _ => zo_PassForge_countUpDigits
  | 7, _, _ => zo_Law_share
  | 8, _, _ => zo_PassForge_share
  | 9, _, _ => zo_Model_init
  | j + 10, h, _ => absurd h (by omega)
theorem zOkC18 : ∀ j, j < 10 → 10 * 18 + j < 278 → zOkM (10 * 18 + j) = true
  | 0, _, _ => zo_Model_thrown
  | 1, _, _ => zo_Model_feed
  | 2, _, _ => zo_Model_fail
  | 3, _, _ => zo_Model_four
  | 4, _, _ => zo_Model_trim
  | 5, _, _ => zo_Model_isIn
  | 6, _, _ => zo_Model_compile
  | 7, _, _ => zo_Model_next
  | 8, _, _ => zo_Model_byteAt
  | 9, _, _ => zo_Model_isLetter
  | j + 10, h, _ => absurd h (by omega)
theorem zOkC19 : ∀ j, j < 10 → 10 * 19 + j < 278 → zOkM (10 * 19 + j) = true
  | 0, _, _ => zo_Model_isDigit
  | 1, _, _ => zo_Model_keyOf
  | 2, _, _ => zo_String_indexOf
  | 3, _, _ => zo_String_isLatin1
  | 4, _, _ => zo_String_length
  | 5, _, _ => zo_String_coder
  | 6, _, _ => zo_StringLatin1_indexOf
  | 7, _, _ => zo_StringLatin1_canEncode
  | 8, _, _ => zo_Math_max
  | 9, _, _ => zo_StringLatin1_indexOfChar
  | j + 10, h, _ => absurd h (by omega)
theorem zOkC20 : ∀ j, j < 10 → 10 * 20 + j < 278 → zOkM (10 * 20 + j) = true
  | 0, _, _ => zo_String_charAt
  | 1, _, _ => zo_StringLatin1_charAt
  | 2, _, _ => zo_String_checkIndex
  | 3, _, _ => zo_Preconditions_checkIndex
  | 4, _, _ => zo_String_indexOf2
  | 5, _, _ => zo_Model_line
  | 6, _, _ => zo_Model_wrong
  | 7, _, _ => zo_Wrong_init
  | 8, _, _ => zo_Model_must
  | 9, _, _ => zo_Model_many
  | j + 10, h, _ => absurd h (by omega)
theorem zOkC21 : ∀ j, j < 10 → 10 * 21 + j < 278 → zOkM (10 * 21 + j) = true
  | 0, _, _ => zo_Model_lay
  | 1, _, _ => zo_Model_named
  | 2, _, _ => zo_Model_number
  | 3, _, _ => zo_Model_indexOf
  | 4, _, _ => zo_Model_value
  | 5, _, _ => zo_Model_set
  | 6, _, _ => zo_Model_take
  | 7, _, _ => zo_Model_jump
  | 8, _, _ => zo_Model_variable
  | 9, _, _ => zo_Model_errorAt
  | j + 10, h, _ => absurd h (by omega)
theorem zOkC22 : ∀ j, j < 10 → 10 * 22 + j < 278 → zOkM (10 * 22 + j) = true
  | 0, _, _ => zo_Model_programs
  | 1, _, _ => zo_Model_count
  | 2, _, _ => zo_Model_isProgram
  | 3, _, _ => zo_Model_counted
  | 4, _, _ => zo_Model_findReach
  | 5, _, _ => zo_Model_follows
  | 6, _, _ => zo_Model_get
  | 7, _, _ => zo_Model_get2
  | 8, _, _ => zo_Model_jumps
  | 9, _, _ => zo_Model_placeOf
  | j + 10, h, _ => absurd h (by omega)
theorem zOkC23 : ∀ j, j < 10 → 10 * 23 + j < 278 → zOkM (10 * 23 + j) = true
  | 0, _, _ => zo_Model_beginsBlock
  | 1, _, _ => zo_Model_loopEnd
  | 2, _, _ => zo_Model_leadsTo
  | 3, _, _ => zo_Model_code
  | 4, _, _ => zo_Model_isInstruction
  | 5, _, _ => zo_Model_number2
  | 6, _, _ => zo_Model_numberOf
  | 7, _, _ => zo_Model_live
  | 8, _, _ => zo_Model_findLive
  | 9, _, _ => zo_Model_ahead
  | j + 10, h, _ => absurd h (by omega)
theorem zOkC24 : ∀ j, j < 10 → 10 * 24 + j < 278 → zOkM (10 * 24 + j) = true
  | 0, _, _ => zo_Model_assigns
  | 1, _, _ => zo_Model_pass
  | 2, _, _ => zo_Model_begin
  | 3, _, _ => zo_Model_make
  | 4, _, _ => zo_Model_fold
  | 5, _, _ => zo_Model_isNumber
  | 6, _, _ => zo_Model_two
  | 7, _, _ => zo_Model_takeOut
  | 8, _, _ => zo_Model_copy
  | 9, _, _ => zo_Model_value2
  | j + 10, h, _ => absurd h (by omega)
theorem zOkC25 : ∀ j, j < 10 → 10 * 25 + j < 278 → zOkM (10 * 25 + j) = true
  | 0, _, _ => zo_Model_isSameTwo
  | 1, _, _ => zo_Model_isSameValue
  | 2, _, _ => zo_Model_reads
  | 3, _, _ => zo_Model_isKept
  | 4, _, _ => zo_Model_drop
  | 5, _, _ => zo_Model_isIdle
  | 6, _, _ => zo_Model_move
  | 7, _, _ => zo_Model_moveOne
  | 8, _, _ => zo_Model_canMove
  | 9, _, _ => zo_Model_better
  | j + 10, h, _ => absurd h (by omega)
theorem zOkC26 : ∀ j, j < 10 → 10 * 26 + j < 278 → zOkM (10 * 26 + j) = true
  | 0, _, _ => zo_Model_put
  | 1, _, _ => zo_Model_empty
  | 2, _, _ => zo_Model_run
  | 3, _, _ => zo_Model_runWith
  | 4, _, _ => zo_Model_behindLabels
  | 5, _, _ => zo_Model_step
  | 6, _, _ => zo_Model_valueOf
  | 7, _, _ => zo_Model_ran
  | 8, _, _ => zo_Model_output
  | 9, _, _ => zo_Model_variable2
  | j + 10, h, _ => absurd h (by omega)
theorem zOkC27 : ∀ j, j < 10 → 10 * 27 + j < 278 → zOkM (10 * 27 + j) = true
  | 0, _, _ => zo_Model_differ
  | 1, _, _ => zo_Model_areCases
  | 2, _, _ => zo_Model_inputsOf
  | 3, _, _ => zo_Model_layCase
  | 4, _, _ => zo_Model_isOther
  | 5, _, _ => zo_Model_share
  | 6, _, _ => zo_Model_digest
  | 7, _, _ => zo_Law_law
  | j + 8, _, h => absurd h (by omega)
theorem zOkD : ∀ i j, j < 10 → 10 * i + j < 278 → zOkM (10 * i + j) = true
  | 0, j, h, k => zOkC0 j h k
  | 1, j, h, k => zOkC1 j h k
  | 2, j, h, k => zOkC2 j h k
  | 3, j, h, k => zOkC3 j h k
  | 4, j, h, k => zOkC4 j h k
  | 5, j, h, k => zOkC5 j h k
  | 6, j, h, k => zOkC6 j h k
  | 7, j, h, k => zOkC7 j h k
  | 8, j, h, k => zOkC8 j h k
  | 9, j, h, k => zOkC9 j h k
  | 10, j, h, k => zOkC10 j h k
  | 11, j, h, k => zOkC11 j h k
  | 12, j, h, k => zOkC12 j h k
  | 13, j, h, k => zOkC13 j h k
  | 14, j, h, k => zOkC14 j h k
  | 15, j, h, k => zOkC15 j h k
  | 16, j, h, k => zOkC16 j h k
  | 17, j, h, k => zOkC17 j h k
  | 18, j, h, k => zOkC18 j h k
  | 19, j, h, k => zOkC19 j h k
  | 20, j, h, k => zOkC20 j h k
  | 21, j, h, k => zOkC21 j h k
  | 22, j, h, k => zOkC22 j h k
  | 23, j, h, k => zOkC23 j h k
  | 24, j, h, k => zOkC24 j h k
  | 25, j, h, k => zOkC25 j h k
  | 26, j, h, k => zOkC26 j h k
  | 27, j, h, k => zOkC27 j h k
  | i + 28, j, _, h => absurd h (by omega)
theorem zCodeL_len : zCodeL.length = 278 := by decide +kernel
theorem zCode_out {k : Nat} (h : ¬ k < 278) : zCode k = (0, []) := by
  unfold zCode
  rw [List.getD_eq_getElem?_getD, List.getElem?_eq_none (by rw [zCodeL_len]; omega)]
  rfl
theorem zOkAll (k : Nat) : zOkM k = true := by
  by_cases h : k < 278
  · have := zOkD (k / 10) (k % 10) (by omega) (by omega)
    rw [show 10 * (k / 10) + k % 10 = k by omega] at this
    exact this
  · unfold zOkM
    rw [zCode_out h]
    rfl
theorem zPc0_lt : ∀ k, k < 278 → zPc k 0 = 0 := by decide +kernel
theorem zPc0 (k : Nat) : zPc k 0 = 0 := by
  by_cases h : k < 278
  · exact zPc0_lt k h
  · unfold zPc
    rw [zCode_out h]
    rfl
end ZOKD
