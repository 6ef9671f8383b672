/-! A call as a run. -/
section ZCALLS
theorem za_PassForge_init (x0 : Nat) (h : zH) : zCall zCode kPassForge_init [.ref x0] h = zRun zCode kPassForge_init 0 [.ref x0, .retAddr 0] [] h := rfl
theorem za_Program_init (x0 : Nat) (h : zH) : zCall zCode kProgram_init [.ref x0] h = zRun zCode kProgram_init 0 [.ref x0] [] h := rfl
theorem za_Tape_init (x0 : Nat) (h : zH) : zCall zCode kTape_init [.ref x0] h = zRun zCode kTape_init 0 [.ref x0] [] h := rfl
theorem za_Reader_init (x0 : Nat) (h : zH) : zCall zCode kReader_init [.ref x0] h = zRun zCode kReader_init 0 [.ref x0] [] h := rfl
theorem za_Tokens_init (x0 : Nat) (h : zH) : zCall zCode kTokens_init [.ref x0] h = zRun zCode kTokens_init 0 [.ref x0] [] h := rfl
theorem za_Names_init (x0 : Nat) (h : zH) : zCall zCode kNames_init [.ref x0] h = zRun zCode kNames_init 0 [.ref x0] [] h := rfl
theorem za_Flow_init (x0 : Nat) (h : zH) : zCall zCode kFlow_init [.ref x0] h = zRun zCode kFlow_init 0 [.ref x0] [] h := rfl
theorem za_BlockPasses_init (x0 : Nat) (h : zH) : zCall zCode kBlockPasses_init [.ref x0] h = zRun zCode kBlockPasses_init 0 [.ref x0] [] h := rfl
theorem za_FlowPasses_init (x0 : Nat) (h : zH) : zCall zCode kFlowPasses_init [.ref x0] h = zRun zCode kFlowPasses_init 0 [.ref x0] [] h := rfl
theorem za_Machine_init (x0 : Nat) (h : zH) : zCall zCode kMachine_init [.ref x0] h = zRun zCode kMachine_init 0 [.ref x0] [] h := rfl
theorem za_PassForge_errorAt (x0 : Nat) (h : zH) : zCall zCode kPassForge_errorAt [.ref x0] h = zRun zCode kPassForge_errorAt 0 [.ref x0] [] h := rfl
theorem za_Reader_faultPlace (x0 : Nat) (h : zH) : zCall zCode kReader_faultPlace [.ref x0] h = zRun zCode kReader_faultPlace 0 [.ref x0] [] h := rfl
theorem za_PassForge_programs (x0 : Nat) (h : zH) : zCall zCode kPassForge_programs [.ref x0] h = zRun zCode kPassForge_programs 0 [.ref x0] [] h := rfl
theorem za_PassForge_empty (x0 : Nat) (h : zH) : zCall zCode kPassForge_empty [.ref x0] h = zRun zCode kPassForge_empty 0 [.ref x0, .retAddr 0] [] h := rfl
theorem za_PassForge_digest (x0 : Nat) (h : zH) : zCall zCode kPassForge_digest [.ref x0] h = zRun zCode kPassForge_digest 0 [.ref x0, .retAddr 0, .retAddr 0, .retAddr 0] [] h := rfl
theorem za_PassForge_mix (x0 : Int64) (x2 : Int64) (h : zH) : zCall zCode kPassForge_mix [.long x0, .long x2] h = zRun zCode kPassForge_mix 0 [.long x0, .retAddr 0, .long x2, .retAddr 0] [] h := rfl
theorem za_PassForge_mixProgram (x0 : Int64) (x2 : Nat) (h : zH) : zCall zCode kPassForge_mixProgram [.long x0, .ref x2] h = zRun zCode kPassForge_mixProgram 0 [.long x0, .retAddr 0, .ref x2, .retAddr 0, .retAddr 0, .retAddr 0, .retAddr 0] [] h := rfl
theorem za_Program_tally (x0 : Nat) (x1 : Int32) (h : zH) : zCall zCode kProgram_tally [.ref x0, .int x1] h = zRun zCode kProgram_tally 0 [.ref x0, .int x1] [] h := rfl
theorem za_Program_size (x0 : Nat) (h : zH) : zCall zCode kProgram_size [.ref x0] h = zRun zCode kProgram_size 0 [.ref x0] [] h := rfl
theorem za_Program_part (x0 : Nat) (x1 : Int32) (x2 : Int32) (h : zH) : zCall zCode kProgram_part [.ref x0, .int x1, .int x2] h = zRun zCode kProgram_part 0 [.ref x0, .int x1, .int x2] [] h := rfl
theorem za_Program_sortAt (x0 : Nat) (x1 : Int32) (h : zH) : zCall zCode kProgram_sortAt [.ref x0, .int x1] h = zRun zCode kProgram_sortAt 0 [.ref x0, .int x1] [] h := rfl
theorem za_Program_targetAt (x0 : Nat) (x1 : Int32) (h : zH) : zCall zCode kProgram_targetAt [.ref x0, .int x1] h = zRun zCode kProgram_targetAt 0 [.ref x0, .int x1] [] h := rfl
theorem za_Program_opAt (x0 : Nat) (x1 : Int32) (h : zH) : zCall zCode kProgram_opAt [.ref x0, .int x1] h = zRun zCode kProgram_opAt 0 [.ref x0, .int x1] [] h := rfl
theorem za_Program_firstVariableAt (x0 : Nat) (x1 : Int32) (h : zH) : zCall zCode kProgram_firstVariableAt [.ref x0, .int x1] h = zRun zCode kProgram_firstVariableAt 0 [.ref x0, .int x1] [] h := rfl
theorem za_Program_secondVariableAt (x0 : Nat) (x1 : Int32) (h : zH) : zCall zCode kProgram_secondVariableAt [.ref x0, .int x1] h = zRun zCode kProgram_secondVariableAt 0 [.ref x0, .int x1] [] h := rfl
theorem za_Program_firstNumberAt (x0 : Nat) (x1 : Int32) (h : zH) : zCall zCode kProgram_firstNumberAt [.ref x0, .int x1] h = zRun zCode kProgram_firstNumberAt 0 [.ref x0, .int x1] [] h := rfl
theorem za_Program_secondNumberAt (x0 : Nat) (x1 : Int32) (h : zH) : zCall zCode kProgram_secondNumberAt [.ref x0, .int x1] h = zRun zCode kProgram_secondNumberAt 0 [.ref x0, .int x1] [] h := rfl
theorem za_Program_liveAt (x0 : Nat) (x1 : Int32) (h : zH) : zCall zCode kProgram_liveAt [.ref x0, .int x1] h = zRun zCode kProgram_liveAt 0 [.ref x0, .int x1] [] h := rfl
theorem za_Tape_size (x0 : Nat) (h : zH) : zCall zCode kTape_size [.ref x0] h = zRun zCode kTape_size 0 [.ref x0] [] h := rfl
theorem za_Machine_report (x0 : Nat) (x1 : Int32) (h : zH) : zCall zCode kMachine_report [.ref x0, .int x1] h = zRun zCode kMachine_report 0 [.ref x0, .int x1] [] h := rfl
theorem za_Machine_kept (x0 : Nat) (h : zH) : zCall zCode kMachine_kept [.ref x0] h = zRun zCode kMachine_kept 0 [.ref x0] [] h := rfl
theorem za_Math_min (x0 : Int32) (x1 : Int32) (h : zH) : zCall zCode kMath_min [.int x0, .int x1] h = zRun zCode kMath_min 0 [.int x0, .int x1] [] h := rfl
theorem za_Machine_keptAt (x0 : Nat) (x1 : Int32) (h : zH) : zCall zCode kMachine_keptAt [.ref x0, .int x1] h = zRun zCode kMachine_keptAt 0 [.ref x0, .int x1] [] h := rfl
theorem za_Machine_valueOf (x0 : Nat) (x1 : Int32) (h : zH) : zCall zCode kMachine_valueOf [.ref x0, .int x1] h = zRun zCode kMachine_valueOf 0 [.ref x0, .int x1] [] h := rfl
theorem za_Law_feed (x0 : Nat) (x1 : Int32) (x2 : Int32) (x3 : Int32) (x4 : Int32) (x5 : Int32) (x6 : Nat) (h : zH) : zCall zCode kLaw_feed [.ref x0, .int x1, .int x2, .int x3, .int x4, .int x5, .ref x6] h = zRun zCode kLaw_feed 0 [.ref x0, .int x1, .int x2, .int x3, .int x4, .int x5, .ref x6, .retAddr 0] [] h := rfl
theorem za_PassForge_feed (x0 : Nat) (x1 : Int32) (x2 : Int32) (x3 : Int32) (x4 : Int32) (x5 : Int32) (h : zH) : zCall zCode kPassForge_feed [.ref x0, .int x1, .int x2, .int x3, .int x4, .int x5] h = zRun zCode kPassForge_feed 0 [.ref x0, .int x1, .int x2, .int x3, .int x4, .int x5] [] h := rfl
theorem za_Tape_room (x0 : Nat) (h : zH) : zCall zCode kTape_room [.ref x0] h = zRun zCode kTape_room 0 [.ref x0] [] h := rfl
theorem za_Tape_addFour (x0 : Nat) (x1 : Int32) (h : zH) : zCall zCode kTape_addFour [.ref x0, .int x1] h = zRun zCode kTape_addFour 0 [.ref x0, .int x1, .retAddr 0] [] h := rfl
theorem za_Law_trim (x0 : Nat) (x1 : Int32) (x2 : Nat) (h : zH) : zCall zCode kLaw_trim [.ref x0, .int x1, .ref x2] h = zRun zCode kLaw_trim 0 [.ref x0, .int x1, .ref x2, .retAddr 0] [] h := rfl
theorem za_PassForge_trim (x0 : Nat) (x1 : Int32) (h : zH) : zCall zCode kPassForge_trim [.ref x0, .int x1] h = zRun zCode kPassForge_trim 0 [.ref x0, .int x1] [] h := rfl
theorem za_Tape_shorten (x0 : Nat) (x1 : Int32) (h : zH) : zCall zCode kTape_shorten [.ref x0, .int x1] h = zRun zCode kTape_shorten 0 [.ref x0, .int x1] [] h := rfl
theorem za_Law_compile (x0 : Nat) (x1 : Nat) (h : zH) : zCall zCode kLaw_compile [.ref x0, .ref x1] h = zRun zCode kLaw_compile 0 [.ref x0, .ref x1, .retAddr 0] [] h := rfl
theorem za_PassForge_compile (x0 : Nat) (h : zH) : zCall zCode kPassForge_compile [.ref x0] h = zRun zCode kPassForge_compile 0 [.ref x0, .retAddr 0, .retAddr 0] [] h := rfl
theorem za_PassForge_freshProgram (x0 : Nat) (h : zH) : zCall zCode kPassForge_freshProgram [.ref x0] h = zRun zCode kPassForge_freshProgram 0 [.ref x0] [] h := rfl
theorem za_Reader_read (x0 : Nat) (x1 : Nat) (x2 : Nat) (h : zH) : zCall zCode kReader_read [.ref x0, .ref x1, .ref x2] h = zRun zCode kReader_read 0 [.ref x0, .ref x1, .ref x2, .retAddr 0, .retAddr 0] [] h := rfl
theorem za_Names_clear (x0 : Nat) (h : zH) : zCall zCode kNames_clear [.ref x0] h = zRun zCode kNames_clear 0 [.ref x0] [] h := rfl
theorem za_Program_clear (x0 : Nat) (h : zH) : zCall zCode kProgram_clear [.ref x0] h = zRun zCode kProgram_clear 0 [.ref x0] [] h := rfl
theorem za_Tokens_cut (x0 : Nat) (x1 : Nat) (h : zH) : zCall zCode kTokens_cut [.ref x0, .ref x1] h = zRun zCode kTokens_cut 0 [.ref x0, .ref x1, .retAddr 0] [] h := rfl
theorem za_Tokens_cutOne (x0 : Nat) (x1 : Nat) (x2 : Int32) (h : zH) : zCall zCode kTokens_cutOne [.ref x0, .ref x1, .int x2] h = zRun zCode kTokens_cutOne 0 [.ref x0, .ref x1, .int x2, .retAddr 0] [] h := rfl
theorem za_Tape_byteAt (x0 : Nat) (x1 : Int32) (h : zH) : zCall zCode kTape_byteAt [.ref x0, .int x1] h = zRun zCode kTape_byteAt 0 [.ref x0, .int x1] [] h := rfl
theorem za_Tokens_isLetter (x0 : Int32) (h : zH) : zCall zCode kTokens_isLetter [.int x0] h = zRun zCode kTokens_isLetter 0 [.int x0] [] h := rfl
theorem za_Tokens_cutWord (x0 : Nat) (x1 : Nat) (x2 : Int32) (h : zH) : zCall zCode kTokens_cutWord [.ref x0, .ref x1, .int x2] h = zRun zCode kTokens_cutWord 0 [.ref x0, .ref x1, .int x2, .retAddr 0, .retAddr 0, .retAddr 0] [] h := rfl
theorem za_Tokens_isDigit (x0 : Int32) (h : zH) : zCall zCode kTokens_isDigit [.int x0] h = zRun zCode kTokens_isDigit 0 [.int x0] [] h := rfl
theorem za_Tokens_kindOfWord (x0 : Int64) (h : zH) : zCall zCode kTokens_kindOfWord [.long x0] h = zRun zCode kTokens_kindOfWord 0 [.long x0, .retAddr 0] [] h := rfl
theorem za_Tokens_add (x0 : Nat) (x1 : Int32) (x2 : Int32) (x3 : Int64) (h : zH) : zCall zCode kTokens_add [.ref x0, .int x1, .int x2, .long x3] h = zRun zCode kTokens_add 0 [.ref x0, .int x1, .int x2, .long x3, .retAddr 0] [] h := rfl
theorem za_Tokens_cutNumber (x0 : Nat) (x1 : Nat) (x2 : Int32) (h : zH) : zCall zCode kTokens_cutNumber [.ref x0, .ref x1, .int x2] h = zRun zCode kTokens_cutNumber 0 [.ref x0, .ref x1, .int x2, .retAddr 0, .retAddr 0, .retAddr 0] [] h := rfl
theorem za_Tokens_isSymbol (x0 : Int32) (h : zH) : zCall zCode kTokens_isSymbol [.int x0] h = zRun zCode kTokens_isSymbol 0 [.int x0] [] h := rfl
theorem za_Tokens_opOf (x0 : Int32) (h : zH) : zCall zCode kTokens_opOf [.int x0] h = zRun zCode kTokens_opOf 0 [.int x0] [] h := rfl
theorem za_Math_max (x0 : Int32) (x1 : Int32) (h : zH) : zCall zCode kMath_max [.int x0, .int x1] h = zRun zCode kMath_max 0 [.int x0, .int x1] [] h := rfl
theorem za_Reader_readLine (x0 : Nat) (x1 : Nat) (h : zH) : zCall zCode kReader_readLine [.ref x0, .ref x1] h = zRun zCode kReader_readLine 0 [.ref x0, .ref x1, .retAddr 0] [] h := rfl
theorem za_Tokens_kind (x0 : Nat) (h : zH) : zCall zCode kTokens_kind [.ref x0] h = zRun zCode kTokens_kind 0 [.ref x0] [] h := rfl
theorem za_Tokens_start (x0 : Nat) (h : zH) : zCall zCode kTokens_start [.ref x0] h = zRun zCode kTokens_start 0 [.ref x0] [] h := rfl
theorem za_Reader_fail (x0 : Nat) (x1 : Int32) (x2 : Int32) (h : zH) : zCall zCode kReader_fail [.ref x0, .int x1, .int x2] h = zRun zCode kReader_fail 0 [.ref x0, .int x1, .int x2] [] h := rfl
theorem za_Reader_forgetInstruction (x0 : Nat) (h : zH) : zCall zCode kReader_forgetInstruction [.ref x0] h = zRun zCode kReader_forgetInstruction 0 [.ref x0] [] h := rfl
theorem za_Reader_readNamed (x0 : Nat) (x1 : Nat) (h : zH) : zCall zCode kReader_readNamed [.ref x0, .ref x1] h = zRun zCode kReader_readNamed 0 [.ref x0, .ref x1, .retAddr 0, .retAddr 0, .retAddr 0] [] h := rfl
theorem za_Tokens_content (x0 : Nat) (h : zH) : zCall zCode kTokens_content [.ref x0] h = zRun zCode kTokens_content 0 [.ref x0] [] h := rfl
theorem za_Tokens_toNext (x0 : Nat) (h : zH) : zCall zCode kTokens_toNext [.ref x0] h = zRun zCode kTokens_toNext 0 [.ref x0] [] h := rfl
theorem za_Names_find (x0 : Nat) (x1 : Int64) (x3 : Int32) (h : zH) : zCall zCode kNames_find [.ref x0, .long x1, .int x3] h = zRun zCode kNames_find 0 [.ref x0, .long x1, .retAddr 0, .int x3, .retAddr 0] [] h := rfl
theorem za_Names_setOnce (x0 : Nat) (x1 : Int32) (h : zH) : zCall zCode kNames_setOnce [.ref x0, .int x1] h = zRun zCode kNames_setOnce 0 [.ref x0, .int x1] [] h := rfl
theorem za_Reader_add (x0 : Nat) (x1 : Nat) (x2 : Int32) (h : zH) : zCall zCode kReader_add [.ref x0, .ref x1, .int x2] h = zRun zCode kReader_add 0 [.ref x0, .ref x1, .int x2] [] h := rfl
theorem za_Program_add (x0 : Nat) (x1 : Int32) (x2 : Int32) (x3 : Int32) (h : zH) : zCall zCode kProgram_add [.ref x0, .int x1, .int x2, .int x3] h = zRun zCode kProgram_add 0 [.ref x0, .int x1, .int x2, .int x3] [] h := rfl
theorem za_Program_setFirst (x0 : Nat) (x1 : Int32) (x2 : Int32) (x3 : Int64) (h : zH) : zCall zCode kProgram_setFirst [.ref x0, .int x1, .int x2, .long x3] h = zRun zCode kProgram_setFirst 0 [.ref x0, .int x1, .int x2, .long x3, .retAddr 0] [] h := rfl
theorem za_Program_has (x0 : Nat) (x1 : Int32) (h : zH) : zCall zCode kProgram_has [.ref x0, .int x1] h = zRun zCode kProgram_has 0 [.ref x0, .int x1] [] h := rfl
theorem za_Program_setSecond (x0 : Nat) (x1 : Int32) (x2 : Int32) (x3 : Int64) (h : zH) : zCall zCode kProgram_setSecond [.ref x0, .int x1, .int x2, .long x3] h = zRun zCode kProgram_setSecond 0 [.ref x0, .int x1, .int x2, .long x3, .retAddr 0] [] h := rfl
theorem za_Reader_take (x0 : Nat) (x1 : Int32) (h : zH) : zCall zCode kReader_take [.ref x0, .int x1] h = zRun zCode kReader_take 0 [.ref x0, .int x1] [] h := rfl
theorem za_Reader_readValue (x0 : Nat) (h : zH) : zCall zCode kReader_readValue [.ref x0] h = zRun zCode kReader_readValue 0 [.ref x0, .retAddr 0] [] h := rfl
theorem za_Reader_takeName (x0 : Nat) (x1 : Nat) (h : zH) : zCall zCode kReader_takeName [.ref x0, .ref x1] h = zRun zCode kReader_takeName 0 [.ref x0, .ref x1, .retAddr 0] [] h := rfl
theorem za_Reader_keepFirst (x0 : Nat) (h : zH) : zCall zCode kReader_keepFirst [.ref x0] h = zRun zCode kReader_keepFirst 0 [.ref x0] [] h := rfl
theorem za_Reader_keepSecond (x0 : Nat) (h : zH) : zCall zCode kReader_keepSecond [.ref x0] h = zRun zCode kReader_keepSecond 0 [.ref x0] [] h := rfl
theorem za_Reader_readName (x0 : Nat) (x1 : Nat) (h : zH) : zCall zCode kReader_readName [.ref x0, .ref x1] h = zRun zCode kReader_readName 0 [.ref x0, .ref x1] [] h := rfl
theorem za_Names_firstUnset (x0 : Nat) (h : zH) : zCall zCode kNames_firstUnset [.ref x0] h = zRun zCode kNames_firstUnset 0 [.ref x0, .retAddr 0] [] h := rfl
theorem za_Names_size (x0 : Nat) (h : zH) : zCall zCode kNames_size [.ref x0] h = zRun zCode kNames_size 0 [.ref x0] [] h := rfl
theorem za_Program_setNames (x0 : Nat) (x1 : Int32) (x2 : Int32) (h : zH) : zCall zCode kProgram_setNames [.ref x0, .int x1, .int x2] h = zRun zCode kProgram_setNames 0 [.ref x0, .int x1, .int x2] [] h := rfl
theorem za_PassForge_accept (x0 : Nat) (x1 : Nat) (h : zH) : zCall zCode kPassForge_accept [.ref x0, .ref x1] h = zRun zCode kPassForge_accept 0 [.ref x0, .ref x1] [] h := rfl
theorem za_Flow_measure (x0 : Nat) (x1 : Nat) (h : zH) : zCall zCode kFlow_measure [.ref x0, .ref x1] h = zRun zCode kFlow_measure 0 [.ref x0, .ref x1, .retAddr 0, .retAddr 0, .retAddr 0, .retAddr 0] [] h := rfl
theorem za_Flow_look (x0 : Nat) (x1 : Nat) (h : zH) : zCall zCode kFlow_look [.ref x0, .ref x1] h = zRun zCode kFlow_look 0 [.ref x0, .ref x1, .retAddr 0, .retAddr 0] [] h := rfl
theorem za_Program_link (x0 : Nat) (h : zH) : zCall zCode kProgram_link [.ref x0] h = zRun zCode kProgram_link 0 [.ref x0, .retAddr 0, .retAddr 0, .retAddr 0] [] h := rfl
theorem za_Program_isLabel (x0 : Nat) (x1 : Int32) (h : zH) : zCall zCode kProgram_isLabel [.ref x0, .int x1] h = zRun zCode kProgram_isLabel 0 [.ref x0, .int x1] [] h := rfl
theorem za_Program_isJump (x0 : Nat) (x1 : Int32) (h : zH) : zCall zCode kProgram_isJump [.ref x0, .int x1] h = zRun zCode kProgram_isJump 0 [.ref x0, .int x1, .retAddr 0] [] h := rfl
theorem za_Flow_reach (x0 : Nat) (x1 : Nat) (x2 : Int32) (h : zH) : zCall zCode kFlow_reach [.ref x0, .ref x1, .int x2] h = zRun zCode kFlow_reach 0 [.ref x0, .ref x1, .int x2] [] h := rfl
theorem za_Flow_goForward (x0 : Nat) (x1 : Nat) (h : zH) : zCall zCode kFlow_goForward [.ref x0, .ref x1] h = zRun zCode kFlow_goForward 0 [.ref x0, .ref x1, .retAddr 0, .retAddr 0, .retAddr 0, .retAddr 0] [] h := rfl
theorem za_Flow_reaches (x0 : Nat) (x1 : Int32) (h : zH) : zCall zCode kFlow_reaches [.ref x0, .int x1] h = zRun zCode kFlow_reaches 0 [.ref x0, .int x1] [] h := rfl
theorem za_Program_nextOf (x0 : Nat) (x1 : Int32) (h : zH) : zCall zCode kProgram_nextOf [.ref x0, .int x1] h = zRun zCode kProgram_nextOf 0 [.ref x0, .int x1, .retAddr 0] [] h := rfl
theorem za_Program_jumpOf (x0 : Nat) (x1 : Int32) (h : zH) : zCall zCode kProgram_jumpOf [.ref x0, .int x1] h = zRun zCode kProgram_jumpOf 0 [.ref x0, .int x1] [] h := rfl
theorem za_Flow_goBackward (x0 : Nat) (x1 : Nat) (h : zH) : zCall zCode kFlow_goBackward [.ref x0, .ref x1] h = zRun zCode kFlow_goBackward 0 [.ref x0, .ref x1, .retAddr 0, .retAddr 0, .retAddr 0, .retAddr 0] [] h := rfl
theorem za_Flow_aheadOf (x0 : Nat) (x1 : Nat) (x2 : Int32) (h : zH) : zCall zCode kFlow_aheadOf [.ref x0, .ref x1, .int x2] h = zRun zCode kFlow_aheadOf 0 [.ref x0, .ref x1, .int x2] [] h := rfl
theorem za_Flow_liveAhead (x0 : Nat) (x1 : Int32) (h : zH) : zCall zCode kFlow_liveAhead [.ref x0, .int x1] h = zRun zCode kFlow_liveAhead 0 [.ref x0, .int x1] [] h := rfl
theorem za_Program_readSet (x0 : Nat) (x1 : Int32) (h : zH) : zCall zCode kProgram_readSet [.ref x0, .int x1] h = zRun zCode kProgram_readSet 0 [.ref x0, .int x1] [] h := rfl
theorem za_Program_setOf (x0 : Int32) (h : zH) : zCall zCode kProgram_setOf [.int x0] h = zRun zCode kProgram_setOf 0 [.int x0] [] h := rfl
theorem za_Program_assignedSet (x0 : Nat) (x1 : Int32) (h : zH) : zCall zCode kProgram_assignedSet [.ref x0, .int x1] h = zRun zCode kProgram_assignedSet 0 [.ref x0, .int x1] [] h := rfl
theorem za_Program_assigned (x0 : Nat) (x1 : Int32) (h : zH) : zCall zCode kProgram_assigned [.ref x0, .int x1] h = zRun zCode kProgram_assigned 0 [.ref x0, .int x1] [] h := rfl
theorem za_Program_startsBlock (x0 : Nat) (x1 : Int32) (h : zH) : zCall zCode kProgram_startsBlock [.ref x0, .int x1] h = zRun zCode kProgram_startsBlock 0 [.ref x0, .int x1] [] h := rfl
theorem za_Program_loopEnd (x0 : Nat) (x1 : Int32) (h : zH) : zCall zCode kProgram_loopEnd [.ref x0, .int x1] h = zRun zCode kProgram_loopEnd 0 [.ref x0, .int x1, .retAddr 0, .retAddr 0] [] h := rfl
theorem za_Program_jumpsTo (x0 : Nat) (x1 : Int32) (h : zH) : zCall zCode kProgram_jumpsTo [.ref x0, .int x1] h = zRun zCode kProgram_jumpsTo 0 [.ref x0, .int x1] [] h := rfl
theorem za_Program_isEnteredBehind (x0 : Nat) (x1 : Int32) (x2 : Int32) (h : zH) : zCall zCode kProgram_isEnteredBehind [.ref x0, .int x1, .int x2] h = zRun zCode kProgram_isEnteredBehind 0 [.ref x0, .int x1, .int x2, .retAddr 0, .retAddr 0] [] h := rfl
theorem za_Flow_liveBehind (x0 : Nat) (x1 : Int32) (h : zH) : zCall zCode kFlow_liveBehind [.ref x0, .int x1] h = zRun zCode kFlow_liveBehind 0 [.ref x0, .int x1] [] h := rfl
theorem za_Program_setLive (x0 : Nat) (x1 : Int32) (x2 : Int32) (h : zH) : zCall zCode kProgram_setLive [.ref x0, .int x1, .int x2] h = zRun zCode kProgram_setLive 0 [.ref x0, .int x1, .int x2] [] h := rfl
theorem za_Program_setMeasures (x0 : Nat) (x1 : Int32) (x2 : Int32) (x3 : Int32) (h : zH) : zCall zCode kProgram_setMeasures [.ref x0, .int x1, .int x2, .int x3] h = zRun zCode kProgram_setMeasures 0 [.ref x0, .int x1, .int x2, .int x3] [] h := rfl
theorem za_Law_count (x0 : Nat) (x1 : Int32) (x2 : Int32) (x3 : Nat) (h : zH) : zCall zCode kLaw_count [.ref x0, .int x1, .int x2, .ref x3] h = zRun zCode kLaw_count 0 [.ref x0, .int x1, .int x2, .ref x3, .retAddr 0] [] h := rfl
theorem za_PassForge_count (x0 : Nat) (x1 : Int32) (x2 : Int32) (h : zH) : zCall zCode kPassForge_count [.ref x0, .int x1, .int x2] h = zRun zCode kPassForge_count 0 [.ref x0, .int x1, .int x2, .retAddr 0] [] h := rfl
theorem za_PassForge_programAt (x0 : Nat) (x1 : Int32) (h : zH) : zCall zCode kPassForge_programAt [.ref x0, .int x1] h = zRun zCode kPassForge_programAt 0 [.ref x0, .int x1] [] h := rfl
theorem za_Law_code (x0 : Nat) (x1 : Int32) (x2 : Int32) (x3 : Int32) (x4 : Nat) (h : zH) : zCall zCode kLaw_code [.ref x0, .int x1, .int x2, .int x3, .ref x4] h = zRun zCode kLaw_code 0 [.ref x0, .int x1, .int x2, .int x3, .ref x4, .retAddr 0] [] h := rfl
theorem za_PassForge_code (x0 : Nat) (x1 : Int32) (x2 : Int32) (x3 : Int32) (h : zH) : zCall zCode kPassForge_code [.ref x0, .int x1, .int x2, .int x3] h = zRun zCode kPassForge_code 0 [.ref x0, .int x1, .int x2, .int x3, .retAddr 0] [] h := rfl
theorem za_PassForge_programWith (x0 : Nat) (x1 : Int32) (x2 : Int32) (h : zH) : zCall zCode kPassForge_programWith [.ref x0, .int x1, .int x2] h = zRun zCode kPassForge_programWith 0 [.ref x0, .int x1, .int x2, .retAddr 0] [] h := rfl
theorem za_Law_number (x0 : Nat) (x1 : Int32) (x2 : Int32) (x3 : Int32) (x4 : Nat) (h : zH) : zCall zCode kLaw_number [.ref x0, .int x1, .int x2, .int x3, .ref x4] h = zRun zCode kLaw_number 0 [.ref x0, .int x1, .int x2, .int x3, .ref x4, .retAddr 0] [] h := rfl
theorem za_PassForge_number (x0 : Nat) (x1 : Int32) (x2 : Int32) (x3 : Int32) (h : zH) : zCall zCode kPassForge_number [.ref x0, .int x1, .int x2, .int x3] h = zRun zCode kPassForge_number 0 [.ref x0, .int x1, .int x2, .int x3, .retAddr 0] [] h := rfl
theorem za_Law_live (x0 : Nat) (x1 : Int32) (x2 : Int32) (x3 : Nat) (h : zH) : zCall zCode kLaw_live [.ref x0, .int x1, .int x2, .ref x3] h = zRun zCode kLaw_live 0 [.ref x0, .int x1, .int x2, .ref x3, .retAddr 0] [] h := rfl
theorem za_PassForge_live (x0 : Nat) (x1 : Int32) (x2 : Int32) (h : zH) : zCall zCode kPassForge_live [.ref x0, .int x1, .int x2] h = zRun zCode kPassForge_live 0 [.ref x0, .int x1, .int x2] [] h := rfl
theorem za_Law_pass (x0 : Nat) (x1 : Int32) (x2 : Int32) (x3 : Nat) (h : zH) : zCall zCode kLaw_pass [.ref x0, .int x1, .int x2, .ref x3] h = zRun zCode kLaw_pass 0 [.ref x0, .int x1, .int x2, .ref x3, .retAddr 0] [] h := rfl
theorem za_PassForge_pass (x0 : Nat) (x1 : Int32) (x2 : Int32) (h : zH) : zCall zCode kPassForge_pass [.ref x0, .int x1, .int x2] h = zRun zCode kPassForge_pass 0 [.ref x0, .int x1, .int x2, .retAddr 0, .retAddr 0, .retAddr 0] [] h := rfl
theorem za_Program_become (x0 : Nat) (x1 : Nat) (h : zH) : zCall zCode kProgram_become [.ref x0, .ref x1] h = zRun zCode kProgram_become 0 [.ref x0, .ref x1, .retAddr 0] [] h := rfl
theorem za_Program_layDown (x0 : Nat) (x1 : Int32) (x2 : Nat) (x3 : Int32) (h : zH) : zCall zCode kProgram_layDown [.ref x0, .int x1, .ref x2, .int x3] h = zRun zCode kProgram_layDown 0 [.ref x0, .int x1, .ref x2, .int x3] [] h := rfl
theorem za_PassForge_changeBy (x0 : Nat) (x1 : Nat) (x2 : Int32) (h : zH) : zCall zCode kPassForge_changeBy [.ref x0, .ref x1, .int x2] h = zRun zCode kPassForge_changeBy 0 [.ref x0, .ref x1, .int x2] [] h := rfl
theorem za_BlockPasses_fold (x0 : Nat) (x1 : Nat) (h : zH) : zCall zCode kBlockPasses_fold [.ref x0, .ref x1] h = zRun zCode kBlockPasses_fold 0 [.ref x0, .ref x1, .retAddr 0, .retAddr 0] [] h := rfl
theorem za_BlockPasses_forgetNumbers (x0 : Nat) (h : zH) : zCall zCode kBlockPasses_forgetNumbers [.ref x0] h = zRun zCode kBlockPasses_forgetNumbers 0 [.ref x0, .retAddr 0] [] h := rfl
theorem za_BlockPasses_putNumbers (x0 : Nat) (x1 : Nat) (x2 : Int32) (h : zH) : zCall zCode kBlockPasses_putNumbers [.ref x0, .ref x1, .int x2] h = zRun zCode kBlockPasses_putNumbers 0 [.ref x0, .ref x1, .int x2, .retAddr 0, .retAddr 0, .retAddr 0] [] h := rfl
theorem za_BlockPasses_knows (x0 : Nat) (x1 : Int32) (h : zH) : zCall zCode kBlockPasses_knows [.ref x0, .int x1] h = zRun zCode kBlockPasses_knows 0 [.ref x0, .int x1] [] h := rfl
theorem za_BlockPasses_knownOf (x0 : Nat) (x1 : Int32) (h : zH) : zCall zCode kBlockPasses_knownOf [.ref x0, .int x1] h = zRun zCode kBlockPasses_knownOf 0 [.ref x0, .int x1] [] h := rfl
theorem za_BlockPasses_foldOne (x0 : Nat) (x1 : Nat) (x2 : Int32) (h : zH) : zCall zCode kBlockPasses_foldOne [.ref x0, .ref x1, .int x2] h = zRun zCode kBlockPasses_foldOne 0 [.ref x0, .ref x1, .int x2, .retAddr 0] [] h := rfl
theorem za_PassForge_reckon (x0 : Int32) (x1 : Int64) (x3 : Int64) (h : zH) : zCall zCode kPassForge_reckon [.int x0, .long x1, .long x3] h = zRun zCode kPassForge_reckon 0 [.int x0, .long x1, .retAddr 0, .long x3, .retAddr 0] [] h := rfl
theorem za_Program_setPlain (x0 : Nat) (x1 : Int32) (x2 : Int32) (x3 : Int64) (h : zH) : zCall zCode kProgram_setPlain [.ref x0, .int x1, .int x2, .long x3] h = zRun zCode kProgram_setPlain 0 [.ref x0, .int x1, .int x2, .long x3, .retAddr 0] [] h := rfl
theorem za_Program_mark (x0 : Nat) (x1 : Int32) (h : zH) : zCall zCode kProgram_mark [.ref x0, .int x1] h = zRun zCode kProgram_mark 0 [.ref x0, .int x1] [] h := rfl
theorem za_Program_setGoto (x0 : Nat) (x1 : Int32) (h : zH) : zCall zCode kProgram_setGoto [.ref x0, .int x1] h = zRun zCode kProgram_setGoto 0 [.ref x0, .int x1] [] h := rfl
theorem za_BlockPasses_learnNumber (x0 : Nat) (x1 : Nat) (x2 : Int32) (h : zH) : zCall zCode kBlockPasses_learnNumber [.ref x0, .ref x1, .int x2] h = zRun zCode kBlockPasses_learnNumber 0 [.ref x0, .ref x1, .int x2, .retAddr 0] [] h := rfl
theorem za_Program_removeMarked (x0 : Nat) (h : zH) : zCall zCode kProgram_removeMarked [.ref x0] h = zRun zCode kProgram_removeMarked 0 [.ref x0, .retAddr 0, .retAddr 0] [] h := rfl
theorem za_BlockPasses_lookThroughCopies (x0 : Nat) (x1 : Nat) (h : zH) : zCall zCode kBlockPasses_lookThroughCopies [.ref x0, .ref x1] h = zRun zCode kBlockPasses_lookThroughCopies 0 [.ref x0, .ref x1, .retAddr 0, .retAddr 0] [] h := rfl
theorem za_BlockPasses_forgetCopies (x0 : Nat) (h : zH) : zCall zCode kBlockPasses_forgetCopies [.ref x0] h = zRun zCode kBlockPasses_forgetCopies 0 [.ref x0, .retAddr 0] [] h := rfl
theorem za_BlockPasses_putCopies (x0 : Nat) (x1 : Nat) (x2 : Int32) (h : zH) : zCall zCode kBlockPasses_putCopies [.ref x0, .ref x1, .int x2] h = zRun zCode kBlockPasses_putCopies 0 [.ref x0, .ref x1, .int x2, .retAddr 0, .retAddr 0, .retAddr 0] [] h := rfl
theorem za_BlockPasses_copiedBy (x0 : Nat) (x1 : Int32) (h : zH) : zCall zCode kBlockPasses_copiedBy [.ref x0, .int x1] h = zRun zCode kBlockPasses_copiedBy 0 [.ref x0, .int x1] [] h := rfl
theorem za_BlockPasses_learnCopy (x0 : Nat) (x1 : Nat) (x2 : Int32) (h : zH) : zCall zCode kBlockPasses_learnCopy [.ref x0, .ref x1, .int x2] h = zRun zCode kBlockPasses_learnCopy 0 [.ref x0, .ref x1, .int x2, .retAddr 0, .retAddr 0] [] h := rfl
theorem za_BlockPasses_takeValues (x0 : Nat) (x1 : Nat) (h : zH) : zCall zCode kBlockPasses_takeValues [.ref x0, .ref x1] h = zRun zCode kBlockPasses_takeValues 0 [.ref x0, .ref x1, .retAddr 0, .retAddr 0, .retAddr 0, .retAddr 0] [] h := rfl
theorem za_BlockPasses_sameValue (x0 : Nat) (x1 : Int32) (x2 : Int32) (h : zH) : zCall zCode kBlockPasses_sameValue [.ref x0, .int x1, .int x2] h = zRun zCode kBlockPasses_sameValue 0 [.ref x0, .int x1, .int x2, .retAddr 0, .retAddr 0, .retAddr 0] [] h := rfl
theorem za_BlockPasses_reckonsSame (x0 : Nat) (x1 : Int32) (x2 : Int32) (h : zH) : zCall zCode kBlockPasses_reckonsSame [.ref x0, .int x1, .int x2] h = zRun zCode kBlockPasses_reckonsSame 0 [.ref x0, .int x1, .int x2, .retAddr 0, .retAddr 0] [] h := rfl
theorem za_BlockPasses_canTurn (x0 : Int32) (h : zH) : zCall zCode kBlockPasses_canTurn [.int x0] h = zRun zCode kBlockPasses_canTurn 0 [.int x0] [] h := rfl
theorem za_BlockPasses_assignedBetween (x0 : Nat) (x1 : Int32) (x2 : Int32) (h : zH) : zCall zCode kBlockPasses_assignedBetween [.ref x0, .int x1, .int x2] h = zRun zCode kBlockPasses_assignedBetween 0 [.ref x0, .int x1, .int x2, .retAddr 0, .retAddr 0] [] h := rfl
theorem za_FlowPasses_drop (x0 : Nat) (x1 : Nat) (h : zH) : zCall zCode kFlowPasses_drop [.ref x0, .ref x1] h = zRun zCode kFlowPasses_drop 0 [.ref x0, .ref x1, .retAddr 0, .retAddr 0, .retAddr 0] [] h := rfl
theorem za_FlowPasses_firstNeedless (x0 : Nat) (x1 : Nat) (h : zH) : zCall zCode kFlowPasses_firstNeedless [.ref x0, .ref x1] h = zRun zCode kFlowPasses_firstNeedless 0 [.ref x0, .ref x1, .retAddr 0] [] h := rfl
theorem za_FlowPasses_isNeedless (x0 : Nat) (x1 : Nat) (x2 : Int32) (h : zH) : zCall zCode kFlowPasses_isNeedless [.ref x0, .ref x1, .int x2] h = zRun zCode kFlowPasses_isNeedless 0 [.ref x0, .ref x1, .int x2] [] h := rfl
theorem za_Program_pastLabels (x0 : Nat) (x1 : Int32) (h : zH) : zCall zCode kProgram_pastLabels [.ref x0, .int x1] h = zRun zCode kProgram_pastLabels 0 [.ref x0, .int x1, .retAddr 0] [] h := rfl
theorem za_Program_removeAt (x0 : Nat) (x1 : Int32) (h : zH) : zCall zCode kProgram_removeAt [.ref x0, .int x1] h = zRun zCode kProgram_removeAt 0 [.ref x0, .int x1, .retAddr 0] [] h := rfl
theorem za_FlowPasses_move (x0 : Nat) (x1 : Nat) (h : zH) : zCall zCode kFlowPasses_move [.ref x0, .ref x1] h = zRun zCode kFlowPasses_move 0 [.ref x0, .ref x1, .retAddr 0, .retAddr 0, .retAddr 0] [] h := rfl
theorem za_FlowPasses_moveFirst (x0 : Nat) (x1 : Nat) (h : zH) : zCall zCode kFlowPasses_moveFirst [.ref x0, .ref x1] h = zRun zCode kFlowPasses_moveFirst 0 [.ref x0, .ref x1, .retAddr 0, .retAddr 0, .retAddr 0] [] h := rfl
theorem za_FlowPasses_firstMovable (x0 : Nat) (x1 : Nat) (x2 : Int32) (x3 : Int32) (h : zH) : zCall zCode kFlowPasses_firstMovable [.ref x0, .ref x1, .int x2, .int x3] h = zRun zCode kFlowPasses_firstMovable 0 [.ref x0, .ref x1, .int x2, .int x3, .retAddr 0, .retAddr 0, .retAddr 0, .retAddr 0, .retAddr 0, .retAddr 0] [] h := rfl
theorem za_FlowPasses_outsideAhead (x0 : Nat) (x1 : Nat) (x2 : Int32) (x3 : Int32) (x4 : Int32) (h : zH) : zCall zCode kFlowPasses_outsideAhead [.ref x0, .ref x1, .int x2, .int x3, .int x4] h = zRun zCode kFlowPasses_outsideAhead 0 [.ref x0, .ref x1, .int x2, .int x3, .int x4, .retAddr 0] [] h := rfl
theorem za_Program_moveUp (x0 : Nat) (x1 : Int32) (x2 : Int32) (h : zH) : zCall zCode kProgram_moveUp [.ref x0, .int x1, .int x2] h = zRun zCode kProgram_moveUp 0 [.ref x0, .int x1, .int x2, .retAddr 0] [] h := rfl
theorem za_Law_better (x0 : Nat) (x1 : Int32) (x2 : Nat) (h : zH) : zCall zCode kLaw_better [.ref x0, .int x1, .ref x2] h = zRun zCode kLaw_better 0 [.ref x0, .int x1, .ref x2, .retAddr 0] [] h := rfl
theorem za_PassForge_better (x0 : Nat) (x1 : Int32) (h : zH) : zCall zCode kPassForge_better [.ref x0, .int x1] h = zRun zCode kPassForge_better 0 [.ref x0, .int x1, .retAddr 0, .retAddr 0, .retAddr 0, .retAddr 0, .retAddr 0, .retAddr 0, .retAddr 0] [] h := rfl
theorem za_Law_put (x0 : Nat) (x1 : Int64) (x3 : Nat) (h : zH) : zCall zCode kLaw_put [.ref x0, .long x1, .ref x3] h = zRun zCode kLaw_put 0 [.ref x0, .long x1, .retAddr 0, .ref x3, .retAddr 0] [] h := rfl
theorem za_PassForge_put (x0 : Nat) (x1 : Int64) (h : zH) : zCall zCode kPassForge_put [.ref x0, .long x1] h = zRun zCode kPassForge_put 0 [.ref x0, .long x1, .retAddr 0] [] h := rfl
theorem za_Law_run (x0 : Nat) (x1 : Int32) (x2 : Int32) (x3 : Nat) (h : zH) : zCall zCode kLaw_run [.ref x0, .int x1, .int x2, .ref x3] h = zRun zCode kLaw_run 0 [.ref x0, .int x1, .int x2, .ref x3, .retAddr 0] [] h := rfl
theorem za_PassForge_run (x0 : Nat) (x1 : Int32) (x2 : Int32) (h : zH) : zCall zCode kPassForge_run [.ref x0, .int x1, .int x2] h = zRun zCode kPassForge_run 0 [.ref x0, .int x1, .int x2, .retAddr 0] [] h := rfl
theorem za_Machine_execute (x0 : Nat) (x1 : Nat) (x2 : Nat) (x3 : Int32) (x4 : Int32) (h : zH) : zCall zCode kMachine_execute [.ref x0, .ref x1, .ref x2, .int x3, .int x4] h = zRun zCode kMachine_execute 0 [.ref x0, .ref x1, .ref x2, .int x3, .int x4, .retAddr 0, .retAddr 0, .retAddr 0] [] h := rfl
theorem za_Machine_setValue (x0 : Nat) (x1 : Int32) (x2 : Int64) (h : zH) : zCall zCode kMachine_setValue [.ref x0, .int x1, .long x2] h = zRun zCode kMachine_setValue 0 [.ref x0, .int x1, .long x2, .retAddr 0] [] h := rfl
theorem za_Machine_follow (x0 : Nat) (x1 : Nat) (x2 : Int32) (h : zH) : zCall zCode kMachine_follow [.ref x0, .ref x1, .int x2] h = zRun zCode kMachine_follow 0 [.ref x0, .ref x1, .int x2, .retAddr 0, .retAddr 0, .retAddr 0, .retAddr 0] [] h := rfl
theorem za_Machine_operand (x0 : Nat) (x1 : Int32) (x2 : Int64) (h : zH) : zCall zCode kMachine_operand [.ref x0, .int x1, .long x2] h = zRun zCode kMachine_operand 0 [.ref x0, .int x1, .long x2, .retAddr 0] [] h := rfl
theorem za_Machine_putOut (x0 : Nat) (x1 : Int64) (h : zH) : zCall zCode kMachine_putOut [.ref x0, .long x1] h = zRun zCode kMachine_putOut 0 [.ref x0, .long x1, .retAddr 0] [] h := rfl
theorem za_Machine_steps (x0 : Nat) (h : zH) : zCall zCode kMachine_steps [.ref x0] h = zRun zCode kMachine_steps 0 [.ref x0] [] h := rfl
theorem za_Law_ran (x0 : Nat) (x1 : Int32) (x2 : Nat) (h : zH) : zCall zCode kLaw_ran [.ref x0, .int x1, .ref x2] h = zRun zCode kLaw_ran 0 [.ref x0, .int x1, .ref x2, .retAddr 0] [] h := rfl
theorem za_PassForge_ran (x0 : Nat) (x1 : Int32) (h : zH) : zCall zCode kPassForge_ran [.ref x0, .int x1] h = zRun zCode kPassForge_ran 0 [.ref x0, .int x1] [] h := rfl
theorem za_Law_output (x0 : Nat) (x1 : Int32) (x2 : Nat) (h : zH) : zCall zCode kLaw_output [.ref x0, .int x1, .ref x2] h = zRun zCode kLaw_output 0 [.ref x0, .int x1, .ref x2, .retAddr 0] [] h := rfl
theorem za_PassForge_output (x0 : Nat) (x1 : Int32) (h : zH) : zCall zCode kPassForge_output [.ref x0, .int x1] h = zRun zCode kPassForge_output 0 [.ref x0, .int x1] [] h := rfl
theorem za_Law_variable (x0 : Nat) (x1 : Int32) (x2 : Nat) (h : zH) : zCall zCode kLaw_variable [.ref x0, .int x1, .ref x2] h = zRun zCode kLaw_variable 0 [.ref x0, .int x1, .ref x2, .retAddr 0] [] h := rfl
theorem za_PassForge_variable (x0 : Nat) (x1 : Int32) (h : zH) : zCall zCode kPassForge_variable [.ref x0, .int x1] h = zRun zCode kPassForge_variable 0 [.ref x0, .int x1] [] h := rfl
theorem za_Law_differ (x0 : Nat) (x1 : Int32) (x2 : Int32) (x3 : Int32) (x4 : Int32) (x5 : Nat) (h : zH) : zCall zCode kLaw_differ [.ref x0, .int x1, .int x2, .int x3, .int x4, .ref x5] h = zRun zCode kLaw_differ 0 [.ref x0, .int x1, .int x2, .int x3, .int x4, .ref x5, .retAddr 0] [] h := rfl
theorem za_PassForge_differ (x0 : Nat) (x1 : Int32) (x2 : Int32) (x3 : Int32) (x4 : Int32) (h : zH) : zCall zCode kPassForge_differ [.ref x0, .int x1, .int x2, .int x3, .int x4] h = zRun zCode kPassForge_differ 0 [.ref x0, .int x1, .int x2, .int x3, .int x4, .retAddr 0, .retAddr 0, .retAddr 0, .retAddr 0] [] h := rfl
theorem za_PassForge_inputsOf (x0 : Int32) (x1 : Int32) (h : zH) : zCall zCode kPassForge_inputsOf [.int x0, .int x1] h = zRun zCode kPassForge_inputsOf 0 [.int x0, .int x1, .retAddr 0, .retAddr 0] [] h := rfl
theorem za_PassForge_clearDigits (x0 : Nat) (h : zH) : zCall zCode kPassForge_clearDigits [.ref x0] h = zRun zCode kPassForge_clearDigits 0 [.ref x0, .retAddr 0] [] h := rfl
theorem za_Machine_isUnlike (x0 : Nat) (x1 : Nat) (h : zH) : zCall zCode kMachine_isUnlike [.ref x0, .ref x1] h = zRun zCode kMachine_isUnlike 0 [.ref x0, .ref x1, .retAddr 0] [] h := rfl
theorem za_PassForge_countUpDigits (x0 : Nat) (x1 : Int32) (x2 : Int32) (h : zH) : zCall zCode kPassForge_countUpDigits [.ref x0, .int x1, .int x2] h = zRun zCode kPassForge_countUpDigits 0 [.ref x0, .int x1, .int x2, .retAddr 0] [] h := rfl
theorem za_Law_share (x0 : Nat) (x1 : Int32) (x2 : Int32) (x3 : Int32) (x4 : Int32) (x5 : Nat) (h : zH) : zCall zCode kLaw_share [.ref x0, .int x1, .int x2, .int x3, .int x4, .ref x5] h = zRun zCode kLaw_share 0 [.ref x0, .int x1, .int x2, .int x3, .int x4, .ref x5, .retAddr 0] [] h := rfl
theorem za_PassForge_share (x0 : Nat) (x1 : Int32) (x2 : Int32) (x3 : Int32) (x4 : Int32) (h : zH) : zCall zCode kPassForge_share [.ref x0, .int x1, .int x2, .int x3, .int x4] h = zRun zCode kPassForge_share 0 [.ref x0, .int x1, .int x2, .int x3, .int x4, .retAddr 0, .retAddr 0, .retAddr 0, .retAddr 0, .retAddr 0, .retAddr 0] [] h := rfl
theorem za_Model_init (x0 : Nat) (h : zH) : zCall zCode kModel_init [.ref x0] h = zRun zCode kModel_init 0 [.ref x0] [] h := rfl
theorem za_Model_thrown (x0 : Nat) (h : zH) : zCall zCode kModel_thrown [.ref x0] h = zRun zCode kModel_thrown 0 [.ref x0] [] h := rfl
theorem za_Model_feed (x0 : Nat) (x1 : Int32) (x2 : Int32) (x3 : Int32) (x4 : Int32) (x5 : Int32) (h : zH) : zCall zCode kModel_feed [.ref x0, .int x1, .int x2, .int x3, .int x4, .int x5] h = zRun zCode kModel_feed 0 [.ref x0, .int x1, .int x2, .int x3, .int x4, .int x5] [] h := rfl
theorem za_Model_fail (x0 : Nat) (x1 : Int32) (h : zH) : zCall zCode kModel_fail [.ref x0, .int x1] h = zRun zCode kModel_fail 0 [.ref x0, .int x1] [] h := rfl
theorem za_Model_four (x0 : Nat) (x1 : Int32) (h : zH) : zCall zCode kModel_four [.ref x0, .int x1] h = zRun zCode kModel_four 0 [.ref x0, .int x1, .retAddr 0] [] h := rfl
theorem za_Model_trim (x0 : Nat) (x1 : Int32) (h : zH) : zCall zCode kModel_trim [.ref x0, .int x1] h = zRun zCode kModel_trim 0 [.ref x0, .int x1] [] h := rfl
theorem za_Model_isIn (x0 : Int64) (x2 : Int64) (x4 : Int64) (h : zH) : zCall zCode kModel_isIn [.long x0, .long x2, .long x4] h = zRun zCode kModel_isIn 0 [.long x0, .retAddr 0, .long x2, .retAddr 0, .long x4, .retAddr 0] [] h := rfl
theorem za_Model_compile (x0 : Nat) (h : zH) : zCall zCode kModel_compile [.ref x0] h = zRun zCode kModel_compile 0 [.ref x0, .retAddr 0, .retAddr 0, .retAddr 0] [] h := rfl
theorem za_Model_next (x0 : Nat) (h : zH) : zCall zCode kModel_next [.ref x0] h = zRun zCode kModel_next 0 [.ref x0, .retAddr 0] [] h := rfl
theorem za_Model_byteAt (x0 : Nat) (x1 : Int32) (h : zH) : zCall zCode kModel_byteAt [.ref x0, .int x1] h = zRun zCode kModel_byteAt 0 [.ref x0, .int x1] [] h := rfl
theorem za_Model_isLetter (x0 : Int32) (h : zH) : zCall zCode kModel_isLetter [.int x0] h = zRun zCode kModel_isLetter 0 [.int x0] [] h := rfl
theorem za_Model_isDigit (x0 : Int32) (h : zH) : zCall zCode kModel_isDigit [.int x0] h = zRun zCode kModel_isDigit 0 [.int x0] [] h := rfl
theorem za_Model_keyOf (x0 : Int64) (h : zH) : zCall zCode kModel_keyOf [.long x0] h = zRun zCode kModel_keyOf 0 [.long x0, .retAddr 0, .retAddr 0, .retAddr 0, .retAddr 0, .retAddr 0, .retAddr 0, .retAddr 0] [] h := rfl
theorem za_String_indexOf (x0 : Nat) (x1 : Int32) (x2 : Int32) (h : zH) : zCall zCode kString_indexOf [.ref x0, .int x1, .int x2] h = zRun zCode kString_indexOf 0 [.ref x0, .int x1, .int x2] [] h := rfl
theorem za_String_isLatin1 (x0 : Nat) (h : zH) : zCall zCode kString_isLatin1 [.ref x0] h = zRun zCode kString_isLatin1 0 [.ref x0] [] h := rfl
theorem za_String_length (x0 : Nat) (h : zH) : zCall zCode kString_length [.ref x0] h = zRun zCode kString_length 0 [.ref x0] [] h := rfl
theorem za_String_coder (x0 : Nat) (h : zH) : zCall zCode kString_coder [.ref x0] h = zRun zCode kString_coder 0 [.ref x0] [] h := rfl
theorem za_StringLatin1_indexOf (x0 : Nat) (x1 : Int32) (x2 : Int32) (x3 : Int32) (h : zH) : zCall zCode kStringLatin1_indexOf [.ref x0, .int x1, .int x2, .int x3] h = zRun zCode kStringLatin1_indexOf 0 [.ref x0, .int x1, .int x2, .int x3] [] h := rfl
theorem za_StringLatin1_canEncode (x0 : Int32) (h : zH) : zCall zCode kStringLatin1_canEncode [.int x0] h = zRun zCode kStringLatin1_canEncode 0 [.int x0] [] h := rfl
theorem za_StringLatin1_indexOfChar (x0 : Nat) (x1 : Int32) (x2 : Int32) (x3 : Int32) (h : zH) : zCall zCode kStringLatin1_indexOfChar [.ref x0, .int x1, .int x2, .int x3] h = zRun zCode kStringLatin1_indexOfChar 0 [.ref x0, .int x1, .int x2, .int x3, .retAddr 0, .retAddr 0] [] h := rfl
theorem za_String_charAt (x0 : Nat) (x1 : Int32) (h : zH) : zCall zCode kString_charAt [.ref x0, .int x1] h = zRun zCode kString_charAt 0 [.ref x0, .int x1] [] h := rfl
theorem za_StringLatin1_charAt (x0 : Nat) (x1 : Int32) (h : zH) : zCall zCode kStringLatin1_charAt [.ref x0, .int x1] h = zRun zCode kStringLatin1_charAt 0 [.ref x0, .int x1] [] h := rfl
theorem za_String_checkIndex (x0 : Int32) (x1 : Int32) (h : zH) : zCall zCode kString_checkIndex [.int x0, .int x1] h = zRun zCode kString_checkIndex 0 [.int x0, .int x1] [] h := rfl
theorem za_Preconditions_checkIndex (x0 : Int32) (x1 : Int32) (h : zH) : zCall zCode kPreconditions_checkIndex [.int x0, .int x1, .retAddr 1] h = zRun zCode kPreconditions_checkIndex 0 [.int x0, .int x1, .retAddr 1] [] h := rfl
theorem za_String_indexOf2 (x0 : Nat) (x1 : Int32) (h : zH) : zCall zCode kString_indexOf2 [.ref x0, .int x1] h = zRun zCode kString_indexOf2 0 [.ref x0, .int x1] [] h := rfl
theorem za_Model_line (x0 : Nat) (h : zH) : zCall zCode kModel_line [.ref x0] h = zRun zCode kModel_line 0 [.ref x0, .retAddr 0, .retAddr 0] [] h := rfl
theorem za_Model_wrong (x0 : Nat) (h : zH) : zCall zCode kModel_wrong [.ref x0] h = zRun zCode kModel_wrong 0 [.ref x0] [] h := rfl
theorem za_Wrong_init (x0 : Nat) (x1 : Int32) (x2 : Int32) (h : zH) : zCall zCode kWrong_init [.ref x0, .int x1, .int x2] h = zRun zCode kWrong_init 0 [.ref x0, .int x1, .int x2] [] h := rfl
theorem za_Model_must (x0 : Nat) (x1 : Int32) (x2 : Int32) (x3 : Int32) (h : zH) : zCall zCode kModel_must [.ref x0, .int x1, .int x2, .int x3] h = zRun zCode kModel_must 0 [.ref x0, .int x1, .int x2, .int x3] [] h := rfl
theorem za_Model_many (x0 : Nat) (h : zH) : zCall zCode kModel_many [.ref x0] h = zRun zCode kModel_many 0 [.ref x0] [] h := rfl
theorem za_Model_lay (x0 : Nat) (x1 : Int32) (x2 : Int32) (x3 : Int32) (x4 : Int32) (h : zH) : zCall zCode kModel_lay [.ref x0, .int x1, .int x2, .int x3, .int x4] h = zRun zCode kModel_lay 0 [.ref x0, .int x1, .int x2, .int x3, .int x4, .retAddr 0, .retAddr 0] [] h := rfl
theorem za_Model_named (x0 : Nat) (x1 : Int32) (h : zH) : zCall zCode kModel_named [.ref x0, .int x1] h = zRun zCode kModel_named 0 [.ref x0, .int x1, .retAddr 0, .retAddr 0, .retAddr 0, .retAddr 0] [] h := rfl
theorem za_Model_number (x0 : Nat) (x1 : Int32) (x2 : Int64) (x4 : Int32) (h : zH) : zCall zCode kModel_number [.ref x0, .int x1, .long x2, .int x4] h = zRun zCode kModel_number 0 [.ref x0, .int x1, .long x2, .retAddr 0, .int x4, .retAddr 0, .retAddr 0] [] h := rfl
theorem za_Model_indexOf (x0 : Nat) (x1 : Int64) (x3 : Int64) (h : zH) : zCall zCode kModel_indexOf [.ref x0, .long x1, .long x3] h = zRun zCode kModel_indexOf 0 [.ref x0, .long x1, .retAddr 0, .long x3, .retAddr 0, .retAddr 0] [] h := rfl
theorem za_Model_value (x0 : Nat) (x1 : Int32) (x2 : Int32) (h : zH) : zCall zCode kModel_value [.ref x0, .int x1, .int x2] h = zRun zCode kModel_value 0 [.ref x0, .int x1, .int x2, .retAddr 0] [] h := rfl
theorem za_Model_set (x0 : Nat) (x1 : Int32) (x2 : Int32) (x3 : Int64) (h : zH) : zCall zCode kModel_set [.ref x0, .int x1, .int x2, .long x3] h = zRun zCode kModel_set 0 [.ref x0, .int x1, .int x2, .long x3, .retAddr 0] [] h := rfl
theorem za_Model_take (x0 : Nat) (x1 : Int32) (h : zH) : zCall zCode kModel_take [.ref x0, .int x1] h = zRun zCode kModel_take 0 [.ref x0, .int x1] [] h := rfl
theorem za_Model_jump (x0 : Nat) (x1 : Int32) (h : zH) : zCall zCode kModel_jump [.ref x0, .int x1] h = zRun zCode kModel_jump 0 [.ref x0, .int x1, .retAddr 0] [] h := rfl
theorem za_Model_variable (x0 : Nat) (h : zH) : zCall zCode kModel_variable [.ref x0] h = zRun zCode kModel_variable 0 [.ref x0, .retAddr 0] [] h := rfl
theorem za_Model_errorAt (x0 : Nat) (h : zH) : zCall zCode kModel_errorAt [.ref x0] h = zRun zCode kModel_errorAt 0 [.ref x0] [] h := rfl
theorem za_Model_programs (x0 : Nat) (h : zH) : zCall zCode kModel_programs [.ref x0] h = zRun zCode kModel_programs 0 [.ref x0] [] h := rfl
theorem za_Model_count (x0 : Nat) (x1 : Int32) (x2 : Int32) (h : zH) : zCall zCode kModel_count [.ref x0, .int x1, .int x2] h = zRun zCode kModel_count 0 [.ref x0, .int x1, .int x2] [] h := rfl
theorem za_Model_isProgram (x0 : Nat) (x1 : Int32) (h : zH) : zCall zCode kModel_isProgram [.ref x0, .int x1] h = zRun zCode kModel_isProgram 0 [.ref x0, .int x1] [] h := rfl
theorem za_Model_counted (x0 : Nat) (x1 : Int32) (h : zH) : zCall zCode kModel_counted [.ref x0, .int x1] h = zRun zCode kModel_counted 0 [.ref x0, .int x1, .retAddr 0, .retAddr 0, .retAddr 0] [] h := rfl
theorem za_Model_findReach (x0 : Nat) (h : zH) : zCall zCode kModel_findReach [.ref x0] h = zRun zCode kModel_findReach 0 [.ref x0, .retAddr 0, .retAddr 0, .retAddr 0, .retAddr 0, .retAddr 0] [] h := rfl
theorem za_Model_follows (x0 : Nat) (x1 : Int32) (x2 : Int32) (h : zH) : zCall zCode kModel_follows [.ref x0, .int x1, .int x2] h = zRun zCode kModel_follows 0 [.ref x0, .int x1, .int x2, .retAddr 0] [] h := rfl
theorem za_Model_get (x0 : Nat) (x1 : Int32) (x2 : Int32) (h : zH) : zCall zCode kModel_get [.ref x0, .int x1, .int x2] h = zRun zCode kModel_get 0 [.ref x0, .int x1, .int x2] [] h := rfl
theorem za_Model_get2 (x0 : Nat) (x1 : Int32) (x2 : Int32) (h : zH) : zCall zCode kModel_get2 [.ref x0, .int x1, .int x2] h = zRun zCode kModel_get2 0 [.ref x0, .int x1, .int x2] [] h := rfl
theorem za_Model_jumps (x0 : Nat) (x1 : Int32) (h : zH) : zCall zCode kModel_jumps [.ref x0, .int x1] h = zRun zCode kModel_jumps 0 [.ref x0, .int x1] [] h := rfl
theorem za_Model_placeOf (x0 : Nat) (x1 : Int32) (h : zH) : zCall zCode kModel_placeOf [.ref x0, .int x1] h = zRun zCode kModel_placeOf 0 [.ref x0, .int x1, .retAddr 0] [] h := rfl
theorem za_Model_beginsBlock (x0 : Nat) (x1 : Int32) (h : zH) : zCall zCode kModel_beginsBlock [.ref x0, .int x1] h = zRun zCode kModel_beginsBlock 0 [.ref x0, .int x1] [] h := rfl
theorem za_Model_loopEnd (x0 : Nat) (x1 : Int32) (h : zH) : zCall zCode kModel_loopEnd [.ref x0, .int x1] h = zRun zCode kModel_loopEnd 0 [.ref x0, .int x1, .retAddr 0, .retAddr 0, .retAddr 0, .retAddr 0] [] h := rfl
theorem za_Model_leadsTo (x0 : Nat) (x1 : Int32) (h : zH) : zCall zCode kModel_leadsTo [.ref x0, .int x1] h = zRun zCode kModel_leadsTo 0 [.ref x0, .int x1, .retAddr 0, .retAddr 0] [] h := rfl
theorem za_Model_code (x0 : Nat) (x1 : Int32) (x2 : Int32) (x3 : Int32) (h : zH) : zCall zCode kModel_code [.ref x0, .int x1, .int x2, .int x3] h = zRun zCode kModel_code 0 [.ref x0, .int x1, .int x2, .int x3] [] h := rfl
theorem za_Model_isInstruction (x0 : Nat) (x1 : Int32) (x2 : Int32) (h : zH) : zCall zCode kModel_isInstruction [.ref x0, .int x1, .int x2] h = zRun zCode kModel_isInstruction 0 [.ref x0, .int x1, .int x2] [] h := rfl
theorem za_Model_number2 (x0 : Nat) (x1 : Int32) (x2 : Int32) (x3 : Int32) (h : zH) : zCall zCode kModel_number2 [.ref x0, .int x1, .int x2, .int x3] h = zRun zCode kModel_number2 0 [.ref x0, .int x1, .int x2, .int x3] [] h := rfl
theorem za_Model_numberOf (x0 : Nat) (x1 : Int32) (x2 : Int32) (h : zH) : zCall zCode kModel_numberOf [.ref x0, .int x1, .int x2] h = zRun zCode kModel_numberOf 0 [.ref x0, .int x1, .int x2] [] h := rfl
theorem za_Model_live (x0 : Nat) (x1 : Int32) (x2 : Int32) (h : zH) : zCall zCode kModel_live [.ref x0, .int x1, .int x2] h = zRun zCode kModel_live 0 [.ref x0, .int x1, .int x2] [] h := rfl
theorem za_Model_findLive (x0 : Nat) (h : zH) : zCall zCode kModel_findLive [.ref x0] h = zRun zCode kModel_findLive 0 [.ref x0, .retAddr 0, .retAddr 0, .retAddr 0, .retAddr 0] [] h := rfl
theorem za_Model_ahead (x0 : Nat) (x1 : Int32) (h : zH) : zCall zCode kModel_ahead [.ref x0, .int x1] h = zRun zCode kModel_ahead 0 [.ref x0, .int x1, .retAddr 0] [] h := rfl
theorem za_Model_assigns (x0 : Nat) (x1 : Int32) (h : zH) : zCall zCode kModel_assigns [.ref x0, .int x1] h = zRun zCode kModel_assigns 0 [.ref x0, .int x1] [] h := rfl
theorem za_Model_pass (x0 : Nat) (x1 : Int32) (x2 : Int32) (h : zH) : zCall zCode kModel_pass [.ref x0, .int x1, .int x2] h = zRun zCode kModel_pass 0 [.ref x0, .int x1, .int x2] [] h := rfl
theorem za_Model_begin (x0 : Nat) (x1 : Int32) (h : zH) : zCall zCode kModel_begin [.ref x0, .int x1] h = zRun zCode kModel_begin 0 [.ref x0, .int x1] [] h := rfl
theorem za_Model_make (x0 : Nat) (x1 : Int32) (h : zH) : zCall zCode kModel_make [.ref x0, .int x1] h = zRun zCode kModel_make 0 [.ref x0, .int x1] [] h := rfl
theorem za_Model_fold (x0 : Nat) (h : zH) : zCall zCode kModel_fold [.ref x0] h = zRun zCode kModel_fold 0 [.ref x0, .retAddr 0, .retAddr 0, .retAddr 0, .retAddr 0, .retAddr 0] [] h := rfl
theorem za_Model_isNumber (x0 : Nat) (x1 : Int32) (x2 : Int32) (h : zH) : zCall zCode kModel_isNumber [.ref x0, .int x1, .int x2] h = zRun zCode kModel_isNumber 0 [.ref x0, .int x1, .int x2] [] h := rfl
theorem za_Model_two (x0 : Int32) (x1 : Int64) (x3 : Int64) (h : zH) : zCall zCode kModel_two [.int x0, .long x1, .long x3] h = zRun zCode kModel_two 0 [.int x0, .long x1, .retAddr 0, .long x3, .retAddr 0] [] h := rfl
theorem za_Model_takeOut (x0 : Nat) (x1 : Int32) (h : zH) : zCall zCode kModel_takeOut [.ref x0, .int x1] h = zRun zCode kModel_takeOut 0 [.ref x0, .int x1] [] h := rfl
theorem za_Model_copy (x0 : Nat) (h : zH) : zCall zCode kModel_copy [.ref x0] h = zRun zCode kModel_copy 0 [.ref x0, .retAddr 0, .retAddr 0, .retAddr 0, .retAddr 0, .retAddr 0, .retAddr 0] [] h := rfl
theorem za_Model_value2 (x0 : Nat) (h : zH) : zCall zCode kModel_value2 [.ref x0] h = zRun zCode kModel_value2 0 [.ref x0, .retAddr 0, .retAddr 0, .retAddr 0, .retAddr 0] [] h := rfl
theorem za_Model_isSameTwo (x0 : Nat) (x1 : Int32) (x2 : Int32) (h : zH) : zCall zCode kModel_isSameTwo [.ref x0, .int x1, .int x2] h = zRun zCode kModel_isSameTwo 0 [.ref x0, .int x1, .int x2, .retAddr 0, .retAddr 0] [] h := rfl
theorem za_Model_isSameValue (x0 : Nat) (x1 : Int32) (x2 : Int32) (x3 : Int32) (x4 : Int32) (h : zH) : zCall zCode kModel_isSameValue [.ref x0, .int x1, .int x2, .int x3, .int x4] h = zRun zCode kModel_isSameValue 0 [.ref x0, .int x1, .int x2, .int x3, .int x4] [] h := rfl
theorem za_Model_reads (x0 : Nat) (x1 : Int32) (x2 : Int32) (h : zH) : zCall zCode kModel_reads [.ref x0, .int x1, .int x2] h = zRun zCode kModel_reads 0 [.ref x0, .int x1, .int x2] [] h := rfl
theorem za_Model_isKept (x0 : Nat) (x1 : Int32) (x2 : Int32) (h : zH) : zCall zCode kModel_isKept [.ref x0, .int x1, .int x2] h = zRun zCode kModel_isKept 0 [.ref x0, .int x1, .int x2, .retAddr 0, .retAddr 0] [] h := rfl
theorem za_Model_drop (x0 : Nat) (h : zH) : zCall zCode kModel_drop [.ref x0] h = zRun zCode kModel_drop 0 [.ref x0, .retAddr 0, .retAddr 0] [] h := rfl
theorem za_Model_isIdle (x0 : Nat) (x1 : Int32) (h : zH) : zCall zCode kModel_isIdle [.ref x0, .int x1] h = zRun zCode kModel_isIdle 0 [.ref x0, .int x1, .retAddr 0, .retAddr 0] [] h := rfl
theorem za_Model_move (x0 : Nat) (h : zH) : zCall zCode kModel_move [.ref x0] h = zRun zCode kModel_move 0 [.ref x0, .retAddr 0] [] h := rfl
theorem za_Model_moveOne (x0 : Nat) (h : zH) : zCall zCode kModel_moveOne [.ref x0] h = zRun zCode kModel_moveOne 0 [.ref x0, .retAddr 0, .retAddr 0, .retAddr 0, .retAddr 0] [] h := rfl
theorem za_Model_canMove (x0 : Nat) (x1 : Int32) (x2 : Int32) (x3 : Int32) (h : zH) : zCall zCode kModel_canMove [.ref x0, .int x1, .int x2, .int x3] h = zRun zCode kModel_canMove 0 [.ref x0, .int x1, .int x2, .int x3, .retAddr 0, .retAddr 0, .retAddr 0, .retAddr 0] [] h := rfl
theorem za_Model_better (x0 : Nat) (x1 : Int32) (h : zH) : zCall zCode kModel_better [.ref x0, .int x1] h = zRun zCode kModel_better 0 [.ref x0, .int x1, .retAddr 0, .retAddr 0, .retAddr 0, .retAddr 0] [] h := rfl
theorem za_Model_put (x0 : Nat) (x1 : Int64) (h : zH) : zCall zCode kModel_put [.ref x0, .long x1] h = zRun zCode kModel_put 0 [.ref x0, .long x1, .retAddr 0] [] h := rfl
theorem za_Model_empty (x0 : Nat) (h : zH) : zCall zCode kModel_empty [.ref x0] h = zRun zCode kModel_empty 0 [.ref x0, .retAddr 0] [] h := rfl
theorem za_Model_run (x0 : Nat) (x1 : Int32) (x2 : Int32) (h : zH) : zCall zCode kModel_run [.ref x0, .int x1, .int x2] h = zRun zCode kModel_run 0 [.ref x0, .int x1, .int x2, .retAddr 0, .retAddr 0] [] h := rfl
theorem za_Model_runWith (x0 : Nat) (x1 : Int32) (x2 : Int32) (x3 : Nat) (x4 : Int32) (h : zH) : zCall zCode kModel_runWith [.ref x0, .int x1, .int x2, .ref x3, .int x4] h = zRun zCode kModel_runWith 0 [.ref x0, .int x1, .int x2, .ref x3, .int x4, .retAddr 0, .retAddr 0] [] h := rfl
theorem za_Model_behindLabels (x0 : Nat) (x1 : Int32) (h : zH) : zCall zCode kModel_behindLabels [.ref x0, .int x1] h = zRun zCode kModel_behindLabels 0 [.ref x0, .int x1, .retAddr 0] [] h := rfl
theorem za_Model_step (x0 : Nat) (x1 : Int32) (x2 : Nat) (x3 : Int32) (h : zH) : zCall zCode kModel_step [.ref x0, .int x1, .ref x2, .int x3] h = zRun zCode kModel_step 0 [.ref x0, .int x1, .ref x2, .int x3, .retAddr 0] [] h := rfl
theorem za_Model_valueOf (x0 : Nat) (x1 : Int32) (x2 : Int32) (h : zH) : zCall zCode kModel_valueOf [.ref x0, .int x1, .int x2] h = zRun zCode kModel_valueOf 0 [.ref x0, .int x1, .int x2] [] h := rfl
theorem za_Model_ran (x0 : Nat) (x1 : Int32) (h : zH) : zCall zCode kModel_ran [.ref x0, .int x1] h = zRun zCode kModel_ran 0 [.ref x0, .int x1] [] h := rfl
theorem za_Model_output (x0 : Nat) (x1 : Int32) (h : zH) : zCall zCode kModel_output [.ref x0, .int x1] h = zRun zCode kModel_output 0 [.ref x0, .int x1] [] h := rfl
theorem za_Model_variable2 (x0 : Nat) (x1 : Int32) (h : zH) : zCall zCode kModel_variable2 [.ref x0, .int x1] h = zRun zCode kModel_variable2 0 [.ref x0, .int x1] [] h := rfl
theorem za_Model_differ (x0 : Nat) (x1 : Int32) (x2 : Int32) (x3 : Int32) (x4 : Int32) (h : zH) : zCall zCode kModel_differ [.ref x0, .int x1, .int x2, .int x3, .int x4] h = zRun zCode kModel_differ 0 [.ref x0, .int x1, .int x2, .int x3, .int x4, .retAddr 0] [] h := rfl
theorem za_Model_areCases (x0 : Int32) (x1 : Int32) (h : zH) : zCall zCode kModel_areCases [.int x0, .int x1] h = zRun zCode kModel_areCases 0 [.int x0, .int x1] [] h := rfl
theorem za_Model_inputsOf (x0 : Int32) (x1 : Int32) (h : zH) : zCall zCode kModel_inputsOf [.int x0, .int x1] h = zRun zCode kModel_inputsOf 0 [.int x0, .int x1, .retAddr 0, .retAddr 0] [] h := rfl
theorem za_Model_layCase (x0 : Nat) (x1 : Int32) (x2 : Int32) (x3 : Int32) (h : zH) : zCall zCode kModel_layCase [.ref x0, .int x1, .int x2, .int x3] h = zRun zCode kModel_layCase 0 [.ref x0, .int x1, .int x2, .int x3, .retAddr 0, .retAddr 0] [] h := rfl
theorem za_Model_isOther (x0 : Nat) (x1 : Int32) (x2 : Int32) (x3 : Int32) (h : zH) : zCall zCode kModel_isOther [.ref x0, .int x1, .int x2, .int x3] h = zRun zCode kModel_isOther 0 [.ref x0, .int x1, .int x2, .int x3, .retAddr 0, .retAddr 0, .retAddr 0, .retAddr 0] [] h := rfl
theorem za_Model_share (x0 : Nat) (x1 : Int32) (x2 : Int32) (x3 : Int32) (x4 : Int32) (h : zH) : zCall zCode kModel_share [.ref x0, .int x1, .int x2, .int x3, .int x4] h = zRun zCode kModel_share 0 [.ref x0, .int x1, .int x2, .int x3, .int x4, .retAddr 0, .retAddr 0, .retAddr 0] [] h := rfl
theorem za_Model_digest (x0 : Nat) (h : zH) : zCall zCode kModel_digest [.ref x0] h = zRun zCode kModel_digest 0 [.ref x0, .retAddr 0, .retAddr 0, .retAddr 0, .retAddr 0, .retAddr 0] [] h := rfl
end ZCALLS
