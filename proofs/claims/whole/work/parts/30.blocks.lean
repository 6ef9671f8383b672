section ZB
set_option maxRecDepth 100000 in
set_option maxHeartbeats 4000000 in
theorem zb_PassForge_init_0 (x0 : Nat) (h : zH) : zRun zCode kPassForge_init 0 [.ref x0, .retAddr 0] [] h =
    if (zi 12) < 0 ∨ 65536 < (zi 12).toNatClampNeg then
      none
    else
      (zPut (zPush h (zi 12).toNatClampNeg (110, List.replicate (zi 12).toNatClampNeg .null)) x0 0 0 (.ref h.1)).bind fun h1 =>
      zRun zCode kPassForge_init 8 [.ref x0, .int (zi 0)] [] h1
  := (zRun_eb [8] 400 0 _ _ _).trans rfl
set_option maxRecDepth 100000 in
set_option maxHeartbeats 4000000 in
theorem zb_PassForge_init_8 (x0 : Nat) (x1 : Int32) (h : zH) : zRun zCode kPassForge_init 8 [.ref x0, .int x1] [] h =
    (zVA (zAt h x0 0 0)).bind fun a1 =>
    if 100 ≤ (h.2.2 a1).1 then
      if x1 < ((h.2.2 a1).2.length.toInt32) then
        (zVA (zAt h x0 0 0)).bind fun a20 =>
        (zCall zCode kProgram_init [.ref h.1] (zPush h 18 (1, [.null, .null, .null, .null, .null, .null, .null, .null, .null, .null, .null, .null, .int 0, .int 0, .int 0, .int 0, .int 0, .int 0]))).bind (zRV fun h21 =>
          if (h21.2.2 h.1).1 = 1 then
            (zIx h21 a20 110 x1).bind fun j22 =>
            (zPut h21 a20 110 j22 (.ref h.1)).bind fun h23 =>
            zRun zCode kPassForge_init 8 [.ref x0, .int (x1 + zi 1)] [] h23
          else
            none)
      else
        (zCall zCode kTape_init [.ref h.1] (zPush h 2 (2, [.null, .int 0]))).bind (zRV fun h2 =>
          (zPut h2 x0 0 2 (.ref h.1)).bind fun h3 =>
          (zCall zCode kReader_init [.ref h3.1] (zPush h3 13 (3, [.null, .null, .null, .int 0, .int 0, .int 0, .int 0, .int 0, .long 0, .int 0, .long 0, .int 0, .long 0]))).bind (zRV fun h4 =>
            (zPut h4 x0 0 3 (.ref h3.1)).bind fun h5 =>
            (zCall zCode kFlow_init [.ref h5.1] (zPush h5 3 (6, [.null, .null, .null]))).bind (zRV fun h6 =>
              (zPut h6 x0 0 4 (.ref h5.1)).bind fun h7 =>
              (zCall zCode kBlockPasses_init [.ref h7.1] (zPush h7 3 (7, [.null, .null, .null]))).bind (zRV fun h8 =>
                (zPut h8 x0 0 5 (.ref h7.1)).bind fun h9 =>
                (zCall zCode kFlowPasses_init [.ref h9.1] (zPush h9 1 (8, [.null]))).bind (zRV fun h10 =>
                  (zPut h10 x0 0 6 (.ref h9.1)).bind fun h11 =>
                  if (zi 30) < 0 ∨ 65536 < (zi 30).toNatClampNeg then
                    none
                  else
                    (zPut (zPush h11 (zi 30).toNatClampNeg (101, List.replicate (zi 30).toNatClampNeg (.long 0))) x0 0 7 (.ref h11.1)).bind fun h12 =>
                    (zCall zCode kMachine_init [.ref h12.1] (zPush h12 6 (9, [.null, .null, .int 0, .int 0, .int 0, .int 0]))).bind (zRV fun h13 =>
                      (zPut h13 x0 0 9 (.ref h12.1)).bind fun h14 =>
                      (zCall zCode kMachine_init [.ref h14.1] (zPush h14 6 (9, [.null, .null, .int 0, .int 0, .int 0, .int 0]))).bind (zRV fun h15 =>
                        (zPut h15 x0 0 10 (.ref h14.1)).bind fun h16 =>
                        (zCall zCode kMachine_init [.ref h16.1] (zPush h16 6 (9, [.null, .null, .int 0, .int 0, .int 0, .int 0]))).bind (zRV fun h17 =>
                          (zPut h17 x0 0 11 (.ref h16.1)).bind fun h18 =>
                          if (zi 4) < 0 ∨ 65536 < (zi 4).toNatClampNeg then
                            none
                          else
                            (zPut (zPush h18 (zi 4).toNatClampNeg (101, List.replicate (zi 4).toNatClampNeg (.long 0))) x0 0 12 (.ref h18.1)).bind fun h19 =>
                            some (.inl (none, h19))))))))))
    else
      none
  := (zRun_eb [8] 400 8 _ _ _).trans rfl
set_option maxRecDepth 100000 in
set_option maxHeartbeats 4000000 in
theorem zb_Program_init_0 (x0 : Nat) (h : zH) : zRun zCode kProgram_init 0 [.ref x0] [] h =
    if (zi 81) < 0 ∨ 65536 < (zi 81).toNatClampNeg then
      none
    else
      (zPut (zPush h (zi 81).toNatClampNeg (100, List.replicate (zi 81).toNatClampNeg (.int 0))) x0 1 0 (.ref h.1)).bind fun h1 =>
      if (zi 81) < 0 ∨ 65536 < (zi 81).toNatClampNeg then
        none
      else
        (zPut (zPush h1 (zi 81).toNatClampNeg (100, List.replicate (zi 81).toNatClampNeg (.int 0))) x0 1 1 (.ref h1.1)).bind fun h2 =>
        if (zi 81) < 0 ∨ 65536 < (zi 81).toNatClampNeg then
          none
        else
          (zPut (zPush h2 (zi 81).toNatClampNeg (100, List.replicate (zi 81).toNatClampNeg (.int 0))) x0 1 2 (.ref h2.1)).bind fun h3 =>
          if (zi 81) < 0 ∨ 65536 < (zi 81).toNatClampNeg then
            none
          else
            (zPut (zPush h3 (zi 81).toNatClampNeg (100, List.replicate (zi 81).toNatClampNeg (.int 0))) x0 1 3 (.ref h3.1)).bind fun h4 =>
            if (zi 81) < 0 ∨ 65536 < (zi 81).toNatClampNeg then
              none
            else
              (zPut (zPush h4 (zi 81).toNatClampNeg (100, List.replicate (zi 81).toNatClampNeg (.int 0))) x0 1 4 (.ref h4.1)).bind fun h5 =>
              if (zi 81) < 0 ∨ 65536 < (zi 81).toNatClampNeg then
                none
              else
                (zPut (zPush h5 (zi 81).toNatClampNeg (101, List.replicate (zi 81).toNatClampNeg (.long 0))) x0 1 5 (.ref h5.1)).bind fun h6 =>
                if (zi 81) < 0 ∨ 65536 < (zi 81).toNatClampNeg then
                  none
                else
                  (zPut (zPush h6 (zi 81).toNatClampNeg (101, List.replicate (zi 81).toNatClampNeg (.long 0))) x0 1 6 (.ref h6.1)).bind fun h7 =>
                  if (zi 81) < 0 ∨ 65536 < (zi 81).toNatClampNeg then
                    none
                  else
                    (zPut (zPush h7 (zi 81).toNatClampNeg (102, List.replicate (zi 81).toNatClampNeg (.int 0))) x0 1 7 (.ref h7.1)).bind fun h8 =>
                    if (zi 81) < 0 ∨ 65536 < (zi 81).toNatClampNeg then
                      none
                    else
                      (zPut (zPush h8 (zi 81).toNatClampNeg (100, List.replicate (zi 81).toNatClampNeg (.int 0))) x0 1 8 (.ref h8.1)).bind fun h9 =>
                      if (zi 12) < 0 ∨ 65536 < (zi 12).toNatClampNeg then
                        none
                      else
                        (zPut (zPush h9 (zi 12).toNatClampNeg (100, List.replicate (zi 12).toNatClampNeg (.int 0))) x0 1 9 (.ref h9.1)).bind fun h10 =>
                        if (zi 12) < 0 ∨ 65536 < (zi 12).toNatClampNeg then
                          none
                        else
                          (zPut (zPush h10 (zi 12).toNatClampNeg (100, List.replicate (zi 12).toNatClampNeg (.int 0))) x0 1 10 (.ref h10.1)).bind fun h11 =>
                          if (zi 81) < 0 ∨ 65536 < (zi 81).toNatClampNeg then
                            none
                          else
                            (zPut (zPush h11 (zi 81).toNatClampNeg (100, List.replicate (zi 81).toNatClampNeg (.int 0))) x0 1 11 (.ref h11.1)).bind fun h12 =>
                            some (.inl (none, h12))
  := (zRun_eb [] 400 0 _ _ _).trans rfl
set_option maxRecDepth 100000 in
set_option maxHeartbeats 4000000 in
theorem zb_Tape_init_0 (x0 : Nat) (h : zH) : zRun zCode kTape_init 0 [.ref x0] [] h =
    if (zi 1600) < 0 ∨ 65536 < (zi 1600).toNatClampNeg then
      none
    else
      (zPut (zPush h (zi 1600).toNatClampNeg (100, List.replicate (zi 1600).toNatClampNeg (.int 0))) x0 2 0 (.ref h.1)).bind fun h1 =>
      some (.inl (none, h1))
  := (zRun_eb [] 400 0 _ _ _).trans rfl
set_option maxRecDepth 100000 in
set_option maxHeartbeats 4000000 in
theorem zb_Reader_init_0 (x0 : Nat) (h : zH) : zRun zCode kReader_init 0 [.ref x0] [] h =
    (zCall zCode kTokens_init [.ref h.1] (zPush h 5 (4, [.null, .null, .null, .int 0, .int 0]))).bind (zRV fun h1 =>
      (zPut h1 x0 3 0 (.ref h.1)).bind fun h2 =>
      (zCall zCode kNames_init [.ref h2.1] (zPush h2 4 (5, [.null, .null, .null, .int 0]))).bind (zRV fun h3 =>
        (zPut h3 x0 3 1 (.ref h2.1)).bind fun h4 =>
        (zCall zCode kNames_init [.ref h4.1] (zPush h4 4 (5, [.null, .null, .null, .int 0]))).bind (zRV fun h5 =>
          (zPut h5 x0 3 2 (.ref h4.1)).bind fun h6 =>
          (zPut h6 x0 3 4 (.int (zi (-1)))).bind fun h7 =>
          some (.inl (none, h7)))))
  := (zRun_eb [] 400 0 _ _ _).trans rfl
set_option maxRecDepth 100000 in
set_option maxHeartbeats 4000000 in
theorem zb_Tokens_init_0 (x0 : Nat) (h : zH) : zRun zCode kTokens_init 0 [.ref x0] [] h =
    if (zi 1601) < 0 ∨ 65536 < (zi 1601).toNatClampNeg then
      none
    else
      (zPut (zPush h (zi 1601).toNatClampNeg (100, List.replicate (zi 1601).toNatClampNeg (.int 0))) x0 4 0 (.ref h.1)).bind fun h1 =>
      if (zi 1601) < 0 ∨ 65536 < (zi 1601).toNatClampNeg then
        none
      else
        (zPut (zPush h1 (zi 1601).toNatClampNeg (100, List.replicate (zi 1601).toNatClampNeg (.int 0))) x0 4 1 (.ref h1.1)).bind fun h2 =>
        if (zi 1601) < 0 ∨ 65536 < (zi 1601).toNatClampNeg then
          none
        else
          (zPut (zPush h2 (zi 1601).toNatClampNeg (101, List.replicate (zi 1601).toNatClampNeg (.long 0))) x0 4 2 (.ref h2.1)).bind fun h3 =>
          some (.inl (none, h3))
  := (zRun_eb [] 400 0 _ _ _).trans rfl
set_option maxRecDepth 100000 in
set_option maxHeartbeats 4000000 in
theorem zb_Names_init_0 (x0 : Nat) (h : zH) : zRun zCode kNames_init 0 [.ref x0] [] h =
    if (zi 12) < 0 ∨ 65536 < (zi 12).toNatClampNeg then
      none
    else
      (zPut (zPush h (zi 12).toNatClampNeg (101, List.replicate (zi 12).toNatClampNeg (.long 0))) x0 5 0 (.ref h.1)).bind fun h1 =>
      if (zi 12) < 0 ∨ 65536 < (zi 12).toNatClampNeg then
        none
      else
        (zPut (zPush h1 (zi 12).toNatClampNeg (100, List.replicate (zi 12).toNatClampNeg (.int 0))) x0 5 1 (.ref h1.1)).bind fun h2 =>
        if (zi 12) < 0 ∨ 65536 < (zi 12).toNatClampNeg then
          none
        else
          (zPut (zPush h2 (zi 12).toNatClampNeg (102, List.replicate (zi 12).toNatClampNeg (.int 0))) x0 5 2 (.ref h2.1)).bind fun h3 =>
          some (.inl (none, h3))
  := (zRun_eb [] 400 0 _ _ _).trans rfl
set_option maxRecDepth 100000 in
set_option maxHeartbeats 4000000 in
theorem zb_Flow_init_0 (x0 : Nat) (h : zH) : zRun zCode kFlow_init 0 [.ref x0] [] h =
    if (zi 80) < 0 ∨ 65536 < (zi 80).toNatClampNeg then
      none
    else
      (zPut (zPush h (zi 80).toNatClampNeg (102, List.replicate (zi 80).toNatClampNeg (.int 0))) x0 6 0 (.ref h.1)).bind fun h1 =>
      if (zi 80) < 0 ∨ 65536 < (zi 80).toNatClampNeg then
        none
      else
        (zPut (zPush h1 (zi 80).toNatClampNeg (100, List.replicate (zi 80).toNatClampNeg (.int 0))) x0 6 1 (.ref h1.1)).bind fun h2 =>
        if (zi 80) < 0 ∨ 65536 < (zi 80).toNatClampNeg then
          none
        else
          (zPut (zPush h2 (zi 80).toNatClampNeg (100, List.replicate (zi 80).toNatClampNeg (.int 0))) x0 6 2 (.ref h2.1)).bind fun h3 =>
          some (.inl (none, h3))
  := (zRun_eb [] 400 0 _ _ _).trans rfl
set_option maxRecDepth 100000 in
set_option maxHeartbeats 4000000 in
theorem zb_BlockPasses_init_0 (x0 : Nat) (h : zH) : zRun zCode kBlockPasses_init 0 [.ref x0] [] h =
    if (zi 12) < 0 ∨ 65536 < (zi 12).toNatClampNeg then
      none
    else
      (zPut (zPush h (zi 12).toNatClampNeg (102, List.replicate (zi 12).toNatClampNeg (.int 0))) x0 7 0 (.ref h.1)).bind fun h1 =>
      if (zi 12) < 0 ∨ 65536 < (zi 12).toNatClampNeg then
        none
      else
        (zPut (zPush h1 (zi 12).toNatClampNeg (101, List.replicate (zi 12).toNatClampNeg (.long 0))) x0 7 1 (.ref h1.1)).bind fun h2 =>
        if (zi 12) < 0 ∨ 65536 < (zi 12).toNatClampNeg then
          none
        else
          (zPut (zPush h2 (zi 12).toNatClampNeg (100, List.replicate (zi 12).toNatClampNeg (.int 0))) x0 7 2 (.ref h2.1)).bind fun h3 =>
          some (.inl (none, h3))
  := (zRun_eb [] 400 0 _ _ _).trans rfl
set_option maxRecDepth 100000 in
set_option maxHeartbeats 4000000 in
theorem zb_FlowPasses_init_0 (x0 : Nat) (h : zH) : zRun zCode kFlowPasses_init 0 [.ref x0] [] h =
    (zCall zCode kFlow_init [.ref h.1] (zPush h 3 (6, [.null, .null, .null]))).bind (zRV fun h1 =>
      (zPut h1 x0 8 0 (.ref h.1)).bind fun h2 =>
      some (.inl (none, h2)))
  := (zRun_eb [] 400 0 _ _ _).trans rfl
set_option maxRecDepth 100000 in
set_option maxHeartbeats 4000000 in
theorem zb_Machine_init_0 (x0 : Nat) (h : zH) : zRun zCode kMachine_init 0 [.ref x0] [] h =
    if (zi 12) < 0 ∨ 65536 < (zi 12).toNatClampNeg then
      none
    else
      (zPut (zPush h (zi 12).toNatClampNeg (101, List.replicate (zi 12).toNatClampNeg (.long 0))) x0 9 0 (.ref h.1)).bind fun h1 =>
      if (zi 60) < 0 ∨ 65536 < (zi 60).toNatClampNeg then
        none
      else
        (zPut (zPush h1 (zi 60).toNatClampNeg (101, List.replicate (zi 60).toNatClampNeg (.long 0))) x0 9 1 (.ref h1.1)).bind fun h2 =>
        some (.inl (none, h2))
  := (zRun_eb [] 400 0 _ _ _).trans rfl
set_option maxRecDepth 100000 in
set_option maxHeartbeats 4000000 in
theorem zb_PassForge_errorAt_0 (x0 : Nat) (h : zH) : zRun zCode kPassForge_errorAt 0 [.ref x0] [] h =
    (zVA (zAt h x0 0 3)).bind fun a1 =>
    if (h.2.2 a1).1 = 3 then
      (zCall zCode kReader_faultPlace [.ref a1] h).bind (zRI fun r3 h2 =>
        some (.inl (some (.int r3), h2)))
    else
      none
  := (zRun_eb [] 400 0 _ _ _).trans rfl
set_option maxRecDepth 100000 in
set_option maxHeartbeats 4000000 in
theorem zb_Reader_faultPlace_0 (x0 : Nat) (h : zH) : zRun zCode kReader_faultPlace 0 [.ref x0] [] h =
    (zVI (zAt h x0 3 4)).bind fun v1 =>
    some (.inl (some (.int v1), h))
  := (zRun_eb [] 400 0 _ _ _).trans rfl
set_option maxRecDepth 100000 in
set_option maxHeartbeats 4000000 in
theorem zb_PassForge_programs_0 (x0 : Nat) (h : zH) : zRun zCode kPassForge_programs 0 [.ref x0] [] h =
    (zVI (zAt h x0 0 1)).bind fun v1 =>
    some (.inl (some (.int v1), h))
  := (zRun_eb [] 400 0 _ _ _).trans rfl
set_option maxRecDepth 100000 in
set_option maxHeartbeats 4000000 in
theorem zb_PassForge_empty_0 (x0 : Nat) (h : zH) : zRun zCode kPassForge_empty 0 [.ref x0, .retAddr 0] [] h =
    (zVI (zAt h x0 0 8)).bind fun v1 =>
    (zPut h x0 0 8 (.int (zi 0))).bind fun h2 =>
    some (.inl (some (.int v1), h2))
  := (zRun_eb [] 400 0 _ _ _).trans rfl
set_option maxRecDepth 100000 in
set_option maxHeartbeats 4000000 in
theorem zb_PassForge_digest_0 (x0 : Nat) (h : zH) : zRun zCode kPassForge_digest 0 [.ref x0, .retAddr 0, .retAddr 0, .retAddr 0] [] h =
    (zVI (zAt h x0 0 1)).bind fun v1 =>
    (zCall zCode kPassForge_mix [.long (zl 401), .long v1.toInt64] h).bind (zRL fun r3 h2 =>
      zRun zCode kPassForge_digest 8 [.ref x0, .long r3, .retAddr 0, .int (zi 0)] [] h2)
  := (zRun_eb [8, 26, 41, 61, 76, 92] 400 0 _ _ _).trans rfl
set_option maxRecDepth 100000 in
set_option maxHeartbeats 4000000 in
theorem zb_PassForge_digest_8 (x0 : Nat) (x1 : Int64) (x3 : Int32) (h : zH) : zRun zCode kPassForge_digest 8 [.ref x0, .long x1, .retAddr 0, .int x3] [] h =
    (zVI (zAt h x0 0 1)).bind fun v1 =>
    if x3 < v1 then
      (zVA (zAt h x0 0 0)).bind fun a2 =>
      if 100 ≤ (h.2.2 a2).1 then
        if x3 < ((h.2.2 a2).2.length.toInt32) then
          (zVA (zAt h x0 0 0)).bind fun a3 =>
          (zIx h a3 110 x3).bind fun j4 =>
          (zVA (zAt h a3 110 j4)).bind fun a5 =>
          (zCall zCode kPassForge_mixProgram [.long x1, .ref a5] h).bind (zRL fun r7 h6 =>
            zRun zCode kPassForge_digest 8 [.ref x0, .long r7, .retAddr 0, .int (x3 + zi 1)] [] h6)
        else
          zRun zCode kPassForge_digest 26 [.ref x0, .long x1, .retAddr 0, .retAddr 0] [] h
      else
        none
    else
      zRun zCode kPassForge_digest 26 [.ref x0, .long x1, .retAddr 0, .retAddr 0] [] h
  := (zRun_eb [8, 26, 41, 61, 76, 92] 400 8 _ _ _).trans rfl
set_option maxRecDepth 100000 in
set_option maxHeartbeats 4000000 in
theorem zb_PassForge_digest_26 (x0 : Nat) (x1 : Int64) (h : zH) : zRun zCode kPassForge_digest 26 [.ref x0, .long x1, .retAddr 0, .retAddr 0] [] h =
    (zVA (zAt h x0 0 2)).bind fun a1 =>
    if (h.2.2 a1).1 = 2 then
      (zCall zCode kTape_size [.ref a1] h).bind (zRI fun r3 h2 =>
        (zCall zCode kPassForge_mix [.long x1, .long r3.toInt64] h2).bind (zRL fun r5 h4 =>
          (zVI (zAt h4 x0 0 8)).bind fun v6 =>
          (zCall zCode kPassForge_mix [.long r5, .long v6.toInt64] h4).bind (zRL fun r8 h7 =>
            zRun zCode kPassForge_digest 41 [.ref x0, .long r8, .retAddr 0, .int (zi 0)] [] h7)))
    else
      none
  := (zRun_eb [8, 26, 41, 61, 76, 92] 400 26 _ _ _).trans rfl
set_option maxRecDepth 100000 in
set_option maxHeartbeats 4000000 in
theorem zb_PassForge_digest_41 (x0 : Nat) (x1 : Int64) (x3 : Int32) (h : zH) : zRun zCode kPassForge_digest 41 [.ref x0, .long x1, .retAddr 0, .int x3] [] h =
    (zVI (zAt h x0 0 8)).bind fun v1 =>
    if x3 < v1 then
      (zVA (zAt h x0 0 7)).bind fun a2 =>
      if 100 ≤ (h.2.2 a2).1 then
        if x3 < ((h.2.2 a2).2.length.toInt32) then
          (zVA (zAt h x0 0 7)).bind fun a3 =>
          (zIx h a3 101 x3).bind fun j4 =>
          (zVL (zAt h a3 101 j4)).bind fun v5 =>
          (zCall zCode kPassForge_mix [.long x1, .long v5] h).bind (zRL fun r7 h6 =>
            zRun zCode kPassForge_digest 41 [.ref x0, .long r7, .retAddr 0, .int (x3 + zi 1)] [] h6)
        else
          zRun zCode kPassForge_digest 61 [.ref x0, .long x1, .retAddr 0, .int (zi 0)] [] h
      else
        none
    else
      zRun zCode kPassForge_digest 61 [.ref x0, .long x1, .retAddr 0, .int (zi 0)] [] h
  := (zRun_eb [8, 26, 41, 61, 76, 92] 400 41 _ _ _).trans rfl
set_option maxRecDepth 100000 in
set_option maxHeartbeats 4000000 in
theorem zb_PassForge_digest_61 (x0 : Nat) (x1 : Int64) (x3 : Int32) (h : zH) : zRun zCode kPassForge_digest 61 [.ref x0, .long x1, .retAddr 0, .int x3] [] h =
    if (zi 2) < x3 then
      zRun zCode kPassForge_digest 76 [.ref x0, .long x1, .retAddr 0, .int (zi 0)] [] h
    else
      (zVA (zAt h x0 0 9)).bind fun a1 =>
      if (h.2.2 a1).1 = 9 then
        (zCall zCode kMachine_report [.ref a1, .int x3] h).bind (zRI fun r3 h2 =>
          (zCall zCode kPassForge_mix [.long x1, .long r3.toInt64] h2).bind (zRL fun r5 h4 =>
            zRun zCode kPassForge_digest 61 [.ref x0, .long r5, .retAddr 0, .int (x3 + zi 1)] [] h4))
      else
        none
  := (zRun_eb [8, 26, 41, 61, 76, 92] 400 61 _ _ _).trans rfl
set_option maxRecDepth 100000 in
set_option maxHeartbeats 4000000 in
theorem zb_PassForge_digest_76 (x0 : Nat) (x1 : Int64) (x3 : Int32) (h : zH) : zRun zCode kPassForge_digest 76 [.ref x0, .long x1, .retAddr 0, .int x3] [] h =
    (zVA (zAt h x0 0 9)).bind fun a1 =>
    if (h.2.2 a1).1 = 9 then
      (zCall zCode kMachine_kept [.ref a1] h).bind (zRI fun r3 h2 =>
        if x3 < r3 then
          (zVA (zAt h2 x0 0 9)).bind fun a4 =>
          if (h2.2.2 a4).1 = 9 then
            (zCall zCode kMachine_keptAt [.ref a4, .int x3] h2).bind (zRL fun r6 h5 =>
              (zCall zCode kPassForge_mix [.long x1, .long r6] h5).bind (zRL fun r8 h7 =>
                zRun zCode kPassForge_digest 76 [.ref x0, .long r8, .retAddr 0, .int (x3 + zi 1)] [] h7))
          else
            none
        else
          zRun zCode kPassForge_digest 92 [.ref x0, .long x1, .retAddr 0, .int (zi 0)] [] h2)
    else
      none
  := (zRun_eb [8, 26, 41, 61, 76, 92] 400 76 _ _ _).trans rfl
set_option maxRecDepth 100000 in
set_option maxHeartbeats 4000000 in
theorem zb_PassForge_digest_92 (x0 : Nat) (x1 : Int64) (x3 : Int32) (h : zH) : zRun zCode kPassForge_digest 92 [.ref x0, .long x1, .retAddr 0, .int x3] [] h =
    if x3 < (zi 12) then
      (zVA (zAt h x0 0 9)).bind fun a1 =>
      if (h.2.2 a1).1 = 9 then
        (zCall zCode kMachine_valueOf [.ref a1, .int x3] h).bind (zRL fun r3 h2 =>
          (zCall zCode kPassForge_mix [.long x1, .long r3] h2).bind (zRL fun r5 h4 =>
            zRun zCode kPassForge_digest 92 [.ref x0, .long r5, .retAddr 0, .int (x3 + zi 1)] [] h4))
      else
        none
    else
      some (.inl (some (.long x1), h))
  := (zRun_eb [8, 26, 41, 61, 76, 92] 400 92 _ _ _).trans rfl
set_option maxRecDepth 100000 in
set_option maxHeartbeats 4000000 in
theorem zb_PassForge_mix_0 (x0 : Int64) (x2 : Int64) (h : zH) : zRun zCode kPassForge_mix 0 [.long x0, .retAddr 0, .long x2, .retAddr 0] [] h =
    some (.inl (some (.long ((x0 * (zl 31)) + x2)), h))
  := (zRun_eb [] 400 0 _ _ _).trans rfl
set_option maxRecDepth 100000 in
set_option maxHeartbeats 4000000 in
theorem zb_PassForge_mixProgram_0 (x0 : Int64) (x2 : Nat) (h : zH) : zRun zCode kPassForge_mixProgram 0 [.long x0, .retAddr 0, .ref x2, .retAddr 0, .retAddr 0, .retAddr 0, .retAddr 0] [] h =
    zRun zCode kPassForge_mixProgram 4 [.retAddr 0, .retAddr 0, .ref x2, .long x0, .retAddr 0, .int (zi 0), .retAddr 0] [] h
  := (zRun_eb [4, 18, 24] 400 0 _ _ _).trans rfl
set_option maxRecDepth 100000 in
set_option maxHeartbeats 4000000 in
theorem zb_PassForge_mixProgram_4 (x2 : Nat) (x3 : Int64) (x5 : Int32) (h : zH) : zRun zCode kPassForge_mixProgram 4 [.retAddr 0, .retAddr 0, .ref x2, .long x3, .retAddr 0, .int x5, .retAddr 0] [] h =
    if (zi 5) < x5 then
      zRun zCode kPassForge_mixProgram 18 [.retAddr 0, .retAddr 0, .ref x2, .long x3, .retAddr 0, .int (zi 0), .retAddr 0] [] h
    else
      if (h.2.2 x2).1 = 1 then
        (zCall zCode kProgram_tally [.ref x2, .int x5] h).bind (zRI fun r2 h1 =>
          (zCall zCode kPassForge_mix [.long x3, .long r2.toInt64] h1).bind (zRL fun r4 h3 =>
            zRun zCode kPassForge_mixProgram 4 [.retAddr 0, .retAddr 0, .ref x2, .long r4, .retAddr 0, .int (x5 + zi 1), .retAddr 0] [] h3))
      else
        none
  := (zRun_eb [4, 18, 24] 400 4 _ _ _).trans rfl
set_option maxRecDepth 100000 in
set_option maxHeartbeats 4000000 in
theorem zb_PassForge_mixProgram_18 (x2 : Nat) (x3 : Int64) (x5 : Int32) (h : zH) : zRun zCode kPassForge_mixProgram 18 [.retAddr 0, .retAddr 0, .ref x2, .long x3, .retAddr 0, .int x5, .retAddr 0] [] h =
    if (h.2.2 x2).1 = 1 then
      (zCall zCode kProgram_size [.ref x2] h).bind (zRI fun r2 h1 =>
        if x5 < r2 then
          zRun zCode kPassForge_mixProgram 24 [.retAddr 0, .retAddr 0, .ref x2, .long x3, .retAddr 0, .int x5, .int (zi 0)] [] h1
        else
          some (.inl (some (.long x3), h1)))
    else
      none
  := (zRun_eb [4, 18, 24] 400 18 _ _ _).trans rfl
set_option maxRecDepth 100000 in
set_option maxHeartbeats 4000000 in
theorem zb_PassForge_mixProgram_24 (x2 : Nat) (x3 : Int64) (x5 : Int32) (x6 : Int32) (h : zH) : zRun zCode kPassForge_mixProgram 24 [.retAddr 0, .retAddr 0, .ref x2, .long x3, .retAddr 0, .int x5, .int x6] [] h =
    if (zi 4) < x6 then
      if (h.2.2 x2).1 = 1 then
        (zCall zCode kProgram_firstNumberAt [.ref x2, .int x5] h).bind (zRL fun r2 h1 =>
          (zCall zCode kPassForge_mix [.long x3, .long r2] h1).bind (zRL fun r4 h3 =>
            if (h3.2.2 x2).1 = 1 then
              (zCall zCode kProgram_secondNumberAt [.ref x2, .int x5] h3).bind (zRL fun r6 h5 =>
                (zCall zCode kPassForge_mix [.long r4, .long r6] h5).bind (zRL fun r8 h7 =>
                  if (h7.2.2 x2).1 = 1 then
                    (zCall zCode kProgram_liveAt [.ref x2, .int x5] h7).bind (zRI fun r10 h9 =>
                      (zCall zCode kPassForge_mix [.long r8, .long r10.toInt64] h9).bind (zRL fun r12 h11 =>
                        zRun zCode kPassForge_mixProgram 18 [.retAddr 0, .retAddr 0, .ref x2, .long r12, .retAddr 0, .int (x5 + zi 1), .retAddr 0] [] h11))
                  else
                    none))
            else
              none))
      else
        none
    else
      if (h.2.2 x2).1 = 1 then
        (zCall zCode kProgram_part [.ref x2, .int x5, .int x6] h).bind (zRI fun r14 h13 =>
          (zCall zCode kPassForge_mix [.long x3, .long r14.toInt64] h13).bind (zRL fun r16 h15 =>
            zRun zCode kPassForge_mixProgram 24 [.retAddr 0, .retAddr 0, .ref x2, .long r16, .retAddr 0, .int x5, .int (x6 + zi 1)] [] h15))
      else
        none
  := (zRun_eb [4, 18, 24] 400 24 _ _ _).trans rfl
set_option maxRecDepth 100000 in
set_option maxHeartbeats 4000000 in
theorem zb_Program_tally_0 (x0 : Nat) (x1 : Int32) (h : zH) : zRun zCode kProgram_tally 0 [.ref x0, .int x1] [] h =
    if x1 = zi 0 then
      (zVI (zAt h x0 1 12)).bind fun v6 =>
      some (.inl (some (.int v6), h))
    else
      if x1 = zi 1 then
        (zVI (zAt h x0 1 13)).bind fun v5 =>
        some (.inl (some (.int v5), h))
      else
        if x1 = zi 2 then
          (zVI (zAt h x0 1 14)).bind fun v4 =>
          some (.inl (some (.int v4), h))
        else
          if x1 = zi 3 then
            (zVI (zAt h x0 1 15)).bind fun v3 =>
            some (.inl (some (.int v3), h))
          else
            if x1 = zi 4 then
              (zVI (zAt h x0 1 16)).bind fun v2 =>
              some (.inl (some (.int v2), h))
            else
              (zVI (zAt h x0 1 17)).bind fun v1 =>
              some (.inl (some (.int v1), h))
  := (zRun_eb [] 400 0 _ _ _).trans rfl
set_option maxRecDepth 100000 in
set_option maxHeartbeats 4000000 in
theorem zb_Program_size_0 (x0 : Nat) (h : zH) : zRun zCode kProgram_size 0 [.ref x0] [] h =
    (zVI (zAt h x0 1 12)).bind fun v1 =>
    some (.inl (some (.int v1), h))
  := (zRun_eb [] 400 0 _ _ _).trans rfl
set_option maxRecDepth 100000 in
set_option maxHeartbeats 4000000 in
theorem zb_Program_part_0 (x0 : Nat) (x1 : Int32) (x2 : Int32) (h : zH) : zRun zCode kProgram_part 0 [.ref x0, .int x1, .int x2] [] h =
    if x2 = zi 0 then
      if (h.2.2 x0).1 = 1 then
        (zCall zCode kProgram_sortAt [.ref x0, .int x1] h).bind (zRI fun r10 h9 =>
          some (.inl (some (.int r10), h9)))
      else
        none
    else
      if x2 = zi 1 then
        if (h.2.2 x0).1 = 1 then
          (zCall zCode kProgram_targetAt [.ref x0, .int x1] h).bind (zRI fun r8 h7 =>
            some (.inl (some (.int r8), h7)))
        else
          none
      else
        if x2 = zi 2 then
          if (h.2.2 x0).1 = 1 then
            (zCall zCode kProgram_opAt [.ref x0, .int x1] h).bind (zRI fun r6 h5 =>
              some (.inl (some (.int r6), h5)))
          else
            none
        else
          if x2 = zi 3 then
            if (h.2.2 x0).1 = 1 then
              (zCall zCode kProgram_firstVariableAt [.ref x0, .int x1] h).bind (zRI fun r4 h3 =>
                some (.inl (some (.int r4), h3)))
            else
              none
          else
            if (h.2.2 x0).1 = 1 then
              (zCall zCode kProgram_secondVariableAt [.ref x0, .int x1] h).bind (zRI fun r2 h1 =>
                some (.inl (some (.int r2), h1)))
            else
              none
  := (zRun_eb [] 400 0 _ _ _).trans rfl
set_option maxRecDepth 100000 in
set_option maxHeartbeats 4000000 in
theorem zb_Program_sortAt_0 (x0 : Nat) (x1 : Int32) (h : zH) : zRun zCode kProgram_sortAt 0 [.ref x0, .int x1] [] h =
    if x1 < 0 then
      some (.inl (some (.int (zi (-1))), h))
    else
      (zVI (zAt h x0 1 12)).bind fun v1 =>
      if x1 < v1 then
        (zVA (zAt h x0 1 0)).bind fun a2 =>
        if 100 ≤ (h.2.2 a2).1 then
          if x1 < ((h.2.2 a2).2.length.toInt32) then
            (zVA (zAt h x0 1 0)).bind fun a3 =>
            (zIx h a3 100 x1).bind fun j4 =>
            (zVI (zAt h a3 100 j4)).bind fun v5 =>
            some (.inl (some (.int v5), h))
          else
            some (.inl (some (.int (zi (-1))), h))
        else
          none
      else
        some (.inl (some (.int (zi (-1))), h))
  := (zRun_eb [] 400 0 _ _ _).trans rfl
set_option maxRecDepth 100000 in
set_option maxHeartbeats 4000000 in
theorem zb_Program_targetAt_0 (x0 : Nat) (x1 : Int32) (h : zH) : zRun zCode kProgram_targetAt 0 [.ref x0, .int x1] [] h =
    if x1 < 0 then
      some (.inl (some (.int (zi (-1))), h))
    else
      (zVI (zAt h x0 1 12)).bind fun v1 =>
      if x1 < v1 then
        (zVA (zAt h x0 1 1)).bind fun a2 =>
        if 100 ≤ (h.2.2 a2).1 then
          if x1 < ((h.2.2 a2).2.length.toInt32) then
            (zVA (zAt h x0 1 1)).bind fun a3 =>
            (zIx h a3 100 x1).bind fun j4 =>
            (zVI (zAt h a3 100 j4)).bind fun v5 =>
            some (.inl (some (.int v5), h))
          else
            some (.inl (some (.int (zi (-1))), h))
        else
          none
      else
        some (.inl (some (.int (zi (-1))), h))
  := (zRun_eb [] 400 0 _ _ _).trans rfl
set_option maxRecDepth 100000 in
set_option maxHeartbeats 4000000 in
theorem zb_Program_opAt_0 (x0 : Nat) (x1 : Int32) (h : zH) : zRun zCode kProgram_opAt 0 [.ref x0, .int x1] [] h =
    if x1 < 0 then
      some (.inl (some (.int (zi (-1))), h))
    else
      (zVI (zAt h x0 1 12)).bind fun v1 =>
      if x1 < v1 then
        (zVA (zAt h x0 1 2)).bind fun a2 =>
        if 100 ≤ (h.2.2 a2).1 then
          if x1 < ((h.2.2 a2).2.length.toInt32) then
            (zVA (zAt h x0 1 2)).bind fun a3 =>
            (zIx h a3 100 x1).bind fun j4 =>
            (zVI (zAt h a3 100 j4)).bind fun v5 =>
            some (.inl (some (.int v5), h))
          else
            some (.inl (some (.int (zi (-1))), h))
        else
          none
      else
        some (.inl (some (.int (zi (-1))), h))
  := (zRun_eb [] 400 0 _ _ _).trans rfl
set_option maxRecDepth 100000 in
set_option maxHeartbeats 4000000 in
theorem zb_Program_firstVariableAt_0 (x0 : Nat) (x1 : Int32) (h : zH) : zRun zCode kProgram_firstVariableAt 0 [.ref x0, .int x1] [] h =
    if x1 < 0 then
      some (.inl (some (.int (zi (-1))), h))
    else
      (zVI (zAt h x0 1 12)).bind fun v1 =>
      if x1 < v1 then
        (zVA (zAt h x0 1 3)).bind fun a2 =>
        if 100 ≤ (h.2.2 a2).1 then
          if x1 < ((h.2.2 a2).2.length.toInt32) then
            (zVA (zAt h x0 1 3)).bind fun a3 =>
            (zIx h a3 100 x1).bind fun j4 =>
            (zVI (zAt h a3 100 j4)).bind fun v5 =>
            some (.inl (some (.int v5), h))
          else
            some (.inl (some (.int (zi (-1))), h))
        else
          none
      else
        some (.inl (some (.int (zi (-1))), h))
  := (zRun_eb [] 400 0 _ _ _).trans rfl
set_option maxRecDepth 100000 in
set_option maxHeartbeats 4000000 in
theorem zb_Program_secondVariableAt_0 (x0 : Nat) (x1 : Int32) (h : zH) : zRun zCode kProgram_secondVariableAt 0 [.ref x0, .int x1] [] h =
    if x1 < 0 then
      some (.inl (some (.int (zi (-1))), h))
    else
      (zVI (zAt h x0 1 12)).bind fun v1 =>
      if x1 < v1 then
        (zVA (zAt h x0 1 4)).bind fun a2 =>
        if 100 ≤ (h.2.2 a2).1 then
          if x1 < ((h.2.2 a2).2.length.toInt32) then
            (zVA (zAt h x0 1 4)).bind fun a3 =>
            (zIx h a3 100 x1).bind fun j4 =>
            (zVI (zAt h a3 100 j4)).bind fun v5 =>
            some (.inl (some (.int v5), h))
          else
            some (.inl (some (.int (zi (-1))), h))
        else
          none
      else
        some (.inl (some (.int (zi (-1))), h))
  := (zRun_eb [] 400 0 _ _ _).trans rfl
set_option maxRecDepth 100000 in
set_option maxHeartbeats 4000000 in
theorem zb_Program_firstNumberAt_0 (x0 : Nat) (x1 : Int32) (h : zH) : zRun zCode kProgram_firstNumberAt 0 [.ref x0, .int x1] [] h =
    if x1 < 0 then
      some (.inl (some (.long (zl 0)), h))
    else
      (zVI (zAt h x0 1 12)).bind fun v1 =>
      if x1 < v1 then
        (zVA (zAt h x0 1 5)).bind fun a2 =>
        if 100 ≤ (h.2.2 a2).1 then
          if x1 < ((h.2.2 a2).2.length.toInt32) then
            (zVA (zAt h x0 1 5)).bind fun a3 =>
            (zIx h a3 101 x1).bind fun j4 =>
            (zVL (zAt h a3 101 j4)).bind fun v5 =>
            some (.inl (some (.long v5), h))
          else
            some (.inl (some (.long (zl 0)), h))
        else
          none
      else
        some (.inl (some (.long (zl 0)), h))
  := (zRun_eb [] 400 0 _ _ _).trans rfl
set_option maxRecDepth 100000 in
set_option maxHeartbeats 4000000 in
theorem zb_Program_secondNumberAt_0 (x0 : Nat) (x1 : Int32) (h : zH) : zRun zCode kProgram_secondNumberAt 0 [.ref x0, .int x1] [] h =
    if x1 < 0 then
      some (.inl (some (.long (zl 0)), h))
    else
      (zVI (zAt h x0 1 12)).bind fun v1 =>
      if x1 < v1 then
        (zVA (zAt h x0 1 6)).bind fun a2 =>
        if 100 ≤ (h.2.2 a2).1 then
          if x1 < ((h.2.2 a2).2.length.toInt32) then
            (zVA (zAt h x0 1 6)).bind fun a3 =>
            (zIx h a3 101 x1).bind fun j4 =>
            (zVL (zAt h a3 101 j4)).bind fun v5 =>
            some (.inl (some (.long v5), h))
          else
            some (.inl (some (.long (zl 0)), h))
        else
          none
      else
        some (.inl (some (.long (zl 0)), h))
  := (zRun_eb [] 400 0 _ _ _).trans rfl
set_option maxRecDepth 100000 in
set_option maxHeartbeats 4000000 in
theorem zb_Program_liveAt_0 (x0 : Nat) (x1 : Int32) (h : zH) : zRun zCode kProgram_liveAt 0 [.ref x0, .int x1] [] h =
    if x1 < 0 then
      some (.inl (some (.int (zi 0)), h))
    else
      (zVI (zAt h x0 1 12)).bind fun v1 =>
      if x1 < v1 then
        (zVA (zAt h x0 1 8)).bind fun a2 =>
        if 100 ≤ (h.2.2 a2).1 then
          if x1 < ((h.2.2 a2).2.length.toInt32) then
            (zVA (zAt h x0 1 8)).bind fun a3 =>
            (zIx h a3 100 x1).bind fun j4 =>
            (zVI (zAt h a3 100 j4)).bind fun v5 =>
            some (.inl (some (.int v5), h))
          else
            some (.inl (some (.int (zi 0)), h))
        else
          none
      else
        some (.inl (some (.int (zi 0)), h))
  := (zRun_eb [] 400 0 _ _ _).trans rfl
set_option maxRecDepth 100000 in
set_option maxHeartbeats 4000000 in
theorem zb_Tape_size_0 (x0 : Nat) (h : zH) : zRun zCode kTape_size 0 [.ref x0] [] h =
    (zVI (zAt h x0 2 1)).bind fun v1 =>
    some (.inl (some (.int v1), h))
  := (zRun_eb [] 400 0 _ _ _).trans rfl
set_option maxRecDepth 100000 in
set_option maxHeartbeats 4000000 in
theorem zb_Machine_report_0 (x0 : Nat) (x1 : Int32) (h : zH) : zRun zCode kMachine_report 0 [.ref x0, .int x1] [] h =
    if x1 = zi 0 then
      (zVI (zAt h x0 9 5)).bind fun v3 =>
      if v3 = 0 then
        some (.inl (some (.int (zi 0)), h))
      else
        some (.inl (some (.int (zi 1)), h))
    else
      if x1 = zi 1 then
        (zVI (zAt h x0 9 2)).bind fun v2 =>
        some (.inl (some (.int v2), h))
      else
        (zVI (zAt h x0 9 3)).bind fun v1 =>
        some (.inl (some (.int v1), h))
  := (zRun_eb [] 400 0 _ _ _).trans rfl
set_option maxRecDepth 100000 in
set_option maxHeartbeats 4000000 in
theorem zb_Machine_kept_0 (x0 : Nat) (h : zH) : zRun zCode kMachine_kept 0 [.ref x0] [] h =
    (zVI (zAt h x0 9 2)).bind fun v1 =>
    (zCall zCode kMath_min [.int v1, .int (zi 60)] h).bind (zRI fun r3 h2 =>
      some (.inl (some (.int r3), h2)))
  := (zRun_eb [] 400 0 _ _ _).trans rfl
set_option maxRecDepth 100000 in
set_option maxHeartbeats 4000000 in
theorem zb_Math_min_0 (x0 : Int32) (x1 : Int32) (h : zH) : zRun zCode kMath_min 0 [.int x0, .int x1] [] h =
    if x1 < x0 then
      some (.inl (some (.int x1), h))
    else
      some (.inl (some (.int x0), h))
  := (zRun_eb [] 400 0 _ _ _).trans rfl
set_option maxRecDepth 100000 in
set_option maxHeartbeats 4000000 in
theorem zb_Machine_keptAt_0 (x0 : Nat) (x1 : Int32) (h : zH) : zRun zCode kMachine_keptAt 0 [.ref x0, .int x1] [] h =
    if x1 < 0 then
      some (.inl (some (.long (zl 0)), h))
    else
      (zVA (zAt h x0 9 1)).bind fun a1 =>
      if 100 ≤ (h.2.2 a1).1 then
        if x1 < ((h.2.2 a1).2.length.toInt32) then
          (zVA (zAt h x0 9 1)).bind fun a2 =>
          (zIx h a2 101 x1).bind fun j3 =>
          (zVL (zAt h a2 101 j3)).bind fun v4 =>
          some (.inl (some (.long v4), h))
        else
          some (.inl (some (.long (zl 0)), h))
      else
        none
  := (zRun_eb [] 400 0 _ _ _).trans rfl
set_option maxRecDepth 100000 in
set_option maxHeartbeats 4000000 in
theorem zb_Machine_valueOf_0 (x0 : Nat) (x1 : Int32) (h : zH) : zRun zCode kMachine_valueOf 0 [.ref x0, .int x1] [] h =
    if x1 < 0 then
      some (.inl (some (.long (zl 0)), h))
    else
      (zVA (zAt h x0 9 0)).bind fun a1 =>
      if 100 ≤ (h.2.2 a1).1 then
        if x1 < ((h.2.2 a1).2.length.toInt32) then
          (zVA (zAt h x0 9 0)).bind fun a2 =>
          (zIx h a2 101 x1).bind fun j3 =>
          (zVL (zAt h a2 101 j3)).bind fun v4 =>
          some (.inl (some (.long v4), h))
        else
          some (.inl (some (.long (zl 0)), h))
      else
        none
  := (zRun_eb [] 400 0 _ _ _).trans rfl
set_option maxRecDepth 100000 in
set_option maxHeartbeats 4000000 in
theorem zb_Law_feed_0 (x0 : Nat) (x1 : Int32) (x2 : Int32) (x3 : Int32) (x4 : Int32) (x5 : Int32) (x6 : Nat) (h : zH) : zRun zCode kLaw_feed 0 [.ref x0, .int x1, .int x2, .int x3, .int x4, .int x5, .ref x6, .retAddr 0] [] h =
    if (h.2.2 x0).1 = 0 then
      (zCall zCode kPassForge_feed [.ref x0, .int x1, .int x2, .int x3, .int x4, .int x5] h).bind (zXm (fun kd q hq =>
          if kd = 13 then
            some (.inl (some (.int (zi 1)), hq))
          else
            none) (zRI fun r2 h1 =>
        (zIx h1 x6 101 (zi 0)).bind fun j3 =>
        (zPut h1 x6 101 j3 (.long r2.toInt64)).bind fun h4 =>
        some (.inl (some (.int (zi 0)), h4))))
    else
      none
  := (zRun_eb [] 400 0 _ _ _).trans rfl
set_option maxRecDepth 100000 in
set_option maxHeartbeats 4000000 in
theorem zb_PassForge_feed_0 (x0 : Nat) (x1 : Int32) (x2 : Int32) (x3 : Int32) (x4 : Int32) (x5 : Int32) (h : zH) : zRun zCode kPassForge_feed 0 [.ref x0, .int x1, .int x2, .int x3, .int x4, .int x5] [] h =
    (zVA (zAt h x0 0 2)).bind fun a1 =>
    if (h.2.2 a1).1 = 2 then
      (zCall zCode kTape_room [.ref a1] h).bind (zRI fun r3 h2 =>
        if r3 < (zi 20) then
          some (.inr (13, h2.1, zPush h2 6 (13, [])))
        else
          (zVA (zAt h2 x0 0 2)).bind fun a4 =>
          if (h2.2.2 a4).1 = 2 then
            (zCall zCode kTape_addFour [.ref a4, .int x1] h2).bind (zRV fun h5 =>
              (zVA (zAt h5 x0 0 2)).bind fun a6 =>
              if (h5.2.2 a6).1 = 2 then
                (zCall zCode kTape_addFour [.ref a6, .int x2] h5).bind (zRV fun h7 =>
                  (zVA (zAt h7 x0 0 2)).bind fun a8 =>
                  if (h7.2.2 a8).1 = 2 then
                    (zCall zCode kTape_addFour [.ref a8, .int x3] h7).bind (zRV fun h9 =>
                      (zVA (zAt h9 x0 0 2)).bind fun a10 =>
                      if (h9.2.2 a10).1 = 2 then
                        (zCall zCode kTape_addFour [.ref a10, .int x4] h9).bind (zRV fun h11 =>
                          (zVA (zAt h11 x0 0 2)).bind fun a12 =>
                          if (h11.2.2 a12).1 = 2 then
                            (zCall zCode kTape_addFour [.ref a12, .int x5] h11).bind (zRV fun h13 =>
                              (zVA (zAt h13 x0 0 2)).bind fun a14 =>
                              if (h13.2.2 a14).1 = 2 then
                                (zCall zCode kTape_size [.ref a14] h13).bind (zRI fun r16 h15 =>
                                  some (.inl (some (.int r16), h15)))
                              else
                                none)
                          else
                            none)
                      else
                        none)
                  else
                    none)
              else
                none)
          else
            none)
    else
      none
  := (zRun_eb [] 400 0 _ _ _).trans rfl
set_option maxRecDepth 100000 in
set_option maxHeartbeats 4000000 in
theorem zb_Tape_room_0 (x0 : Nat) (h : zH) : zRun zCode kTape_room 0 [.ref x0] [] h =
    (zVI (zAt h x0 2 1)).bind fun v1 =>
    some (.inl (some (.int ((zi 1600) - v1)), h))
  := (zRun_eb [] 400 0 _ _ _).trans rfl
set_option maxRecDepth 100000 in
set_option maxHeartbeats 4000000 in
theorem zb_Tape_addFour_0 (x0 : Nat) (x1 : Int32) (h : zH) : zRun zCode kTape_addFour 0 [.ref x0, .int x1, .retAddr 0] [] h =
    zRun zCode kTape_addFour 2 [.ref x0, .int x1, .int (zi 24)] [] h
  := (zRun_eb [2] 400 0 _ _ _).trans rfl
set_option maxRecDepth 100000 in
set_option maxHeartbeats 4000000 in
theorem zb_Tape_addFour_2 (x0 : Nat) (x1 : Int32) (x2 : Int32) (h : zH) : zRun zCode kTape_addFour 2 [.ref x0, .int x1, .int x2] [] h =
    if x2 < 0 then
      some (.inl (none, h))
    else
      (zVI (zAt h x0 2 1)).bind fun v1 =>
      if v1 < 0 then
        zRun zCode kTape_addFour 2 [.ref x0, .int x1, .int (x2 + zi (-8))] [] h
      else
        (zVI (zAt h x0 2 1)).bind fun v2 =>
        (zVA (zAt h x0 2 0)).bind fun a3 =>
        if 100 ≤ (h.2.2 a3).1 then
          if v2 < ((h.2.2 a3).2.length.toInt32) then
            (zVA (zAt h x0 2 0)).bind fun a4 =>
            (zVI (zAt h x0 2 1)).bind fun v5 =>
            (zIx h a4 100 v5).bind fun j6 =>
            (zPut h a4 100 j6 (.int (((x1.toUInt32 >>> (x2.toUInt32 &&& Int32.toUInt32 31)).toInt32) &&& (zi 255)))).bind fun h7 =>
            (zVI (zAt h7 x0 2 1)).bind fun v8 =>
            (zPut h7 x0 2 1 (.int (v8 + (zi 1)))).bind fun h9 =>
            zRun zCode kTape_addFour 2 [.ref x0, .int x1, .int (x2 + zi (-8))] [] h9
          else
            zRun zCode kTape_addFour 2 [.ref x0, .int x1, .int (x2 + zi (-8))] [] h
        else
          none
  := (zRun_eb [2] 400 2 _ _ _).trans rfl
set_option maxRecDepth 100000 in
set_option maxHeartbeats 4000000 in
theorem zb_Law_trim_0 (x0 : Nat) (x1 : Int32) (x2 : Nat) (h : zH) : zRun zCode kLaw_trim 0 [.ref x0, .int x1, .ref x2, .retAddr 0] [] h =
    if (h.2.2 x0).1 = 0 then
      (zCall zCode kPassForge_trim [.ref x0, .int x1] h).bind (zXm (fun kd q hq =>
          if kd = 14 then
            some (.inl (some (.int (zi 1)), hq))
          else
            none) (zRI fun r2 h1 =>
        (zIx h1 x2 101 (zi 0)).bind fun j3 =>
        (zPut h1 x2 101 j3 (.long r2.toInt64)).bind fun h4 =>
        some (.inl (some (.int (zi 0)), h4))))
    else
      none
  := (zRun_eb [] 400 0 _ _ _).trans rfl
set_option maxRecDepth 100000 in
set_option maxHeartbeats 4000000 in
theorem zb_PassForge_trim_0 (x0 : Nat) (x1 : Int32) (h : zH) : zRun zCode kPassForge_trim 0 [.ref x0, .int x1] [] h =
    if x1 < 0 then
      some (.inr (14, h.1, zPush h 6 (14, [])))
    else
      (zVA (zAt h x0 0 2)).bind fun a1 =>
      if (h.2.2 a1).1 = 2 then
        (zCall zCode kTape_size [.ref a1] h).bind (zRI fun r3 h2 =>
          if r3 < x1 then
            some (.inr (14, h2.1, zPush h2 6 (14, [])))
          else
            (zVA (zAt h2 x0 0 2)).bind fun a4 =>
            if (h2.2.2 a4).1 = 2 then
              (zCall zCode kTape_shorten [.ref a4, .int x1] h2).bind (zRV fun h5 =>
                some (.inl (some (.int x1), h5)))
            else
              none)
      else
        none
  := (zRun_eb [] 400 0 _ _ _).trans rfl
set_option maxRecDepth 100000 in
set_option maxHeartbeats 4000000 in
theorem zb_Tape_shorten_0 (x0 : Nat) (x1 : Int32) (h : zH) : zRun zCode kTape_shorten 0 [.ref x0, .int x1] [] h =
    if x1 < 0 then
      some (.inl (none, h))
    else
      (zVI (zAt h x0 2 1)).bind fun v1 =>
      if x1 < v1 then
        (zPut h x0 2 1 (.int x1)).bind fun h2 =>
        some (.inl (none, h2))
      else
        some (.inl (none, h))
  := (zRun_eb [] 400 0 _ _ _).trans rfl
set_option maxRecDepth 100000 in
set_option maxHeartbeats 4000000 in
theorem zb_Law_compile_0 (x0 : Nat) (x1 : Nat) (h : zH) : zRun zCode kLaw_compile 0 [.ref x0, .ref x1, .retAddr 0] [] h =
    if (h.2.2 x0).1 = 0 then
      (zCall zCode kPassForge_compile [.ref x0] h).bind (zXm (fun kd q hq =>
          if kd = 13 then
            some (.inl (some (.int (zi 1)), hq))
          else
            none) (zRI fun r2 h1 =>
        (zIx h1 x1 101 (zi 0)).bind fun j3 =>
        (zPut h1 x1 101 j3 (.long r2.toInt64)).bind fun h4 =>
        some (.inl (some (.int (zi 0)), h4))))
    else
      none
  := (zRun_eb [] 400 0 _ _ _).trans rfl
set_option maxRecDepth 100000 in
set_option maxHeartbeats 4000000 in
theorem zb_PassForge_compile_0 (x0 : Nat) (h : zH) : zRun zCode kPassForge_compile 0 [.ref x0, .retAddr 0, .retAddr 0] [] h =
    if (h.2.2 x0).1 = 0 then
      (zCall zCode kPassForge_freshProgram [.ref x0] h).bind (zRA fun a2 h1 =>
        (zVA (zAt h1 x0 0 3)).bind fun a3 =>
        (zVA (zAt h1 x0 0 2)).bind fun a4 =>
        if (h1.2.2 a3).1 = 3 then
          (zCall zCode kReader_read [.ref a3, .ref a4, .ref a2] h1).bind (zRI fun r6 h5 =>
            (zVA (zAt h5 x0 0 2)).bind fun a7 =>
            if (h5.2.2 a7).1 = 2 then
              (zCall zCode kTape_shorten [.ref a7, .int (zi 0)] h5).bind (zRV fun h8 =>
                if r6 = 0 then
                  if (h8.2.2 x0).1 = 0 then
                    (zCall zCode kPassForge_accept [.ref x0, .ref a2] h8).bind (zRV fun h9 =>
                      some (.inl (some (.int r6), h9)))
                  else
                    none
                else
                  some (.inl (some (.int r6), h8)))
            else
              none)
        else
          none)
    else
      none
  := (zRun_eb [] 400 0 _ _ _).trans rfl
set_option maxRecDepth 100000 in
set_option maxHeartbeats 4000000 in
theorem zb_PassForge_freshProgram_0 (x0 : Nat) (h : zH) : zRun zCode kPassForge_freshProgram 0 [.ref x0] [] h =
    (zVI (zAt h x0 0 1)).bind fun v1 =>
    if v1 < 0 then
      some (.inr (13, h.1, zPush h 6 (13, [])))
    else
      (zVI (zAt h x0 0 1)).bind fun v2 =>
      (zVA (zAt h x0 0 0)).bind fun a3 =>
      if 100 ≤ (h.2.2 a3).1 then
        if v2 < ((h.2.2 a3).2.length.toInt32) then
          (zVA (zAt h x0 0 0)).bind fun a4 =>
          (zVI (zAt h x0 0 1)).bind fun v5 =>
          (zIx h a4 110 v5).bind fun j6 =>
          (zVA (zAt h a4 110 j6)).bind fun a7 =>
          some (.inl (some (.ref a7), h))
        else
          some (.inr (13, h.1, zPush h 6 (13, [])))
      else
        none
  := (zRun_eb [] 400 0 _ _ _).trans rfl
set_option maxRecDepth 100000 in
set_option maxHeartbeats 4000000 in
theorem zb_Reader_read_0 (x0 : Nat) (x1 : Nat) (x2 : Nat) (h : zH) : zRun zCode kReader_read 0 [.ref x0, .ref x1, .ref x2, .retAddr 0, .retAddr 0] [] h =
    (zPut h x0 3 3 (.int (zi 0))).bind fun h1 =>
    (zPut h1 x0 3 4 (.int (zi (-1)))).bind fun h2 =>
    (zVA (zAt h2 x0 3 1)).bind fun a3 =>
    if (h2.2.2 a3).1 = 5 then
      (zCall zCode kNames_clear [.ref a3] h2).bind (zRV fun h4 =>
        (zVA (zAt h4 x0 3 2)).bind fun a5 =>
        if (h4.2.2 a5).1 = 5 then
          (zCall zCode kNames_clear [.ref a5] h4).bind (zRV fun h6 =>
            if (h6.2.2 x2).1 = 1 then
              (zCall zCode kProgram_clear [.ref x2] h6).bind (zRV fun h7 =>
                (zVA (zAt h7 x0 3 0)).bind fun a8 =>
                if (h7.2.2 a8).1 = 4 then
                  (zCall zCode kTokens_cut [.ref a8, .ref x1] h7).bind (zRV fun h9 =>
                    if (h9.2.2 x0).1 = 3 then
                      (zCall zCode kReader_readLine [.ref x0, .ref x2] h9).bind (zRI fun r11 h10 =>
                        zRun zCode kReader_read 24 [.ref x0, .retAddr 0, .ref x2, .int r11, .int (zi 1)] [] h10)
                    else
                      none)
                else
                  none)
            else
              none)
        else
          none)
    else
      none
  := (zRun_eb [24, 39] 400 0 _ _ _).trans rfl
set_option maxRecDepth 100000 in
set_option maxHeartbeats 4000000 in
theorem zb_Reader_read_24 (x0 : Nat) (x2 : Nat) (x3 : Int32) (x4 : Int32) (h : zH) : zRun zCode kReader_read 24 [.ref x0, .retAddr 0, .ref x2, .int x3, .int x4] [] h =
    if x3 = 0 then
      zRun zCode kReader_read 39 [.ref x0, .retAddr 0, .ref x2, .int x3, .retAddr 0] [] h
    else
      if (zi 80) < x4 then
        zRun zCode kReader_read 39 [.ref x0, .retAddr 0, .ref x2, .int x3, .retAddr 0] [] h
      else
        (zVA (zAt h x0 3 0)).bind fun a1 =>
        if (h.2.2 a1).1 = 4 then
          (zCall zCode kTokens_kind [.ref a1] h).bind (zRI fun r3 h2 =>
            if r3 = 0 then
              zRun zCode kReader_read 39 [.ref x0, .retAddr 0, .ref x2, .int x3, .retAddr 0] [] h2
            else
              if (h2.2.2 x0).1 = 3 then
                (zCall zCode kReader_readLine [.ref x0, .ref x2] h2).bind (zRI fun r5 h4 =>
                  zRun zCode kReader_read 24 [.ref x0, .retAddr 0, .ref x2, .int r5, .int (x4 + zi 1)] [] h4)
              else
                none)
        else
          none
  := (zRun_eb [24, 39] 400 24 _ _ _).trans rfl
set_option maxRecDepth 100000 in
set_option maxHeartbeats 4000000 in
theorem zb_Reader_read_39 (x0 : Nat) (x2 : Nat) (x3 : Int32) (h : zH) : zRun zCode kReader_read 39 [.ref x0, .retAddr 0, .ref x2, .int x3, .retAddr 0] [] h =
    if x3 = 0 then
      (zVA (zAt h x0 3 1)).bind fun a1 =>
      if (h.2.2 a1).1 = 5 then
        (zCall zCode kNames_size [.ref a1] h).bind (zRI fun r3 h2 =>
          (zVA (zAt h2 x0 3 2)).bind fun a4 =>
          if (h2.2.2 a4).1 = 5 then
            (zCall zCode kNames_size [.ref a4] h2).bind (zRI fun r6 h5 =>
              if (h5.2.2 x2).1 = 1 then
                (zCall zCode kProgram_setNames [.ref x2, .int r3, .int r6] h5).bind (zRV fun h7 =>
                  (zVI (zAt h7 x0 3 3)).bind fun v8 =>
                  some (.inl (some (.int v8), h7)))
              else
                none)
          else
            none)
      else
        none
    else
      (zVA (zAt h x0 3 2)).bind fun a9 =>
      if (h.2.2 a9).1 = 5 then
        (zCall zCode kNames_firstUnset [.ref a9] h).bind (zRI fun r11 h10 =>
          if r11 < 0 then
            (zVA (zAt h10 x0 3 1)).bind fun a12 =>
            if (h10.2.2 a12).1 = 5 then
              (zCall zCode kNames_size [.ref a12] h10).bind (zRI fun r14 h13 =>
                (zVA (zAt h13 x0 3 2)).bind fun a15 =>
                if (h13.2.2 a15).1 = 5 then
                  (zCall zCode kNames_size [.ref a15] h13).bind (zRI fun r17 h16 =>
                    if (h16.2.2 x2).1 = 1 then
                      (zCall zCode kProgram_setNames [.ref x2, .int r14, .int r17] h16).bind (zRV fun h18 =>
                        (zVI (zAt h18 x0 3 3)).bind fun v19 =>
                        some (.inl (some (.int v19), h18)))
                    else
                      none)
                else
                  none)
            else
              none
          else
            (zVA (zAt h10 x0 3 2)).bind fun a20 =>
            if (h10.2.2 a20).1 = 5 then
              (zCall zCode kNames_firstUnset [.ref a20] h10).bind (zRI fun r22 h21 =>
                if (h21.2.2 x0).1 = 3 then
                  (zCall zCode kReader_fail [.ref x0, .int (zi 3), .int r22] h21).bind (zRI fun r24 h23 =>
                    (zVA (zAt h23 x0 3 1)).bind fun a25 =>
                    if (h23.2.2 a25).1 = 5 then
                      (zCall zCode kNames_size [.ref a25] h23).bind (zRI fun r27 h26 =>
                        (zVA (zAt h26 x0 3 2)).bind fun a28 =>
                        if (h26.2.2 a28).1 = 5 then
                          (zCall zCode kNames_size [.ref a28] h26).bind (zRI fun r30 h29 =>
                            if (h29.2.2 x2).1 = 1 then
                              (zCall zCode kProgram_setNames [.ref x2, .int r27, .int r30] h29).bind (zRV fun h31 =>
                                (zVI (zAt h31 x0 3 3)).bind fun v32 =>
                                some (.inl (some (.int v32), h31)))
                            else
                              none)
                        else
                          none)
                    else
                      none)
                else
                  none)
            else
              none)
      else
        none
  := (zRun_eb [24, 39] 400 39 _ _ _).trans rfl
set_option maxRecDepth 100000 in
set_option maxHeartbeats 4000000 in
theorem zb_Names_clear_0 (x0 : Nat) (h : zH) : zRun zCode kNames_clear 0 [.ref x0] [] h =
    (zPut h x0 5 3 (.int (zi 0))).bind fun h1 =>
    some (.inl (none, h1))
  := (zRun_eb [] 400 0 _ _ _).trans rfl
set_option maxRecDepth 100000 in
set_option maxHeartbeats 4000000 in
theorem zb_Program_clear_0 (x0 : Nat) (h : zH) : zRun zCode kProgram_clear 0 [.ref x0] [] h =
    (zPut h x0 1 12 (.int (zi 0))).bind fun h1 =>
    some (.inl (none, h1))
  := (zRun_eb [] 400 0 _ _ _).trans rfl
set_option maxRecDepth 100000 in
set_option maxHeartbeats 4000000 in
theorem zb_Tokens_cut_0 (x0 : Nat) (x1 : Nat) (h : zH) : zRun zCode kTokens_cut 0 [.ref x0, .ref x1, .retAddr 0] [] h =
    (zPut h x0 4 3 (.int (zi 0))).bind fun h1 =>
    (zPut h1 x0 4 4 (.int (zi 0))).bind fun h2 =>
    zRun zCode kTokens_cut 8 [.ref x0, .ref x1, .int (zi 0)] [] h2
  := (zRun_eb [8] 400 0 _ _ _).trans rfl
set_option maxRecDepth 100000 in
set_option maxHeartbeats 4000000 in
theorem zb_Tokens_cut_8 (x0 : Nat) (x1 : Nat) (x2 : Int32) (h : zH) : zRun zCode kTokens_cut 8 [.ref x0, .ref x1, .int x2] [] h =
    if (h.2.2 x1).1 = 2 then
      (zCall zCode kTape_size [.ref x1] h).bind (zRI fun r2 h1 =>
        if x2 < r2 then
          if (h1.2.2 x0).1 = 4 then
            (zCall zCode kTokens_cutOne [.ref x0, .ref x1, .int x2] h1).bind (zRI fun r7 h6 =>
              (zCall zCode kMath_max [.int (zi 1), .int r7] h6).bind (zRI fun r9 h8 =>
                zRun zCode kTokens_cut 8 [.ref x0, .ref x1, .int (x2 + r9)] [] h8))
          else
            none
        else
          if (h1.2.2 x1).1 = 2 then
            (zCall zCode kTape_size [.ref x1] h1).bind (zRI fun r4 h3 =>
              if (h3.2.2 x0).1 = 4 then
                (zCall zCode kTokens_add [.ref x0, .int (zi 0), .int r4, .long (zl 0)] h3).bind (zRV fun h5 =>
                  some (.inl (none, h5)))
              else
                none)
          else
            none)
    else
      none
  := (zRun_eb [8] 400 8 _ _ _).trans rfl
set_option maxRecDepth 100000 in
set_option maxHeartbeats 4000000 in
theorem zb_Tokens_cutOne_0 (x0 : Nat) (x1 : Nat) (x2 : Int32) (h : zH) : zRun zCode kTokens_cutOne 0 [.ref x0, .ref x1, .int x2, .retAddr 0] [] h =
    if (h.2.2 x1).1 = 2 then
      (zCall zCode kTape_byteAt [.ref x1, .int x2] h).bind (zRI fun r2 h1 =>
        (zCall zCode kTokens_isLetter [.int r2] h1).bind (zRI fun r4 h3 =>
          if r4 = 0 then
            (zCall zCode kTokens_isDigit [.int r2] h3).bind (zRI fun r6 h5 =>
              if r6 = 0 then
                if r2 = (zi 32) then
                  some (.inl (some (.int (zi 1)), h5))
                else
                  if r2 = (zi 10) then
                    some (.inl (some (.int (zi 1)), h5))
                  else
                    (zCall zCode kTokens_isSymbol [.int r2] h5).bind (zRI fun r8 h7 =>
                      if r8 = 0 then
                        if (h7.2.2 x0).1 = 4 then
                          (zCall zCode kTokens_add [.ref x0, .int (zi 1), .int x2, .long (zl 0)] h7).bind (zRV fun h9 =>
                            some (.inl (some (.int (zi 1)), h9)))
                        else
                          none
                      else
                        if (h7.2.2 x0).1 = 4 then
                          (zCall zCode kTokens_add [.ref x0, .int r2, .int x2, .long (zl 0)] h7).bind (zRV fun h10 =>
                            some (.inl (some (.int (zi 1)), h10)))
                        else
                          none)
              else
                if (h5.2.2 x0).1 = 4 then
                  (zCall zCode kTokens_cutNumber [.ref x0, .ref x1, .int x2] h5).bind (zRI fun r12 h11 =>
                    some (.inl (some (.int r12), h11)))
                else
                  none)
          else
            if (h3.2.2 x0).1 = 4 then
              (zCall zCode kTokens_cutWord [.ref x0, .ref x1, .int x2] h3).bind (zRI fun r14 h13 =>
                some (.inl (some (.int r14), h13)))
            else
              none))
    else
      none
  := (zRun_eb [] 400 0 _ _ _).trans rfl
set_option maxRecDepth 100000 in
set_option maxHeartbeats 4000000 in
theorem zb_Tape_byteAt_0 (x0 : Nat) (x1 : Int32) (h : zH) : zRun zCode kTape_byteAt 0 [.ref x0, .int x1] [] h =
    if x1 < 0 then
      some (.inl (some (.int (zi (-1))), h))
    else
      (zVI (zAt h x0 2 1)).bind fun v1 =>
      if x1 < v1 then
        (zVA (zAt h x0 2 0)).bind fun a2 =>
        if 100 ≤ (h.2.2 a2).1 then
          if x1 < ((h.2.2 a2).2.length.toInt32) then
            (zVA (zAt h x0 2 0)).bind fun a3 =>
            (zIx h a3 100 x1).bind fun j4 =>
            (zVI (zAt h a3 100 j4)).bind fun v5 =>
            some (.inl (some (.int v5), h))
          else
            some (.inl (some (.int (zi (-1))), h))
        else
          none
      else
        some (.inl (some (.int (zi (-1))), h))
  := (zRun_eb [] 400 0 _ _ _).trans rfl
set_option maxRecDepth 100000 in
set_option maxHeartbeats 4000000 in
theorem zb_Tokens_isLetter_0 (x0 : Int32) (h : zH) : zRun zCode kTokens_isLetter 0 [.int x0] [] h =
    if x0 < (zi 97) then
      (zB (zi 0)).bind fun b1 =>
      some (.inl (some (.int b1), h))
    else
      if (zi 122) < x0 then
        (zB (zi 0)).bind fun b2 =>
        some (.inl (some (.int b2), h))
      else
        (zB (zi 1)).bind fun b3 =>
        some (.inl (some (.int b3), h))
  := (zRun_eb [] 400 0 _ _ _).trans rfl
set_option maxRecDepth 100000 in
set_option maxHeartbeats 4000000 in
theorem zb_Tokens_cutWord_0 (x0 : Nat) (x1 : Nat) (x2 : Int32) (h : zH) : zRun zCode kTokens_cutWord 0 [.ref x0, .ref x1, .int x2, .retAddr 0, .retAddr 0, .retAddr 0] [] h =
    zRun zCode kTokens_cutWord 4 [.ref x0, .ref x1, .int x2, .long (zl 0), .retAddr 0, .int x2] [] h
  := (zRun_eb [4, 29] 400 0 _ _ _).trans rfl
set_option maxRecDepth 100000 in
set_option maxHeartbeats 4000000 in
theorem zb_Tokens_cutWord_4 (x0 : Nat) (x1 : Nat) (x2 : Int32) (x3 : Int64) (x5 : Int32) (h : zH) : zRun zCode kTokens_cutWord 4 [.ref x0, .ref x1, .int x2, .long x3, .retAddr 0, .int x5] [] h =
    if (h.2.2 x1).1 = 2 then
      (zCall zCode kTape_size [.ref x1] h).bind (zRI fun r2 h1 =>
        if x5 < r2 then
          if (h1.2.2 x1).1 = 2 then
            (zCall zCode kTape_byteAt [.ref x1, .int x5] h1).bind (zRI fun r4 h3 =>
              (zCall zCode kTokens_isLetter [.int r4] h3).bind (zRI fun r6 h5 =>
                if r6 = 0 then
                  if (h5.2.2 x1).1 = 2 then
                    (zCall zCode kTape_byteAt [.ref x1, .int x5] h5).bind (zRI fun r10 h9 =>
                      (zCall zCode kTokens_isDigit [.int r10] h9).bind (zRI fun r12 h11 =>
                        if r12 = 0 then
                          zRun zCode kTokens_cutWord 29 [.ref x0, .retAddr 0, .int x2, .long x3, .retAddr 0, .int x5] [] h11
                        else
                          if (h11.2.2 x1).1 = 2 then
                            (zCall zCode kTape_byteAt [.ref x1, .int x5] h11).bind (zRI fun r14 h13 =>
                              zRun zCode kTokens_cutWord 4 [.ref x0, .ref x1, .int x2, .long ((x3 <<< ((zi 8).toInt64 &&& 63)) ||| r14.toInt64), .retAddr 0, .int (x5 + zi 1)] [] h13)
                          else
                            none))
                  else
                    none
                else
                  if (h5.2.2 x1).1 = 2 then
                    (zCall zCode kTape_byteAt [.ref x1, .int x5] h5).bind (zRI fun r8 h7 =>
                      zRun zCode kTokens_cutWord 4 [.ref x0, .ref x1, .int x2, .long ((x3 <<< ((zi 8).toInt64 &&& 63)) ||| r8.toInt64), .retAddr 0, .int (x5 + zi 1)] [] h7)
                  else
                    none))
          else
            none
        else
          zRun zCode kTokens_cutWord 29 [.ref x0, .retAddr 0, .int x2, .long x3, .retAddr 0, .int x5] [] h1)
    else
      none
  := (zRun_eb [4, 29] 400 4 _ _ _).trans rfl
set_option maxRecDepth 100000 in
set_option maxHeartbeats 4000000 in
theorem zb_Tokens_cutWord_29 (x0 : Nat) (x2 : Int32) (x3 : Int64) (x5 : Int32) (h : zH) : zRun zCode kTokens_cutWord 29 [.ref x0, .retAddr 0, .int x2, .long x3, .retAddr 0, .int x5] [] h =
    if (zi 6) < (x5 - x2) then
      if (h.2.2 x0).1 = 4 then
        (zCall zCode kTokens_add [.ref x0, .int (zi 1), .int x2, .long x3] h).bind (zRV fun h4 =>
          some (.inl (some (.int (x5 - x2)), h4)))
      else
        none
    else
      (zCall zCode kTokens_kindOfWord [.long x3] h).bind (zRI fun r2 h1 =>
        if (h1.2.2 x0).1 = 4 then
          (zCall zCode kTokens_add [.ref x0, .int r2, .int x2, .long x3] h1).bind (zRV fun h3 =>
            some (.inl (some (.int (x5 - x2)), h3)))
        else
          none)
  := (zRun_eb [4, 29] 400 29 _ _ _).trans rfl
set_option maxRecDepth 100000 in
set_option maxHeartbeats 4000000 in
theorem zb_Tokens_isDigit_0 (x0 : Int32) (h : zH) : zRun zCode kTokens_isDigit 0 [.int x0] [] h =
    if x0 < (zi 48) then
      (zB (zi 0)).bind fun b1 =>
      some (.inl (some (.int b1), h))
    else
      if (zi 57) < x0 then
        (zB (zi 0)).bind fun b2 =>
        some (.inl (some (.int b2), h))
      else
        (zB (zi 1)).bind fun b3 =>
        some (.inl (some (.int b3), h))
  := (zRun_eb [] 400 0 _ _ _).trans rfl
set_option maxRecDepth 100000 in
set_option maxHeartbeats 4000000 in
theorem zb_Tokens_kindOfWord_0 (x0 : Int64) (h : zH) : zRun zCode kTokens_kindOfWord 0 [.long x0, .retAddr 0] [] h =
    if (lg_cmp x0 (zl 1735357551)) = 0 then
      some (.inl (some (.int (zi 4)), h))
    else
      if (lg_cmp x0 (zl 26982)) = 0 then
        some (.inl (some (.int (zi 5)), h))
      else
        if (lg_cmp x0 (zl 26990)) = 0 then
          some (.inl (some (.int (zi 6)), h))
        else
          if (lg_cmp x0 (zl 7304564)) = 0 then
            some (.inl (some (.int (zi 7)), h))
          else
            if (lg_cmp x0 (zl 1751215220)) = 0 then
              some (.inl (some (.int (zi 8)), h))
            else
              some (.inl (some (.int (zi 3)), h))
  := (zRun_eb [] 400 0 _ _ _).trans rfl
set_option maxRecDepth 100000 in
set_option maxHeartbeats 4000000 in
theorem zb_Tokens_add_0 (x0 : Nat) (x1 : Int32) (x2 : Int32) (x3 : Int64) (h : zH) : zRun zCode kTokens_add 0 [.ref x0, .int x1, .int x2, .long x3, .retAddr 0] [] h =
    (zVI (zAt h x0 4 3)).bind fun v1 =>
    if v1 < 0 then
      some (.inl (none, h))
    else
      (zVI (zAt h x0 4 3)).bind fun v2 =>
      (zVA (zAt h x0 4 0)).bind fun a3 =>
      if 100 ≤ (h.2.2 a3).1 then
        if v2 < ((h.2.2 a3).2.length.toInt32) then
          (zVI (zAt h x0 4 3)).bind fun v4 =>
          (zVA (zAt h x0 4 1)).bind fun a5 =>
          if 100 ≤ (h.2.2 a5).1 then
            if v4 < ((h.2.2 a5).2.length.toInt32) then
              (zVI (zAt h x0 4 3)).bind fun v6 =>
              (zVA (zAt h x0 4 2)).bind fun a7 =>
              if 100 ≤ (h.2.2 a7).1 then
                if v6 < ((h.2.2 a7).2.length.toInt32) then
                  (zVA (zAt h x0 4 0)).bind fun a8 =>
                  (zVI (zAt h x0 4 3)).bind fun v9 =>
                  (zIx h a8 100 v9).bind fun j10 =>
                  (zPut h a8 100 j10 (.int x1)).bind fun h11 =>
                  (zVA (zAt h11 x0 4 1)).bind fun a12 =>
                  (zVI (zAt h11 x0 4 3)).bind fun v13 =>
                  (zIx h11 a12 100 v13).bind fun j14 =>
                  (zPut h11 a12 100 j14 (.int x2)).bind fun h15 =>
                  (zVA (zAt h15 x0 4 2)).bind fun a16 =>
                  (zVI (zAt h15 x0 4 3)).bind fun v17 =>
                  (zIx h15 a16 101 v17).bind fun j18 =>
                  (zPut h15 a16 101 j18 (.long x3)).bind fun h19 =>
                  (zVI (zAt h19 x0 4 3)).bind fun v20 =>
                  (zPut h19 x0 4 3 (.int (v20 + (zi 1)))).bind fun h21 =>
                  some (.inl (none, h21))
                else
                  some (.inl (none, h))
              else
                none
            else
              some (.inl (none, h))
          else
            none
        else
          some (.inl (none, h))
      else
        none
  := (zRun_eb [] 400 0 _ _ _).trans rfl
set_option maxRecDepth 100000 in
set_option maxHeartbeats 4000000 in
theorem zb_Tokens_cutNumber_0 (x0 : Nat) (x1 : Nat) (x2 : Int32) (h : zH) : zRun zCode kTokens_cutNumber 0 [.ref x0, .ref x1, .int x2, .retAddr 0, .retAddr 0, .retAddr 0] [] h =
    zRun zCode kTokens_cutNumber 4 [.ref x0, .ref x1, .int x2, .long (zl 0), .retAddr 0, .int x2] [] h
  := (zRun_eb [4, 26] 400 0 _ _ _).trans rfl
set_option maxRecDepth 100000 in
set_option maxHeartbeats 4000000 in
theorem zb_Tokens_cutNumber_4 (x0 : Nat) (x1 : Nat) (x2 : Int32) (x3 : Int64) (x5 : Int32) (h : zH) : zRun zCode kTokens_cutNumber 4 [.ref x0, .ref x1, .int x2, .long x3, .retAddr 0, .int x5] [] h =
    if (h.2.2 x1).1 = 2 then
      (zCall zCode kTape_size [.ref x1] h).bind (zRI fun r2 h1 =>
        if x5 < r2 then
          if (h1.2.2 x1).1 = 2 then
            (zCall zCode kTape_byteAt [.ref x1, .int x5] h1).bind (zRI fun r4 h3 =>
              (zCall zCode kTokens_isDigit [.int r4] h3).bind (zRI fun r6 h5 =>
                if r6 = 0 then
                  zRun zCode kTokens_cutNumber 26 [.ref x0, .retAddr 0, .int x2, .long x3, .retAddr 0, .int x5] [] h5
                else
                  if (h5.2.2 x1).1 = 2 then
                    (zCall zCode kTape_byteAt [.ref x1, .int x5] h5).bind (zRI fun r8 h7 =>
                      zRun zCode kTokens_cutNumber 4 [.ref x0, .ref x1, .int x2, .long ((x3 * (zl 10)) + ((r8 - (zi 48)).toInt64)), .retAddr 0, .int (x5 + zi 1)] [] h7)
                  else
                    none))
          else
            none
        else
          zRun zCode kTokens_cutNumber 26 [.ref x0, .retAddr 0, .int x2, .long x3, .retAddr 0, .int x5] [] h1)
    else
      none
  := (zRun_eb [4, 26] 400 4 _ _ _).trans rfl
set_option maxRecDepth 100000 in
set_option maxHeartbeats 4000000 in
theorem zb_Tokens_cutNumber_26 (x0 : Nat) (x2 : Int32) (x3 : Int64) (x5 : Int32) (h : zH) : zRun zCode kTokens_cutNumber 26 [.ref x0, .retAddr 0, .int x2, .long x3, .retAddr 0, .int x5] [] h =
    if (zi 6) < (x5 - x2) then
      if (h.2.2 x0).1 = 4 then
        (zCall zCode kTokens_add [.ref x0, .int (zi 1), .int x2, .long x3] h).bind (zRV fun h2 =>
          some (.inl (some (.int (x5 - x2)), h2)))
      else
        none
    else
      if (h.2.2 x0).1 = 4 then
        (zCall zCode kTokens_add [.ref x0, .int (zi 2), .int x2, .long x3] h).bind (zRV fun h1 =>
          some (.inl (some (.int (x5 - x2)), h1)))
      else
        none
  := (zRun_eb [4, 26] 400 26 _ _ _).trans rfl
set_option maxRecDepth 100000 in
set_option maxHeartbeats 4000000 in
theorem zb_Tokens_isSymbol_0 (x0 : Int32) (h : zH) : zRun zCode kTokens_isSymbol 0 [.int x0] [] h =
    if x0 = (zi 59) then
      (zB (zi 1)).bind fun b1 =>
      some (.inl (some (.int b1), h))
    else
      if x0 = (zi 58) then
        (zB (zi 1)).bind fun b2 =>
        some (.inl (some (.int b2), h))
      else
        (zCall zCode kTokens_opOf [.int x0] h).bind (zRI fun r4 h3 =>
          if r4 < 0 then
            (zB (zi 0)).bind fun b5 =>
            some (.inl (some (.int b5), h3))
          else
            (zB (zi 1)).bind fun b6 =>
            some (.inl (some (.int b6), h3)))
  := (zRun_eb [] 400 0 _ _ _).trans rfl
set_option maxRecDepth 100000 in
set_option maxHeartbeats 4000000 in
theorem zb_Tokens_opOf_0 (x0 : Int32) (h : zH) : zRun zCode kTokens_opOf 0 [.int x0] [] h =
    if x0 = zi 37 then
      some (.inl (some (.int (zi 4)), h))
    else
      if x0 = zi 38 then
        some (.inl (some (.int (zi 5)), h))
      else
        if x0 = zi 42 then
          some (.inl (some (.int (zi 2)), h))
        else
          if x0 = zi 43 then
            some (.inl (some (.int (zi 0)), h))
          else
            if x0 = zi 45 then
              some (.inl (some (.int (zi 1)), h))
            else
              if x0 = zi 47 then
                some (.inl (some (.int (zi 3)), h))
              else
                if x0 = zi 60 then
                  some (.inl (some (.int (zi 8)), h))
                else
                  if x0 = zi 61 then
                    some (.inl (some (.int (zi 9)), h))
                  else
                    if x0 = zi 94 then
                      some (.inl (some (.int (zi 7)), h))
                    else
                      if x0 = zi 124 then
                        some (.inl (some (.int (zi 6)), h))
                      else
                        some (.inl (some (.int (zi (-1))), h))
  := (zRun_eb [] 400 0 _ _ _).trans rfl
set_option maxRecDepth 100000 in
set_option maxHeartbeats 4000000 in
theorem zb_Math_max_0 (x0 : Int32) (x1 : Int32) (h : zH) : zRun zCode kMath_max 0 [.int x0, .int x1] [] h =
    if x0 < x1 then
      some (.inl (some (.int x1), h))
    else
      some (.inl (some (.int x0), h))
  := (zRun_eb [] 400 0 _ _ _).trans rfl
set_option maxRecDepth 100000 in
set_option maxHeartbeats 4000000 in
theorem zb_Reader_readLine_0 (x0 : Nat) (x1 : Nat) (h : zH) : zRun zCode kReader_readLine 0 [.ref x0, .ref x1, .retAddr 0] [] h =
    (zVA (zAt h x0 3 0)).bind fun a1 =>
    if (h.2.2 a1).1 = 4 then
      (zCall zCode kTokens_kind [.ref a1] h).bind (zRI fun r3 h2 =>
        if r3 < (zi 3) then
          (zVA (zAt h2 x0 3 0)).bind fun a4 =>
          if (h2.2.2 a4).1 = 4 then
            (zCall zCode kTokens_start [.ref a4] h2).bind (zRI fun r6 h5 =>
              if (h5.2.2 x0).1 = 3 then
                (zCall zCode kReader_fail [.ref x0, .int (zi 1), .int r6] h5).bind (zRI fun r8 h7 =>
                  (zB r8).bind fun b9 =>
                  some (.inl (some (.int b9), h7)))
              else
                none)
          else
            none
        else
          if (zi 8) < r3 then
            (zVA (zAt h2 x0 3 0)).bind fun a86 =>
            if (h2.2.2 a86).1 = 4 then
              (zCall zCode kTokens_start [.ref a86] h2).bind (zRI fun r88 h87 =>
                if (h87.2.2 x0).1 = 3 then
                  (zCall zCode kReader_fail [.ref x0, .int (zi 1), .int r88] h87).bind (zRI fun r90 h89 =>
                    (zB r90).bind fun b91 =>
                    some (.inl (some (.int b91), h89)))
                else
                  none)
            else
              none
          else
            if (h2.2.2 x1).1 = 1 then
              (zCall zCode kProgram_size [.ref x1] h2).bind (zRI fun r11 h10 =>
                if r11 < (zi 80) then
                  if (h10.2.2 x0).1 = 3 then
                    (zCall zCode kReader_forgetInstruction [.ref x0] h10).bind (zRV fun h12 =>
                      if r3 = (zi 3) then
                        if (h12.2.2 x0).1 = 3 then
                          (zCall zCode kReader_readNamed [.ref x0, .ref x1] h12).bind (zRI fun r78 h77 =>
                            (zB r78).bind fun b79 =>
                            some (.inl (some (.int b79), h77)))
                        else
                          none
                      else
                        (zVA (zAt h12 x0 3 0)).bind fun a13 =>
                        if (h12.2.2 a13).1 = 4 then
                          (zCall zCode kTokens_toNext [.ref a13] h12).bind (zRV fun h14 =>
                            if r3 = zi 4 then
                              (zVA (zAt h14 x0 3 2)).bind fun a66 =>
                              if (h14.2.2 x0).1 = 3 then
                                (zCall zCode kReader_readName [.ref x0, .ref a66] h14).bind (zRI fun r68 h67 =>
                                  if r68 = 0 then
                                    (zB (zi 0)).bind fun b69 =>
                                    some (.inl (some (.int b69), h67))
                                  else
                                    if (h67.2.2 x0).1 = 3 then
                                      (zCall zCode kReader_add [.ref x0, .ref x1, .int (zi 3)] h67).bind (zRI fun r71 h70 =>
                                        if r71 = 0 then
                                          (zB (zi 0)).bind fun b72 =>
                                          some (.inl (some (.int b72), h70))
                                        else
                                          if (h70.2.2 x0).1 = 3 then
                                            (zCall zCode kReader_take [.ref x0, .int (zi 59)] h70).bind (zRI fun r74 h73 =>
                                              if r74 = 0 then
                                                (zB (zi 0)).bind fun b75 =>
                                                some (.inl (some (.int b75), h73))
                                              else
                                                (zB (zi 1)).bind fun b76 =>
                                                some (.inl (some (.int b76), h73)))
                                          else
                                            none)
                                    else
                                      none)
                              else
                                none
                            else
                              if r3 = zi 5 then
                                if (h14.2.2 x0).1 = 3 then
                                  (zCall zCode kReader_readValue [.ref x0] h14).bind (zRI fun r47 h46 =>
                                    if r47 = 0 then
                                      (zB (zi 0)).bind fun b48 =>
                                      some (.inl (some (.int b48), h46))
                                    else
                                      if (h46.2.2 x0).1 = 3 then
                                        (zCall zCode kReader_keepFirst [.ref x0] h46).bind (zRI fun r50 h49 =>
                                          if r50 = 0 then
                                            (zB (zi 0)).bind fun b51 =>
                                            some (.inl (some (.int b51), h49))
                                          else
                                            if (h49.2.2 x0).1 = 3 then
                                              (zCall zCode kReader_take [.ref x0, .int (zi 4)] h49).bind (zRI fun r53 h52 =>
                                                if r53 = 0 then
                                                  (zB (zi 0)).bind fun b54 =>
                                                  some (.inl (some (.int b54), h52))
                                                else
                                                  (zVA (zAt h52 x0 3 2)).bind fun a55 =>
                                                  if (h52.2.2 x0).1 = 3 then
                                                    (zCall zCode kReader_readName [.ref x0, .ref a55] h52).bind (zRI fun r57 h56 =>
                                                      if r57 = 0 then
                                                        (zB (zi 0)).bind fun b58 =>
                                                        some (.inl (some (.int b58), h56))
                                                      else
                                                        if (h56.2.2 x0).1 = 3 then
                                                          (zCall zCode kReader_add [.ref x0, .ref x1, .int (zi 4)] h56).bind (zRI fun r60 h59 =>
                                                            if r60 = 0 then
                                                              (zB (zi 0)).bind fun b61 =>
                                                              some (.inl (some (.int b61), h59))
                                                            else
                                                              if (h59.2.2 x0).1 = 3 then
                                                                (zCall zCode kReader_take [.ref x0, .int (zi 59)] h59).bind (zRI fun r63 h62 =>
                                                                  if r63 = 0 then
                                                                    (zB (zi 0)).bind fun b64 =>
                                                                    some (.inl (some (.int b64), h62))
                                                                  else
                                                                    (zB (zi 1)).bind fun b65 =>
                                                                    some (.inl (some (.int b65), h62)))
                                                              else
                                                                none)
                                                        else
                                                          none)
                                                  else
                                                    none)
                                            else
                                              none)
                                      else
                                        none)
                                else
                                  none
                              else
                                if r3 = zi 6 then
                                  (zVA (zAt h14 x0 3 1)).bind fun a35 =>
                                  if (h14.2.2 x0).1 = 3 then
                                    (zCall zCode kReader_readName [.ref x0, .ref a35] h14).bind (zRI fun r37 h36 =>
                                      if r37 = 0 then
                                        (zB (zi 0)).bind fun b38 =>
                                        some (.inl (some (.int b38), h36))
                                      else
                                        if (h36.2.2 x0).1 = 3 then
                                          (zCall zCode kReader_add [.ref x0, .ref x1, .int (zi 5)] h36).bind (zRI fun r40 h39 =>
                                            if r40 = 0 then
                                              (zB (zi 0)).bind fun b41 =>
                                              some (.inl (some (.int b41), h39))
                                            else
                                              if (h39.2.2 x0).1 = 3 then
                                                (zCall zCode kReader_take [.ref x0, .int (zi 59)] h39).bind (zRI fun r43 h42 =>
                                                  if r43 = 0 then
                                                    (zB (zi 0)).bind fun b44 =>
                                                    some (.inl (some (.int b44), h42))
                                                  else
                                                    (zB (zi 1)).bind fun b45 =>
                                                    some (.inl (some (.int b45), h42)))
                                              else
                                                none)
                                        else
                                          none)
                                  else
                                    none
                                else
                                  if r3 = zi 7 then
                                    if (h14.2.2 x0).1 = 3 then
                                      (zCall zCode kReader_readValue [.ref x0] h14).bind (zRI fun r23 h22 =>
                                        if r23 = 0 then
                                          (zB (zi 0)).bind fun b24 =>
                                          some (.inl (some (.int b24), h22))
                                        else
                                          if (h22.2.2 x0).1 = 3 then
                                            (zCall zCode kReader_keepFirst [.ref x0] h22).bind (zRI fun r26 h25 =>
                                              if r26 = 0 then
                                                (zB (zi 0)).bind fun b27 =>
                                                some (.inl (some (.int b27), h25))
                                              else
                                                if (h25.2.2 x0).1 = 3 then
                                                  (zCall zCode kReader_add [.ref x0, .ref x1, .int (zi 6)] h25).bind (zRI fun r29 h28 =>
                                                    if r29 = 0 then
                                                      (zB (zi 0)).bind fun b30 =>
                                                      some (.inl (some (.int b30), h28))
                                                    else
                                                      if (h28.2.2 x0).1 = 3 then
                                                        (zCall zCode kReader_take [.ref x0, .int (zi 59)] h28).bind (zRI fun r32 h31 =>
                                                          if r32 = 0 then
                                                            (zB (zi 0)).bind fun b33 =>
                                                            some (.inl (some (.int b33), h31))
                                                          else
                                                            (zB (zi 1)).bind fun b34 =>
                                                            some (.inl (some (.int b34), h31)))
                                                      else
                                                        none)
                                                else
                                                  none)
                                          else
                                            none)
                                    else
                                      none
                                  else
                                    if (h14.2.2 x0).1 = 3 then
                                      (zCall zCode kReader_add [.ref x0, .ref x1, .int (zi 7)] h14).bind (zRI fun r16 h15 =>
                                        if r16 = 0 then
                                          (zB (zi 0)).bind fun b17 =>
                                          some (.inl (some (.int b17), h15))
                                        else
                                          if (h15.2.2 x0).1 = 3 then
                                            (zCall zCode kReader_take [.ref x0, .int (zi 59)] h15).bind (zRI fun r19 h18 =>
                                              if r19 = 0 then
                                                (zB (zi 0)).bind fun b20 =>
                                                some (.inl (some (.int b20), h18))
                                              else
                                                (zB (zi 1)).bind fun b21 =>
                                                some (.inl (some (.int b21), h18)))
                                          else
                                            none)
                                    else
                                      none)
                        else
                          none)
                  else
                    none
                else
                  (zVA (zAt h10 x0 3 0)).bind fun a80 =>
                  if (h10.2.2 a80).1 = 4 then
                    (zCall zCode kTokens_start [.ref a80] h10).bind (zRI fun r82 h81 =>
                      if (h81.2.2 x0).1 = 3 then
                        (zCall zCode kReader_fail [.ref x0, .int (zi 2), .int r82] h81).bind (zRI fun r84 h83 =>
                          (zB r84).bind fun b85 =>
                          some (.inl (some (.int b85), h83)))
                      else
                        none)
                  else
                    none)
            else
              none)
    else
      none
  := (zRun_eb [] 400 0 _ _ _).trans rfl
set_option maxRecDepth 100000 in
set_option maxHeartbeats 4000000 in
theorem zb_Tokens_kind_0 (x0 : Nat) (h : zH) : zRun zCode kTokens_kind 0 [.ref x0] [] h =
    (zVI (zAt h x0 4 4)).bind fun v1 =>
    if v1 < 0 then
      some (.inl (some (.int (zi 0)), h))
    else
      (zVI (zAt h x0 4 4)).bind fun v2 =>
      (zVI (zAt h x0 4 3)).bind fun v3 =>
      if v2 < v3 then
        (zVI (zAt h x0 4 4)).bind fun v4 =>
        (zVA (zAt h x0 4 0)).bind fun a5 =>
        if 100 ≤ (h.2.2 a5).1 then
          if v4 < ((h.2.2 a5).2.length.toInt32) then
            (zVA (zAt h x0 4 0)).bind fun a6 =>
            (zVI (zAt h x0 4 4)).bind fun v7 =>
            (zIx h a6 100 v7).bind fun j8 =>
            (zVI (zAt h a6 100 j8)).bind fun v9 =>
            some (.inl (some (.int v9), h))
          else
            some (.inl (some (.int (zi 0)), h))
        else
          none
      else
        some (.inl (some (.int (zi 0)), h))
  := (zRun_eb [] 400 0 _ _ _).trans rfl
set_option maxRecDepth 100000 in
set_option maxHeartbeats 4000000 in
theorem zb_Tokens_start_0 (x0 : Nat) (h : zH) : zRun zCode kTokens_start 0 [.ref x0] [] h =
    (zVI (zAt h x0 4 4)).bind fun v1 =>
    if v1 < 0 then
      some (.inl (some (.int (zi 0)), h))
    else
      (zVI (zAt h x0 4 4)).bind fun v2 =>
      (zVI (zAt h x0 4 3)).bind fun v3 =>
      if v2 < v3 then
        (zVI (zAt h x0 4 4)).bind fun v4 =>
        (zVA (zAt h x0 4 1)).bind fun a5 =>
        if 100 ≤ (h.2.2 a5).1 then
          if v4 < ((h.2.2 a5).2.length.toInt32) then
            (zVA (zAt h x0 4 1)).bind fun a6 =>
            (zVI (zAt h x0 4 4)).bind fun v7 =>
            (zIx h a6 100 v7).bind fun j8 =>
            (zVI (zAt h a6 100 j8)).bind fun v9 =>
            some (.inl (some (.int v9), h))
          else
            some (.inl (some (.int (zi 0)), h))
        else
          none
      else
        some (.inl (some (.int (zi 0)), h))
  := (zRun_eb [] 400 0 _ _ _).trans rfl
set_option maxRecDepth 100000 in
set_option maxHeartbeats 4000000 in
theorem zb_Reader_fail_0 (x0 : Nat) (x1 : Int32) (x2 : Int32) (h : zH) : zRun zCode kReader_fail 0 [.ref x0, .int x1, .int x2] [] h =
    (zPut h x0 3 3 (.int x1)).bind fun h1 =>
    (zPut h1 x0 3 4 (.int x2)).bind fun h2 =>
    (zB (zi 0)).bind fun b3 =>
    some (.inl (some (.int b3), h2))
  := (zRun_eb [] 400 0 _ _ _).trans rfl
set_option maxRecDepth 100000 in
set_option maxHeartbeats 4000000 in
theorem zb_Reader_forgetInstruction_0 (x0 : Nat) (h : zH) : zRun zCode kReader_forgetInstruction 0 [.ref x0] [] h =
    (zPut h x0 3 5 (.int (zi (-1)))).bind fun h1 =>
    (zPut h1 x0 3 6 (.int (zi (-1)))).bind fun h2 =>
    (zPut h2 x0 3 7 (.int (zi (-1)))).bind fun h3 =>
    (zPut h3 x0 3 8 (.long (zl 0))).bind fun h4 =>
    (zPut h4 x0 3 9 (.int (zi (-1)))).bind fun h5 =>
    (zPut h5 x0 3 10 (.long (zl 0))).bind fun h6 =>
    some (.inl (none, h6))
  := (zRun_eb [] 400 0 _ _ _).trans rfl
set_option maxRecDepth 100000 in
set_option maxHeartbeats 4000000 in
theorem zb_Reader_readNamed_0 (x0 : Nat) (x1 : Nat) (h : zH) : zRun zCode kReader_readNamed 0 [.ref x0, .ref x1, .retAddr 0, .retAddr 0, .retAddr 0] [] h =
    (zVA (zAt h x0 3 0)).bind fun a1 =>
    if (h.2.2 a1).1 = 4 then
      (zCall zCode kTokens_content [.ref a1] h).bind (zRL fun r3 h2 =>
        (zVA (zAt h2 x0 3 0)).bind fun a4 =>
        if (h2.2.2 a4).1 = 4 then
          (zCall zCode kTokens_start [.ref a4] h2).bind (zRI fun r6 h5 =>
            (zVA (zAt h5 x0 3 0)).bind fun a7 =>
            if (h5.2.2 a7).1 = 4 then
              (zCall zCode kTokens_toNext [.ref a7] h5).bind (zRV fun h8 =>
                (zVA (zAt h8 x0 3 0)).bind fun a9 =>
                if (h8.2.2 a9).1 = 4 then
                  (zCall zCode kTokens_kind [.ref a9] h8).bind (zRI fun r11 h10 =>
                    if r11 = (zi 58) then
                      (zVA (zAt h10 x0 3 2)).bind fun a67 =>
                      if (h10.2.2 a67).1 = 5 then
                        (zCall zCode kNames_find [.ref a67, .long r3, .int r6] h10).bind (zRI fun r69 h68 =>
                          (zPut h68 x0 3 5 (.int r69)).bind fun h70 =>
                          (zVA (zAt h70 x0 3 2)).bind fun a71 =>
                          (zVI (zAt h70 x0 3 5)).bind fun v72 =>
                          if (h70.2.2 a71).1 = 5 then
                            (zCall zCode kNames_setOnce [.ref a71, .int v72] h70).bind (zRI fun r74 h73 =>
                              if r74 = 0 then
                                if (h73.2.2 x0).1 = 3 then
                                  (zCall zCode kReader_fail [.ref x0, .int (zi 2), .int r6] h73).bind (zRI fun r83 h82 =>
                                    (zB r83).bind fun b84 =>
                                    some (.inl (some (.int b84), h82)))
                                else
                                  none
                              else
                                if (h73.2.2 x0).1 = 3 then
                                  (zCall zCode kReader_add [.ref x0, .ref x1, .int (zi 0)] h73).bind (zRI fun r76 h75 =>
                                    if r76 = 0 then
                                      (zB (zi 0)).bind fun b77 =>
                                      some (.inl (some (.int b77), h75))
                                    else
                                      if (h75.2.2 x0).1 = 3 then
                                        (zCall zCode kReader_take [.ref x0, .int (zi 58)] h75).bind (zRI fun r79 h78 =>
                                          if r79 = 0 then
                                            (zB (zi 0)).bind fun b80 =>
                                            some (.inl (some (.int b80), h78))
                                          else
                                            (zB (zi 1)).bind fun b81 =>
                                            some (.inl (some (.int b81), h78)))
                                      else
                                        none)
                                else
                                  none)
                          else
                            none)
                      else
                        none
                    else
                      (zVA (zAt h10 x0 3 0)).bind fun a12 =>
                      if (h10.2.2 a12).1 = 4 then
                        (zCall zCode kTokens_kind [.ref a12] h10).bind (zRI fun r14 h13 =>
                          if r14 = (zi 61) then
                            (zVA (zAt h13 x0 3 1)).bind fun a15 =>
                            if (h13.2.2 a15).1 = 5 then
                              (zCall zCode kNames_find [.ref a15, .long r3, .int r6] h13).bind (zRI fun r17 h16 =>
                                (zPut h16 x0 3 5 (.int r17)).bind fun h18 =>
                                (zVI (zAt h18 x0 3 5)).bind fun v19 =>
                                if v19 < 0 then
                                  if (h18.2.2 x0).1 = 3 then
                                    (zCall zCode kReader_fail [.ref x0, .int (zi 2), .int r6] h18).bind (zRI fun r59 h58 =>
                                      (zB r59).bind fun b60 =>
                                      some (.inl (some (.int b60), h58)))
                                  else
                                    none
                                else
                                  if (h18.2.2 x0).1 = 3 then
                                    (zCall zCode kReader_take [.ref x0, .int (zi 61)] h18).bind (zRI fun r21 h20 =>
                                      if r21 = 0 then
                                        (zB (zi 0)).bind fun b22 =>
                                        some (.inl (some (.int b22), h20))
                                      else
                                        if (h20.2.2 x0).1 = 3 then
                                          (zCall zCode kReader_readValue [.ref x0] h20).bind (zRI fun r24 h23 =>
                                            if r24 = 0 then
                                              (zB (zi 0)).bind fun b25 =>
                                              some (.inl (some (.int b25), h23))
                                            else
                                              if (h23.2.2 x0).1 = 3 then
                                                (zCall zCode kReader_keepFirst [.ref x0] h23).bind (zRI fun r27 h26 =>
                                                  if r27 = 0 then
                                                    (zB (zi 0)).bind fun b57 =>
                                                    some (.inl (some (.int b57), h26))
                                                  else
                                                    (zVA (zAt h26 x0 3 0)).bind fun a28 =>
                                                    if (h26.2.2 a28).1 = 4 then
                                                      (zCall zCode kTokens_kind [.ref a28] h26).bind (zRI fun r30 h29 =>
                                                        (zCall zCode kTokens_opOf [.int r30] h29).bind (zRI fun r32 h31 =>
                                                          (zPut h31 x0 3 6 (.int r32)).bind fun h33 =>
                                                          (zVI (zAt h33 x0 3 6)).bind fun v34 =>
                                                          if v34 < 0 then
                                                            if (h33.2.2 x0).1 = 3 then
                                                              (zCall zCode kReader_add [.ref x0, .ref x1, .int (zi 1)] h33).bind (zRI fun r51 h50 =>
                                                                if r51 = 0 then
                                                                  (zB (zi 0)).bind fun b52 =>
                                                                  some (.inl (some (.int b52), h50))
                                                                else
                                                                  if (h50.2.2 x0).1 = 3 then
                                                                    (zCall zCode kReader_take [.ref x0, .int (zi 59)] h50).bind (zRI fun r54 h53 =>
                                                                      if r54 = 0 then
                                                                        (zB (zi 0)).bind fun b55 =>
                                                                        some (.inl (some (.int b55), h53))
                                                                      else
                                                                        (zB (zi 1)).bind fun b56 =>
                                                                        some (.inl (some (.int b56), h53)))
                                                                  else
                                                                    none)
                                                            else
                                                              none
                                                          else
                                                            (zVA (zAt h33 x0 3 0)).bind fun a35 =>
                                                            if (h33.2.2 a35).1 = 4 then
                                                              (zCall zCode kTokens_toNext [.ref a35] h33).bind (zRV fun h36 =>
                                                                if (h36.2.2 x0).1 = 3 then
                                                                  (zCall zCode kReader_readValue [.ref x0] h36).bind (zRI fun r38 h37 =>
                                                                    if r38 = 0 then
                                                                      (zB (zi 0)).bind fun b39 =>
                                                                      some (.inl (some (.int b39), h37))
                                                                    else
                                                                      if (h37.2.2 x0).1 = 3 then
                                                                        (zCall zCode kReader_keepSecond [.ref x0] h37).bind (zRI fun r41 h40 =>
                                                                          if r41 = 0 then
                                                                            (zB (zi 0)).bind fun b42 =>
                                                                            some (.inl (some (.int b42), h40))
                                                                          else
                                                                            if (h40.2.2 x0).1 = 3 then
                                                                              (zCall zCode kReader_add [.ref x0, .ref x1, .int (zi 2)] h40).bind (zRI fun r44 h43 =>
                                                                                if r44 = 0 then
                                                                                  (zB (zi 0)).bind fun b45 =>
                                                                                  some (.inl (some (.int b45), h43))
                                                                                else
                                                                                  if (h43.2.2 x0).1 = 3 then
                                                                                    (zCall zCode kReader_take [.ref x0, .int (zi 59)] h43).bind (zRI fun r47 h46 =>
                                                                                      if r47 = 0 then
                                                                                        (zB (zi 0)).bind fun b48 =>
                                                                                        some (.inl (some (.int b48), h46))
                                                                                      else
                                                                                        (zB (zi 1)).bind fun b49 =>
                                                                                        some (.inl (some (.int b49), h46)))
                                                                                  else
                                                                                    none)
                                                                            else
                                                                              none)
                                                                      else
                                                                        none)
                                                                else
                                                                  none)
                                                            else
                                                              none))
                                                    else
                                                      none)
                                              else
                                                none)
                                        else
                                          none)
                                  else
                                    none)
                            else
                              none
                          else
                            (zVA (zAt h13 x0 3 0)).bind fun a61 =>
                            if (h13.2.2 a61).1 = 4 then
                              (zCall zCode kTokens_start [.ref a61] h13).bind (zRI fun r63 h62 =>
                                if (h62.2.2 x0).1 = 3 then
                                  (zCall zCode kReader_fail [.ref x0, .int (zi 1), .int r63] h62).bind (zRI fun r65 h64 =>
                                    (zB r65).bind fun b66 =>
                                    some (.inl (some (.int b66), h64)))
                                else
                                  none)
                            else
                              none)
                      else
                        none)
                else
                  none)
            else
              none)
        else
          none)
    else
      none
  := (zRun_eb [] 400 0 _ _ _).trans rfl
set_option maxRecDepth 100000 in
set_option maxHeartbeats 4000000 in
theorem zb_Tokens_content_0 (x0 : Nat) (h : zH) : zRun zCode kTokens_content 0 [.ref x0] [] h =
    (zVI (zAt h x0 4 4)).bind fun v1 =>
    if v1 < 0 then
      some (.inl (some (.long (zl 0)), h))
    else
      (zVI (zAt h x0 4 4)).bind fun v2 =>
      (zVI (zAt h x0 4 3)).bind fun v3 =>
      if v2 < v3 then
        (zVI (zAt h x0 4 4)).bind fun v4 =>
        (zVA (zAt h x0 4 2)).bind fun a5 =>
        if 100 ≤ (h.2.2 a5).1 then
          if v4 < ((h.2.2 a5).2.length.toInt32) then
            (zVA (zAt h x0 4 2)).bind fun a6 =>
            (zVI (zAt h x0 4 4)).bind fun v7 =>
            (zIx h a6 101 v7).bind fun j8 =>
            (zVL (zAt h a6 101 j8)).bind fun v9 =>
            some (.inl (some (.long v9), h))
          else
            some (.inl (some (.long (zl 0)), h))
        else
          none
      else
        some (.inl (some (.long (zl 0)), h))
  := (zRun_eb [] 400 0 _ _ _).trans rfl
set_option maxRecDepth 100000 in
set_option maxHeartbeats 4000000 in
theorem zb_Tokens_toNext_0 (x0 : Nat) (h : zH) : zRun zCode kTokens_toNext 0 [.ref x0] [] h =
    (zVI (zAt h x0 4 4)).bind fun v1 =>
    (zVI (zAt h x0 4 3)).bind fun v2 =>
    if v1 < (v2 - (zi 1)) then
      (zVI (zAt h x0 4 4)).bind fun v3 =>
      (zPut h x0 4 4 (.int (v3 + (zi 1)))).bind fun h4 =>
      some (.inl (none, h4))
    else
      some (.inl (none, h))
  := (zRun_eb [] 400 0 _ _ _).trans rfl
set_option maxRecDepth 100000 in
set_option maxHeartbeats 4000000 in
theorem zb_Names_find_0 (x0 : Nat) (x1 : Int64) (x3 : Int32) (h : zH) : zRun zCode kNames_find 0 [.ref x0, .long x1, .retAddr 0, .int x3, .retAddr 0] [] h =
    zRun zCode kNames_find 2 [.ref x0, .long x1, .retAddr 0, .int x3, .int (zi 0)] [] h
  := (zRun_eb [2, 22] 400 0 _ _ _).trans rfl
set_option maxRecDepth 100000 in
set_option maxHeartbeats 4000000 in
theorem zb_Names_find_2 (x0 : Nat) (x1 : Int64) (x3 : Int32) (x4 : Int32) (h : zH) : zRun zCode kNames_find 2 [.ref x0, .long x1, .retAddr 0, .int x3, .int x4] [] h =
    (zVI (zAt h x0 5 3)).bind fun v1 =>
    if x4 < v1 then
      (zVA (zAt h x0 5 0)).bind fun a2 =>
      if 100 ≤ (h.2.2 a2).1 then
        if x4 < ((h.2.2 a2).2.length.toInt32) then
          (zVA (zAt h x0 5 0)).bind fun a3 =>
          (zIx h a3 101 x4).bind fun j4 =>
          (zVL (zAt h a3 101 j4)).bind fun v5 =>
          if (lg_cmp v5 x1) = 0 then
            some (.inl (some (.int x4), h))
          else
            zRun zCode kNames_find 2 [.ref x0, .long x1, .retAddr 0, .int x3, .int (x4 + zi 1)] [] h
        else
          zRun zCode kNames_find 22 [.ref x0, .long x1, .retAddr 0, .int x3, .retAddr 0] [] h
      else
        none
    else
      zRun zCode kNames_find 22 [.ref x0, .long x1, .retAddr 0, .int x3, .retAddr 0] [] h
  := (zRun_eb [2, 22] 400 2 _ _ _).trans rfl
set_option maxRecDepth 100000 in
set_option maxHeartbeats 4000000 in
theorem zb_Names_find_22 (x0 : Nat) (x1 : Int64) (x3 : Int32) (h : zH) : zRun zCode kNames_find 22 [.ref x0, .long x1, .retAddr 0, .int x3, .retAddr 0] [] h =
    (zVI (zAt h x0 5 3)).bind fun v1 =>
    if v1 < 0 then
      some (.inl (some (.int (zi (-1))), h))
    else
      (zVI (zAt h x0 5 3)).bind fun v2 =>
      (zVA (zAt h x0 5 0)).bind fun a3 =>
      if 100 ≤ (h.2.2 a3).1 then
        if v2 < ((h.2.2 a3).2.length.toInt32) then
          (zVA (zAt h x0 5 0)).bind fun a4 =>
          (zVI (zAt h x0 5 3)).bind fun v5 =>
          (zIx h a4 101 v5).bind fun j6 =>
          (zPut h a4 101 j6 (.long x1)).bind fun h7 =>
          (zVA (zAt h7 x0 5 1)).bind fun a8 =>
          (zVI (zAt h7 x0 5 3)).bind fun v9 =>
          (zIx h7 a8 100 v9).bind fun j10 =>
          (zPut h7 a8 100 j10 (.int x3)).bind fun h11 =>
          (zVA (zAt h11 x0 5 2)).bind fun a12 =>
          (zVI (zAt h11 x0 5 3)).bind fun v13 =>
          (zB (zi 0)).bind fun b16 =>
          (zIx h11 a12 102 v13).bind fun j14 =>
          (zPut h11 a12 102 j14 (.int b16)).bind fun h15 =>
          (zVI (zAt h15 x0 5 3)).bind fun v17 =>
          (zPut h15 x0 5 3 (.int (v17 + (zi 1)))).bind fun h18 =>
          (zVI (zAt h18 x0 5 3)).bind fun v19 =>
          some (.inl (some (.int (v19 - (zi 1))), h18))
        else
          some (.inl (some (.int (zi (-1))), h))
      else
        none
  := (zRun_eb [2, 22] 400 22 _ _ _).trans rfl
set_option maxRecDepth 100000 in
set_option maxHeartbeats 4000000 in
theorem zb_Names_setOnce_0 (x0 : Nat) (x1 : Int32) (h : zH) : zRun zCode kNames_setOnce 0 [.ref x0, .int x1] [] h =
    if x1 < 0 then
      (zB (zi 0)).bind fun b1 =>
      some (.inl (some (.int b1), h))
    else
      (zVA (zAt h x0 5 2)).bind fun a2 =>
      if 100 ≤ (h.2.2 a2).1 then
        if x1 < ((h.2.2 a2).2.length.toInt32) then
          (zVA (zAt h x0 5 2)).bind fun a4 =>
          (zIx h a4 102 x1).bind fun j5 =>
          (zVI (zAt h a4 102 j5)).bind fun v6 =>
          if v6 = 0 then
            (zVA (zAt h x0 5 2)).bind fun a7 =>
            (zB (zi 1)).bind fun b10 =>
            (zIx h a7 102 x1).bind fun j8 =>
            (zPut h a7 102 j8 (.int b10)).bind fun h9 =>
            (zB (zi 1)).bind fun b11 =>
            some (.inl (some (.int b11), h9))
          else
            (zB (zi 0)).bind fun b12 =>
            some (.inl (some (.int b12), h))
        else
          (zB (zi 0)).bind fun b3 =>
          some (.inl (some (.int b3), h))
      else
        none
  := (zRun_eb [] 400 0 _ _ _).trans rfl
set_option maxRecDepth 100000 in
set_option maxHeartbeats 4000000 in
theorem zb_Reader_add_0 (x0 : Nat) (x1 : Nat) (x2 : Int32) (h : zH) : zRun zCode kReader_add 0 [.ref x0, .ref x1, .int x2] [] h =
    (zVI (zAt h x0 3 5)).bind fun v1 =>
    (zVI (zAt h x0 3 6)).bind fun v2 =>
    if (h.2.2 x1).1 = 1 then
      (zCall zCode kProgram_add [.ref x1, .int x2, .int v1, .int v2] h).bind (zRV fun h3 =>
        if (h3.2.2 x1).1 = 1 then
          (zCall zCode kProgram_size [.ref x1] h3).bind (zRI fun r5 h4 =>
            (zVI (zAt h4 x0 3 7)).bind fun v6 =>
            (zVL (zAt h4 x0 3 8)).bind fun v7 =>
            if (h4.2.2 x1).1 = 1 then
              (zCall zCode kProgram_setFirst [.ref x1, .int (r5 - (zi 1)), .int v6, .long v7] h4).bind (zRV fun h8 =>
                if (h8.2.2 x1).1 = 1 then
                  (zCall zCode kProgram_size [.ref x1] h8).bind (zRI fun r10 h9 =>
                    (zVI (zAt h9 x0 3 9)).bind fun v11 =>
                    (zVL (zAt h9 x0 3 10)).bind fun v12 =>
                    if (h9.2.2 x1).1 = 1 then
                      (zCall zCode kProgram_setSecond [.ref x1, .int (r10 - (zi 1)), .int v11, .long v12] h9).bind (zRV fun h13 =>
                        (zB (zi 1)).bind fun b14 =>
                        some (.inl (some (.int b14), h13)))
                    else
                      none)
                else
                  none)
            else
              none)
        else
          none)
    else
      none
  := (zRun_eb [] 400 0 _ _ _).trans rfl
set_option maxRecDepth 100000 in
set_option maxHeartbeats 4000000 in
theorem zb_Program_add_0 (x0 : Nat) (x1 : Int32) (x2 : Int32) (x3 : Int32) (h : zH) : zRun zCode kProgram_add 0 [.ref x0, .int x1, .int x2, .int x3] [] h =
    (zVI (zAt h x0 1 12)).bind fun v1 =>
    if v1 < 0 then
      some (.inl (none, h))
    else
      (zVI (zAt h x0 1 12)).bind fun v2 =>
      if v2 < (zi 80) then
        (zVA (zAt h x0 1 0)).bind fun a3 =>
        (zVI (zAt h x0 1 12)).bind fun v4 =>
        (zIx h a3 100 v4).bind fun j5 =>
        (zPut h a3 100 j5 (.int x1)).bind fun h6 =>
        (zVA (zAt h6 x0 1 1)).bind fun a7 =>
        (zVI (zAt h6 x0 1 12)).bind fun v8 =>
        (zIx h6 a7 100 v8).bind fun j9 =>
        (zPut h6 a7 100 j9 (.int x2)).bind fun h10 =>
        (zVA (zAt h10 x0 1 2)).bind fun a11 =>
        (zVI (zAt h10 x0 1 12)).bind fun v12 =>
        (zIx h10 a11 100 v12).bind fun j13 =>
        (zPut h10 a11 100 j13 (.int x3)).bind fun h14 =>
        (zVI (zAt h14 x0 1 12)).bind fun v15 =>
        (zPut h14 x0 1 12 (.int (v15 + (zi 1)))).bind fun h16 =>
        some (.inl (none, h16))
      else
        some (.inl (none, h))
  := (zRun_eb [] 400 0 _ _ _).trans rfl
set_option maxRecDepth 100000 in
set_option maxHeartbeats 4000000 in
theorem zb_Program_setFirst_0 (x0 : Nat) (x1 : Int32) (x2 : Int32) (x3 : Int64) (h : zH) : zRun zCode kProgram_setFirst 0 [.ref x0, .int x1, .int x2, .long x3, .retAddr 0] [] h =
    if (h.2.2 x0).1 = 1 then
      (zCall zCode kProgram_has [.ref x0, .int x1] h).bind (zRI fun r2 h1 =>
        if r2 = 0 then
          some (.inl (none, h1))
        else
          (zVA (zAt h1 x0 1 3)).bind fun a3 =>
          (zIx h1 a3 100 x1).bind fun j4 =>
          (zPut h1 a3 100 j4 (.int x2)).bind fun h5 =>
          (zVA (zAt h5 x0 1 5)).bind fun a6 =>
          (zIx h5 a6 101 x1).bind fun j7 =>
          (zPut h5 a6 101 j7 (.long x3)).bind fun h8 =>
          some (.inl (none, h8)))
    else
      none
  := (zRun_eb [] 400 0 _ _ _).trans rfl
set_option maxRecDepth 100000 in
set_option maxHeartbeats 4000000 in
theorem zb_Program_has_0 (x0 : Nat) (x1 : Int32) (h : zH) : zRun zCode kProgram_has 0 [.ref x0, .int x1] [] h =
    if x1 < 0 then
      (zB (zi 0)).bind fun b1 =>
      some (.inl (some (.int b1), h))
    else
      (zVI (zAt h x0 1 12)).bind fun v2 =>
      if x1 < v2 then
        if x1 < (zi 80) then
          (zB (zi 1)).bind fun b5 =>
          some (.inl (some (.int b5), h))
        else
          (zB (zi 0)).bind fun b4 =>
          some (.inl (some (.int b4), h))
      else
        (zB (zi 0)).bind fun b3 =>
        some (.inl (some (.int b3), h))
  := (zRun_eb [] 400 0 _ _ _).trans rfl
set_option maxRecDepth 100000 in
set_option maxHeartbeats 4000000 in
theorem zb_Program_setSecond_0 (x0 : Nat) (x1 : Int32) (x2 : Int32) (x3 : Int64) (h : zH) : zRun zCode kProgram_setSecond 0 [.ref x0, .int x1, .int x2, .long x3, .retAddr 0] [] h =
    if (h.2.2 x0).1 = 1 then
      (zCall zCode kProgram_has [.ref x0, .int x1] h).bind (zRI fun r2 h1 =>
        if r2 = 0 then
          some (.inl (none, h1))
        else
          (zVA (zAt h1 x0 1 4)).bind fun a3 =>
          (zIx h1 a3 100 x1).bind fun j4 =>
          (zPut h1 a3 100 j4 (.int x2)).bind fun h5 =>
          (zVA (zAt h5 x0 1 6)).bind fun a6 =>
          (zIx h5 a6 101 x1).bind fun j7 =>
          (zPut h5 a6 101 j7 (.long x3)).bind fun h8 =>
          some (.inl (none, h8)))
    else
      none
  := (zRun_eb [] 400 0 _ _ _).trans rfl
set_option maxRecDepth 100000 in
set_option maxHeartbeats 4000000 in
theorem zb_Reader_take_0 (x0 : Nat) (x1 : Int32) (h : zH) : zRun zCode kReader_take 0 [.ref x0, .int x1] [] h =
    (zVA (zAt h x0 3 0)).bind fun a1 =>
    if (h.2.2 a1).1 = 4 then
      (zCall zCode kTokens_kind [.ref a1] h).bind (zRI fun r3 h2 =>
        if r3 = x1 then
          (zVA (zAt h2 x0 3 0)).bind fun a4 =>
          if (h2.2.2 a4).1 = 4 then
            (zCall zCode kTokens_toNext [.ref a4] h2).bind (zRV fun h5 =>
              (zB (zi 1)).bind fun b6 =>
              some (.inl (some (.int b6), h5)))
          else
            none
        else
          (zVA (zAt h2 x0 3 0)).bind fun a7 =>
          if (h2.2.2 a7).1 = 4 then
            (zCall zCode kTokens_start [.ref a7] h2).bind (zRI fun r9 h8 =>
              if (h8.2.2 x0).1 = 3 then
                (zCall zCode kReader_fail [.ref x0, .int (zi 1), .int r9] h8).bind (zRI fun r11 h10 =>
                  (zB r11).bind fun b12 =>
                  some (.inl (some (.int b12), h10)))
              else
                none)
          else
            none)
    else
      none
  := (zRun_eb [] 400 0 _ _ _).trans rfl
set_option maxRecDepth 100000 in
set_option maxHeartbeats 4000000 in
theorem zb_Reader_readValue_0 (x0 : Nat) (h : zH) : zRun zCode kReader_readValue 0 [.ref x0, .retAddr 0] [] h =
    (zPut h x0 3 11 (.int (zi (-1)))).bind fun h1 =>
    (zPut h1 x0 3 12 (.long (zl 0))).bind fun h2 =>
    (zVA (zAt h2 x0 3 0)).bind fun a3 =>
    if (h2.2.2 a3).1 = 4 then
      (zCall zCode kTokens_kind [.ref a3] h2).bind (zRI fun r5 h4 =>
        if r5 = (zi 3) then
          (zVA (zAt h4 x0 3 1)).bind fun a13 =>
          if (h4.2.2 x0).1 = 3 then
            (zCall zCode kReader_takeName [.ref x0, .ref a13] h4).bind (zRI fun r15 h14 =>
              (zPut h14 x0 3 11 (.int r15)).bind fun h16 =>
              (zVI (zAt h16 x0 3 11)).bind fun v17 =>
              if v17 < 0 then
                (zB (zi 0)).bind fun b18 =>
                some (.inl (some (.int b18), h16))
              else
                (zB (zi 1)).bind fun b19 =>
                some (.inl (some (.int b19), h16)))
          else
            none
        else
          (zVA (zAt h4 x0 3 0)).bind fun a6 =>
          if (h4.2.2 a6).1 = 4 then
            (zCall zCode kTokens_kind [.ref a6] h4).bind (zRI fun r8 h7 =>
              if r8 = (zi 45) then
                if (zi 1) = 0 then
                  zRun zCode kReader_readValue 38 [.ref x0, .int (zi 1)] [] h7
                else
                  (zVA (zAt h7 x0 3 0)).bind fun a11 =>
                  if (h7.2.2 a11).1 = 4 then
                    (zCall zCode kTokens_toNext [.ref a11] h7).bind (zRV fun h12 =>
                      zRun zCode kReader_readValue 38 [.ref x0, .int (zi 1)] [] h12)
                  else
                    none
              else
                if (zi 0) = 0 then
                  zRun zCode kReader_readValue 38 [.ref x0, .int (zi 0)] [] h7
                else
                  (zVA (zAt h7 x0 3 0)).bind fun a9 =>
                  if (h7.2.2 a9).1 = 4 then
                    (zCall zCode kTokens_toNext [.ref a9] h7).bind (zRV fun h10 =>
                      zRun zCode kReader_readValue 38 [.ref x0, .int (zi 0)] [] h10)
                  else
                    none)
          else
            none)
    else
      none
  := (zRun_eb [38] 400 0 _ _ _).trans rfl
set_option maxRecDepth 100000 in
set_option maxHeartbeats 4000000 in
theorem zb_Reader_readValue_38 (x0 : Nat) (x1 : Int32) (h : zH) : zRun zCode kReader_readValue 38 [.ref x0, .int x1] [] h =
    if x1 = 0 then
      (zVA (zAt h x0 3 0)).bind fun a1 =>
      if (h.2.2 a1).1 = 4 then
        (zCall zCode kTokens_content [.ref a1] h).bind (zRL fun r3 h2 =>
          (zPut h2 x0 3 12 (.long r3)).bind fun h4 =>
          if (h4.2.2 x0).1 = 3 then
            (zCall zCode kReader_take [.ref x0, .int (zi 2)] h4).bind (zRI fun r6 h5 =>
              (zB r6).bind fun b7 =>
              some (.inl (some (.int b7), h5)))
          else
            none)
      else
        none
    else
      (zVA (zAt h x0 3 0)).bind fun a8 =>
      if (h.2.2 a8).1 = 4 then
        (zCall zCode kTokens_content [.ref a8] h).bind (zRL fun r10 h9 =>
          (zPut h9 x0 3 12 (.long (-r10))).bind fun h11 =>
          if (h11.2.2 x0).1 = 3 then
            (zCall zCode kReader_take [.ref x0, .int (zi 2)] h11).bind (zRI fun r13 h12 =>
              (zB r13).bind fun b14 =>
              some (.inl (some (.int b14), h12)))
          else
            none)
      else
        none
  := (zRun_eb [38] 400 38 _ _ _).trans rfl
set_option maxRecDepth 100000 in
set_option maxHeartbeats 4000000 in
theorem zb_Reader_takeName_0 (x0 : Nat) (x1 : Nat) (h : zH) : zRun zCode kReader_takeName 0 [.ref x0, .ref x1, .retAddr 0] [] h =
    (zVA (zAt h x0 3 0)).bind fun a1 =>
    if (h.2.2 a1).1 = 4 then
      (zCall zCode kTokens_kind [.ref a1] h).bind (zRI fun r3 h2 =>
        if r3 = (zi 3) then
          (zVA (zAt h2 x0 3 0)).bind fun a4 =>
          if (h2.2.2 a4).1 = 4 then
            (zCall zCode kTokens_content [.ref a4] h2).bind (zRL fun r6 h5 =>
              (zVA (zAt h5 x0 3 0)).bind fun a7 =>
              if (h5.2.2 a7).1 = 4 then
                (zCall zCode kTokens_start [.ref a7] h5).bind (zRI fun r9 h8 =>
                  if (h8.2.2 x1).1 = 5 then
                    (zCall zCode kNames_find [.ref x1, .long r6, .int r9] h8).bind (zRI fun r11 h10 =>
                      if r11 < 0 then
                        (zVA (zAt h10 x0 3 0)).bind fun a14 =>
                        if (h10.2.2 a14).1 = 4 then
                          (zCall zCode kTokens_start [.ref a14] h10).bind (zRI fun r16 h15 =>
                            if (h15.2.2 x0).1 = 3 then
                              (zCall zCode kReader_fail [.ref x0, .int (zi 2), .int r16] h15).bind (zRI fun r18 h17 =>
                                some (.inl (some (.int (zi (-1))), h17)))
                            else
                              none)
                        else
                          none
                      else
                        (zVA (zAt h10 x0 3 0)).bind fun a12 =>
                        if (h10.2.2 a12).1 = 4 then
                          (zCall zCode kTokens_toNext [.ref a12] h10).bind (zRV fun h13 =>
                            some (.inl (some (.int r11), h13)))
                        else
                          none)
                  else
                    none)
              else
                none)
          else
            none
        else
          (zVA (zAt h2 x0 3 0)).bind fun a19 =>
          if (h2.2.2 a19).1 = 4 then
            (zCall zCode kTokens_start [.ref a19] h2).bind (zRI fun r21 h20 =>
              if (h20.2.2 x0).1 = 3 then
                (zCall zCode kReader_fail [.ref x0, .int (zi 1), .int r21] h20).bind (zRI fun r23 h22 =>
                  some (.inl (some (.int (zi (-1))), h22)))
              else
                none)
          else
            none)
    else
      none
  := (zRun_eb [] 400 0 _ _ _).trans rfl
set_option maxRecDepth 100000 in
set_option maxHeartbeats 4000000 in
theorem zb_Reader_keepFirst_0 (x0 : Nat) (h : zH) : zRun zCode kReader_keepFirst 0 [.ref x0] [] h =
    (zVI (zAt h x0 3 11)).bind fun v1 =>
    (zPut h x0 3 7 (.int v1)).bind fun h2 =>
    (zVL (zAt h2 x0 3 12)).bind fun v3 =>
    (zPut h2 x0 3 8 (.long v3)).bind fun h4 =>
    (zB (zi 1)).bind fun b5 =>
    some (.inl (some (.int b5), h4))
  := (zRun_eb [] 400 0 _ _ _).trans rfl
set_option maxRecDepth 100000 in
set_option maxHeartbeats 4000000 in
theorem zb_Reader_keepSecond_0 (x0 : Nat) (h : zH) : zRun zCode kReader_keepSecond 0 [.ref x0] [] h =
    (zVI (zAt h x0 3 11)).bind fun v1 =>
    (zPut h x0 3 9 (.int v1)).bind fun h2 =>
    (zVL (zAt h2 x0 3 12)).bind fun v3 =>
    (zPut h2 x0 3 10 (.long v3)).bind fun h4 =>
    (zB (zi 1)).bind fun b5 =>
    some (.inl (some (.int b5), h4))
  := (zRun_eb [] 400 0 _ _ _).trans rfl
set_option maxRecDepth 100000 in
set_option maxHeartbeats 4000000 in
theorem zb_Reader_readName_0 (x0 : Nat) (x1 : Nat) (h : zH) : zRun zCode kReader_readName 0 [.ref x0, .ref x1] [] h =
    if (h.2.2 x0).1 = 3 then
      (zCall zCode kReader_takeName [.ref x0, .ref x1] h).bind (zRI fun r2 h1 =>
        (zPut h1 x0 3 5 (.int r2)).bind fun h3 =>
        (zVI (zAt h3 x0 3 5)).bind fun v4 =>
        if v4 < 0 then
          (zB (zi 0)).bind fun b5 =>
          some (.inl (some (.int b5), h3))
        else
          (zB (zi 1)).bind fun b6 =>
          some (.inl (some (.int b6), h3)))
    else
      none
  := (zRun_eb [] 400 0 _ _ _).trans rfl
set_option maxRecDepth 100000 in
set_option maxHeartbeats 4000000 in
theorem zb_Names_firstUnset_0 (x0 : Nat) (h : zH) : zRun zCode kNames_firstUnset 0 [.ref x0, .retAddr 0] [] h =
    zRun zCode kNames_firstUnset 2 [.ref x0, .int (zi 0)] [] h
  := (zRun_eb [2] 400 0 _ _ _).trans rfl
set_option maxRecDepth 100000 in
set_option maxHeartbeats 4000000 in
theorem zb_Names_firstUnset_2 (x0 : Nat) (x1 : Int32) (h : zH) : zRun zCode kNames_firstUnset 2 [.ref x0, .int x1] [] h =
    (zVI (zAt h x0 5 3)).bind fun v1 =>
    if x1 < v1 then
      (zVA (zAt h x0 5 2)).bind fun a2 =>
      if 100 ≤ (h.2.2 a2).1 then
        if x1 < ((h.2.2 a2).2.length.toInt32) then
          (zVA (zAt h x0 5 2)).bind fun a3 =>
          (zIx h a3 102 x1).bind fun j4 =>
          (zVI (zAt h a3 102 j4)).bind fun v5 =>
          if v5 = 0 then
            (zVA (zAt h x0 5 1)).bind fun a6 =>
            (zIx h a6 100 x1).bind fun j7 =>
            (zVI (zAt h a6 100 j7)).bind fun v8 =>
            some (.inl (some (.int v8), h))
          else
            zRun zCode kNames_firstUnset 2 [.ref x0, .int (x1 + zi 1)] [] h
        else
          some (.inl (some (.int (zi (-1))), h))
      else
        none
    else
      some (.inl (some (.int (zi (-1))), h))
  := (zRun_eb [2] 400 2 _ _ _).trans rfl
set_option maxRecDepth 100000 in
set_option maxHeartbeats 4000000 in
theorem zb_Names_size_0 (x0 : Nat) (h : zH) : zRun zCode kNames_size 0 [.ref x0] [] h =
    (zVI (zAt h x0 5 3)).bind fun v1 =>
    some (.inl (some (.int v1), h))
  := (zRun_eb [] 400 0 _ _ _).trans rfl
set_option maxRecDepth 100000 in
set_option maxHeartbeats 4000000 in
theorem zb_Program_setNames_0 (x0 : Nat) (x1 : Int32) (x2 : Int32) (h : zH) : zRun zCode kProgram_setNames 0 [.ref x0, .int x1, .int x2] [] h =
    (zPut h x0 1 13 (.int x1)).bind fun h1 =>
    (zPut h1 x0 1 14 (.int x2)).bind fun h2 =>
    some (.inl (none, h2))
  := (zRun_eb [] 400 0 _ _ _).trans rfl
set_option maxRecDepth 100000 in
set_option maxHeartbeats 4000000 in
theorem zb_PassForge_accept_0 (x0 : Nat) (x1 : Nat) (h : zH) : zRun zCode kPassForge_accept 0 [.ref x0, .ref x1] [] h =
    (zVA (zAt h x0 0 4)).bind fun a1 =>
    if (h.2.2 a1).1 = 6 then
      (zCall zCode kFlow_measure [.ref a1, .ref x1] h).bind (zRV fun h2 =>
        (zVI (zAt h2 x0 0 1)).bind fun v3 =>
        (zPut h2 x0 0 1 (.int (v3 + (zi 1)))).bind fun h4 =>
        some (.inl (none, h4)))
    else
      none
  := (zRun_eb [] 400 0 _ _ _).trans rfl
set_option maxRecDepth 100000 in
set_option maxHeartbeats 4000000 in
theorem zb_Flow_measure_0 (x0 : Nat) (x1 : Nat) (h : zH) : zRun zCode kFlow_measure 0 [.ref x0, .ref x1, .retAddr 0, .retAddr 0, .retAddr 0, .retAddr 0] [] h =
    if (h.2.2 x0).1 = 6 then
      (zCall zCode kFlow_look [.ref x0, .ref x1] h).bind (zRV fun h1 =>
        zRun zCode kFlow_measure 11 [.ref x0, .ref x1, .int (zi 0), .int (zi 0), .int (zi 0), .int (zi 0)] [] h1)
    else
      none
  := (zRun_eb [11, 33] 400 0 _ _ _).trans rfl
set_option maxRecDepth 100000 in
set_option maxHeartbeats 4000000 in
theorem zb_Flow_measure_11 (x0 : Nat) (x1 : Nat) (x2 : Int32) (x3 : Int32) (x4 : Int32) (x5 : Int32) (h : zH) : zRun zCode kFlow_measure 11 [.ref x0, .ref x1, .int x2, .int x3, .int x4, .int x5] [] h =
    if (h.2.2 x1).1 = 1 then
      (zCall zCode kProgram_size [.ref x1] h).bind (zRI fun r2 h1 =>
        if x5 < r2 then
          if (h1.2.2 x1).1 = 1 then
            (zCall zCode kProgram_startsBlock [.ref x1, .int x5] h1).bind (zRI fun r5 h4 =>
              if r5 = 0 then
                if (h4.2.2 x1).1 = 1 then
                  (zCall zCode kProgram_loopEnd [.ref x1, .int x5] h4).bind (zRI fun r7 h6 =>
                    if r7 < 0 then
                      zRun zCode kFlow_measure 33 [.ref x0, .ref x1, .int (x2 + (zi 0)), .retAddr 0, .int x4, .int x5] [.int (zi 0), .int x3] h6
                    else
                      zRun zCode kFlow_measure 33 [.ref x0, .ref x1, .int (x2 + (zi 0)), .retAddr 0, .int x4, .int x5] [.int (zi 1), .int x3] h6)
                else
                  none
              else
                if (h4.2.2 x1).1 = 1 then
                  (zCall zCode kProgram_loopEnd [.ref x1, .int x5] h4).bind (zRI fun r9 h8 =>
                    if r9 < 0 then
                      zRun zCode kFlow_measure 33 [.ref x0, .ref x1, .int (x2 + (zi 1)), .retAddr 0, .int x4, .int x5] [.int (zi 0), .int x3] h8
                    else
                      zRun zCode kFlow_measure 33 [.ref x0, .ref x1, .int (x2 + (zi 1)), .retAddr 0, .int x4, .int x5] [.int (zi 1), .int x3] h8)
                else
                  none)
          else
            none
        else
          if (h1.2.2 x1).1 = 1 then
            (zCall zCode kProgram_setMeasures [.ref x1, .int x2, .int x3, .int x4] h1).bind (zRV fun h3 =>
              some (.inl (none, h3)))
          else
            none)
    else
      none
  := (zRun_eb [11, 33] 400 11 _ _ _).trans rfl
set_option maxRecDepth 100000 in
set_option maxHeartbeats 4000000 in
theorem zb_Flow_measure_33 (x0 : Nat) (x1 : Nat) (x2 : Int32) (x4 : Int32) (x5 : Int32) (y0 : Int32) (y1 : Int32) (h : zH) : zRun zCode kFlow_measure 33 [.ref x0, .ref x1, .int x2, .retAddr 0, .int x4, .int x5] [.int y0, .int y1] h =
    if (h.2.2 x0).1 = 6 then
      (zCall zCode kFlow_reaches [.ref x0, .int x5] h).bind (zRI fun r2 h1 =>
        if r2 = 0 then
          if (h1.2.2 x0).1 = 6 then
            (zCall zCode kFlow_liveBehind [.ref x0, .int x5] h1).bind (zRI fun r4 h3 =>
              if (h3.2.2 x1).1 = 1 then
                (zCall zCode kProgram_setLive [.ref x1, .int x5, .int r4] h3).bind (zRV fun h5 =>
                  zRun zCode kFlow_measure 11 [.ref x0, .ref x1, .int x2, .int (y1 + y0), .int (x4 + (zi 1)), .int (x5 + zi 1)] [] h5)
              else
                none)
          else
            none
        else
          if (h1.2.2 x0).1 = 6 then
            (zCall zCode kFlow_liveBehind [.ref x0, .int x5] h1).bind (zRI fun r7 h6 =>
              if (h6.2.2 x1).1 = 1 then
                (zCall zCode kProgram_setLive [.ref x1, .int x5, .int r7] h6).bind (zRV fun h8 =>
                  zRun zCode kFlow_measure 11 [.ref x0, .ref x1, .int x2, .int (y1 + y0), .int (x4 + (zi 0)), .int (x5 + zi 1)] [] h8)
              else
                none)
          else
            none)
    else
      none
  := (zRun_eb [11, 33] 400 33 _ _ _).trans rfl
set_option maxRecDepth 100000 in
set_option maxHeartbeats 4000000 in
theorem zb_Flow_look_0 (x0 : Nat) (x1 : Nat) (h : zH) : zRun zCode kFlow_look 0 [.ref x0, .ref x1, .retAddr 0, .retAddr 0] [] h =
    if (h.2.2 x1).1 = 1 then
      (zCall zCode kProgram_link [.ref x1] h).bind (zRV fun h1 =>
        zRun zCode kFlow_look 4 [.ref x0, .ref x1, .int (zi 0), .retAddr 0] [] h1)
    else
      none
  := (zRun_eb [4, 33, 48] 400 0 _ _ _).trans rfl
set_option maxRecDepth 100000 in
set_option maxHeartbeats 4000000 in
theorem zb_Flow_look_4 (x0 : Nat) (x1 : Nat) (x2 : Int32) (h : zH) : zRun zCode kFlow_look 4 [.ref x0, .ref x1, .int x2, .retAddr 0] [] h =
    if x2 < (zi 80) then
      (zVA (zAt h x0 6 0)).bind fun a3 =>
      (zB (zi 0)).bind fun b6 =>
      (zIx h a3 102 x2).bind fun j4 =>
      (zPut h a3 102 j4 (.int b6)).bind fun h5 =>
      (zVA (zAt h5 x0 6 1)).bind fun a7 =>
      (zIx h5 a7 100 x2).bind fun j8 =>
      (zPut h5 a7 100 j8 (.int (zi 0))).bind fun h9 =>
      (zVA (zAt h9 x0 6 2)).bind fun a10 =>
      (zIx h9 a10 100 x2).bind fun j11 =>
      (zPut h9 a10 100 j11 (.int (zi 0))).bind fun h12 =>
      zRun zCode kFlow_look 4 [.ref x0, .ref x1, .int (x2 + zi 1), .retAddr 0] [] h12
    else
      if (h.2.2 x0).1 = 6 then
        (zCall zCode kFlow_reach [.ref x0, .ref x1, .int (zi 0)] h).bind (zRI fun r2 h1 =>
          zRun zCode kFlow_look 33 [.ref x0, .ref x1, .int (zi 1), .int (zi 0)] [] h1)
      else
        none
  := (zRun_eb [4, 33, 48] 400 4 _ _ _).trans rfl
set_option maxRecDepth 100000 in
set_option maxHeartbeats 4000000 in
theorem zb_Flow_look_33 (x0 : Nat) (x1 : Nat) (x2 : Int32) (x3 : Int32) (h : zH) : zRun zCode kFlow_look 33 [.ref x0, .ref x1, .int x2, .int x3] [] h =
    if x2 = 0 then
      zRun zCode kFlow_look 48 [.ref x0, .ref x1, .int (zi 1), .int (zi 0)] [] h
    else
      if x3 < (zi 1000000) then
        if (h.2.2 x0).1 = 6 then
          (zCall zCode kFlow_goForward [.ref x0, .ref x1] h).bind (zRI fun r2 h1 =>
            zRun zCode kFlow_look 33 [.ref x0, .ref x1, .int r2, .int (x3 + zi 1)] [] h1)
        else
          none
      else
        zRun zCode kFlow_look 48 [.ref x0, .ref x1, .int (zi 1), .int (zi 0)] [] h
  := (zRun_eb [4, 33, 48] 400 33 _ _ _).trans rfl
set_option maxRecDepth 100000 in
set_option maxHeartbeats 4000000 in
theorem zb_Flow_look_48 (x0 : Nat) (x1 : Nat) (x2 : Int32) (x3 : Int32) (h : zH) : zRun zCode kFlow_look 48 [.ref x0, .ref x1, .int x2, .int x3] [] h =
    if x2 = 0 then
      some (.inl (none, h))
    else
      if x3 < (zi 1000000) then
        if (h.2.2 x0).1 = 6 then
          (zCall zCode kFlow_goBackward [.ref x0, .ref x1] h).bind (zRI fun r2 h1 =>
            zRun zCode kFlow_look 48 [.ref x0, .ref x1, .int r2, .int (x3 + zi 1)] [] h1)
        else
          none
      else
        some (.inl (none, h))
  := (zRun_eb [4, 33, 48] 400 48 _ _ _).trans rfl
set_option maxRecDepth 100000 in
set_option maxHeartbeats 4000000 in
theorem zb_Program_link_0 (x0 : Nat) (h : zH) : zRun zCode kProgram_link 0 [.ref x0, .retAddr 0, .retAddr 0, .retAddr 0] [] h =
    zRun zCode kProgram_link 2 [.ref x0, .int (zi 0), .retAddr 0, .retAddr 0] [] h
  := (zRun_eb [2, 20, 46, 73, 86] 400 0 _ _ _).trans rfl
set_option maxRecDepth 100000 in
set_option maxHeartbeats 4000000 in
theorem zb_Program_link_2 (x0 : Nat) (x1 : Int32) (h : zH) : zRun zCode kProgram_link 2 [.ref x0, .int x1, .retAddr 0, .retAddr 0] [] h =
    if x1 < (zi 12) then
      (zVA (zAt h x0 1 9)).bind fun a1 =>
      (zVI (zAt h x0 1 12)).bind fun v2 =>
      (zIx h a1 100 x1).bind fun j3 =>
      (zPut h a1 100 j3 (.int v2)).bind fun h4 =>
      (zVA (zAt h4 x0 1 10)).bind fun a5 =>
      (zIx h4 a5 100 x1).bind fun j6 =>
      (zPut h4 a5 100 j6 (.int (zi 0))).bind fun h7 =>
      zRun zCode kProgram_link 2 [.ref x0, .int (x1 + zi 1), .retAddr 0, .retAddr 0] [] h7
    else
      zRun zCode kProgram_link 20 [.ref x0, .int (zi 0), .retAddr 0, .retAddr 0] [] h
  := (zRun_eb [2, 20, 46, 73, 86] 400 2 _ _ _).trans rfl
set_option maxRecDepth 100000 in
set_option maxHeartbeats 4000000 in
theorem zb_Program_link_20 (x0 : Nat) (x1 : Int32) (h : zH) : zRun zCode kProgram_link 20 [.ref x0, .int x1, .retAddr 0, .retAddr 0] [] h =
    (zVI (zAt h x0 1 12)).bind fun v1 =>
    if x1 < v1 then
      if (h.2.2 x0).1 = 1 then
        (zCall zCode kProgram_targetAt [.ref x0, .int x1] h).bind (zRI fun r3 h2 =>
          if (h2.2.2 x0).1 = 1 then
            (zCall zCode kProgram_isLabel [.ref x0, .int x1] h2).bind (zRI fun r5 h4 =>
              if r5 = 0 then
                zRun zCode kProgram_link 20 [.ref x0, .int (x1 + zi 1), .retAddr 0, .retAddr 0] [] h4
              else
                if r3 < 0 then
                  zRun zCode kProgram_link 20 [.ref x0, .int (x1 + zi 1), .retAddr 0, .retAddr 0] [] h4
                else
                  if r3 < (zi 12) then
                    (zVA (zAt h4 x0 1 9)).bind fun a6 =>
                    (zIx h4 a6 100 r3).bind fun j7 =>
                    (zPut h4 a6 100 j7 (.int x1)).bind fun h8 =>
                    zRun zCode kProgram_link 20 [.ref x0, .int (x1 + zi 1), .retAddr 0, .retAddr 0] [] h8
                  else
                    zRun zCode kProgram_link 20 [.ref x0, .int (x1 + zi 1), .retAddr 0, .retAddr 0] [] h4)
          else
            none)
      else
        none
    else
      zRun zCode kProgram_link 46 [.ref x0, .int (zi 0), .retAddr 0, .retAddr 0] [] h
  := (zRun_eb [2, 20, 46, 73, 86] 400 20 _ _ _).trans rfl
set_option maxRecDepth 100000 in
set_option maxHeartbeats 4000000 in
theorem zb_Program_link_46 (x0 : Nat) (x1 : Int32) (h : zH) : zRun zCode kProgram_link 46 [.ref x0, .int x1, .retAddr 0, .retAddr 0] [] h =
    (zVI (zAt h x0 1 12)).bind fun v1 =>
    if x1 < v1 then
      (zVA (zAt h x0 1 11)).bind fun a2 =>
      if 100 ≤ (h.2.2 a2).1 then
        if x1 < ((h.2.2 a2).2.length.toInt32) then
          if (h.2.2 x0).1 = 1 then
            (zCall zCode kProgram_isJump [.ref x0, .int x1] h).bind (zRI fun r4 h3 =>
              if r4 = 0 then
                if (zi (-1)) < 0 then
                  zRun zCode kProgram_link 73 [.ref x0, .int x1, .int (zi (-1)), .retAddr 0] [.int (zi 0)] h3
                else
                  if (zi (-1)) < (zi 12) then
                    zRun zCode kProgram_link 73 [.ref x0, .int x1, .int (zi (-1)), .retAddr 0] [.int (zi 1)] h3
                  else
                    zRun zCode kProgram_link 73 [.ref x0, .int x1, .int (zi (-1)), .retAddr 0] [.int (zi 0)] h3
              else
                if (h3.2.2 x0).1 = 1 then
                  (zCall zCode kProgram_targetAt [.ref x0, .int x1] h3).bind (zRI fun r6 h5 =>
                    if r6 < 0 then
                      zRun zCode kProgram_link 73 [.ref x0, .int x1, .int r6, .retAddr 0] [.int (zi 0)] h5
                    else
                      if r6 < (zi 12) then
                        zRun zCode kProgram_link 73 [.ref x0, .int x1, .int r6, .retAddr 0] [.int (zi 1)] h5
                      else
                        zRun zCode kProgram_link 73 [.ref x0, .int x1, .int r6, .retAddr 0] [.int (zi 0)] h5)
                else
                  none)
          else
            none
        else
          some (.inl (none, h))
      else
        none
    else
      some (.inl (none, h))
  := (zRun_eb [2, 20, 46, 73, 86] 400 46 _ _ _).trans rfl
set_option maxRecDepth 100000 in
set_option maxHeartbeats 4000000 in
theorem zb_Program_link_73 (x0 : Nat) (x1 : Int32) (x2 : Int32) (y0 : Int32) (h : zH) : zRun zCode kProgram_link 73 [.ref x0, .int x1, .int x2, .retAddr 0] [.int y0] h =
    (zVA (zAt h x0 1 11)).bind fun a1 =>
    if y0 = 0 then
      (zVI (zAt h x0 1 12)).bind fun v2 =>
      zRun zCode kProgram_link 86 [.ref x0, .int x1, .int x2, .int y0] [.int v2, .int x1, .ref a1] h
    else
      (zVA (zAt h x0 1 9)).bind fun a3 =>
      (zIx h a3 100 x2).bind fun j4 =>
      (zVI (zAt h a3 100 j4)).bind fun v5 =>
      zRun zCode kProgram_link 86 [.ref x0, .int x1, .int x2, .int y0] [.int v5, .int x1, .ref a1] h
  := (zRun_eb [2, 20, 46, 73, 86] 400 73 _ _ _).trans rfl
set_option maxRecDepth 100000 in
set_option maxHeartbeats 4000000 in
theorem zb_Program_link_86 (x0 : Nat) (x1 : Int32) (x2 : Int32) (x3 : Int32) (y0 : Int32) (y1 : Int32) (y2 : Nat) (h : zH) : zRun zCode kProgram_link 86 [.ref x0, .int x1, .int x2, .int x3] [.int y0, .int y1, .ref y2] h =
    (zIx h y2 100 y1).bind fun j1 =>
    (zPut h y2 100 j1 (.int y0)).bind fun h2 =>
    if x3 = 0 then
      zRun zCode kProgram_link 46 [.ref x0, .int (x1 + zi 1), .retAddr 0, .retAddr 0] [] h2
    else
      (zVA (zAt h2 x0 1 10)).bind fun a3 =>
      (zIx h2 a3 100 x2).bind fun j4 =>
      (zVI (zAt h2 a3 100 j4)).bind fun v5 =>
      (zIx h2 a3 100 x2).bind fun j6 =>
      (zPut h2 a3 100 j6 (.int (v5 + (zi 1)))).bind fun h7 =>
      zRun zCode kProgram_link 46 [.ref x0, .int (x1 + zi 1), .retAddr 0, .retAddr 0] [] h7
  := (zRun_eb [2, 20, 46, 73, 86] 400 86 _ _ _).trans rfl
set_option maxRecDepth 100000 in
set_option maxHeartbeats 4000000 in
theorem zb_Program_isLabel_0 (x0 : Nat) (x1 : Int32) (h : zH) : zRun zCode kProgram_isLabel 0 [.ref x0, .int x1] [] h =
    if (h.2.2 x0).1 = 1 then
      (zCall zCode kProgram_sortAt [.ref x0, .int x1] h).bind (zRI fun r2 h1 =>
        if r2 = 0 then
          (zB (zi 1)).bind fun b4 =>
          some (.inl (some (.int b4), h1))
        else
          (zB (zi 0)).bind fun b3 =>
          some (.inl (some (.int b3), h1)))
    else
      none
  := (zRun_eb [] 400 0 _ _ _).trans rfl
set_option maxRecDepth 100000 in
set_option maxHeartbeats 4000000 in
theorem zb_Program_isJump_0 (x0 : Nat) (x1 : Int32) (h : zH) : zRun zCode kProgram_isJump 0 [.ref x0, .int x1, .retAddr 0] [] h =
    if (h.2.2 x0).1 = 1 then
      (zCall zCode kProgram_sortAt [.ref x0, .int x1] h).bind (zRI fun r2 h1 =>
        if r2 = (zi 3) then
          (zB (zi 1)).bind fun b3 =>
          some (.inl (some (.int b3), h1))
        else
          if r2 = (zi 4) then
            (zB (zi 1)).bind fun b5 =>
            some (.inl (some (.int b5), h1))
          else
            (zB (zi 0)).bind fun b4 =>
            some (.inl (some (.int b4), h1)))
    else
      none
  := (zRun_eb [] 400 0 _ _ _).trans rfl
set_option maxRecDepth 100000 in
set_option maxHeartbeats 4000000 in
theorem zb_Flow_reach_0 (x0 : Nat) (x1 : Nat) (x2 : Int32) (h : zH) : zRun zCode kFlow_reach 0 [.ref x0, .ref x1, .int x2] [] h =
    if (h.2.2 x1).1 = 1 then
      (zCall zCode kProgram_has [.ref x1, .int x2] h).bind (zRI fun r2 h1 =>
        if r2 = 0 then
          (zB (zi 0)).bind fun b3 =>
          some (.inl (some (.int b3), h1))
        else
          (zVA (zAt h1 x0 6 0)).bind fun a4 =>
          if 100 ≤ (h1.2.2 a4).1 then
            if x2 < ((h1.2.2 a4).2.length.toInt32) then
              (zVA (zAt h1 x0 6 0)).bind fun a6 =>
              (zIx h1 a6 102 x2).bind fun j7 =>
              (zVI (zAt h1 a6 102 j7)).bind fun v8 =>
              if v8 = 0 then
                (zVA (zAt h1 x0 6 0)).bind fun a9 =>
                (zB (zi 1)).bind fun b12 =>
                (zIx h1 a9 102 x2).bind fun j10 =>
                (zPut h1 a9 102 j10 (.int b12)).bind fun h11 =>
                (zB (zi 1)).bind fun b13 =>
                some (.inl (some (.int b13), h11))
              else
                (zB (zi 0)).bind fun b14 =>
                some (.inl (some (.int b14), h1))
            else
              (zB (zi 0)).bind fun b5 =>
              some (.inl (some (.int b5), h1))
          else
            none)
    else
      none
  := (zRun_eb [] 400 0 _ _ _).trans rfl
set_option maxRecDepth 100000 in
set_option maxHeartbeats 4000000 in
theorem zb_Flow_goForward_0 (x0 : Nat) (x1 : Nat) (h : zH) : zRun zCode kFlow_goForward 0 [.ref x0, .ref x1, .retAddr 0, .retAddr 0, .retAddr 0, .retAddr 0] [] h =
    zRun zCode kFlow_goForward 4 [.ref x0, .ref x1, .int (zi 0), .int (zi 0), .retAddr 0, .retAddr 0] [] h
  := (zRun_eb [4] 400 0 _ _ _).trans rfl
set_option maxRecDepth 100000 in
set_option maxHeartbeats 4000000 in
theorem zb_Flow_goForward_4 (x0 : Nat) (x1 : Nat) (x2 : Int32) (x3 : Int32) (h : zH) : zRun zCode kFlow_goForward 4 [.ref x0, .ref x1, .int x2, .int x3, .retAddr 0, .retAddr 0] [] h =
    if (h.2.2 x1).1 = 1 then
      (zCall zCode kProgram_size [.ref x1] h).bind (zRI fun r2 h1 =>
        if x3 < r2 then
          if (h1.2.2 x0).1 = 6 then
            (zCall zCode kFlow_reaches [.ref x0, .int x3] h1).bind (zRI fun r5 h4 =>
              if r5 = 0 then
                zRun zCode kFlow_goForward 4 [.ref x0, .ref x1, .int x2, .int (x3 + zi 1), .retAddr 0, .retAddr 0] [] h4
              else
                if (h4.2.2 x1).1 = 1 then
                  (zCall zCode kProgram_nextOf [.ref x1, .int x3] h4).bind (zRI fun r7 h6 =>
                    if (h6.2.2 x0).1 = 6 then
                      (zCall zCode kFlow_reach [.ref x0, .ref x1, .int r7] h6).bind (zRI fun r9 h8 =>
                        if (h8.2.2 x1).1 = 1 then
                          (zCall zCode kProgram_jumpOf [.ref x1, .int x3] h8).bind (zRI fun r11 h10 =>
                            if (h10.2.2 x0).1 = 6 then
                              (zCall zCode kFlow_reach [.ref x0, .ref x1, .int r11] h10).bind (zRI fun r13 h12 =>
                                if x2 = 0 then
                                  if r9 = 0 then
                                    if r13 = 0 then
                                      zRun zCode kFlow_goForward 4 [.ref x0, .ref x1, .int (zi 0), .int (x3 + zi 1), .retAddr 0, .retAddr 0] [] h12
                                    else
                                      zRun zCode kFlow_goForward 4 [.ref x0, .ref x1, .int (zi 1), .int (x3 + zi 1), .retAddr 0, .retAddr 0] [] h12
                                  else
                                    zRun zCode kFlow_goForward 4 [.ref x0, .ref x1, .int (zi 1), .int (x3 + zi 1), .retAddr 0, .retAddr 0] [] h12
                                else
                                  zRun zCode kFlow_goForward 4 [.ref x0, .ref x1, .int (zi 1), .int (x3 + zi 1), .retAddr 0, .retAddr 0] [] h12)
                            else
                              none)
                        else
                          none)
                    else
                      none)
                else
                  none)
          else
            none
        else
          (zB x2).bind fun b3 =>
          some (.inl (some (.int b3), h1)))
    else
      none
  := (zRun_eb [4] 400 4 _ _ _).trans rfl
set_option maxRecDepth 100000 in
set_option maxHeartbeats 4000000 in
theorem zb_Flow_reaches_0 (x0 : Nat) (x1 : Int32) (h : zH) : zRun zCode kFlow_reaches 0 [.ref x0, .int x1] [] h =
    if x1 < 0 then
      (zB (zi 0)).bind fun b1 =>
      some (.inl (some (.int b1), h))
    else
      (zVA (zAt h x0 6 0)).bind fun a2 =>
      if 100 ≤ (h.2.2 a2).1 then
        if x1 < ((h.2.2 a2).2.length.toInt32) then
          (zVA (zAt h x0 6 0)).bind fun a4 =>
          (zIx h a4 102 x1).bind fun j5 =>
          (zVI (zAt h a4 102 j5)).bind fun v6 =>
          if v6 = 0 then
            (zB (zi 0)).bind fun b7 =>
            some (.inl (some (.int b7), h))
          else
            (zB (zi 1)).bind fun b8 =>
            some (.inl (some (.int b8), h))
        else
          (zB (zi 0)).bind fun b3 =>
          some (.inl (some (.int b3), h))
      else
        none
  := (zRun_eb [] 400 0 _ _ _).trans rfl
set_option maxRecDepth 100000 in
set_option maxHeartbeats 4000000 in
theorem zb_Program_nextOf_0 (x0 : Nat) (x1 : Int32) (h : zH) : zRun zCode kProgram_nextOf 0 [.ref x0, .int x1, .retAddr 0] [] h =
    if (h.2.2 x0).1 = 1 then
      (zCall zCode kProgram_sortAt [.ref x0, .int x1] h).bind (zRI fun r2 h1 =>
        if r2 = (zi 3) then
          (zVI (zAt h1 x0 1 12)).bind fun v3 =>
          some (.inl (some (.int v3), h1))
        else
          if r2 = (zi 7) then
            (zVI (zAt h1 x0 1 12)).bind fun v4 =>
            some (.inl (some (.int v4), h1))
          else
            some (.inl (some (.int (x1 + (zi 1))), h1)))
    else
      none
  := (zRun_eb [] 400 0 _ _ _).trans rfl
set_option maxRecDepth 100000 in
set_option maxHeartbeats 4000000 in
theorem zb_Program_jumpOf_0 (x0 : Nat) (x1 : Int32) (h : zH) : zRun zCode kProgram_jumpOf 0 [.ref x0, .int x1] [] h =
    if x1 < 0 then
      (zVI (zAt h x0 1 12)).bind fun v1 =>
      some (.inl (some (.int v1), h))
    else
      (zVI (zAt h x0 1 12)).bind fun v2 =>
      if x1 < v2 then
        (zVA (zAt h x0 1 11)).bind fun a4 =>
        if 100 ≤ (h.2.2 a4).1 then
          if x1 < ((h.2.2 a4).2.length.toInt32) then
            (zVA (zAt h x0 1 11)).bind fun a6 =>
            (zIx h a6 100 x1).bind fun j7 =>
            (zVI (zAt h a6 100 j7)).bind fun v8 =>
            some (.inl (some (.int v8), h))
          else
            (zVI (zAt h x0 1 12)).bind fun v5 =>
            some (.inl (some (.int v5), h))
        else
          none
      else
        (zVI (zAt h x0 1 12)).bind fun v3 =>
        some (.inl (some (.int v3), h))
  := (zRun_eb [] 400 0 _ _ _).trans rfl
set_option maxRecDepth 100000 in
set_option maxHeartbeats 4000000 in
theorem zb_Flow_goBackward_0 (x0 : Nat) (x1 : Nat) (h : zH) : zRun zCode kFlow_goBackward 0 [.ref x0, .ref x1, .retAddr 0, .retAddr 0, .retAddr 0, .retAddr 0] [] h =
    if (h.2.2 x1).1 = 1 then
      (zCall zCode kProgram_size [.ref x1] h).bind (zRI fun r2 h1 =>
        (zCall zCode kMath_min [.int r2, .int (zi 80)] h1).bind (zRI fun r4 h3 =>
          zRun zCode kFlow_goBackward 9 [.ref x0, .ref x1, .int (zi 0), .int (r4 - (zi 1)), .retAddr 0, .retAddr 0] [] h3))
    else
      none
  := (zRun_eb [9, 51] 400 0 _ _ _).trans rfl
set_option maxRecDepth 100000 in
set_option maxHeartbeats 4000000 in
theorem zb_Flow_goBackward_9 (x0 : Nat) (x1 : Nat) (x2 : Int32) (x3 : Int32) (h : zH) : zRun zCode kFlow_goBackward 9 [.ref x0, .ref x1, .int x2, .int x3, .retAddr 0, .retAddr 0] [] h =
    if x3 < 0 then
      (zB x2).bind fun b1 =>
      some (.inl (some (.int b1), h))
    else
      if (h.2.2 x1).1 = 1 then
        (zCall zCode kProgram_nextOf [.ref x1, .int x3] h).bind (zRI fun r3 h2 =>
          if (h2.2.2 x0).1 = 6 then
            (zCall zCode kFlow_aheadOf [.ref x0, .ref x1, .int r3] h2).bind (zRI fun r5 h4 =>
              if (h4.2.2 x1).1 = 1 then
                (zCall zCode kProgram_jumpOf [.ref x1, .int x3] h4).bind (zRI fun r7 h6 =>
                  if (h6.2.2 x0).1 = 6 then
                    (zCall zCode kFlow_aheadOf [.ref x0, .ref x1, .int r7] h6).bind (zRI fun r9 h8 =>
                      if (h8.2.2 x1).1 = 1 then
                        (zCall zCode kProgram_readSet [.ref x1, .int x3] h8).bind (zRI fun r11 h10 =>
                          if (h10.2.2 x1).1 = 1 then
                            (zCall zCode kProgram_assignedSet [.ref x1, .int x3] h10).bind (zRI fun r13 h12 =>
                              if x2 = 0 then
                                (zVA (zAt h12 x0 6 2)).bind fun a14 =>
                                (zIx h12 a14 100 x3).bind fun j15 =>
                                (zVI (zAt h12 a14 100 j15)).bind fun v16 =>
                                if (r5 ||| r9) = v16 then
                                  (zVA (zAt h12 x0 6 1)).bind fun a17 =>
                                  (zIx h12 a17 100 x3).bind fun j18 =>
                                  (zVI (zAt h12 a17 100 j18)).bind fun v19 =>
                                  if (r11 ||| ((r5 ||| r9) &&& (r13 ^^^ (zi (-1))))) = v19 then
                                    (zVA (zAt h12 x0 6 2)).bind fun a20 =>
                                    (zIx h12 a20 100 x3).bind fun j21 =>
                                    (zPut h12 a20 100 j21 (.int (r5 ||| r9))).bind fun h22 =>
                                    (zVA (zAt h22 x0 6 1)).bind fun a23 =>
                                    (zIx h22 a23 100 x3).bind fun j24 =>
                                    (zPut h22 a23 100 j24 (.int (r11 ||| ((r5 ||| r9) &&& (r13 ^^^ (zi (-1))))))).bind fun h25 =>
                                    zRun zCode kFlow_goBackward 9 [.ref x0, .ref x1, .int (zi 0), .int (x3 + zi (-1)), .retAddr 0, .retAddr 0] [] h25
                                  else
                                    zRun zCode kFlow_goBackward 51 [.ref x0, .ref x1, .retAddr 0, .int x3, .int (r5 ||| r9), .int (r11 ||| ((r5 ||| r9) &&& (r13 ^^^ (zi (-1)))))] [] h12
                                else
                                  zRun zCode kFlow_goBackward 51 [.ref x0, .ref x1, .retAddr 0, .int x3, .int (r5 ||| r9), .int (r11 ||| ((r5 ||| r9) &&& (r13 ^^^ (zi (-1)))))] [] h12
                              else
                                zRun zCode kFlow_goBackward 51 [.ref x0, .ref x1, .retAddr 0, .int x3, .int (r5 ||| r9), .int (r11 ||| ((r5 ||| r9) &&& (r13 ^^^ (zi (-1)))))] [] h12)
                          else
                            none)
                      else
                        none)
                  else
                    none)
              else
                none)
          else
            none)
      else
        none
  := (zRun_eb [9, 51] 400 9 _ _ _).trans rfl
set_option maxRecDepth 100000 in
set_option maxHeartbeats 4000000 in
theorem zb_Flow_goBackward_51 (x0 : Nat) (x1 : Nat) (x3 : Int32) (x4 : Int32) (x5 : Int32) (h : zH) : zRun zCode kFlow_goBackward 51 [.ref x0, .ref x1, .retAddr 0, .int x3, .int x4, .int x5] [] h =
    (zVA (zAt h x0 6 2)).bind fun a1 =>
    (zIx h a1 100 x3).bind fun j2 =>
    (zPut h a1 100 j2 (.int x4)).bind fun h3 =>
    (zVA (zAt h3 x0 6 1)).bind fun a4 =>
    (zIx h3 a4 100 x3).bind fun j5 =>
    (zPut h3 a4 100 j5 (.int x5)).bind fun h6 =>
    zRun zCode kFlow_goBackward 9 [.ref x0, .ref x1, .int (zi 1), .int (x3 + zi (-1)), .retAddr 0, .retAddr 0] [] h6
  := (zRun_eb [9, 51] 400 51 _ _ _).trans rfl
set_option maxRecDepth 100000 in
set_option maxHeartbeats 4000000 in
theorem zb_Flow_aheadOf_0 (x0 : Nat) (x1 : Nat) (x2 : Int32) (h : zH) : zRun zCode kFlow_aheadOf 0 [.ref x0, .ref x1, .int x2] [] h =
    if (h.2.2 x1).1 = 1 then
      (zCall zCode kProgram_has [.ref x1, .int x2] h).bind (zRI fun r2 h1 =>
        if r2 = 0 then
          some (.inl (some (.int (zi 0)), h1))
        else
          if (h1.2.2 x0).1 = 6 then
            (zCall zCode kFlow_liveAhead [.ref x0, .int x2] h1).bind (zRI fun r4 h3 =>
              some (.inl (some (.int r4), h3)))
          else
            none)
    else
      none
  := (zRun_eb [] 400 0 _ _ _).trans rfl
set_option maxRecDepth 100000 in
set_option maxHeartbeats 4000000 in
theorem zb_Flow_liveAhead_0 (x0 : Nat) (x1 : Int32) (h : zH) : zRun zCode kFlow_liveAhead 0 [.ref x0, .int x1] [] h =
    if x1 < 0 then
      some (.inl (some (.int (zi 0)), h))
    else
      (zVA (zAt h x0 6 1)).bind fun a1 =>
      if 100 ≤ (h.2.2 a1).1 then
        if x1 < ((h.2.2 a1).2.length.toInt32) then
          (zVA (zAt h x0 6 1)).bind fun a2 =>
          (zIx h a2 100 x1).bind fun j3 =>
          (zVI (zAt h a2 100 j3)).bind fun v4 =>
          some (.inl (some (.int v4), h))
        else
          some (.inl (some (.int (zi 0)), h))
      else
        none
  := (zRun_eb [] 400 0 _ _ _).trans rfl
set_option maxRecDepth 100000 in
set_option maxHeartbeats 4000000 in
theorem zb_Program_readSet_0 (x0 : Nat) (x1 : Int32) (h : zH) : zRun zCode kProgram_readSet 0 [.ref x0, .int x1] [] h =
    if (h.2.2 x0).1 = 1 then
      (zCall zCode kProgram_firstVariableAt [.ref x0, .int x1] h).bind (zRI fun r2 h1 =>
        (zCall zCode kProgram_setOf [.int r2] h1).bind (zRI fun r4 h3 =>
          if (h3.2.2 x0).1 = 1 then
            (zCall zCode kProgram_secondVariableAt [.ref x0, .int x1] h3).bind (zRI fun r6 h5 =>
              (zCall zCode kProgram_setOf [.int r6] h5).bind (zRI fun r8 h7 =>
                some (.inl (some (.int (r4 ||| r8)), h7))))
          else
            none))
    else
      none
  := (zRun_eb [] 400 0 _ _ _).trans rfl
set_option maxRecDepth 100000 in
set_option maxHeartbeats 4000000 in
theorem zb_Program_setOf_0 (x0 : Int32) (h : zH) : zRun zCode kProgram_setOf 0 [.int x0] [] h =
    if x0 < 0 then
      some (.inl (some (.int (zi 0)), h))
    else
      if x0 < (zi 12) then
        some (.inl (some (.int ((zi 1) <<< (x0 &&& 31))), h))
      else
        some (.inl (some (.int (zi 0)), h))
  := (zRun_eb [] 400 0 _ _ _).trans rfl
set_option maxRecDepth 100000 in
set_option maxHeartbeats 4000000 in
theorem zb_Program_assignedSet_0 (x0 : Nat) (x1 : Int32) (h : zH) : zRun zCode kProgram_assignedSet 0 [.ref x0, .int x1] [] h =
    if (h.2.2 x0).1 = 1 then
      (zCall zCode kProgram_assigned [.ref x0, .int x1] h).bind (zRI fun r2 h1 =>
        (zCall zCode kProgram_setOf [.int r2] h1).bind (zRI fun r4 h3 =>
          some (.inl (some (.int r4), h3))))
    else
      none
  := (zRun_eb [] 400 0 _ _ _).trans rfl
set_option maxRecDepth 100000 in
set_option maxHeartbeats 4000000 in
theorem zb_Program_assigned_0 (x0 : Nat) (x1 : Int32) (h : zH) : zRun zCode kProgram_assigned 0 [.ref x0, .int x1] [] h =
    if x1 < 0 then
      some (.inl (some (.int (zi (-1))), h))
    else
      (zVI (zAt h x0 1 12)).bind fun v1 =>
      if x1 < v1 then
        (zVA (zAt h x0 1 0)).bind fun a2 =>
        if 100 ≤ (h.2.2 a2).1 then
          if x1 < ((h.2.2 a2).2.length.toInt32) then
            (zVA (zAt h x0 1 1)).bind fun a3 =>
            if 100 ≤ (h.2.2 a3).1 then
              if x1 < ((h.2.2 a3).2.length.toInt32) then
                (zVA (zAt h x0 1 0)).bind fun a4 =>
                (zIx h a4 100 x1).bind fun j5 =>
                (zVI (zAt h a4 100 j5)).bind fun v6 =>
                if v6 = (zi 1) then
                  (zVA (zAt h x0 1 1)).bind fun a7 =>
                  (zIx h a7 100 x1).bind fun j8 =>
                  (zVI (zAt h a7 100 j8)).bind fun v9 =>
                  some (.inl (some (.int v9), h))
                else
                  (zVA (zAt h x0 1 0)).bind fun a10 =>
                  (zIx h a10 100 x1).bind fun j11 =>
                  (zVI (zAt h a10 100 j11)).bind fun v12 =>
                  if v12 = (zi 2) then
                    (zVA (zAt h x0 1 1)).bind fun a13 =>
                    (zIx h a13 100 x1).bind fun j14 =>
                    (zVI (zAt h a13 100 j14)).bind fun v15 =>
                    some (.inl (some (.int v15), h))
                  else
                    (zVA (zAt h x0 1 0)).bind fun a16 =>
                    (zIx h a16 100 x1).bind fun j17 =>
                    (zVI (zAt h a16 100 j17)).bind fun v18 =>
                    if v18 = (zi 5) then
                      (zVA (zAt h x0 1 1)).bind fun a19 =>
                      (zIx h a19 100 x1).bind fun j20 =>
                      (zVI (zAt h a19 100 j20)).bind fun v21 =>
                      some (.inl (some (.int v21), h))
                    else
                      some (.inl (some (.int (zi (-1))), h))
              else
                some (.inl (some (.int (zi (-1))), h))
            else
              none
          else
            some (.inl (some (.int (zi (-1))), h))
        else
          none
      else
        some (.inl (some (.int (zi (-1))), h))
  := (zRun_eb [] 400 0 _ _ _).trans rfl
set_option maxRecDepth 100000 in
set_option maxHeartbeats 4000000 in
theorem zb_Program_startsBlock_0 (x0 : Nat) (x1 : Int32) (h : zH) : zRun zCode kProgram_startsBlock 0 [.ref x0, .int x1] [] h =
    if x1 = 0 then
      (zB (zi 1)).bind fun b1 =>
      some (.inl (some (.int b1), h))
    else
      if (h.2.2 x0).1 = 1 then
        (zCall zCode kProgram_isLabel [.ref x0, .int x1] h).bind (zRI fun r3 h2 =>
          if r3 = 0 then
            if (h2.2.2 x0).1 = 1 then
              (zCall zCode kProgram_isJump [.ref x0, .int (x1 - (zi 1))] h2).bind (zRI fun r6 h5 =>
                if r6 = 0 then
                  if (h5.2.2 x0).1 = 1 then
                    (zCall zCode kProgram_sortAt [.ref x0, .int (x1 - (zi 1))] h5).bind (zRI fun r9 h8 =>
                      if r9 = (zi 7) then
                        (zB (zi 1)).bind fun b11 =>
                        some (.inl (some (.int b11), h8))
                      else
                        (zB (zi 0)).bind fun b10 =>
                        some (.inl (some (.int b10), h8)))
                  else
                    none
                else
                  (zB (zi 1)).bind fun b7 =>
                  some (.inl (some (.int b7), h5)))
            else
              none
          else
            (zB (zi 1)).bind fun b4 =>
            some (.inl (some (.int b4), h2)))
      else
        none
  := (zRun_eb [] 400 0 _ _ _).trans rfl
set_option maxRecDepth 100000 in
set_option maxHeartbeats 4000000 in
theorem zb_Program_loopEnd_0 (x0 : Nat) (x1 : Int32) (h : zH) : zRun zCode kProgram_loopEnd 0 [.ref x0, .int x1, .retAddr 0, .retAddr 0] [] h =
    if (h.2.2 x0).1 = 1 then
      (zCall zCode kProgram_isLabel [.ref x0, .int x1] h).bind (zRI fun r2 h1 =>
        if r2 = 0 then
          some (.inl (some (.int (zi (-1))), h1))
        else
          if (h1.2.2 x0).1 = 1 then
            (zCall zCode kProgram_targetAt [.ref x0, .int x1] h1).bind (zRI fun r4 h3 =>
              if (h3.2.2 x0).1 = 1 then
                (zCall zCode kProgram_jumpsTo [.ref x0, .int r4] h3).bind (zRI fun r6 h5 =>
                  if r6 = (zi 1) then
                    zRun zCode kProgram_loopEnd 19 [.ref x0, .int x1, .int (zi (-1)), .int (x1 + (zi 1))] [] h5
                  else
                    some (.inl (some (.int (zi (-1))), h5)))
              else
                none)
          else
            none)
    else
      none
  := (zRun_eb [19] 400 0 _ _ _).trans rfl
set_option maxRecDepth 100000 in
set_option maxHeartbeats 4000000 in
theorem zb_Program_loopEnd_19 (x0 : Nat) (x1 : Int32) (x2 : Int32) (x3 : Int32) (h : zH) : zRun zCode kProgram_loopEnd 19 [.ref x0, .int x1, .int x2, .int x3] [] h =
    (zVI (zAt h x0 1 12)).bind fun v1 =>
    if x3 < v1 then
      if (h.2.2 x0).1 = 1 then
        (zCall zCode kProgram_jumpOf [.ref x0, .int x3] h).bind (zRI fun r5 h4 =>
          if r5 = x1 then
            zRun zCode kProgram_loopEnd 19 [.ref x0, .int x1, .int x3, .int (x3 + zi 1)] [] h4
          else
            zRun zCode kProgram_loopEnd 19 [.ref x0, .int x1, .int x2, .int (x3 + zi 1)] [] h4)
      else
        none
    else
      if (h.2.2 x0).1 = 1 then
        (zCall zCode kProgram_isEnteredBehind [.ref x0, .int x1, .int x2] h).bind (zRI fun r3 h2 =>
          if r3 = 0 then
            some (.inl (some (.int x2), h2))
          else
            some (.inl (some (.int (zi (-1))), h2)))
      else
        none
  := (zRun_eb [19] 400 19 _ _ _).trans rfl
set_option maxRecDepth 100000 in
set_option maxHeartbeats 4000000 in
theorem zb_Program_jumpsTo_0 (x0 : Nat) (x1 : Int32) (h : zH) : zRun zCode kProgram_jumpsTo 0 [.ref x0, .int x1] [] h =
    if x1 < 0 then
      some (.inl (some (.int (zi 0)), h))
    else
      (zVA (zAt h x0 1 10)).bind fun a1 =>
      if 100 ≤ (h.2.2 a1).1 then
        if x1 < ((h.2.2 a1).2.length.toInt32) then
          (zVA (zAt h x0 1 10)).bind fun a2 =>
          (zIx h a2 100 x1).bind fun j3 =>
          (zVI (zAt h a2 100 j3)).bind fun v4 =>
          some (.inl (some (.int v4), h))
        else
          some (.inl (some (.int (zi 0)), h))
      else
        none
  := (zRun_eb [] 400 0 _ _ _).trans rfl
set_option maxRecDepth 100000 in
set_option maxHeartbeats 4000000 in
theorem zb_Program_isEnteredBehind_0 (x0 : Nat) (x1 : Int32) (x2 : Int32) (h : zH) : zRun zCode kProgram_isEnteredBehind 0 [.ref x0, .int x1, .int x2, .retAddr 0, .retAddr 0] [] h =
    zRun zCode kProgram_isEnteredBehind 2 [.ref x0, .int x1, .int x2, .int (zi 0), .retAddr 0] [] h
  := (zRun_eb [2, 15] 400 0 _ _ _).trans rfl
set_option maxRecDepth 100000 in
set_option maxHeartbeats 4000000 in
theorem zb_Program_isEnteredBehind_2 (x0 : Nat) (x1 : Int32) (x2 : Int32) (x3 : Int32) (h : zH) : zRun zCode kProgram_isEnteredBehind 2 [.ref x0, .int x1, .int x2, .int x3, .retAddr 0] [] h =
    (zVI (zAt h x0 1 12)).bind fun v1 =>
    if x3 < v1 then
      if x3 < x1 then
        zRun zCode kProgram_isEnteredBehind 15 [.ref x0, .int x1, .int x2, .int x3, .retAddr 0] [.int (zi 1)] h
      else
        if x2 < x3 then
          zRun zCode kProgram_isEnteredBehind 15 [.ref x0, .int x1, .int x2, .int x3, .retAddr 0] [.int (zi 1)] h
        else
          zRun zCode kProgram_isEnteredBehind 15 [.ref x0, .int x1, .int x2, .int x3, .retAddr 0] [.int (zi 0)] h
    else
      (zB (zi 0)).bind fun b2 =>
      some (.inl (some (.int b2), h))
  := (zRun_eb [2, 15] 400 2 _ _ _).trans rfl
set_option maxRecDepth 100000 in
set_option maxHeartbeats 4000000 in
theorem zb_Program_isEnteredBehind_15 (x0 : Nat) (x1 : Int32) (x2 : Int32) (x3 : Int32) (y0 : Int32) (h : zH) : zRun zCode kProgram_isEnteredBehind 15 [.ref x0, .int x1, .int x2, .int x3, .retAddr 0] [.int y0] h =
    if y0 = 0 then
      zRun zCode kProgram_isEnteredBehind 2 [.ref x0, .int x1, .int x2, .int (x3 + zi 1), .retAddr 0] [] h
    else
      if (h.2.2 x0).1 = 1 then
        (zCall zCode kProgram_jumpOf [.ref x0, .int x3] h).bind (zRI fun r2 h1 =>
          if x1 < r2 then
            if (h1.2.2 x0).1 = 1 then
              (zCall zCode kProgram_jumpOf [.ref x0, .int x3] h1).bind (zRI fun r4 h3 =>
                if x2 < r4 then
                  zRun zCode kProgram_isEnteredBehind 2 [.ref x0, .int x1, .int x2, .int (x3 + zi 1), .retAddr 0] [] h3
                else
                  (zB (zi 1)).bind fun b5 =>
                  some (.inl (some (.int b5), h3)))
            else
              none
          else
            zRun zCode kProgram_isEnteredBehind 2 [.ref x0, .int x1, .int x2, .int (x3 + zi 1), .retAddr 0] [] h1)
      else
        none
  := (zRun_eb [2, 15] 400 15 _ _ _).trans rfl
set_option maxRecDepth 100000 in
set_option maxHeartbeats 4000000 in
theorem zb_Flow_liveBehind_0 (x0 : Nat) (x1 : Int32) (h : zH) : zRun zCode kFlow_liveBehind 0 [.ref x0, .int x1] [] h =
    if x1 < 0 then
      some (.inl (some (.int (zi 0)), h))
    else
      (zVA (zAt h x0 6 2)).bind fun a1 =>
      if 100 ≤ (h.2.2 a1).1 then
        if x1 < ((h.2.2 a1).2.length.toInt32) then
          (zVA (zAt h x0 6 2)).bind fun a2 =>
          (zIx h a2 100 x1).bind fun j3 =>
          (zVI (zAt h a2 100 j3)).bind fun v4 =>
          some (.inl (some (.int v4), h))
        else
          some (.inl (some (.int (zi 0)), h))
      else
        none
  := (zRun_eb [] 400 0 _ _ _).trans rfl
set_option maxRecDepth 100000 in
set_option maxHeartbeats 4000000 in
theorem zb_Program_setLive_0 (x0 : Nat) (x1 : Int32) (x2 : Int32) (h : zH) : zRun zCode kProgram_setLive 0 [.ref x0, .int x1, .int x2] [] h =
    if (h.2.2 x0).1 = 1 then
      (zCall zCode kProgram_has [.ref x0, .int x1] h).bind (zRI fun r2 h1 =>
        if r2 = 0 then
          some (.inl (none, h1))
        else
          (zVA (zAt h1 x0 1 8)).bind fun a3 =>
          (zIx h1 a3 100 x1).bind fun j4 =>
          (zPut h1 a3 100 j4 (.int x2)).bind fun h5 =>
          some (.inl (none, h5)))
    else
      none
  := (zRun_eb [] 400 0 _ _ _).trans rfl
set_option maxRecDepth 100000 in
set_option maxHeartbeats 4000000 in
theorem zb_Program_setMeasures_0 (x0 : Nat) (x1 : Int32) (x2 : Int32) (x3 : Int32) (h : zH) : zRun zCode kProgram_setMeasures 0 [.ref x0, .int x1, .int x2, .int x3] [] h =
    (zPut h x0 1 15 (.int x1)).bind fun h1 =>
    (zPut h1 x0 1 16 (.int x2)).bind fun h2 =>
    (zPut h2 x0 1 17 (.int x3)).bind fun h3 =>
    some (.inl (none, h3))
  := (zRun_eb [] 400 0 _ _ _).trans rfl
set_option maxRecDepth 100000 in
set_option maxHeartbeats 4000000 in
theorem zb_Law_count_0 (x0 : Nat) (x1 : Int32) (x2 : Int32) (x3 : Nat) (h : zH) : zRun zCode kLaw_count 0 [.ref x0, .int x1, .int x2, .ref x3, .retAddr 0] [] h =
    if (h.2.2 x0).1 = 0 then
      (zCall zCode kPassForge_count [.ref x0, .int x1, .int x2] h).bind (zXm (fun kd q hq =>
          if kd = 15 then
            some (.inl (some (.int (zi 1)), hq))
          else
            none) (zRI fun r2 h1 =>
        (zIx h1 x3 101 (zi 0)).bind fun j3 =>
        (zPut h1 x3 101 j3 (.long r2.toInt64)).bind fun h4 =>
        some (.inl (some (.int (zi 0)), h4))))
    else
      none
  := (zRun_eb [] 400 0 _ _ _).trans rfl
set_option maxRecDepth 100000 in
set_option maxHeartbeats 4000000 in
theorem zb_PassForge_count_0 (x0 : Nat) (x1 : Int32) (x2 : Int32) (h : zH) : zRun zCode kPassForge_count 0 [.ref x0, .int x1, .int x2, .retAddr 0] [] h =
    if (h.2.2 x0).1 = 0 then
      (zCall zCode kPassForge_programAt [.ref x0, .int x1] h).bind (zRA fun a2 h1 =>
        if x2 < 0 then
          some (.inr (15, h1.1, zPush h1 6 (15, [])))
        else
          if (zi 5) < x2 then
            some (.inr (15, h1.1, zPush h1 6 (15, [])))
          else
            if (h1.2.2 a2).1 = 1 then
              (zCall zCode kProgram_tally [.ref a2, .int x2] h1).bind (zRI fun r4 h3 =>
                some (.inl (some (.int r4), h3)))
            else
              none)
    else
      none
  := (zRun_eb [] 400 0 _ _ _).trans rfl
set_option maxRecDepth 100000 in
set_option maxHeartbeats 4000000 in
theorem zb_PassForge_programAt_0 (x0 : Nat) (x1 : Int32) (h : zH) : zRun zCode kPassForge_programAt 0 [.ref x0, .int x1] [] h =
    if x1 < 0 then
      some (.inr (15, h.1, zPush h 6 (15, [])))
    else
      (zVI (zAt h x0 0 1)).bind fun v1 =>
      if x1 < v1 then
        (zVA (zAt h x0 0 0)).bind fun a2 =>
        if 100 ≤ (h.2.2 a2).1 then
          if x1 < ((h.2.2 a2).2.length.toInt32) then
            (zVA (zAt h x0 0 0)).bind fun a3 =>
            (zIx h a3 110 x1).bind fun j4 =>
            (zVA (zAt h a3 110 j4)).bind fun a5 =>
            some (.inl (some (.ref a5), h))
          else
            some (.inr (15, h.1, zPush h 6 (15, [])))
        else
          none
      else
        some (.inr (15, h.1, zPush h 6 (15, [])))
  := (zRun_eb [] 400 0 _ _ _).trans rfl
set_option maxRecDepth 100000 in
set_option maxHeartbeats 4000000 in
theorem zb_Law_code_0 (x0 : Nat) (x1 : Int32) (x2 : Int32) (x3 : Int32) (x4 : Nat) (h : zH) : zRun zCode kLaw_code 0 [.ref x0, .int x1, .int x2, .int x3, .ref x4, .retAddr 0] [] h =
    if (h.2.2 x0).1 = 0 then
      (zCall zCode kPassForge_code [.ref x0, .int x1, .int x2, .int x3] h).bind (zXm (fun kd q hq =>
          if kd = 15 then
            some (.inl (some (.int (zi 1)), hq))
          else
            none) (zRI fun r2 h1 =>
        (zIx h1 x4 101 (zi 0)).bind fun j3 =>
        (zPut h1 x4 101 j3 (.long r2.toInt64)).bind fun h4 =>
        some (.inl (some (.int (zi 0)), h4))))
    else
      none
  := (zRun_eb [] 400 0 _ _ _).trans rfl
set_option maxRecDepth 100000 in
set_option maxHeartbeats 4000000 in
theorem zb_PassForge_code_0 (x0 : Nat) (x1 : Int32) (x2 : Int32) (x3 : Int32) (h : zH) : zRun zCode kPassForge_code 0 [.ref x0, .int x1, .int x2, .int x3, .retAddr 0] [] h =
    if (h.2.2 x0).1 = 0 then
      (zCall zCode kPassForge_programWith [.ref x0, .int x1, .int x2] h).bind (zRA fun a2 h1 =>
        if x3 < 0 then
          some (.inr (15, h1.1, zPush h1 6 (15, [])))
        else
          if (zi 4) < x3 then
            some (.inr (15, h1.1, zPush h1 6 (15, [])))
          else
            if (h1.2.2 a2).1 = 1 then
              (zCall zCode kProgram_part [.ref a2, .int x2, .int x3] h1).bind (zRI fun r4 h3 =>
                some (.inl (some (.int r4), h3)))
            else
              none)
    else
      none
  := (zRun_eb [] 400 0 _ _ _).trans rfl
set_option maxRecDepth 100000 in
set_option maxHeartbeats 4000000 in
theorem zb_PassForge_programWith_0 (x0 : Nat) (x1 : Int32) (x2 : Int32) (h : zH) : zRun zCode kPassForge_programWith 0 [.ref x0, .int x1, .int x2, .retAddr 0] [] h =
    if (h.2.2 x0).1 = 0 then
      (zCall zCode kPassForge_programAt [.ref x0, .int x1] h).bind (zRA fun a2 h1 =>
        if (h1.2.2 a2).1 = 1 then
          (zCall zCode kProgram_has [.ref a2, .int x2] h1).bind (zRI fun r4 h3 =>
            if r4 = 0 then
              some (.inr (15, h3.1, zPush h3 6 (15, [])))
            else
              some (.inl (some (.ref a2), h3)))
        else
          none)
    else
      none
  := (zRun_eb [] 400 0 _ _ _).trans rfl
set_option maxRecDepth 100000 in
set_option maxHeartbeats 4000000 in
theorem zb_Law_number_0 (x0 : Nat) (x1 : Int32) (x2 : Int32) (x3 : Int32) (x4 : Nat) (h : zH) : zRun zCode kLaw_number 0 [.ref x0, .int x1, .int x2, .int x3, .ref x4, .retAddr 0] [] h =
    if (h.2.2 x0).1 = 0 then
      (zCall zCode kPassForge_number [.ref x0, .int x1, .int x2, .int x3] h).bind (zXm (fun kd q hq =>
          if kd = 15 then
            some (.inl (some (.int (zi 1)), hq))
          else
            none) (zRL fun r2 h1 =>
        (zIx h1 x4 101 (zi 0)).bind fun j3 =>
        (zPut h1 x4 101 j3 (.long r2)).bind fun h4 =>
        some (.inl (some (.int (zi 0)), h4))))
    else
      none
  := (zRun_eb [] 400 0 _ _ _).trans rfl
set_option maxRecDepth 100000 in
set_option maxHeartbeats 4000000 in
theorem zb_PassForge_number_0 (x0 : Nat) (x1 : Int32) (x2 : Int32) (x3 : Int32) (h : zH) : zRun zCode kPassForge_number 0 [.ref x0, .int x1, .int x2, .int x3, .retAddr 0] [] h =
    if (h.2.2 x0).1 = 0 then
      (zCall zCode kPassForge_programWith [.ref x0, .int x1, .int x2] h).bind (zRA fun a2 h1 =>
        if x3 = 0 then
          if (h1.2.2 a2).1 = 1 then
            (zCall zCode kProgram_firstNumberAt [.ref a2, .int x2] h1).bind (zRL fun r4 h3 =>
              some (.inl (some (.long r4), h3)))
          else
            none
        else
          if (h1.2.2 a2).1 = 1 then
            (zCall zCode kProgram_secondNumberAt [.ref a2, .int x2] h1).bind (zRL fun r6 h5 =>
              some (.inl (some (.long r6), h5)))
          else
            none)
    else
      none
  := (zRun_eb [] 400 0 _ _ _).trans rfl
set_option maxRecDepth 100000 in
set_option maxHeartbeats 4000000 in
theorem zb_Law_live_0 (x0 : Nat) (x1 : Int32) (x2 : Int32) (x3 : Nat) (h : zH) : zRun zCode kLaw_live 0 [.ref x0, .int x1, .int x2, .ref x3, .retAddr 0] [] h =
    if (h.2.2 x0).1 = 0 then
      (zCall zCode kPassForge_live [.ref x0, .int x1, .int x2] h).bind (zXm (fun kd q hq =>
          if kd = 15 then
            some (.inl (some (.int (zi 1)), hq))
          else
            none) (zRI fun r2 h1 =>
        (zIx h1 x3 101 (zi 0)).bind fun j3 =>
        (zPut h1 x3 101 j3 (.long r2.toInt64)).bind fun h4 =>
        some (.inl (some (.int (zi 0)), h4))))
    else
      none
  := (zRun_eb [] 400 0 _ _ _).trans rfl
set_option maxRecDepth 100000 in
set_option maxHeartbeats 4000000 in
theorem zb_PassForge_live_0 (x0 : Nat) (x1 : Int32) (x2 : Int32) (h : zH) : zRun zCode kPassForge_live 0 [.ref x0, .int x1, .int x2] [] h =
    if (h.2.2 x0).1 = 0 then
      (zCall zCode kPassForge_programWith [.ref x0, .int x1, .int x2] h).bind (zRA fun a2 h1 =>
        if (h1.2.2 a2).1 = 1 then
          (zCall zCode kProgram_liveAt [.ref a2, .int x2] h1).bind (zRI fun r4 h3 =>
            some (.inl (some (.int r4), h3)))
        else
          none)
    else
      none
  := (zRun_eb [] 400 0 _ _ _).trans rfl
set_option maxRecDepth 100000 in
set_option maxHeartbeats 4000000 in
theorem zb_Law_pass_0 (x0 : Nat) (x1 : Int32) (x2 : Int32) (x3 : Nat) (h : zH) : zRun zCode kLaw_pass 0 [.ref x0, .int x1, .int x2, .ref x3, .retAddr 0] [] h =
    if (h.2.2 x0).1 = 0 then
      (zCall zCode kPassForge_pass [.ref x0, .int x1, .int x2] h).bind (zXm (fun kd q hq =>
          if kd = 15 then
            some (.inl (some (.int (zi 1)), hq))
          else
            if kd = 14 then
              some (.inl (some (.int (zi 2)), hq))
            else
              if kd = 13 then
                some (.inl (some (.int (zi 3)), hq))
              else
                none) (zRI fun r2 h1 =>
        (zIx h1 x3 101 (zi 0)).bind fun j3 =>
        (zPut h1 x3 101 j3 (.long r2.toInt64)).bind fun h4 =>
        some (.inl (some (.int (zi 0)), h4))))
    else
      none
  := (zRun_eb [] 400 0 _ _ _).trans rfl
set_option maxRecDepth 100000 in
set_option maxHeartbeats 4000000 in
theorem zb_PassForge_pass_0 (x0 : Nat) (x1 : Int32) (x2 : Int32) (h : zH) : zRun zCode kPassForge_pass 0 [.ref x0, .int x1, .int x2, .retAddr 0, .retAddr 0, .retAddr 0] [] h =
    if (h.2.2 x0).1 = 0 then
      (zCall zCode kPassForge_programAt [.ref x0, .int x1] h).bind (zRA fun a2 h1 =>
        if x2 < 0 then
          some (.inr (14, h1.1, zPush h1 6 (14, [])))
        else
          if x2 < (zi 5) then
            if (h1.2.2 x0).1 = 0 then
              (zCall zCode kPassForge_freshProgram [.ref x0] h1).bind (zRA fun a4 h3 =>
                if (h3.2.2 a4).1 = 1 then
                  (zCall zCode kProgram_become [.ref a4, .ref a2] h3).bind (zRV fun h5 =>
                    if (h5.2.2 x0).1 = 0 then
                      (zCall zCode kPassForge_changeBy [.ref x0, .ref a4, .int x2] h5).bind (zRI fun r7 h6 =>
                        if (h6.2.2 x0).1 = 0 then
                          (zCall zCode kPassForge_accept [.ref x0, .ref a4] h6).bind (zRV fun h8 =>
                            some (.inl (some (.int r7), h8)))
                        else
                          none)
                    else
                      none)
                else
                  none)
            else
              none
          else
            some (.inr (14, h1.1, zPush h1 6 (14, []))))
    else
      none
  := (zRun_eb [] 400 0 _ _ _).trans rfl
set_option maxRecDepth 100000 in
set_option maxHeartbeats 4000000 in
theorem zb_Program_become_0 (x0 : Nat) (x1 : Nat) (h : zH) : zRun zCode kProgram_become 0 [.ref x0, .ref x1, .retAddr 0] [] h =
    (zVI (zAt h x1 1 12)).bind fun v1 =>
    (zPut h x0 1 12 (.int v1)).bind fun h2 =>
    (zVI (zAt h2 x1 1 13)).bind fun v3 =>
    (zPut h2 x0 1 13 (.int v3)).bind fun h4 =>
    (zVI (zAt h4 x1 1 14)).bind fun v5 =>
    (zPut h4 x0 1 14 (.int v5)).bind fun h6 =>
    zRun zCode kProgram_become 14 [.ref x0, .ref x1, .int (zi 0)] [] h6
  := (zRun_eb [14] 400 0 _ _ _).trans rfl
set_option maxRecDepth 100000 in
set_option maxHeartbeats 4000000 in
theorem zb_Program_become_14 (x0 : Nat) (x1 : Nat) (x2 : Int32) (h : zH) : zRun zCode kProgram_become 14 [.ref x0, .ref x1, .int x2] [] h =
    (zVI (zAt h x0 1 12)).bind fun v1 =>
    if x2 < v1 then
      if x2 < (zi 80) then
        if (h.2.2 x0).1 = 1 then
          (zCall zCode kProgram_layDown [.ref x0, .int x2, .ref x1, .int x2] h).bind (zRV fun h2 =>
            zRun zCode kProgram_become 14 [.ref x0, .ref x1, .int (x2 + zi 1)] [] h2)
        else
          none
      else
        some (.inl (none, h))
    else
      some (.inl (none, h))
  := (zRun_eb [14] 400 14 _ _ _).trans rfl
set_option maxRecDepth 100000 in
set_option maxHeartbeats 4000000 in
theorem zb_Program_layDown_0 (x0 : Nat) (x1 : Int32) (x2 : Nat) (x3 : Int32) (h : zH) : zRun zCode kProgram_layDown 0 [.ref x0, .int x1, .ref x2, .int x3] [] h =
    if x1 < 0 then
      some (.inl (none, h))
    else
      if (zi 80) < x1 then
        some (.inl (none, h))
      else
        if x3 < 0 then
          some (.inl (none, h))
        else
          if (zi 80) < x3 then
            some (.inl (none, h))
          else
            (zVA (zAt h x0 1 0)).bind fun a1 =>
            (zVA (zAt h x2 1 0)).bind fun a2 =>
            (zIx h a2 100 x3).bind fun j3 =>
            (zVI (zAt h a2 100 j3)).bind fun v4 =>
            (zIx h a1 100 x1).bind fun j5 =>
            (zPut h a1 100 j5 (.int v4)).bind fun h6 =>
            (zVA (zAt h6 x0 1 1)).bind fun a7 =>
            (zVA (zAt h6 x2 1 1)).bind fun a8 =>
            (zIx h6 a8 100 x3).bind fun j9 =>
            (zVI (zAt h6 a8 100 j9)).bind fun v10 =>
            (zIx h6 a7 100 x1).bind fun j11 =>
            (zPut h6 a7 100 j11 (.int v10)).bind fun h12 =>
            (zVA (zAt h12 x0 1 2)).bind fun a13 =>
            (zVA (zAt h12 x2 1 2)).bind fun a14 =>
            (zIx h12 a14 100 x3).bind fun j15 =>
            (zVI (zAt h12 a14 100 j15)).bind fun v16 =>
            (zIx h12 a13 100 x1).bind fun j17 =>
            (zPut h12 a13 100 j17 (.int v16)).bind fun h18 =>
            (zVA (zAt h18 x0 1 3)).bind fun a19 =>
            (zVA (zAt h18 x2 1 3)).bind fun a20 =>
            (zIx h18 a20 100 x3).bind fun j21 =>
            (zVI (zAt h18 a20 100 j21)).bind fun v22 =>
            (zIx h18 a19 100 x1).bind fun j23 =>
            (zPut h18 a19 100 j23 (.int v22)).bind fun h24 =>
            (zVA (zAt h24 x0 1 4)).bind fun a25 =>
            (zVA (zAt h24 x2 1 4)).bind fun a26 =>
            (zIx h24 a26 100 x3).bind fun j27 =>
            (zVI (zAt h24 a26 100 j27)).bind fun v28 =>
            (zIx h24 a25 100 x1).bind fun j29 =>
            (zPut h24 a25 100 j29 (.int v28)).bind fun h30 =>
            (zVA (zAt h30 x0 1 5)).bind fun a31 =>
            (zVA (zAt h30 x2 1 5)).bind fun a32 =>
            (zIx h30 a32 101 x3).bind fun j33 =>
            (zVL (zAt h30 a32 101 j33)).bind fun v34 =>
            (zIx h30 a31 101 x1).bind fun j35 =>
            (zPut h30 a31 101 j35 (.long v34)).bind fun h36 =>
            (zVA (zAt h36 x0 1 6)).bind fun a37 =>
            (zVA (zAt h36 x2 1 6)).bind fun a38 =>
            (zIx h36 a38 101 x3).bind fun j39 =>
            (zVL (zAt h36 a38 101 j39)).bind fun v40 =>
            (zIx h36 a37 101 x1).bind fun j41 =>
            (zPut h36 a37 101 j41 (.long v40)).bind fun h42 =>
            some (.inl (none, h42))
  := (zRun_eb [] 400 0 _ _ _).trans rfl
set_option maxRecDepth 100000 in
set_option maxHeartbeats 4000000 in
theorem zb_PassForge_changeBy_0 (x0 : Nat) (x1 : Nat) (x2 : Int32) (h : zH) : zRun zCode kPassForge_changeBy 0 [.ref x0, .ref x1, .int x2] [] h =
    if x2 = zi 0 then
      (zVA (zAt h x0 0 5)).bind fun a13 =>
      if (h.2.2 a13).1 = 7 then
        (zCall zCode kBlockPasses_fold [.ref a13, .ref x1] h).bind (zRI fun r15 h14 =>
          some (.inl (some (.int r15), h14)))
      else
        none
    else
      if x2 = zi 1 then
        (zVA (zAt h x0 0 5)).bind fun a10 =>
        if (h.2.2 a10).1 = 7 then
          (zCall zCode kBlockPasses_lookThroughCopies [.ref a10, .ref x1] h).bind (zRI fun r12 h11 =>
            some (.inl (some (.int r12), h11)))
        else
          none
      else
        if x2 = zi 2 then
          (zVA (zAt h x0 0 5)).bind fun a7 =>
          if (h.2.2 a7).1 = 7 then
            (zCall zCode kBlockPasses_takeValues [.ref a7, .ref x1] h).bind (zRI fun r9 h8 =>
              some (.inl (some (.int r9), h8)))
          else
            none
        else
          if x2 = zi 3 then
            (zVA (zAt h x0 0 6)).bind fun a4 =>
            if (h.2.2 a4).1 = 8 then
              (zCall zCode kFlowPasses_drop [.ref a4, .ref x1] h).bind (zRI fun r6 h5 =>
                some (.inl (some (.int r6), h5)))
            else
              none
          else
            (zVA (zAt h x0 0 6)).bind fun a1 =>
            if (h.2.2 a1).1 = 8 then
              (zCall zCode kFlowPasses_move [.ref a1, .ref x1] h).bind (zRI fun r3 h2 =>
                some (.inl (some (.int r3), h2)))
            else
              none
  := (zRun_eb [] 400 0 _ _ _).trans rfl
set_option maxRecDepth 100000 in
set_option maxHeartbeats 4000000 in
theorem zb_BlockPasses_fold_0 (x0 : Nat) (x1 : Nat) (h : zH) : zRun zCode kBlockPasses_fold 0 [.ref x0, .ref x1, .retAddr 0, .retAddr 0] [] h =
    zRun zCode kBlockPasses_fold 4 [.ref x0, .ref x1, .int (zi 0), .int (zi 0)] [] h
  := (zRun_eb [4, 14] 400 0 _ _ _).trans rfl
set_option maxRecDepth 100000 in
set_option maxHeartbeats 4000000 in
theorem zb_BlockPasses_fold_4 (x0 : Nat) (x1 : Nat) (x2 : Int32) (x3 : Int32) (h : zH) : zRun zCode kBlockPasses_fold 4 [.ref x0, .ref x1, .int x2, .int x3] [] h =
    if (h.2.2 x1).1 = 1 then
      (zCall zCode kProgram_size [.ref x1] h).bind (zRI fun r2 h1 =>
        if x3 < r2 then
          if (h1.2.2 x1).1 = 1 then
            (zCall zCode kProgram_startsBlock [.ref x1, .int x3] h1).bind (zRI fun r5 h4 =>
              if r5 = 0 then
                zRun zCode kBlockPasses_fold 14 [.ref x0, .ref x1, .int x2, .int x3] [] h4
              else
                if (h4.2.2 x0).1 = 7 then
                  (zCall zCode kBlockPasses_forgetNumbers [.ref x0] h4).bind (zRV fun h6 =>
                    zRun zCode kBlockPasses_fold 14 [.ref x0, .ref x1, .int x2, .int x3] [] h6)
                else
                  none)
          else
            none
        else
          if (h1.2.2 x1).1 = 1 then
            (zCall zCode kProgram_removeMarked [.ref x1] h1).bind (zRV fun h3 =>
              some (.inl (some (.int x2), h3)))
          else
            none)
    else
      none
  := (zRun_eb [4, 14] 400 4 _ _ _).trans rfl
set_option maxRecDepth 100000 in
set_option maxHeartbeats 4000000 in
theorem zb_BlockPasses_fold_14 (x0 : Nat) (x1 : Nat) (x2 : Int32) (x3 : Int32) (h : zH) : zRun zCode kBlockPasses_fold 14 [.ref x0, .ref x1, .int x2, .int x3] [] h =
    if (h.2.2 x0).1 = 7 then
      (zCall zCode kBlockPasses_putNumbers [.ref x0, .ref x1, .int x3] h).bind (zRI fun r2 h1 =>
        if (h1.2.2 x0).1 = 7 then
          (zCall zCode kBlockPasses_foldOne [.ref x0, .ref x1, .int x3] h1).bind (zRI fun r4 h3 =>
            if (h3.2.2 x0).1 = 7 then
              (zCall zCode kBlockPasses_learnNumber [.ref x0, .ref x1, .int x3] h3).bind (zRV fun h5 =>
                zRun zCode kBlockPasses_fold 4 [.ref x0, .ref x1, .int (x2 + (r2 + r4)), .int (x3 + zi 1)] [] h5)
            else
              none)
        else
          none)
    else
      none
  := (zRun_eb [4, 14] 400 14 _ _ _).trans rfl
set_option maxRecDepth 100000 in
set_option maxHeartbeats 4000000 in
theorem zb_BlockPasses_forgetNumbers_0 (x0 : Nat) (h : zH) : zRun zCode kBlockPasses_forgetNumbers 0 [.ref x0, .retAddr 0] [] h =
    zRun zCode kBlockPasses_forgetNumbers 2 [.ref x0, .int (zi 0)] [] h
  := (zRun_eb [2] 400 0 _ _ _).trans rfl
set_option maxRecDepth 100000 in
set_option maxHeartbeats 4000000 in
theorem zb_BlockPasses_forgetNumbers_2 (x0 : Nat) (x1 : Int32) (h : zH) : zRun zCode kBlockPasses_forgetNumbers 2 [.ref x0, .int x1] [] h =
    if x1 < (zi 12) then
      (zVA (zAt h x0 7 0)).bind fun a1 =>
      (zB (zi 0)).bind fun b4 =>
      (zIx h a1 102 x1).bind fun j2 =>
      (zPut h a1 102 j2 (.int b4)).bind fun h3 =>
      zRun zCode kBlockPasses_forgetNumbers 2 [.ref x0, .int (x1 + zi 1)] [] h3
    else
      some (.inl (none, h))
  := (zRun_eb [2] 400 2 _ _ _).trans rfl
set_option maxRecDepth 100000 in
set_option maxHeartbeats 4000000 in
theorem zb_BlockPasses_putNumbers_0 (x0 : Nat) (x1 : Nat) (x2 : Int32) (h : zH) : zRun zCode kBlockPasses_putNumbers 0 [.ref x0, .ref x1, .int x2, .retAddr 0, .retAddr 0, .retAddr 0] [] h =
    if (h.2.2 x1).1 = 1 then
      (zCall zCode kProgram_firstVariableAt [.ref x1, .int x2] h).bind (zRI fun r2 h1 =>
        if (h1.2.2 x0).1 = 7 then
          (zCall zCode kBlockPasses_knows [.ref x0, .int r2] h1).bind (zRI fun r4 h3 =>
            if r4 = 0 then
              zRun zCode kBlockPasses_putNumbers 18 [.ref x0, .ref x1, .int x2, .int (zi 0), .retAddr 0, .retAddr 0] [] h3
            else
              if (h3.2.2 x0).1 = 7 then
                (zCall zCode kBlockPasses_knownOf [.ref x0, .int r2] h3).bind (zRL fun r6 h5 =>
                  if (h5.2.2 x1).1 = 1 then
                    (zCall zCode kProgram_setFirst [.ref x1, .int x2, .int (zi (-1)), .long r6] h5).bind (zRV fun h7 =>
                      zRun zCode kBlockPasses_putNumbers 18 [.ref x0, .ref x1, .int x2, .int ((zi 0) + zi 1), .retAddr 0, .retAddr 0] [] h7)
                  else
                    none)
              else
                none)
        else
          none)
    else
      none
  := (zRun_eb [18] 400 0 _ _ _).trans rfl
set_option maxRecDepth 100000 in
set_option maxHeartbeats 4000000 in
theorem zb_BlockPasses_putNumbers_18 (x0 : Nat) (x1 : Nat) (x2 : Int32) (x3 : Int32) (h : zH) : zRun zCode kBlockPasses_putNumbers 18 [.ref x0, .ref x1, .int x2, .int x3, .retAddr 0, .retAddr 0] [] h =
    if (h.2.2 x1).1 = 1 then
      (zCall zCode kProgram_secondVariableAt [.ref x1, .int x2] h).bind (zRI fun r2 h1 =>
        if (h1.2.2 x0).1 = 7 then
          (zCall zCode kBlockPasses_knows [.ref x0, .int r2] h1).bind (zRI fun r4 h3 =>
            if r4 = 0 then
              some (.inl (some (.int x3), h3))
            else
              if (h3.2.2 x0).1 = 7 then
                (zCall zCode kBlockPasses_knownOf [.ref x0, .int r2] h3).bind (zRL fun r6 h5 =>
                  if (h5.2.2 x1).1 = 1 then
                    (zCall zCode kProgram_setSecond [.ref x1, .int x2, .int (zi (-1)), .long r6] h5).bind (zRV fun h7 =>
                      some (.inl (some (.int (x3 + zi 1)), h7)))
                  else
                    none)
              else
                none)
        else
          none)
    else
      none
  := (zRun_eb [18] 400 18 _ _ _).trans rfl
set_option maxRecDepth 100000 in
set_option maxHeartbeats 4000000 in
theorem zb_BlockPasses_knows_0 (x0 : Nat) (x1 : Int32) (h : zH) : zRun zCode kBlockPasses_knows 0 [.ref x0, .int x1] [] h =
    if x1 < 0 then
      (zB (zi 0)).bind fun b1 =>
      some (.inl (some (.int b1), h))
    else
      (zVA (zAt h x0 7 0)).bind fun a2 =>
      if 100 ≤ (h.2.2 a2).1 then
        if x1 < ((h.2.2 a2).2.length.toInt32) then
          (zVA (zAt h x0 7 0)).bind fun a4 =>
          (zIx h a4 102 x1).bind fun j5 =>
          (zVI (zAt h a4 102 j5)).bind fun v6 =>
          if v6 = 0 then
            (zB (zi 0)).bind fun b7 =>
            some (.inl (some (.int b7), h))
          else
            (zB (zi 1)).bind fun b8 =>
            some (.inl (some (.int b8), h))
        else
          (zB (zi 0)).bind fun b3 =>
          some (.inl (some (.int b3), h))
      else
        none
  := (zRun_eb [] 400 0 _ _ _).trans rfl
set_option maxRecDepth 100000 in
set_option maxHeartbeats 4000000 in
theorem zb_BlockPasses_knownOf_0 (x0 : Nat) (x1 : Int32) (h : zH) : zRun zCode kBlockPasses_knownOf 0 [.ref x0, .int x1] [] h =
    if x1 < 0 then
      some (.inl (some (.long (zl 0)), h))
    else
      (zVA (zAt h x0 7 1)).bind fun a1 =>
      if 100 ≤ (h.2.2 a1).1 then
        if x1 < ((h.2.2 a1).2.length.toInt32) then
          (zVA (zAt h x0 7 1)).bind fun a2 =>
          (zIx h a2 101 x1).bind fun j3 =>
          (zVL (zAt h a2 101 j3)).bind fun v4 =>
          some (.inl (some (.long v4), h))
        else
          some (.inl (some (.long (zl 0)), h))
      else
        none
  := (zRun_eb [] 400 0 _ _ _).trans rfl
set_option maxRecDepth 100000 in
set_option maxHeartbeats 4000000 in
theorem zb_BlockPasses_foldOne_0 (x0 : Nat) (x1 : Nat) (x2 : Int32) (h : zH) : zRun zCode kBlockPasses_foldOne 0 [.ref x0, .ref x1, .int x2, .retAddr 0] [] h =
    if (h.2.2 x1).1 = 1 then
      (zCall zCode kProgram_sortAt [.ref x1, .int x2] h).bind (zRI fun r2 h1 =>
        if (h1.2.2 x1).1 = 1 then
          (zCall zCode kProgram_firstVariableAt [.ref x1, .int x2] h1).bind (zRI fun r4 h3 =>
            if r4 < 0 then
              if (h3.2.2 x1).1 = 1 then
                (zCall zCode kProgram_secondVariableAt [.ref x1, .int x2] h3).bind (zRI fun r6 h5 =>
                  if r6 < 0 then
                    if r2 = (zi 2) then
                      if (h5.2.2 x1).1 = 1 then
                        (zCall zCode kProgram_opAt [.ref x1, .int x2] h5).bind (zRI fun r12 h11 =>
                          if (h11.2.2 x1).1 = 1 then
                            (zCall zCode kProgram_firstNumberAt [.ref x1, .int x2] h11).bind (zRL fun r14 h13 =>
                              if (h13.2.2 x1).1 = 1 then
                                (zCall zCode kProgram_secondNumberAt [.ref x1, .int x2] h13).bind (zRL fun r16 h15 =>
                                  (zCall zCode kPassForge_reckon [.int r12, .long r14, .long r16] h15).bind (zRL fun r18 h17 =>
                                    if (h17.2.2 x1).1 = 1 then
                                      (zCall zCode kProgram_setPlain [.ref x1, .int x2, .int (zi (-1)), .long r18] h17).bind (zRV fun h19 =>
                                        some (.inl (some (.int (zi 1)), h19)))
                                    else
                                      none))
                              else
                                none)
                          else
                            none)
                      else
                        none
                    else
                      if r2 = (zi 4) then
                        if (h5.2.2 x1).1 = 1 then
                          (zCall zCode kProgram_firstNumberAt [.ref x1, .int x2] h5).bind (zRL fun r8 h7 =>
                            if (lg_cmp r8 (zl 0)) = 0 then
                              if (h7.2.2 x1).1 = 1 then
                                (zCall zCode kProgram_mark [.ref x1, .int x2] h7).bind (zRV fun h10 =>
                                  some (.inl (some (.int (zi 1)), h10)))
                              else
                                none
                            else
                              if (h7.2.2 x1).1 = 1 then
                                (zCall zCode kProgram_setGoto [.ref x1, .int x2] h7).bind (zRV fun h9 =>
                                  some (.inl (some (.int (zi 1)), h9)))
                              else
                                none)
                        else
                          none
                      else
                        some (.inl (some (.int (zi 0)), h5))
                  else
                    some (.inl (some (.int (zi 0)), h5)))
              else
                none
            else
              some (.inl (some (.int (zi 0)), h3)))
        else
          none)
    else
      none
  := (zRun_eb [] 400 0 _ _ _).trans rfl
set_option maxRecDepth 100000 in
set_option maxHeartbeats 4000000 in
theorem zb_PassForge_reckon_0 (x0 : Int32) (x1 : Int64) (x3 : Int64) (h : zH) : zRun zCode kPassForge_reckon 0 [.int x0, .long x1, .retAddr 0, .long x3, .retAddr 0] [] h =
    if x0 = zi 0 then
      some (.inl (some (.long (x1 + x3)), h))
    else
      if x0 = zi 1 then
        some (.inl (some (.long (x1 - x3)), h))
      else
        if x0 = zi 2 then
          some (.inl (some (.long (x1 * x3)), h))
        else
          if x0 = zi 3 then
            if (lg_cmp x3 (zl 0)) = 0 then
              some (.inl (some (.long (zl 0)), h))
            else
              if x3 = 0 then
                none
              else
                some (.inl (some (.long (x1 / x3)), h))
          else
            if x0 = zi 4 then
              if (lg_cmp x3 (zl 0)) = 0 then
                some (.inl (some (.long (zl 0)), h))
              else
                if x3 = 0 then
                  none
                else
                  some (.inl (some (.long (x1 - x1 / x3 * x3)), h))
            else
              if x0 = zi 5 then
                some (.inl (some (.long (x1 &&& x3)), h))
              else
                if x0 = zi 6 then
                  some (.inl (some (.long (x1 ||| x3)), h))
                else
                  if x0 = zi 7 then
                    some (.inl (some (.long (x1 ^^^ x3)), h))
                  else
                    if x0 = zi 8 then
                      if (lg_cmp x1 x3) < 0 then
                        some (.inl (some (.long (zl 1)), h))
                      else
                        some (.inl (some (.long (zl 0)), h))
                    else
                      if (lg_cmp x1 x3) = 0 then
                        some (.inl (some (.long (zl 1)), h))
                      else
                        some (.inl (some (.long (zl 0)), h))
  := (zRun_eb [] 400 0 _ _ _).trans rfl
set_option maxRecDepth 100000 in
set_option maxHeartbeats 4000000 in
theorem zb_Program_setPlain_0 (x0 : Nat) (x1 : Int32) (x2 : Int32) (x3 : Int64) (h : zH) : zRun zCode kProgram_setPlain 0 [.ref x0, .int x1, .int x2, .long x3, .retAddr 0] [] h =
    if (h.2.2 x0).1 = 1 then
      (zCall zCode kProgram_has [.ref x0, .int x1] h).bind (zRI fun r2 h1 =>
        if r2 = 0 then
          some (.inl (none, h1))
        else
          (zVA (zAt h1 x0 1 0)).bind fun a3 =>
          (zIx h1 a3 100 x1).bind fun j4 =>
          (zPut h1 a3 100 j4 (.int (zi 1))).bind fun h5 =>
          (zVA (zAt h5 x0 1 2)).bind fun a6 =>
          (zIx h5 a6 100 x1).bind fun j7 =>
          (zPut h5 a6 100 j7 (.int (zi (-1)))).bind fun h8 =>
          if (h8.2.2 x0).1 = 1 then
            (zCall zCode kProgram_setFirst [.ref x0, .int x1, .int x2, .long x3] h8).bind (zRV fun h9 =>
              if (h9.2.2 x0).1 = 1 then
                (zCall zCode kProgram_setSecond [.ref x0, .int x1, .int (zi (-1)), .long (zl 0)] h9).bind (zRV fun h10 =>
                  some (.inl (none, h10)))
              else
                none)
          else
            none)
    else
      none
  := (zRun_eb [] 400 0 _ _ _).trans rfl
set_option maxRecDepth 100000 in
set_option maxHeartbeats 4000000 in
theorem zb_Program_mark_0 (x0 : Nat) (x1 : Int32) (h : zH) : zRun zCode kProgram_mark 0 [.ref x0, .int x1] [] h =
    if (h.2.2 x0).1 = 1 then
      (zCall zCode kProgram_has [.ref x0, .int x1] h).bind (zRI fun r2 h1 =>
        if r2 = 0 then
          some (.inl (none, h1))
        else
          (zVA (zAt h1 x0 1 7)).bind fun a3 =>
          (zB (zi 1)).bind fun b6 =>
          (zIx h1 a3 102 x1).bind fun j4 =>
          (zPut h1 a3 102 j4 (.int b6)).bind fun h5 =>
          some (.inl (none, h5)))
    else
      none
  := (zRun_eb [] 400 0 _ _ _).trans rfl
set_option maxRecDepth 100000 in
set_option maxHeartbeats 4000000 in
theorem zb_Program_setGoto_0 (x0 : Nat) (x1 : Int32) (h : zH) : zRun zCode kProgram_setGoto 0 [.ref x0, .int x1] [] h =
    if (h.2.2 x0).1 = 1 then
      (zCall zCode kProgram_has [.ref x0, .int x1] h).bind (zRI fun r2 h1 =>
        if r2 = 0 then
          some (.inl (none, h1))
        else
          (zVA (zAt h1 x0 1 0)).bind fun a3 =>
          (zIx h1 a3 100 x1).bind fun j4 =>
          (zPut h1 a3 100 j4 (.int (zi 3))).bind fun h5 =>
          if (h5.2.2 x0).1 = 1 then
            (zCall zCode kProgram_setFirst [.ref x0, .int x1, .int (zi (-1)), .long (zl 0)] h5).bind (zRV fun h6 =>
              some (.inl (none, h6)))
          else
            none)
    else
      none
  := (zRun_eb [] 400 0 _ _ _).trans rfl
set_option maxRecDepth 100000 in
set_option maxHeartbeats 4000000 in
theorem zb_BlockPasses_learnNumber_0 (x0 : Nat) (x1 : Nat) (x2 : Int32) (h : zH) : zRun zCode kBlockPasses_learnNumber 0 [.ref x0, .ref x1, .int x2, .retAddr 0] [] h =
    if (h.2.2 x1).1 = 1 then
      (zCall zCode kProgram_assigned [.ref x1, .int x2] h).bind (zRI fun r2 h1 =>
        if r2 < 0 then
          some (.inl (none, h1))
        else
          if r2 < (zi 12) then
            (zVA (zAt h1 x0 7 0)).bind fun a3 =>
            if (h1.2.2 x1).1 = 1 then
              (zCall zCode kProgram_sortAt [.ref x1, .int x2] h1).bind (zRI fun r5 h4 =>
                if r5 = (zi 1) then
                  if (h4.2.2 x1).1 = 1 then
                    (zCall zCode kProgram_firstVariableAt [.ref x1, .int x2] h4).bind (zRI fun r15 h14 =>
                      if r15 < 0 then
                        (zB (zi 1)).bind fun b26 =>
                        (zIx h14 a3 102 r2).bind fun j24 =>
                        (zPut h14 a3 102 j24 (.int b26)).bind fun h25 =>
                        (zVA (zAt h25 x0 7 1)).bind fun a27 =>
                        if (h25.2.2 x1).1 = 1 then
                          (zCall zCode kProgram_firstNumberAt [.ref x1, .int x2] h25).bind (zRL fun r29 h28 =>
                            (zIx h28 a27 101 r2).bind fun j30 =>
                            (zPut h28 a27 101 j30 (.long r29)).bind fun h31 =>
                            some (.inl (none, h31)))
                        else
                          none
                      else
                        (zB (zi 0)).bind fun b18 =>
                        (zIx h14 a3 102 r2).bind fun j16 =>
                        (zPut h14 a3 102 j16 (.int b18)).bind fun h17 =>
                        (zVA (zAt h17 x0 7 1)).bind fun a19 =>
                        if (h17.2.2 x1).1 = 1 then
                          (zCall zCode kProgram_firstNumberAt [.ref x1, .int x2] h17).bind (zRL fun r21 h20 =>
                            (zIx h20 a19 101 r2).bind fun j22 =>
                            (zPut h20 a19 101 j22 (.long r21)).bind fun h23 =>
                            some (.inl (none, h23)))
                        else
                          none)
                  else
                    none
                else
                  (zB (zi 0)).bind fun b8 =>
                  (zIx h4 a3 102 r2).bind fun j6 =>
                  (zPut h4 a3 102 j6 (.int b8)).bind fun h7 =>
                  (zVA (zAt h7 x0 7 1)).bind fun a9 =>
                  if (h7.2.2 x1).1 = 1 then
                    (zCall zCode kProgram_firstNumberAt [.ref x1, .int x2] h7).bind (zRL fun r11 h10 =>
                      (zIx h10 a9 101 r2).bind fun j12 =>
                      (zPut h10 a9 101 j12 (.long r11)).bind fun h13 =>
                      some (.inl (none, h13)))
                  else
                    none)
            else
              none
          else
            some (.inl (none, h1)))
    else
      none
  := (zRun_eb [] 400 0 _ _ _).trans rfl
set_option maxRecDepth 100000 in
set_option maxHeartbeats 4000000 in
theorem zb_Program_removeMarked_0 (x0 : Nat) (h : zH) : zRun zCode kProgram_removeMarked 0 [.ref x0, .retAddr 0, .retAddr 0] [] h =
    zRun zCode kProgram_removeMarked 4 [.ref x0, .int (zi 0), .int (zi 0)] [] h
  := (zRun_eb [4] 400 0 _ _ _).trans rfl
set_option maxRecDepth 100000 in
set_option maxHeartbeats 4000000 in
theorem zb_Program_removeMarked_4 (x0 : Nat) (x1 : Int32) (x2 : Int32) (h : zH) : zRun zCode kProgram_removeMarked 4 [.ref x0, .int x1, .int x2] [] h =
    (zVI (zAt h x0 1 12)).bind fun v1 =>
    if x2 < v1 then
      if x2 < (zi 80) then
        (zVA (zAt h x0 1 7)).bind fun a4 =>
        (zIx h a4 102 x2).bind fun j5 =>
        (zVI (zAt h a4 102 j5)).bind fun v6 =>
        if v6 = 0 then
          if (h.2.2 x0).1 = 1 then
            (zCall zCode kProgram_layDown [.ref x0, .int x1, .ref x0, .int x2] h).bind (zRV fun h7 =>
              zRun zCode kProgram_removeMarked 4 [.ref x0, .int (x1 + zi 1), .int (x2 + zi 1)] [] h7)
          else
            none
        else
          (zVA (zAt h x0 1 7)).bind fun a8 =>
          (zB (zi 0)).bind fun b11 =>
          (zIx h a8 102 x2).bind fun j9 =>
          (zPut h a8 102 j9 (.int b11)).bind fun h10 =>
          zRun zCode kProgram_removeMarked 4 [.ref x0, .int x1, .int (x2 + zi 1)] [] h10
      else
        (zPut h x0 1 12 (.int x1)).bind fun h3 =>
        some (.inl (none, h3))
    else
      (zPut h x0 1 12 (.int x1)).bind fun h2 =>
      some (.inl (none, h2))
  := (zRun_eb [4] 400 4 _ _ _).trans rfl
set_option maxRecDepth 100000 in
set_option maxHeartbeats 4000000 in
theorem zb_BlockPasses_lookThroughCopies_0 (x0 : Nat) (x1 : Nat) (h : zH) : zRun zCode kBlockPasses_lookThroughCopies 0 [.ref x0, .ref x1, .retAddr 0, .retAddr 0] [] h =
    zRun zCode kBlockPasses_lookThroughCopies 4 [.ref x0, .ref x1, .int (zi 0), .int (zi 0)] [] h
  := (zRun_eb [4, 14] 400 0 _ _ _).trans rfl
set_option maxRecDepth 100000 in
set_option maxHeartbeats 4000000 in
theorem zb_BlockPasses_lookThroughCopies_4 (x0 : Nat) (x1 : Nat) (x2 : Int32) (x3 : Int32) (h : zH) : zRun zCode kBlockPasses_lookThroughCopies 4 [.ref x0, .ref x1, .int x2, .int x3] [] h =
    if (h.2.2 x1).1 = 1 then
      (zCall zCode kProgram_size [.ref x1] h).bind (zRI fun r2 h1 =>
        if x3 < r2 then
          if (h1.2.2 x1).1 = 1 then
            (zCall zCode kProgram_startsBlock [.ref x1, .int x3] h1).bind (zRI fun r5 h4 =>
              if r5 = 0 then
                zRun zCode kBlockPasses_lookThroughCopies 14 [.ref x0, .ref x1, .int x2, .int x3] [] h4
              else
                if (h4.2.2 x0).1 = 7 then
                  (zCall zCode kBlockPasses_forgetCopies [.ref x0] h4).bind (zRV fun h6 =>
                    zRun zCode kBlockPasses_lookThroughCopies 14 [.ref x0, .ref x1, .int x2, .int x3] [] h6)
                else
                  none)
          else
            none
        else
          if (h1.2.2 x1).1 = 1 then
            (zCall zCode kProgram_removeMarked [.ref x1] h1).bind (zRV fun h3 =>
              some (.inl (some (.int x2), h3)))
          else
            none)
    else
      none
  := (zRun_eb [4, 14] 400 4 _ _ _).trans rfl
set_option maxRecDepth 100000 in
set_option maxHeartbeats 4000000 in
theorem zb_BlockPasses_lookThroughCopies_14 (x0 : Nat) (x1 : Nat) (x2 : Int32) (x3 : Int32) (h : zH) : zRun zCode kBlockPasses_lookThroughCopies 14 [.ref x0, .ref x1, .int x2, .int x3] [] h =
    if (h.2.2 x0).1 = 7 then
      (zCall zCode kBlockPasses_putCopies [.ref x0, .ref x1, .int x3] h).bind (zRI fun r2 h1 =>
        if (h1.2.2 x1).1 = 1 then
          (zCall zCode kProgram_sortAt [.ref x1, .int x3] h1).bind (zRI fun r4 h3 =>
            if r4 = (zi 1) then
              if (h3.2.2 x1).1 = 1 then
                (zCall zCode kProgram_firstVariableAt [.ref x1, .int x3] h3).bind (zRI fun r7 h6 =>
                  if (h6.2.2 x1).1 = 1 then
                    (zCall zCode kProgram_targetAt [.ref x1, .int x3] h6).bind (zRI fun r9 h8 =>
                      if r7 = r9 then
                        if (h8.2.2 x1).1 = 1 then
                          (zCall zCode kProgram_mark [.ref x1, .int x3] h8).bind (zRV fun h11 =>
                            zRun zCode kBlockPasses_lookThroughCopies 4 [.ref x0, .ref x1, .int ((x2 + r2) + zi 1), .int (x3 + zi 1)] [] h11)
                        else
                          none
                      else
                        if (h8.2.2 x0).1 = 7 then
                          (zCall zCode kBlockPasses_learnCopy [.ref x0, .ref x1, .int x3] h8).bind (zRV fun h10 =>
                            zRun zCode kBlockPasses_lookThroughCopies 4 [.ref x0, .ref x1, .int (x2 + r2), .int (x3 + zi 1)] [] h10)
                        else
                          none)
                  else
                    none)
              else
                none
            else
              if (h3.2.2 x0).1 = 7 then
                (zCall zCode kBlockPasses_learnCopy [.ref x0, .ref x1, .int x3] h3).bind (zRV fun h5 =>
                  zRun zCode kBlockPasses_lookThroughCopies 4 [.ref x0, .ref x1, .int (x2 + r2), .int (x3 + zi 1)] [] h5)
              else
                none)
        else
          none)
    else
      none
  := (zRun_eb [4, 14] 400 14 _ _ _).trans rfl
set_option maxRecDepth 100000 in
set_option maxHeartbeats 4000000 in
theorem zb_BlockPasses_forgetCopies_0 (x0 : Nat) (h : zH) : zRun zCode kBlockPasses_forgetCopies 0 [.ref x0, .retAddr 0] [] h =
    zRun zCode kBlockPasses_forgetCopies 2 [.ref x0, .int (zi 0)] [] h
  := (zRun_eb [2] 400 0 _ _ _).trans rfl
set_option maxRecDepth 100000 in
set_option maxHeartbeats 4000000 in
theorem zb_BlockPasses_forgetCopies_2 (x0 : Nat) (x1 : Int32) (h : zH) : zRun zCode kBlockPasses_forgetCopies 2 [.ref x0, .int x1] [] h =
    if x1 < (zi 12) then
      (zVA (zAt h x0 7 2)).bind fun a1 =>
      (zIx h a1 100 x1).bind fun j2 =>
      (zPut h a1 100 j2 (.int (zi (-1)))).bind fun h3 =>
      zRun zCode kBlockPasses_forgetCopies 2 [.ref x0, .int (x1 + zi 1)] [] h3
    else
      some (.inl (none, h))
  := (zRun_eb [2] 400 2 _ _ _).trans rfl
set_option maxRecDepth 100000 in
set_option maxHeartbeats 4000000 in
theorem zb_BlockPasses_putCopies_0 (x0 : Nat) (x1 : Nat) (x2 : Int32) (h : zH) : zRun zCode kBlockPasses_putCopies 0 [.ref x0, .ref x1, .int x2, .retAddr 0, .retAddr 0, .retAddr 0] [] h =
    if (h.2.2 x1).1 = 1 then
      (zCall zCode kProgram_firstVariableAt [.ref x1, .int x2] h).bind (zRI fun r2 h1 =>
        if (h1.2.2 x0).1 = 7 then
          (zCall zCode kBlockPasses_copiedBy [.ref x0, .int r2] h1).bind (zRI fun r4 h3 =>
            if r4 < 0 then
              zRun zCode kBlockPasses_putCopies 16 [.ref x0, .ref x1, .int x2, .int (zi 0), .retAddr 0, .retAddr 0] [] h3
            else
              if (h3.2.2 x1).1 = 1 then
                (zCall zCode kProgram_setFirst [.ref x1, .int x2, .int r4, .long (zl 0)] h3).bind (zRV fun h5 =>
                  zRun zCode kBlockPasses_putCopies 16 [.ref x0, .ref x1, .int x2, .int ((zi 0) + zi 1), .retAddr 0, .retAddr 0] [] h5)
              else
                none)
        else
          none)
    else
      none
  := (zRun_eb [16] 400 0 _ _ _).trans rfl
set_option maxRecDepth 100000 in
set_option maxHeartbeats 4000000 in
theorem zb_BlockPasses_putCopies_16 (x0 : Nat) (x1 : Nat) (x2 : Int32) (x3 : Int32) (h : zH) : zRun zCode kBlockPasses_putCopies 16 [.ref x0, .ref x1, .int x2, .int x3, .retAddr 0, .retAddr 0] [] h =
    if (h.2.2 x1).1 = 1 then
      (zCall zCode kProgram_secondVariableAt [.ref x1, .int x2] h).bind (zRI fun r2 h1 =>
        if (h1.2.2 x0).1 = 7 then
          (zCall zCode kBlockPasses_copiedBy [.ref x0, .int r2] h1).bind (zRI fun r4 h3 =>
            if r4 < 0 then
              some (.inl (some (.int x3), h3))
            else
              if (h3.2.2 x1).1 = 1 then
                (zCall zCode kProgram_setSecond [.ref x1, .int x2, .int r4, .long (zl 0)] h3).bind (zRV fun h5 =>
                  some (.inl (some (.int (x3 + zi 1)), h5)))
              else
                none)
        else
          none)
    else
      none
  := (zRun_eb [16] 400 16 _ _ _).trans rfl
set_option maxRecDepth 100000 in
set_option maxHeartbeats 4000000 in
theorem zb_BlockPasses_copiedBy_0 (x0 : Nat) (x1 : Int32) (h : zH) : zRun zCode kBlockPasses_copiedBy 0 [.ref x0, .int x1] [] h =
    if x1 < 0 then
      some (.inl (some (.int (zi (-1))), h))
    else
      (zVA (zAt h x0 7 2)).bind fun a1 =>
      if 100 ≤ (h.2.2 a1).1 then
        if x1 < ((h.2.2 a1).2.length.toInt32) then
          (zVA (zAt h x0 7 2)).bind fun a2 =>
          (zIx h a2 100 x1).bind fun j3 =>
          (zVI (zAt h a2 100 j3)).bind fun v4 =>
          some (.inl (some (.int v4), h))
        else
          some (.inl (some (.int (zi (-1))), h))
      else
        none
  := (zRun_eb [] 400 0 _ _ _).trans rfl
set_option maxRecDepth 100000 in
set_option maxHeartbeats 4000000 in
theorem zb_BlockPasses_learnCopy_0 (x0 : Nat) (x1 : Nat) (x2 : Int32) (h : zH) : zRun zCode kBlockPasses_learnCopy 0 [.ref x0, .ref x1, .int x2, .retAddr 0, .retAddr 0] [] h =
    if (h.2.2 x1).1 = 1 then
      (zCall zCode kProgram_assigned [.ref x1, .int x2] h).bind (zRI fun r2 h1 =>
        if r2 < 0 then
          some (.inl (none, h1))
        else
          if r2 < (zi 12) then
            zRun zCode kBlockPasses_learnCopy 12 [.ref x0, .ref x1, .int x2, .int r2, .int (zi 0)] [] h1
          else
            some (.inl (none, h1)))
    else
      none
  := (zRun_eb [12] 400 0 _ _ _).trans rfl
set_option maxRecDepth 100000 in
set_option maxHeartbeats 4000000 in
theorem zb_BlockPasses_learnCopy_12 (x0 : Nat) (x1 : Nat) (x2 : Int32) (x3 : Int32) (x4 : Int32) (h : zH) : zRun zCode kBlockPasses_learnCopy 12 [.ref x0, .ref x1, .int x2, .int x3, .int x4] [] h =
    if x4 < (zi 12) then
      (zVA (zAt h x0 7 2)).bind fun a10 =>
      (zIx h a10 100 x4).bind fun j11 =>
      (zVI (zAt h a10 100 j11)).bind fun v12 =>
      if v12 = x3 then
        (zVA (zAt h x0 7 2)).bind fun a13 =>
        (zIx h a13 100 x4).bind fun j14 =>
        (zPut h a13 100 j14 (.int (zi (-1)))).bind fun h15 =>
        zRun zCode kBlockPasses_learnCopy 12 [.ref x0, .ref x1, .int x2, .int x3, .int (x4 + zi 1)] [] h15
      else
        zRun zCode kBlockPasses_learnCopy 12 [.ref x0, .ref x1, .int x2, .int x3, .int (x4 + zi 1)] [] h
    else
      (zVA (zAt h x0 7 2)).bind fun a1 =>
      if (h.2.2 x1).1 = 1 then
        (zCall zCode kProgram_sortAt [.ref x1, .int x2] h).bind (zRI fun r3 h2 =>
          if r3 = (zi 1) then
            if (h2.2.2 x1).1 = 1 then
              (zCall zCode kProgram_firstVariableAt [.ref x1, .int x2] h2).bind (zRI fun r7 h6 =>
                (zIx h6 a1 100 x3).bind fun j8 =>
                (zPut h6 a1 100 j8 (.int r7)).bind fun h9 =>
                some (.inl (none, h9)))
            else
              none
          else
            (zIx h2 a1 100 x3).bind fun j4 =>
            (zPut h2 a1 100 j4 (.int (zi (-1)))).bind fun h5 =>
            some (.inl (none, h5)))
      else
        none
  := (zRun_eb [12] 400 12 _ _ _).trans rfl
set_option maxRecDepth 100000 in
set_option maxHeartbeats 4000000 in
theorem zb_BlockPasses_takeValues_0 (x0 : Nat) (x1 : Nat) (h : zH) : zRun zCode kBlockPasses_takeValues 0 [.ref x0, .ref x1, .retAddr 0, .retAddr 0, .retAddr 0, .retAddr 0] [] h =
    zRun zCode kBlockPasses_takeValues 6 [.retAddr 0, .ref x1, .int (zi 0), .int (zi 0), .int (zi 0), .retAddr 0] [] h
  := (zRun_eb [6, 16] 400 0 _ _ _).trans rfl
set_option maxRecDepth 100000 in
set_option maxHeartbeats 4000000 in
theorem zb_BlockPasses_takeValues_6 (x1 : Nat) (x2 : Int32) (x3 : Int32) (x4 : Int32) (h : zH) : zRun zCode kBlockPasses_takeValues 6 [.retAddr 0, .ref x1, .int x2, .int x3, .int x4, .retAddr 0] [] h =
    if (h.2.2 x1).1 = 1 then
      (zCall zCode kProgram_size [.ref x1] h).bind (zRI fun r2 h1 =>
        if x4 < r2 then
          if (h1.2.2 x1).1 = 1 then
            (zCall zCode kProgram_startsBlock [.ref x1, .int x4] h1).bind (zRI fun r4 h3 =>
              if r4 = 0 then
                zRun zCode kBlockPasses_takeValues 16 [.retAddr 0, .ref x1, .int x2, .int x3, .int x4, .retAddr 0] [] h3
              else
                zRun zCode kBlockPasses_takeValues 16 [.retAddr 0, .ref x1, .int x2, .int x4, .int x4, .retAddr 0] [] h3)
          else
            none
        else
          some (.inl (some (.int x2), h1)))
    else
      none
  := (zRun_eb [6, 16] 400 6 _ _ _).trans rfl
set_option maxRecDepth 100000 in
set_option maxHeartbeats 4000000 in
theorem zb_BlockPasses_takeValues_16 (x1 : Nat) (x2 : Int32) (x3 : Int32) (x4 : Int32) (h : zH) : zRun zCode kBlockPasses_takeValues 16 [.retAddr 0, .ref x1, .int x2, .int x3, .int x4, .retAddr 0] [] h =
    (zCall zCode kBlockPasses_sameValue [.ref x1, .int x3, .int x4] h).bind (zRI fun r2 h1 =>
      if r2 < 0 then
        zRun zCode kBlockPasses_takeValues 6 [.retAddr 0, .ref x1, .int x2, .int x3, .int (x4 + zi 1), .retAddr 0] [] h1
      else
        if (h1.2.2 x1).1 = 1 then
          (zCall zCode kProgram_targetAt [.ref x1, .int r2] h1).bind (zRI fun r4 h3 =>
            if (h3.2.2 x1).1 = 1 then
              (zCall zCode kProgram_setPlain [.ref x1, .int x4, .int r4, .long (zl 0)] h3).bind (zRV fun h5 =>
                zRun zCode kBlockPasses_takeValues 6 [.retAddr 0, .ref x1, .int (x2 + zi 1), .int x3, .int (x4 + zi 1), .retAddr 0] [] h5)
            else
              none)
        else
          none)
  := (zRun_eb [6, 16] 400 16 _ _ _).trans rfl
set_option maxRecDepth 100000 in
set_option maxHeartbeats 4000000 in
theorem zb_BlockPasses_sameValue_0 (x0 : Nat) (x1 : Int32) (x2 : Int32) (h : zH) : zRun zCode kBlockPasses_sameValue 0 [.ref x0, .int x1, .int x2, .retAddr 0, .retAddr 0, .retAddr 0] [] h =
    if (h.2.2 x0).1 = 1 then
      (zCall zCode kProgram_sortAt [.ref x0, .int x2] h).bind (zRI fun r2 h1 =>
        if r2 = (zi 2) then
          if (h1.2.2 x0).1 = 1 then
            (zCall zCode kProgram_readSet [.ref x0, .int x2] h1).bind (zRI fun r4 h3 =>
              zRun zCode kBlockPasses_sameValue 13 [.ref x0, .retAddr 0, .int x2, .int r4, .int x1, .retAddr 0] [] h3)
          else
            none
        else
          some (.inl (some (.int (zi (-1))), h1)))
    else
      none
  := (zRun_eb [13] 400 0 _ _ _).trans rfl
set_option maxRecDepth 100000 in
set_option maxHeartbeats 4000000 in
theorem zb_BlockPasses_sameValue_13 (x0 : Nat) (x2 : Int32) (x3 : Int32) (x4 : Int32) (h : zH) : zRun zCode kBlockPasses_sameValue 13 [.ref x0, .retAddr 0, .int x2, .int x3, .int x4, .retAddr 0] [] h =
    if x4 < x2 then
      if (h.2.2 x0).1 = 1 then
        (zCall zCode kProgram_assignedSet [.ref x0, .int x4] h).bind (zRI fun r2 h1 =>
          (zCall zCode kBlockPasses_reckonsSame [.ref x0, .int x4, .int x2] h1).bind (zRI fun r4 h3 =>
            if r4 = 0 then
              zRun zCode kBlockPasses_sameValue 13 [.ref x0, .retAddr 0, .int x2, .int x3, .int (x4 + zi 1), .retAddr 0] [] h3
            else
              if (r2 &&& x3) = 0 then
                (zCall zCode kBlockPasses_assignedBetween [.ref x0, .int x4, .int x2] h3).bind (zRI fun r6 h5 =>
                  if (r6 &&& (r2 ||| x3)) = 0 then
                    some (.inl (some (.int x4), h5))
                  else
                    zRun zCode kBlockPasses_sameValue 13 [.ref x0, .retAddr 0, .int x2, .int x3, .int (x4 + zi 1), .retAddr 0] [] h5)
              else
                zRun zCode kBlockPasses_sameValue 13 [.ref x0, .retAddr 0, .int x2, .int x3, .int (x4 + zi 1), .retAddr 0] [] h3))
      else
        none
    else
      some (.inl (some (.int (zi (-1))), h))
  := (zRun_eb [13] 400 13 _ _ _).trans rfl
set_option maxRecDepth 100000 in
set_option maxHeartbeats 4000000 in
theorem zb_BlockPasses_reckonsSame_0 (x0 : Nat) (x1 : Int32) (x2 : Int32) (h : zH) : zRun zCode kBlockPasses_reckonsSame 0 [.ref x0, .int x1, .int x2, .retAddr 0, .retAddr 0] [] h =
    if (h.2.2 x0).1 = 1 then
      (zCall zCode kProgram_sortAt [.ref x0, .int x1] h).bind (zRI fun r2 h1 =>
        if r2 = (zi 2) then
          if (h1.2.2 x0).1 = 1 then
            (zCall zCode kProgram_opAt [.ref x0, .int x1] h1).bind (zRI fun r5 h4 =>
              if (h4.2.2 x0).1 = 1 then
                (zCall zCode kProgram_opAt [.ref x0, .int x2] h4).bind (zRI fun r7 h6 =>
                  if r5 = r7 then
                    if (h6.2.2 x0).1 = 1 then
                      (zCall zCode kProgram_firstVariableAt [.ref x0, .int x1] h6).bind (zRI fun r9 h8 =>
                        if (h8.2.2 x0).1 = 1 then
                          (zCall zCode kProgram_firstVariableAt [.ref x0, .int x2] h8).bind (zRI fun r11 h10 =>
                            if r9 = r11 then
                              if (h10.2.2 x0).1 = 1 then
                                (zCall zCode kProgram_firstNumberAt [.ref x0, .int x1] h10).bind (zRL fun r13 h12 =>
                                  if (h12.2.2 x0).1 = 1 then
                                    (zCall zCode kProgram_firstNumberAt [.ref x0, .int x2] h12).bind (zRL fun r15 h14 =>
                                      if (lg_cmp r13 r15) = 0 then
                                        if (h14.2.2 x0).1 = 1 then
                                          (zCall zCode kProgram_secondVariableAt [.ref x0, .int x1] h14).bind (zRI fun r17 h16 =>
                                            if (h16.2.2 x0).1 = 1 then
                                              (zCall zCode kProgram_secondVariableAt [.ref x0, .int x2] h16).bind (zRI fun r19 h18 =>
                                                if r17 = r19 then
                                                  if (h18.2.2 x0).1 = 1 then
                                                    (zCall zCode kProgram_secondNumberAt [.ref x0, .int x1] h18).bind (zRL fun r21 h20 =>
                                                      if (h20.2.2 x0).1 = 1 then
                                                        (zCall zCode kProgram_secondNumberAt [.ref x0, .int x2] h20).bind (zRL fun r23 h22 =>
                                                          if (lg_cmp r21 r23) = 0 then
                                                            zRun zCode kBlockPasses_reckonsSame 47 [.ref x0, .int x1, .int x2, .retAddr 0, .retAddr 0] [.int (zi 1)] h22
                                                          else
                                                            zRun zCode kBlockPasses_reckonsSame 47 [.ref x0, .int x1, .int x2, .retAddr 0, .retAddr 0] [.int (zi 0)] h22)
                                                      else
                                                        none)
                                                  else
                                                    none
                                                else
                                                  zRun zCode kBlockPasses_reckonsSame 47 [.ref x0, .int x1, .int x2, .retAddr 0, .retAddr 0] [.int (zi 0)] h18)
                                            else
                                              none)
                                        else
                                          none
                                      else
                                        zRun zCode kBlockPasses_reckonsSame 47 [.ref x0, .int x1, .int x2, .retAddr 0, .retAddr 0] [.int (zi 0)] h14)
                                  else
                                    none)
                              else
                                none
                            else
                              zRun zCode kBlockPasses_reckonsSame 47 [.ref x0, .int x1, .int x2, .retAddr 0, .retAddr 0] [.int (zi 0)] h10)
                        else
                          none)
                    else
                      none
                  else
                    (zB (zi 0)).bind fun b24 =>
                    some (.inl (some (.int b24), h6)))
              else
                none)
          else
            none
        else
          (zB (zi 0)).bind fun b3 =>
          some (.inl (some (.int b3), h1)))
    else
      none
  := (zRun_eb [47, 81] 400 0 _ _ _).trans rfl
set_option maxRecDepth 100000 in
set_option maxHeartbeats 4000000 in
theorem zb_BlockPasses_reckonsSame_47 (x0 : Nat) (x1 : Int32) (x2 : Int32) (y0 : Int32) (h : zH) : zRun zCode kBlockPasses_reckonsSame 47 [.ref x0, .int x1, .int x2, .retAddr 0, .retAddr 0] [.int y0] h =
    if (h.2.2 x0).1 = 1 then
      (zCall zCode kProgram_firstVariableAt [.ref x0, .int x1] h).bind (zRI fun r2 h1 =>
        if (h1.2.2 x0).1 = 1 then
          (zCall zCode kProgram_secondVariableAt [.ref x0, .int x2] h1).bind (zRI fun r4 h3 =>
            if r2 = r4 then
              if (h3.2.2 x0).1 = 1 then
                (zCall zCode kProgram_firstNumberAt [.ref x0, .int x1] h3).bind (zRL fun r6 h5 =>
                  if (h5.2.2 x0).1 = 1 then
                    (zCall zCode kProgram_secondNumberAt [.ref x0, .int x2] h5).bind (zRL fun r8 h7 =>
                      if (lg_cmp r6 r8) = 0 then
                        if (h7.2.2 x0).1 = 1 then
                          (zCall zCode kProgram_secondVariableAt [.ref x0, .int x1] h7).bind (zRI fun r10 h9 =>
                            if (h9.2.2 x0).1 = 1 then
                              (zCall zCode kProgram_firstVariableAt [.ref x0, .int x2] h9).bind (zRI fun r12 h11 =>
                                if r10 = r12 then
                                  if (h11.2.2 x0).1 = 1 then
                                    (zCall zCode kProgram_secondNumberAt [.ref x0, .int x1] h11).bind (zRL fun r14 h13 =>
                                      if (h13.2.2 x0).1 = 1 then
                                        (zCall zCode kProgram_firstNumberAt [.ref x0, .int x2] h13).bind (zRL fun r16 h15 =>
                                          if (lg_cmp r14 r16) = 0 then
                                            zRun zCode kBlockPasses_reckonsSame 81 [.ref x0, .retAddr 0, .int x2, .int y0, .retAddr 0] [.int (zi 1)] h15
                                          else
                                            zRun zCode kBlockPasses_reckonsSame 81 [.ref x0, .retAddr 0, .int x2, .int y0, .retAddr 0] [.int (zi 0)] h15)
                                      else
                                        none)
                                  else
                                    none
                                else
                                  zRun zCode kBlockPasses_reckonsSame 81 [.ref x0, .retAddr 0, .int x2, .int y0, .retAddr 0] [.int (zi 0)] h11)
                            else
                              none)
                        else
                          none
                      else
                        zRun zCode kBlockPasses_reckonsSame 81 [.ref x0, .retAddr 0, .int x2, .int y0, .retAddr 0] [.int (zi 0)] h7)
                  else
                    none)
              else
                none
            else
              zRun zCode kBlockPasses_reckonsSame 81 [.ref x0, .retAddr 0, .int x2, .int y0, .retAddr 0] [.int (zi 0)] h3)
        else
          none)
    else
      none
  := (zRun_eb [47, 81] 400 47 _ _ _).trans rfl
set_option maxRecDepth 100000 in
set_option maxHeartbeats 4000000 in
theorem zb_BlockPasses_reckonsSame_81 (x0 : Nat) (x2 : Int32) (x3 : Int32) (y0 : Int32) (h : zH) : zRun zCode kBlockPasses_reckonsSame 81 [.ref x0, .retAddr 0, .int x2, .int x3, .retAddr 0] [.int y0] h =
    if x3 = 0 then
      if y0 = 0 then
        (zB (zi 0)).bind fun b2 =>
        some (.inl (some (.int b2), h))
      else
        if (h.2.2 x0).1 = 1 then
          (zCall zCode kProgram_opAt [.ref x0, .int x2] h).bind (zRI fun r4 h3 =>
            (zCall zCode kBlockPasses_canTurn [.int r4] h3).bind (zRI fun r6 h5 =>
              if r6 = 0 then
                (zB (zi 0)).bind fun b7 =>
                some (.inl (some (.int b7), h5))
              else
                (zB (zi 1)).bind fun b8 =>
                some (.inl (some (.int b8), h5))))
        else
          none
    else
      (zB (zi 1)).bind fun b1 =>
      some (.inl (some (.int b1), h))
  := (zRun_eb [47, 81] 400 81 _ _ _).trans rfl
set_option maxRecDepth 100000 in
set_option maxHeartbeats 4000000 in
theorem zb_BlockPasses_canTurn_0 (x0 : Int32) (h : zH) : zRun zCode kBlockPasses_canTurn 0 [.int x0] [] h =
    if x0 = 0 then
      (zB (zi 1)).bind fun b1 =>
      some (.inl (some (.int b1), h))
    else
      if x0 = (zi 2) then
        (zB (zi 1)).bind fun b2 =>
        some (.inl (some (.int b2), h))
      else
        if x0 = (zi 5) then
          (zB (zi 1)).bind fun b3 =>
          some (.inl (some (.int b3), h))
        else
          if x0 = (zi 6) then
            (zB (zi 1)).bind fun b4 =>
            some (.inl (some (.int b4), h))
          else
            if x0 = (zi 7) then
              (zB (zi 1)).bind fun b5 =>
              some (.inl (some (.int b5), h))
            else
              if x0 = (zi 9) then
                (zB (zi 1)).bind fun b7 =>
                some (.inl (some (.int b7), h))
              else
                (zB (zi 0)).bind fun b6 =>
                some (.inl (some (.int b6), h))
  := (zRun_eb [] 400 0 _ _ _).trans rfl
set_option maxRecDepth 100000 in
set_option maxHeartbeats 4000000 in
theorem zb_BlockPasses_assignedBetween_0 (x0 : Nat) (x1 : Int32) (x2 : Int32) (h : zH) : zRun zCode kBlockPasses_assignedBetween 0 [.ref x0, .int x1, .int x2, .retAddr 0, .retAddr 0] [] h =
    zRun zCode kBlockPasses_assignedBetween 6 [.ref x0, .retAddr 0, .int x2, .int (zi 0), .int (x1 + (zi 1))] [] h
  := (zRun_eb [6] 400 0 _ _ _).trans rfl
set_option maxRecDepth 100000 in
set_option maxHeartbeats 4000000 in
theorem zb_BlockPasses_assignedBetween_6 (x0 : Nat) (x2 : Int32) (x3 : Int32) (x4 : Int32) (h : zH) : zRun zCode kBlockPasses_assignedBetween 6 [.ref x0, .retAddr 0, .int x2, .int x3, .int x4] [] h =
    if x4 < x2 then
      if (h.2.2 x0).1 = 1 then
        (zCall zCode kProgram_assignedSet [.ref x0, .int x4] h).bind (zRI fun r2 h1 =>
          zRun zCode kBlockPasses_assignedBetween 6 [.ref x0, .retAddr 0, .int x2, .int (x3 ||| r2), .int (x4 + zi 1)] [] h1)
      else
        none
    else
      some (.inl (some (.int x3), h))
  := (zRun_eb [6] 400 6 _ _ _).trans rfl
set_option maxRecDepth 100000 in
set_option maxHeartbeats 4000000 in
theorem zb_FlowPasses_drop_0 (x0 : Nat) (x1 : Nat) (h : zH) : zRun zCode kFlowPasses_drop 0 [.ref x0, .ref x1, .retAddr 0, .retAddr 0, .retAddr 0] [] h =
    zRun zCode kFlowPasses_drop 4 [.ref x0, .ref x1, .int (zi 0), .int (zi 0), .retAddr 0] [] h
  := (zRun_eb [4] 400 0 _ _ _).trans rfl
set_option maxRecDepth 100000 in
set_option maxHeartbeats 4000000 in
theorem zb_FlowPasses_drop_4 (x0 : Nat) (x1 : Nat) (x2 : Int32) (x3 : Int32) (h : zH) : zRun zCode kFlowPasses_drop 4 [.ref x0, .ref x1, .int x2, .int x3, .retAddr 0] [] h =
    if x3 < (zi 1000000) then
      (zVA (zAt h x0 8 0)).bind fun a1 =>
      if (h.2.2 a1).1 = 6 then
        (zCall zCode kFlow_look [.ref a1, .ref x1] h).bind (zRV fun h2 =>
          if (h2.2.2 x0).1 = 8 then
            (zCall zCode kFlowPasses_firstNeedless [.ref x0, .ref x1] h2).bind (zRI fun r4 h3 =>
              if r4 < 0 then
                some (.inl (some (.int x2), h3))
              else
                if (h3.2.2 x1).1 = 1 then
                  (zCall zCode kProgram_removeAt [.ref x1, .int r4] h3).bind (zRV fun h5 =>
                    zRun zCode kFlowPasses_drop 4 [.ref x0, .ref x1, .int (x2 + zi 1), .int (x3 + zi 1), .retAddr 0] [] h5)
                else
                  none)
          else
            none)
      else
        none
    else
      some (.inl (some (.int x2), h))
  := (zRun_eb [4] 400 4 _ _ _).trans rfl
set_option maxRecDepth 100000 in
set_option maxHeartbeats 4000000 in
theorem zb_FlowPasses_firstNeedless_0 (x0 : Nat) (x1 : Nat) (h : zH) : zRun zCode kFlowPasses_firstNeedless 0 [.ref x0, .ref x1, .retAddr 0] [] h =
    zRun zCode kFlowPasses_firstNeedless 2 [.ref x0, .ref x1, .int (zi 0)] [] h
  := (zRun_eb [2] 400 0 _ _ _).trans rfl
set_option maxRecDepth 100000 in
set_option maxHeartbeats 4000000 in
theorem zb_FlowPasses_firstNeedless_2 (x0 : Nat) (x1 : Nat) (x2 : Int32) (h : zH) : zRun zCode kFlowPasses_firstNeedless 2 [.ref x0, .ref x1, .int x2] [] h =
    if (h.2.2 x1).1 = 1 then
      (zCall zCode kProgram_size [.ref x1] h).bind (zRI fun r2 h1 =>
        if x2 < r2 then
          if (h1.2.2 x0).1 = 8 then
            (zCall zCode kFlowPasses_isNeedless [.ref x0, .ref x1, .int x2] h1).bind (zRI fun r4 h3 =>
              if r4 = 0 then
                zRun zCode kFlowPasses_firstNeedless 2 [.ref x0, .ref x1, .int (x2 + zi 1)] [] h3
              else
                some (.inl (some (.int x2), h3)))
          else
            none
        else
          some (.inl (some (.int (zi (-1))), h1)))
    else
      none
  := (zRun_eb [2] 400 2 _ _ _).trans rfl
set_option maxRecDepth 100000 in
set_option maxHeartbeats 4000000 in
theorem zb_FlowPasses_isNeedless_0 (x0 : Nat) (x1 : Nat) (x2 : Int32) (h : zH) : zRun zCode kFlowPasses_isNeedless 0 [.ref x0, .ref x1, .int x2] [] h =
    if (h.2.2 x1).1 = 1 then
      (zCall zCode kProgram_sortAt [.ref x1, .int x2] h).bind (zRI fun r2 h1 =>
        if r2 = zi 0 then
          if (h1.2.2 x1).1 = 1 then
            (zCall zCode kProgram_targetAt [.ref x1, .int x2] h1).bind (zRI fun r44 h43 =>
              if (h43.2.2 x1).1 = 1 then
                (zCall zCode kProgram_jumpsTo [.ref x1, .int r44] h43).bind (zRI fun r46 h45 =>
                  if r46 = 0 then
                    (zB (zi 1)).bind fun b48 =>
                    some (.inl (some (.int b48), h45))
                  else
                    (zB (zi 0)).bind fun b47 =>
                    some (.inl (some (.int b47), h45)))
              else
                none)
          else
            none
        else
          if r2 = zi 1 then
            (zVA (zAt h1 x0 8 0)).bind fun a32 =>
            if (h1.2.2 a32).1 = 6 then
              (zCall zCode kFlow_reaches [.ref a32, .int x2] h1).bind (zRI fun r34 h33 =>
                if r34 = 0 then
                  (zB (zi 1)).bind fun b35 =>
                  some (.inl (some (.int b35), h33))
                else
                  if (h33.2.2 x1).1 = 1 then
                    (zCall zCode kProgram_assignedSet [.ref x1, .int x2] h33).bind (zRI fun r37 h36 =>
                      (zVA (zAt h36 x0 8 0)).bind fun a38 =>
                      if (h36.2.2 a38).1 = 6 then
                        (zCall zCode kFlow_liveBehind [.ref a38, .int x2] h36).bind (zRI fun r40 h39 =>
                          if (r37 &&& r40) = 0 then
                            (zB (zi 1)).bind fun b42 =>
                            some (.inl (some (.int b42), h39))
                          else
                            (zB (zi 0)).bind fun b41 =>
                            some (.inl (some (.int b41), h39)))
                      else
                        none)
                  else
                    none)
            else
              none
          else
            if r2 = zi 2 then
              (zVA (zAt h1 x0 8 0)).bind fun a21 =>
              if (h1.2.2 a21).1 = 6 then
                (zCall zCode kFlow_reaches [.ref a21, .int x2] h1).bind (zRI fun r23 h22 =>
                  if r23 = 0 then
                    (zB (zi 1)).bind fun b24 =>
                    some (.inl (some (.int b24), h22))
                  else
                    if (h22.2.2 x1).1 = 1 then
                      (zCall zCode kProgram_assignedSet [.ref x1, .int x2] h22).bind (zRI fun r26 h25 =>
                        (zVA (zAt h25 x0 8 0)).bind fun a27 =>
                        if (h25.2.2 a27).1 = 6 then
                          (zCall zCode kFlow_liveBehind [.ref a27, .int x2] h25).bind (zRI fun r29 h28 =>
                            if (r26 &&& r29) = 0 then
                              (zB (zi 1)).bind fun b31 =>
                              some (.inl (some (.int b31), h28))
                            else
                              (zB (zi 0)).bind fun b30 =>
                              some (.inl (some (.int b30), h28)))
                        else
                          none)
                    else
                      none)
              else
                none
            else
              if r2 = zi 3 then
                (zVA (zAt h1 x0 8 0)).bind fun a8 =>
                if (h1.2.2 a8).1 = 6 then
                  (zCall zCode kFlow_reaches [.ref a8, .int x2] h1).bind (zRI fun r10 h9 =>
                    if r10 = 0 then
                      (zB (zi 1)).bind fun b11 =>
                      some (.inl (some (.int b11), h9))
                    else
                      if (h9.2.2 x1).1 = 1 then
                        (zCall zCode kProgram_jumpOf [.ref x1, .int x2] h9).bind (zRI fun r13 h12 =>
                          if x2 < r13 then
                            if (h12.2.2 x1).1 = 1 then
                              (zCall zCode kProgram_jumpOf [.ref x1, .int x2] h12).bind (zRI fun r16 h15 =>
                                if (h15.2.2 x1).1 = 1 then
                                  (zCall zCode kProgram_pastLabels [.ref x1, .int (x2 + (zi 1))] h15).bind (zRI fun r18 h17 =>
                                    if r16 < r18 then
                                      (zB (zi 1)).bind fun b20 =>
                                      some (.inl (some (.int b20), h17))
                                    else
                                      (zB (zi 0)).bind fun b19 =>
                                      some (.inl (some (.int b19), h17)))
                                else
                                  none)
                            else
                              none
                          else
                            (zB (zi 0)).bind fun b14 =>
                            some (.inl (some (.int b14), h12)))
                      else
                        none)
                else
                  none
              else
                (zVA (zAt h1 x0 8 0)).bind fun a3 =>
                if (h1.2.2 a3).1 = 6 then
                  (zCall zCode kFlow_reaches [.ref a3, .int x2] h1).bind (zRI fun r5 h4 =>
                    if r5 = 0 then
                      (zB (zi 1)).bind fun b7 =>
                      some (.inl (some (.int b7), h4))
                    else
                      (zB (zi 0)).bind fun b6 =>
                      some (.inl (some (.int b6), h4)))
                else
                  none)
    else
      none
  := (zRun_eb [] 400 0 _ _ _).trans rfl
set_option maxRecDepth 100000 in
set_option maxHeartbeats 4000000 in
theorem zb_Program_pastLabels_0 (x0 : Nat) (x1 : Int32) (h : zH) : zRun zCode kProgram_pastLabels 0 [.ref x0, .int x1, .retAddr 0] [] h =
    zRun zCode kProgram_pastLabels 2 [.ref x0, .retAddr 0, .int x1] [] h
  := (zRun_eb [2] 400 0 _ _ _).trans rfl
set_option maxRecDepth 100000 in
set_option maxHeartbeats 4000000 in
theorem zb_Program_pastLabels_2 (x0 : Nat) (x2 : Int32) (h : zH) : zRun zCode kProgram_pastLabels 2 [.ref x0, .retAddr 0, .int x2] [] h =
    (zVI (zAt h x0 1 12)).bind fun v1 =>
    if x2 < v1 then
      if (h.2.2 x0).1 = 1 then
        (zCall zCode kProgram_sortAt [.ref x0, .int x2] h).bind (zRI fun r3 h2 =>
          if r3 = 0 then
            zRun zCode kProgram_pastLabels 2 [.ref x0, .retAddr 0, .int (x2 + zi 1)] [] h2
          else
            some (.inl (some (.int x2), h2)))
      else
        none
    else
      some (.inl (some (.int x2), h))
  := (zRun_eb [2] 400 2 _ _ _).trans rfl
set_option maxRecDepth 100000 in
set_option maxHeartbeats 4000000 in
theorem zb_Program_removeAt_0 (x0 : Nat) (x1 : Int32) (h : zH) : zRun zCode kProgram_removeAt 0 [.ref x0, .int x1, .retAddr 0] [] h =
    if (h.2.2 x0).1 = 1 then
      (zCall zCode kProgram_has [.ref x0, .int x1] h).bind (zRI fun r2 h1 =>
        if r2 = 0 then
          some (.inl (none, h1))
        else
          zRun zCode kProgram_removeAt 7 [.ref x0, .retAddr 0, .int x1] [] h1)
    else
      none
  := (zRun_eb [7] 400 0 _ _ _).trans rfl
set_option maxRecDepth 100000 in
set_option maxHeartbeats 4000000 in
theorem zb_Program_removeAt_7 (x0 : Nat) (x2 : Int32) (h : zH) : zRun zCode kProgram_removeAt 7 [.ref x0, .retAddr 0, .int x2] [] h =
    (zVI (zAt h x0 1 12)).bind fun v1 =>
    if (x2 + (zi 1)) < v1 then
      if (h.2.2 x0).1 = 1 then
        (zCall zCode kProgram_layDown [.ref x0, .int x2, .ref x0, .int (x2 + (zi 1))] h).bind (zRV fun h4 =>
          zRun zCode kProgram_removeAt 7 [.ref x0, .retAddr 0, .int (x2 + zi 1)] [] h4)
      else
        none
    else
      (zVI (zAt h x0 1 12)).bind fun v2 =>
      (zPut h x0 1 12 (.int (v2 - (zi 1)))).bind fun h3 =>
      some (.inl (none, h3))
  := (zRun_eb [7] 400 7 _ _ _).trans rfl
set_option maxRecDepth 100000 in
set_option maxHeartbeats 4000000 in
theorem zb_FlowPasses_move_0 (x0 : Nat) (x1 : Nat) (h : zH) : zRun zCode kFlowPasses_move 0 [.ref x0, .ref x1, .retAddr 0, .retAddr 0, .retAddr 0] [] h =
    zRun zCode kFlowPasses_move 6 [.ref x0, .ref x1, .int (zi 0), .int (zi 1), .int (zi 0)] [] h
  := (zRun_eb [6] 400 0 _ _ _).trans rfl
set_option maxRecDepth 100000 in
set_option maxHeartbeats 4000000 in
theorem zb_FlowPasses_move_6 (x0 : Nat) (x1 : Nat) (x2 : Int32) (x3 : Int32) (x4 : Int32) (h : zH) : zRun zCode kFlowPasses_move 6 [.ref x0, .ref x1, .int x2, .int x3, .int x4] [] h =
    if x3 = 0 then
      some (.inl (some (.int x2), h))
    else
      if x4 < (zi 1000000) then
        (zVA (zAt h x0 8 0)).bind fun a1 =>
        if (h.2.2 a1).1 = 6 then
          (zCall zCode kFlow_look [.ref a1, .ref x1] h).bind (zRV fun h2 =>
            if (h2.2.2 x0).1 = 8 then
              (zCall zCode kFlowPasses_moveFirst [.ref x0, .ref x1] h2).bind (zRI fun r4 h3 =>
                if r4 = 0 then
                  zRun zCode kFlowPasses_move 6 [.ref x0, .ref x1, .int (x2 + (zi 0)), .int r4, .int (x4 + zi 1)] [] h3
                else
                  zRun zCode kFlowPasses_move 6 [.ref x0, .ref x1, .int (x2 + (zi 1)), .int r4, .int (x4 + zi 1)] [] h3)
            else
              none)
        else
          none
      else
        some (.inl (some (.int x2), h))
  := (zRun_eb [6] 400 6 _ _ _).trans rfl
set_option maxRecDepth 100000 in
set_option maxHeartbeats 4000000 in
theorem zb_FlowPasses_moveFirst_0 (x0 : Nat) (x1 : Nat) (h : zH) : zRun zCode kFlowPasses_moveFirst 0 [.ref x0, .ref x1, .retAddr 0, .retAddr 0, .retAddr 0] [] h =
    zRun zCode kFlowPasses_moveFirst 2 [.ref x0, .ref x1, .int (zi 0), .retAddr 0, .retAddr 0] [] h
  := (zRun_eb [2] 400 0 _ _ _).trans rfl
set_option maxRecDepth 100000 in
set_option maxHeartbeats 4000000 in
theorem zb_FlowPasses_moveFirst_2 (x0 : Nat) (x1 : Nat) (x2 : Int32) (h : zH) : zRun zCode kFlowPasses_moveFirst 2 [.ref x0, .ref x1, .int x2, .retAddr 0, .retAddr 0] [] h =
    if (h.2.2 x1).1 = 1 then
      (zCall zCode kProgram_size [.ref x1] h).bind (zRI fun r2 h1 =>
        if x2 < r2 then
          if (h1.2.2 x1).1 = 1 then
            (zCall zCode kProgram_loopEnd [.ref x1, .int x2] h1).bind (zRI fun r5 h4 =>
              if r5 < 0 then
                if (zi (-1)) < 0 then
                  zRun zCode kFlowPasses_moveFirst 2 [.ref x0, .ref x1, .int (x2 + zi 1), .retAddr 0, .retAddr 0] [] h4
                else
                  if (h4.2.2 x1).1 = 1 then
                    (zCall zCode kProgram_moveUp [.ref x1, .int (zi (-1)), .int x2] h4).bind (zRV fun h10 =>
                      (zB (zi 1)).bind fun b11 =>
                      some (.inl (some (.int b11), h10)))
                  else
                    none
              else
                if (h4.2.2 x0).1 = 8 then
                  (zCall zCode kFlowPasses_firstMovable [.ref x0, .ref x1, .int x2, .int r5] h4).bind (zRI fun r7 h6 =>
                    if r7 < 0 then
                      zRun zCode kFlowPasses_moveFirst 2 [.ref x0, .ref x1, .int (x2 + zi 1), .retAddr 0, .retAddr 0] [] h6
                    else
                      if (h6.2.2 x1).1 = 1 then
                        (zCall zCode kProgram_moveUp [.ref x1, .int r7, .int x2] h6).bind (zRV fun h8 =>
                          (zB (zi 1)).bind fun b9 =>
                          some (.inl (some (.int b9), h8)))
                      else
                        none)
                else
                  none)
          else
            none
        else
          (zB (zi 0)).bind fun b3 =>
          some (.inl (some (.int b3), h1)))
    else
      none
  := (zRun_eb [2] 400 2 _ _ _).trans rfl
set_option maxRecDepth 100000 in
set_option maxHeartbeats 4000000 in
theorem zb_FlowPasses_firstMovable_0 (x0 : Nat) (x1 : Nat) (x2 : Int32) (x3 : Int32) (h : zH) : zRun zCode kFlowPasses_firstMovable 0 [.ref x0, .ref x1, .int x2, .int x3, .retAddr 0, .retAddr 0, .retAddr 0, .retAddr 0, .retAddr 0, .retAddr 0] [] h =
    zRun zCode kFlowPasses_firstMovable 8 [.ref x0, .ref x1, .int x2, .int x3, .int (zi 0), .int (zi 0), .int (zi 0), .int x2, .retAddr 0, .retAddr 0] [] h
  := (zRun_eb [8, 60, 76] 400 0 _ _ _).trans rfl
set_option maxRecDepth 100000 in
set_option maxHeartbeats 4000000 in
theorem zb_FlowPasses_firstMovable_8 (x0 : Nat) (x1 : Nat) (x2 : Int32) (x3 : Int32) (x4 : Int32) (x5 : Int32) (x6 : Int32) (x7 : Int32) (h : zH) : zRun zCode kFlowPasses_firstMovable 8 [.ref x0, .ref x1, .int x2, .int x3, .int x4, .int x5, .int x6, .int x7, .retAddr 0, .retAddr 0] [] h =
    if x3 < x7 then
      (zVA (zAt h x0 8 0)).bind fun a1 =>
      if (h.2.2 a1).1 = 6 then
        (zCall zCode kFlow_liveBehind [.ref a1, .int x2] h).bind (zRI fun r3 h2 =>
          zRun zCode kFlowPasses_firstMovable 60 [.retAddr 0, .ref x1, .retAddr 0, .int x3, .int x4, .retAddr 0, .retAddr 0, .int ((x5 ||| x6) ||| r3), .int (x2 + (zi 1)), .retAddr 0] [] h2)
      else
        none
    else
      if (h.2.2 x1).1 = 1 then
        (zCall zCode kProgram_assignedSet [.ref x1, .int x7] h).bind (zRI fun r5 h4 =>
          if (h4.2.2 x1).1 = 1 then
            (zCall zCode kProgram_assignedSet [.ref x1, .int x7] h4).bind (zRI fun r7 h6 =>
              if (h6.2.2 x1).1 = 1 then
                (zCall zCode kProgram_nextOf [.ref x1, .int x7] h6).bind (zRI fun r9 h8 =>
                  if (h8.2.2 x0).1 = 8 then
                    (zCall zCode kFlowPasses_outsideAhead [.ref x0, .ref x1, .int r9, .int x2, .int x3] h8).bind (zRI fun r11 h10 =>
                      if (h10.2.2 x1).1 = 1 then
                        (zCall zCode kProgram_jumpOf [.ref x1, .int x7] h10).bind (zRI fun r13 h12 =>
                          if (h12.2.2 x0).1 = 8 then
                            (zCall zCode kFlowPasses_outsideAhead [.ref x0, .ref x1, .int r13, .int x2, .int x3] h12).bind (zRI fun r15 h14 =>
                              zRun zCode kFlowPasses_firstMovable 8 [.ref x0, .ref x1, .int x2, .int x3, .int (x4 ||| r7), .int (x5 ||| (x4 &&& r5)), .int (x6 ||| (r11 ||| r15)), .int (x7 + zi 1), .retAddr 0, .retAddr 0] [] h14)
                          else
                            none)
                      else
                        none)
                  else
                    none)
              else
                none)
          else
            none)
      else
        none
  := (zRun_eb [8, 60, 76] 400 8 _ _ _).trans rfl
set_option maxRecDepth 100000 in
set_option maxHeartbeats 4000000 in
theorem zb_FlowPasses_firstMovable_60 (x1 : Nat) (x3 : Int32) (x4 : Int32) (x7 : Int32) (x8 : Int32) (h : zH) : zRun zCode kFlowPasses_firstMovable 60 [.retAddr 0, .ref x1, .retAddr 0, .int x3, .int x4, .retAddr 0, .retAddr 0, .int x7, .int x8, .retAddr 0] [] h =
    if x8 < x3 then
      if (h.2.2 x1).1 = 1 then
        (zCall zCode kProgram_sortAt [.ref x1, .int x8] h).bind (zRI fun r2 h1 =>
          if r2 = (zi 1) then
            zRun zCode kFlowPasses_firstMovable 76 [.retAddr 0, .ref x1, .retAddr 0, .int x3, .int x4, .retAddr 0, .retAddr 0, .int x7, .int x8, .retAddr 0] [.int (zi 1)] h1
          else
            if (h1.2.2 x1).1 = 1 then
              (zCall zCode kProgram_sortAt [.ref x1, .int x8] h1).bind (zRI fun r4 h3 =>
                if r4 = (zi 2) then
                  zRun zCode kFlowPasses_firstMovable 76 [.retAddr 0, .ref x1, .retAddr 0, .int x3, .int x4, .retAddr 0, .retAddr 0, .int x7, .int x8, .retAddr 0] [.int (zi 1)] h3
                else
                  zRun zCode kFlowPasses_firstMovable 76 [.retAddr 0, .ref x1, .retAddr 0, .int x3, .int x4, .retAddr 0, .retAddr 0, .int x7, .int x8, .retAddr 0] [.int (zi 0)] h3)
            else
              none)
      else
        none
    else
      some (.inl (some (.int (zi (-1))), h))
  := (zRun_eb [8, 60, 76] 400 60 _ _ _).trans rfl
set_option maxRecDepth 100000 in
set_option maxHeartbeats 4000000 in
theorem zb_FlowPasses_firstMovable_76 (x1 : Nat) (x3 : Int32) (x4 : Int32) (x7 : Int32) (x8 : Int32) (y0 : Int32) (h : zH) : zRun zCode kFlowPasses_firstMovable 76 [.retAddr 0, .ref x1, .retAddr 0, .int x3, .int x4, .retAddr 0, .retAddr 0, .int x7, .int x8, .retAddr 0] [.int y0] h =
    if y0 = 0 then
      zRun zCode kFlowPasses_firstMovable 60 [.retAddr 0, .ref x1, .retAddr 0, .int x3, .int x4, .retAddr 0, .retAddr 0, .int x7, .int (x8 + zi 1), .retAddr 0] [] h
    else
      if (h.2.2 x1).1 = 1 then
        (zCall zCode kProgram_readSet [.ref x1, .int x8] h).bind (zRI fun r2 h1 =>
          if (r2 &&& x4) = 0 then
            if (h1.2.2 x1).1 = 1 then
              (zCall zCode kProgram_assignedSet [.ref x1, .int x8] h1).bind (zRI fun r4 h3 =>
                if (r4 &&& x7) = 0 then
                  some (.inl (some (.int x8), h3))
                else
                  zRun zCode kFlowPasses_firstMovable 60 [.retAddr 0, .ref x1, .retAddr 0, .int x3, .int x4, .retAddr 0, .retAddr 0, .int x7, .int (x8 + zi 1), .retAddr 0] [] h3)
            else
              none
          else
            zRun zCode kFlowPasses_firstMovable 60 [.retAddr 0, .ref x1, .retAddr 0, .int x3, .int x4, .retAddr 0, .retAddr 0, .int x7, .int (x8 + zi 1), .retAddr 0] [] h1)
      else
        none
  := (zRun_eb [8, 60, 76] 400 76 _ _ _).trans rfl
set_option maxRecDepth 100000 in
set_option maxHeartbeats 4000000 in
theorem zb_FlowPasses_outsideAhead_0 (x0 : Nat) (x1 : Nat) (x2 : Int32) (x3 : Int32) (x4 : Int32) (h : zH) : zRun zCode kFlowPasses_outsideAhead 0 [.ref x0, .ref x1, .int x2, .int x3, .int x4, .retAddr 0] [] h =
    if x2 < x3 then
      zRun zCode kFlowPasses_outsideAhead 9 [.ref x0, .ref x1, .int x2, .retAddr 0, .retAddr 0, .retAddr 0] [.int (zi 0)] h
    else
      if x4 < x2 then
        zRun zCode kFlowPasses_outsideAhead 9 [.ref x0, .ref x1, .int x2, .retAddr 0, .retAddr 0, .retAddr 0] [.int (zi 0)] h
      else
        zRun zCode kFlowPasses_outsideAhead 9 [.ref x0, .ref x1, .int x2, .retAddr 0, .retAddr 0, .retAddr 0] [.int (zi 1)] h
  := (zRun_eb [9] 400 0 _ _ _).trans rfl
set_option maxRecDepth 100000 in
set_option maxHeartbeats 4000000 in
theorem zb_FlowPasses_outsideAhead_9 (x0 : Nat) (x1 : Nat) (x2 : Int32) (y0 : Int32) (h : zH) : zRun zCode kFlowPasses_outsideAhead 9 [.ref x0, .ref x1, .int x2, .retAddr 0, .retAddr 0, .retAddr 0] [.int y0] h =
    if y0 = 0 then
      if (h.2.2 x1).1 = 1 then
        (zCall zCode kProgram_has [.ref x1, .int x2] h).bind (zRI fun r2 h1 =>
          if r2 = 0 then
            some (.inl (some (.int (zi 0)), h1))
          else
            (zVA (zAt h1 x0 8 0)).bind fun a3 =>
            if (h1.2.2 a3).1 = 6 then
              (zCall zCode kFlow_liveAhead [.ref a3, .int x2] h1).bind (zRI fun r5 h4 =>
                some (.inl (some (.int r5), h4)))
            else
              none)
      else
        none
    else
      some (.inl (some (.int (zi 0)), h))
  := (zRun_eb [9] 400 9 _ _ _).trans rfl
set_option maxRecDepth 100000 in
set_option maxHeartbeats 4000000 in
theorem zb_Program_moveUp_0 (x0 : Nat) (x1 : Int32) (x2 : Int32) (h : zH) : zRun zCode kProgram_moveUp 0 [.ref x0, .int x1, .int x2, .retAddr 0] [] h =
    if (h.2.2 x0).1 = 1 then
      (zCall zCode kProgram_has [.ref x0, .int x1] h).bind (zRI fun r2 h1 =>
        if r2 = 0 then
          some (.inl (none, h1))
        else
          if (h1.2.2 x0).1 = 1 then
            (zCall zCode kProgram_has [.ref x0, .int x2] h1).bind (zRI fun r4 h3 =>
              if r4 = 0 then
                some (.inl (none, h3))
              else
                if (h3.2.2 x0).1 = 1 then
                  (zCall zCode kProgram_layDown [.ref x0, .int (zi 80), .ref x0, .int x1] h3).bind (zRV fun h5 =>
                    zRun zCode kProgram_moveUp 16 [.ref x0, .retAddr 0, .int x2, .int x1] [] h5)
                else
                  none)
          else
            none)
    else
      none
  := (zRun_eb [16] 400 0 _ _ _).trans rfl
set_option maxRecDepth 100000 in
set_option maxHeartbeats 4000000 in
theorem zb_Program_moveUp_16 (x0 : Nat) (x2 : Int32) (x3 : Int32) (h : zH) : zRun zCode kProgram_moveUp 16 [.ref x0, .retAddr 0, .int x2, .int x3] [] h =
    if x2 < x3 then
      if (h.2.2 x0).1 = 1 then
        (zCall zCode kProgram_layDown [.ref x0, .int x3, .ref x0, .int (x3 - (zi 1))] h).bind (zRV fun h2 =>
          zRun zCode kProgram_moveUp 16 [.ref x0, .retAddr 0, .int x2, .int (x3 + zi (-1))] [] h2)
      else
        none
    else
      if (h.2.2 x0).1 = 1 then
        (zCall zCode kProgram_layDown [.ref x0, .int x2, .ref x0, .int (zi 80)] h).bind (zRV fun h1 =>
          some (.inl (none, h1)))
      else
        none
  := (zRun_eb [16] 400 16 _ _ _).trans rfl
set_option maxRecDepth 100000 in
set_option maxHeartbeats 4000000 in
theorem zb_Law_better_0 (x0 : Nat) (x1 : Int32) (x2 : Nat) (h : zH) : zRun zCode kLaw_better 0 [.ref x0, .int x1, .ref x2, .retAddr 0] [] h =
    if (h.2.2 x0).1 = 0 then
      (zCall zCode kPassForge_better [.ref x0, .int x1] h).bind (zXm (fun kd q hq =>
          if kd = 15 then
            some (.inl (some (.int (zi 1)), hq))
          else
            if kd = 13 then
              some (.inl (some (.int (zi 2)), hq))
            else
              none) (zRI fun r2 h1 =>
        (zIx h1 x2 101 (zi 0)).bind fun j3 =>
        (zPut h1 x2 101 j3 (.long r2.toInt64)).bind fun h4 =>
        some (.inl (some (.int (zi 0)), h4))))
    else
      none
  := (zRun_eb [] 400 0 _ _ _).trans rfl
set_option maxRecDepth 100000 in
set_option maxHeartbeats 4000000 in
theorem zb_PassForge_better_0 (x0 : Nat) (x1 : Int32) (h : zH) : zRun zCode kPassForge_better 0 [.ref x0, .int x1, .retAddr 0, .retAddr 0, .retAddr 0, .retAddr 0, .retAddr 0, .retAddr 0, .retAddr 0] [] h =
    if (h.2.2 x0).1 = 0 then
      (zCall zCode kPassForge_programAt [.ref x0, .int x1] h).bind (zRA fun a2 h1 =>
        if (h1.2.2 x0).1 = 0 then
          (zCall zCode kPassForge_freshProgram [.ref x0] h1).bind (zRA fun a4 h3 =>
            if (h3.2.2 a4).1 = 1 then
              (zCall zCode kProgram_become [.ref a4, .ref a2] h3).bind (zRV fun h5 =>
                zRun zCode kPassForge_better 16 [.ref x0, .retAddr 0, .retAddr 0, .ref a4, .int (zi 0), .int (zi 1), .int (zi 0), .retAddr 0, .retAddr 0] [] h5)
            else
              none)
        else
          none)
    else
      none
  := (zRun_eb [16, 25] 400 0 _ _ _).trans rfl
set_option maxRecDepth 100000 in
set_option maxHeartbeats 4000000 in
theorem zb_PassForge_better_16 (x0 : Nat) (x3 : Nat) (x4 : Int32) (x5 : Int32) (x6 : Int32) (h : zH) : zRun zCode kPassForge_better 16 [.ref x0, .retAddr 0, .retAddr 0, .ref x3, .int x4, .int x5, .int x6, .retAddr 0, .retAddr 0] [] h =
    if x5 = 0 then
      if (h.2.2 x0).1 = 0 then
        (zCall zCode kPassForge_accept [.ref x0, .ref x3] h).bind (zRV fun h1 =>
          some (.inl (some (.int x4), h1)))
      else
        none
    else
      if x6 < (zi 8) then
        zRun zCode kPassForge_better 25 [.ref x0, .retAddr 0, .retAddr 0, .ref x3, .int x4, .retAddr 0, .int x6, .int x4, .int (zi 0)] [] h
      else
        if (h.2.2 x0).1 = 0 then
          (zCall zCode kPassForge_accept [.ref x0, .ref x3] h).bind (zRV fun h2 =>
            some (.inl (some (.int x4), h2)))
        else
          none
  := (zRun_eb [16, 25] 400 16 _ _ _).trans rfl
set_option maxRecDepth 100000 in
set_option maxHeartbeats 4000000 in
theorem zb_PassForge_better_25 (x0 : Nat) (x3 : Nat) (x4 : Int32) (x6 : Int32) (x7 : Int32) (x8 : Int32) (h : zH) : zRun zCode kPassForge_better 25 [.ref x0, .retAddr 0, .retAddr 0, .ref x3, .int x4, .retAddr 0, .int x6, .int x7, .int x8] [] h =
    if x8 < (zi 5) then
      if (h.2.2 x0).1 = 0 then
        (zCall zCode kPassForge_changeBy [.ref x0, .ref x3, .int x8] h).bind (zRI fun r2 h1 =>
          zRun zCode kPassForge_better 25 [.ref x0, .retAddr 0, .retAddr 0, .ref x3, .int (x4 + r2), .retAddr 0, .int x6, .int x7, .int (x8 + zi 1)] [] h1)
      else
        none
    else
      if x4 = x7 then
        zRun zCode kPassForge_better 16 [.ref x0, .retAddr 0, .retAddr 0, .ref x3, .int x4, .int (zi 0), .int (x6 + zi 1), .retAddr 0, .retAddr 0] [] h
      else
        zRun zCode kPassForge_better 16 [.ref x0, .retAddr 0, .retAddr 0, .ref x3, .int x4, .int (zi 1), .int (x6 + zi 1), .retAddr 0, .retAddr 0] [] h
  := (zRun_eb [16, 25] 400 25 _ _ _).trans rfl
set_option maxRecDepth 100000 in
set_option maxHeartbeats 4000000 in
theorem zb_Law_put_0 (x0 : Nat) (x1 : Int64) (x3 : Nat) (h : zH) : zRun zCode kLaw_put 0 [.ref x0, .long x1, .retAddr 0, .ref x3, .retAddr 0] [] h =
    if (h.2.2 x0).1 = 0 then
      (zCall zCode kPassForge_put [.ref x0, .long x1] h).bind (zXm (fun kd q hq =>
          if kd = 13 then
            some (.inl (some (.int (zi 1)), hq))
          else
            none) (zRI fun r2 h1 =>
        (zIx h1 x3 101 (zi 0)).bind fun j3 =>
        (zPut h1 x3 101 j3 (.long r2.toInt64)).bind fun h4 =>
        some (.inl (some (.int (zi 0)), h4))))
    else
      none
  := (zRun_eb [] 400 0 _ _ _).trans rfl
set_option maxRecDepth 100000 in
set_option maxHeartbeats 4000000 in
theorem zb_PassForge_put_0 (x0 : Nat) (x1 : Int64) (h : zH) : zRun zCode kPassForge_put 0 [.ref x0, .long x1, .retAddr 0] [] h =
    (zVI (zAt h x0 0 8)).bind fun v1 =>
    if v1 < 0 then
      some (.inr (13, h.1, zPush h 6 (13, [])))
    else
      (zVI (zAt h x0 0 8)).bind fun v2 =>
      (zVA (zAt h x0 0 7)).bind fun a3 =>
      if 100 ≤ (h.2.2 a3).1 then
        if v2 < ((h.2.2 a3).2.length.toInt32) then
          (zVA (zAt h x0 0 7)).bind fun a4 =>
          (zVI (zAt h x0 0 8)).bind fun v5 =>
          (zIx h a4 101 v5).bind fun j6 =>
          (zPut h a4 101 j6 (.long x1)).bind fun h7 =>
          (zVI (zAt h7 x0 0 8)).bind fun v8 =>
          (zPut h7 x0 0 8 (.int (v8 + (zi 1)))).bind fun h9 =>
          (zVI (zAt h9 x0 0 8)).bind fun v10 =>
          some (.inl (some (.int v10), h9))
        else
          some (.inr (13, h.1, zPush h 6 (13, [])))
      else
        none
  := (zRun_eb [] 400 0 _ _ _).trans rfl
set_option maxRecDepth 100000 in
set_option maxHeartbeats 4000000 in
theorem zb_Law_run_0 (x0 : Nat) (x1 : Int32) (x2 : Int32) (x3 : Nat) (h : zH) : zRun zCode kLaw_run 0 [.ref x0, .int x1, .int x2, .ref x3, .retAddr 0] [] h =
    if (h.2.2 x0).1 = 0 then
      (zCall zCode kPassForge_run [.ref x0, .int x1, .int x2] h).bind (zXm (fun kd q hq =>
          if kd = 15 then
            some (.inl (some (.int (zi 1)), hq))
          else
            if kd = 14 then
              some (.inl (some (.int (zi 2)), hq))
            else
              none) (zRI fun r2 h1 =>
        (zIx h1 x3 101 (zi 0)).bind fun j3 =>
        (zPut h1 x3 101 j3 (.long r2.toInt64)).bind fun h4 =>
        some (.inl (some (.int (zi 0)), h4))))
    else
      none
  := (zRun_eb [] 400 0 _ _ _).trans rfl
set_option maxRecDepth 100000 in
set_option maxHeartbeats 4000000 in
theorem zb_PassForge_run_0 (x0 : Nat) (x1 : Int32) (x2 : Int32) (h : zH) : zRun zCode kPassForge_run 0 [.ref x0, .int x1, .int x2, .retAddr 0] [] h =
    if (h.2.2 x0).1 = 0 then
      (zCall zCode kPassForge_programAt [.ref x0, .int x1] h).bind (zRA fun a2 h1 =>
        if x2 < (zi 1) then
          some (.inr (14, h1.1, zPush h1 6 (14, [])))
        else
          if (zi 5000) < x2 then
            some (.inr (14, h1.1, zPush h1 6 (14, [])))
          else
            (zVA (zAt h1 x0 0 9)).bind fun a3 =>
            (zVA (zAt h1 x0 0 7)).bind fun a4 =>
            (zVI (zAt h1 x0 0 8)).bind fun v5 =>
            if (h1.2.2 a3).1 = 9 then
              (zCall zCode kMachine_execute [.ref a3, .ref a2, .ref a4, .int v5, .int x2] h1).bind (zRV fun h6 =>
                (zVA (zAt h6 x0 0 9)).bind fun a7 =>
                if (h6.2.2 a7).1 = 9 then
                  (zCall zCode kMachine_steps [.ref a7] h6).bind (zRI fun r9 h8 =>
                    some (.inl (some (.int r9), h8)))
                else
                  none)
            else
              none)
    else
      none
  := (zRun_eb [] 400 0 _ _ _).trans rfl
set_option maxRecDepth 100000 in
set_option maxHeartbeats 4000000 in
theorem zb_Machine_execute_0 (x0 : Nat) (x1 : Nat) (x2 : Nat) (x3 : Int32) (x4 : Int32) (h : zH) : zRun zCode kMachine_execute 0 [.ref x0, .ref x1, .ref x2, .int x3, .int x4, .retAddr 0, .retAddr 0, .retAddr 0] [] h =
    zRun zCode kMachine_execute 2 [.ref x0, .ref x1, .ref x2, .int x3, .int x4, .int (zi 0), .retAddr 0, .retAddr 0] [] h
  := (zRun_eb [2, 26, 50, 63, 79] 400 0 _ _ _).trans rfl
set_option maxRecDepth 100000 in
set_option maxHeartbeats 4000000 in
theorem zb_Machine_execute_2 (x0 : Nat) (x1 : Nat) (x2 : Nat) (x3 : Int32) (x4 : Int32) (x5 : Int32) (h : zH) : zRun zCode kMachine_execute 2 [.ref x0, .ref x1, .ref x2, .int x3, .int x4, .int x5, .retAddr 0, .retAddr 0] [] h =
    (zVA (zAt h x0 9 0)).bind fun a1 =>
    if 100 ≤ (h.2.2 a1).1 then
      if x5 < ((h.2.2 a1).2.length.toInt32) then
        (zVA (zAt h x0 9 0)).bind fun a6 =>
        (zIx h a6 101 x5).bind fun j7 =>
        (zPut h a6 101 j7 (.long (zl 0))).bind fun h8 =>
        zRun zCode kMachine_execute 2 [.ref x0, .ref x1, .ref x2, .int x3, .int x4, .int (x5 + zi 1), .retAddr 0, .retAddr 0] [] h8
      else
        (zPut h x0 9 2 (.int (zi 0))).bind fun h2 =>
        (zPut h2 x0 9 3 (.int (zi 0))).bind fun h3 =>
        if (h3.2.2 x1).1 = 1 then
          (zCall zCode kProgram_pastLabels [.ref x1, .int (zi 0)] h3).bind (zRI fun r5 h4 =>
            zRun zCode kMachine_execute 26 [.ref x0, .ref x1, .ref x2, .int x3, .int x4, .int r5, .int (zi 0), .retAddr 0] [] h4)
        else
          none
    else
      none
  := (zRun_eb [2, 26, 50, 63, 79] 400 2 _ _ _).trans rfl
set_option maxRecDepth 100000 in
set_option maxHeartbeats 4000000 in
theorem zb_Machine_execute_26 (x0 : Nat) (x1 : Nat) (x2 : Nat) (x3 : Int32) (x4 : Int32) (x5 : Int32) (x6 : Int32) (h : zH) : zRun zCode kMachine_execute 26 [.ref x0, .ref x1, .ref x2, .int x3, .int x4, .int x5, .int x6, .retAddr 0] [] h =
    if x6 < x4 then
      if (h.2.2 x1).1 = 1 then
        (zCall zCode kProgram_has [.ref x1, .int x5] h).bind (zRI fun r2 h1 =>
          if r2 = 0 then
            zRun zCode kMachine_execute 79 [.ref x0, .ref x1, .retAddr 0, .retAddr 0, .retAddr 0, .int x5, .int x6, .retAddr 0] [] h1
          else
            if (h1.2.2 x1).1 = 1 then
              (zCall zCode kProgram_sortAt [.ref x1, .int x5] h1).bind (zRI fun r4 h3 =>
                if r4 = (zi 5) then
                  (zVI (zAt h3 x0 9 3)).bind fun v9 =>
                  if v9 < x3 then
                    (zVI (zAt h3 x0 9 3)).bind fun v10 =>
                    if 100 ≤ (h3.2.2 x2).1 then
                      if v10 < ((h3.2.2 x2).2.length.toInt32) then
                        zRun zCode kMachine_execute 50 [.ref x0, .ref x1, .ref x2, .int x3, .int x4, .int x5, .int x6, .retAddr 0] [.int (zi 1)] h3
                      else
                        zRun zCode kMachine_execute 50 [.ref x0, .ref x1, .ref x2, .int x3, .int x4, .int x5, .int x6, .retAddr 0] [.int (zi 0)] h3
                    else
                      none
                  else
                    zRun zCode kMachine_execute 50 [.ref x0, .ref x1, .ref x2, .int x3, .int x4, .int x5, .int x6, .retAddr 0] [.int (zi 0)] h3
                else
                  if (h3.2.2 x0).1 = 9 then
                    (zCall zCode kMachine_follow [.ref x0, .ref x1, .int x5] h3).bind (zRI fun r6 h5 =>
                      if (h5.2.2 x1).1 = 1 then
                        (zCall zCode kProgram_pastLabels [.ref x1, .int r6] h5).bind (zRI fun r8 h7 =>
                          zRun zCode kMachine_execute 26 [.ref x0, .ref x1, .ref x2, .int x3, .int x4, .int r8, .int (x6 + zi 1), .retAddr 0] [] h7)
                      else
                        none)
                  else
                    none)
            else
              none)
      else
        none
    else
      zRun zCode kMachine_execute 79 [.ref x0, .ref x1, .retAddr 0, .retAddr 0, .retAddr 0, .int x5, .int x6, .retAddr 0] [] h
  := (zRun_eb [2, 26, 50, 63, 79] 400 26 _ _ _).trans rfl
set_option maxRecDepth 100000 in
set_option maxHeartbeats 4000000 in
theorem zb_Machine_execute_50 (x0 : Nat) (x1 : Nat) (x2 : Nat) (x3 : Int32) (x4 : Int32) (x5 : Int32) (x6 : Int32) (y0 : Int32) (h : zH) : zRun zCode kMachine_execute 50 [.ref x0, .ref x1, .ref x2, .int x3, .int x4, .int x5, .int x6, .retAddr 0] [.int y0] h =
    if (h.2.2 x1).1 = 1 then
      (zCall zCode kProgram_targetAt [.ref x1, .int x5] h).bind (zRI fun r2 h1 =>
        if y0 = 0 then
          zRun zCode kMachine_execute 63 [.ref x0, .ref x1, .ref x2, .int x3, .int x4, .int x5, .int x6, .retAddr 0] [.long (zl 0), .int r2, .ref x0] h1
        else
          (zVI (zAt h1 x0 9 3)).bind fun v3 =>
          (zIx h1 x2 101 v3).bind fun j4 =>
          (zVL (zAt h1 x2 101 j4)).bind fun v5 =>
          zRun zCode kMachine_execute 63 [.ref x0, .ref x1, .ref x2, .int x3, .int x4, .int x5, .int x6, .retAddr 0] [.long v5, .int r2, .ref x0] h1)
    else
      none
  := (zRun_eb [2, 26, 50, 63, 79] 400 50 _ _ _).trans rfl
set_option maxRecDepth 100000 in
set_option maxHeartbeats 4000000 in
theorem zb_Machine_execute_63 (x0 : Nat) (x1 : Nat) (x2 : Nat) (x3 : Int32) (x4 : Int32) (x5 : Int32) (x6 : Int32) (y0 : Int64) (y1 : Int32) (y2 : Nat) (h : zH) : zRun zCode kMachine_execute 63 [.ref x0, .ref x1, .ref x2, .int x3, .int x4, .int x5, .int x6, .retAddr 0] [.long y0, .int y1, .ref y2] h =
    if (h.2.2 y2).1 = 9 then
      (zCall zCode kMachine_setValue [.ref y2, .int y1, .long y0] h).bind (zRV fun h1 =>
        (zVI (zAt h1 x0 9 3)).bind fun v2 =>
        (zPut h1 x0 9 3 (.int (v2 + (zi 1)))).bind fun h3 =>
        if (h3.2.2 x0).1 = 9 then
          (zCall zCode kMachine_follow [.ref x0, .ref x1, .int x5] h3).bind (zRI fun r5 h4 =>
            if (h4.2.2 x1).1 = 1 then
              (zCall zCode kProgram_pastLabels [.ref x1, .int r5] h4).bind (zRI fun r7 h6 =>
                zRun zCode kMachine_execute 26 [.ref x0, .ref x1, .ref x2, .int x3, .int x4, .int r7, .int (x6 + zi 1), .retAddr 0] [] h6)
            else
              none)
        else
          none)
    else
      none
  := (zRun_eb [2, 26, 50, 63, 79] 400 63 _ _ _).trans rfl
set_option maxRecDepth 100000 in
set_option maxHeartbeats 4000000 in
theorem zb_Machine_execute_79 (x0 : Nat) (x1 : Nat) (x5 : Int32) (x6 : Int32) (h : zH) : zRun zCode kMachine_execute 79 [.ref x0, .ref x1, .retAddr 0, .retAddr 0, .retAddr 0, .int x5, .int x6, .retAddr 0] [] h =
    (zPut h x0 9 4 (.int x6)).bind fun h1 =>
    if (h1.2.2 x1).1 = 1 then
      (zCall zCode kProgram_has [.ref x1, .int x5] h1).bind (zRI fun r3 h2 =>
        if r3 = 0 then
          (zB (zi 1)).bind fun b7 =>
          (zPut h2 x0 9 5 (.int b7)).bind fun h6 =>
          some (.inl (none, h6))
        else
          (zB (zi 0)).bind fun b5 =>
          (zPut h2 x0 9 5 (.int b5)).bind fun h4 =>
          some (.inl (none, h4)))
    else
      none
  := (zRun_eb [2, 26, 50, 63, 79] 400 79 _ _ _).trans rfl
set_option maxRecDepth 100000 in
set_option maxHeartbeats 4000000 in
theorem zb_Machine_setValue_0 (x0 : Nat) (x1 : Int32) (x2 : Int64) (h : zH) : zRun zCode kMachine_setValue 0 [.ref x0, .int x1, .long x2, .retAddr 0] [] h =
    if x1 < 0 then
      some (.inl (none, h))
    else
      (zVA (zAt h x0 9 0)).bind fun a1 =>
      if 100 ≤ (h.2.2 a1).1 then
        if x1 < ((h.2.2 a1).2.length.toInt32) then
          (zVA (zAt h x0 9 0)).bind fun a2 =>
          (zIx h a2 101 x1).bind fun j3 =>
          (zPut h a2 101 j3 (.long x2)).bind fun h4 =>
          some (.inl (none, h4))
        else
          some (.inl (none, h))
      else
        none
  := (zRun_eb [] 400 0 _ _ _).trans rfl
set_option maxRecDepth 100000 in
set_option maxHeartbeats 4000000 in
theorem zb_Machine_follow_0 (x0 : Nat) (x1 : Nat) (x2 : Int32) (h : zH) : zRun zCode kMachine_follow 0 [.ref x0, .ref x1, .int x2, .retAddr 0, .retAddr 0, .retAddr 0, .retAddr 0] [] h =
    if (h.2.2 x1).1 = 1 then
      (zCall zCode kProgram_firstVariableAt [.ref x1, .int x2] h).bind (zRI fun r2 h1 =>
        if (h1.2.2 x1).1 = 1 then
          (zCall zCode kProgram_firstNumberAt [.ref x1, .int x2] h1).bind (zRL fun r4 h3 =>
            if (h3.2.2 x0).1 = 9 then
              (zCall zCode kMachine_operand [.ref x0, .int r2, .long r4] h3).bind (zRL fun r6 h5 =>
                if (h5.2.2 x1).1 = 1 then
                  (zCall zCode kProgram_sortAt [.ref x1, .int x2] h5).bind (zRI fun r8 h7 =>
                    if r8 = zi 1 then
                      if (h7.2.2 x1).1 = 1 then
                        (zCall zCode kProgram_targetAt [.ref x1, .int x2] h7).bind (zRI fun r36 h35 =>
                          if (h35.2.2 x0).1 = 9 then
                            (zCall zCode kMachine_setValue [.ref x0, .int r36, .long r6] h35).bind (zRV fun h37 =>
                              if (h37.2.2 x1).1 = 1 then
                                (zCall zCode kProgram_nextOf [.ref x1, .int x2] h37).bind (zRI fun r39 h38 =>
                                  some (.inl (some (.int r39), h38)))
                              else
                                none)
                          else
                            none)
                      else
                        none
                    else
                      if r8 = zi 2 then
                        if (h7.2.2 x1).1 = 1 then
                          (zCall zCode kProgram_secondVariableAt [.ref x1, .int x2] h7).bind (zRI fun r21 h20 =>
                            if (h20.2.2 x1).1 = 1 then
                              (zCall zCode kProgram_secondNumberAt [.ref x1, .int x2] h20).bind (zRL fun r23 h22 =>
                                if (h22.2.2 x0).1 = 9 then
                                  (zCall zCode kMachine_operand [.ref x0, .int r21, .long r23] h22).bind (zRL fun r25 h24 =>
                                    if (h24.2.2 x1).1 = 1 then
                                      (zCall zCode kProgram_targetAt [.ref x1, .int x2] h24).bind (zRI fun r27 h26 =>
                                        if (h26.2.2 x1).1 = 1 then
                                          (zCall zCode kProgram_opAt [.ref x1, .int x2] h26).bind (zRI fun r29 h28 =>
                                            (zCall zCode kPassForge_reckon [.int r29, .long r6, .long r25] h28).bind (zRL fun r31 h30 =>
                                              if (h30.2.2 x0).1 = 9 then
                                                (zCall zCode kMachine_setValue [.ref x0, .int r27, .long r31] h30).bind (zRV fun h32 =>
                                                  if (h32.2.2 x1).1 = 1 then
                                                    (zCall zCode kProgram_nextOf [.ref x1, .int x2] h32).bind (zRI fun r34 h33 =>
                                                      some (.inl (some (.int r34), h33)))
                                                  else
                                                    none)
                                              else
                                                none))
                                        else
                                          none)
                                    else
                                      none)
                                else
                                  none)
                            else
                              none)
                        else
                          none
                      else
                        if r8 = zi 3 then
                          if (h7.2.2 x1).1 = 1 then
                            (zCall zCode kProgram_jumpOf [.ref x1, .int x2] h7).bind (zRI fun r19 h18 =>
                              some (.inl (some (.int r19), h18)))
                          else
                            none
                        else
                          if r8 = zi 4 then
                            if (lg_cmp r6 (zl 0)) = 0 then
                              some (.inl (some (.int (x2 + (zi 1))), h7))
                            else
                              if (h7.2.2 x1).1 = 1 then
                                (zCall zCode kProgram_jumpOf [.ref x1, .int x2] h7).bind (zRI fun r17 h16 =>
                                  some (.inl (some (.int r17), h16)))
                              else
                                none
                          else
                            if r8 = zi 5 then
                              if (h7.2.2 x1).1 = 1 then
                                (zCall zCode kProgram_nextOf [.ref x1, .int x2] h7).bind (zRI fun r15 h14 =>
                                  some (.inl (some (.int r15), h14)))
                              else
                                none
                            else
                              if r8 = zi 6 then
                                if (h7.2.2 x0).1 = 9 then
                                  (zCall zCode kMachine_putOut [.ref x0, .long r6] h7).bind (zRV fun h11 =>
                                    if (h11.2.2 x1).1 = 1 then
                                      (zCall zCode kProgram_nextOf [.ref x1, .int x2] h11).bind (zRI fun r13 h12 =>
                                        some (.inl (some (.int r13), h12)))
                                    else
                                      none)
                                else
                                  none
                              else
                                if (h7.2.2 x1).1 = 1 then
                                  (zCall zCode kProgram_nextOf [.ref x1, .int x2] h7).bind (zRI fun r10 h9 =>
                                    some (.inl (some (.int r10), h9)))
                                else
                                  none)
                else
                  none)
            else
              none)
        else
          none)
    else
      none
  := (zRun_eb [] 400 0 _ _ _).trans rfl
set_option maxRecDepth 100000 in
set_option maxHeartbeats 4000000 in
theorem zb_Machine_operand_0 (x0 : Nat) (x1 : Int32) (x2 : Int64) (h : zH) : zRun zCode kMachine_operand 0 [.ref x0, .int x1, .long x2, .retAddr 0] [] h =
    if x1 < 0 then
      some (.inl (some (.long x2), h))
    else
      if (h.2.2 x0).1 = 9 then
        (zCall zCode kMachine_valueOf [.ref x0, .int x1] h).bind (zRL fun r2 h1 =>
          some (.inl (some (.long r2), h1)))
      else
        none
  := (zRun_eb [] 400 0 _ _ _).trans rfl
set_option maxRecDepth 100000 in
set_option maxHeartbeats 4000000 in
theorem zb_Machine_putOut_0 (x0 : Nat) (x1 : Int64) (h : zH) : zRun zCode kMachine_putOut 0 [.ref x0, .long x1, .retAddr 0] [] h =
    (zVI (zAt h x0 9 2)).bind fun v1 =>
    if v1 < 0 then
      (zVI (zAt h x0 9 2)).bind fun v2 =>
      (zPut h x0 9 2 (.int (v2 + (zi 1)))).bind fun h3 =>
      some (.inl (none, h3))
    else
      (zVI (zAt h x0 9 2)).bind fun v4 =>
      (zVA (zAt h x0 9 1)).bind fun a5 =>
      if 100 ≤ (h.2.2 a5).1 then
        if v4 < ((h.2.2 a5).2.length.toInt32) then
          (zVA (zAt h x0 9 1)).bind fun a8 =>
          (zVI (zAt h x0 9 2)).bind fun v9 =>
          (zIx h a8 101 v9).bind fun j10 =>
          (zPut h a8 101 j10 (.long x1)).bind fun h11 =>
          (zVI (zAt h11 x0 9 2)).bind fun v12 =>
          (zPut h11 x0 9 2 (.int (v12 + (zi 1)))).bind fun h13 =>
          some (.inl (none, h13))
        else
          (zVI (zAt h x0 9 2)).bind fun v6 =>
          (zPut h x0 9 2 (.int (v6 + (zi 1)))).bind fun h7 =>
          some (.inl (none, h7))
      else
        none
  := (zRun_eb [] 400 0 _ _ _).trans rfl
set_option maxRecDepth 100000 in
set_option maxHeartbeats 4000000 in
theorem zb_Machine_steps_0 (x0 : Nat) (h : zH) : zRun zCode kMachine_steps 0 [.ref x0] [] h =
    (zVI (zAt h x0 9 4)).bind fun v1 =>
    some (.inl (some (.int v1), h))
  := (zRun_eb [] 400 0 _ _ _).trans rfl
set_option maxRecDepth 100000 in
set_option maxHeartbeats 4000000 in
theorem zb_Law_ran_0 (x0 : Nat) (x1 : Int32) (x2 : Nat) (h : zH) : zRun zCode kLaw_ran 0 [.ref x0, .int x1, .ref x2, .retAddr 0] [] h =
    if (h.2.2 x0).1 = 0 then
      (zCall zCode kPassForge_ran [.ref x0, .int x1] h).bind (zXm (fun kd q hq =>
          if kd = 15 then
            some (.inl (some (.int (zi 1)), hq))
          else
            none) (zRI fun r2 h1 =>
        (zIx h1 x2 101 (zi 0)).bind fun j3 =>
        (zPut h1 x2 101 j3 (.long r2.toInt64)).bind fun h4 =>
        some (.inl (some (.int (zi 0)), h4))))
    else
      none
  := (zRun_eb [] 400 0 _ _ _).trans rfl
set_option maxRecDepth 100000 in
set_option maxHeartbeats 4000000 in
theorem zb_PassForge_ran_0 (x0 : Nat) (x1 : Int32) (h : zH) : zRun zCode kPassForge_ran 0 [.ref x0, .int x1] [] h =
    if x1 < 0 then
      some (.inr (15, h.1, zPush h 6 (15, [])))
    else
      if (zi 2) < x1 then
        some (.inr (15, h.1, zPush h 6 (15, [])))
      else
        (zVA (zAt h x0 0 9)).bind fun a1 =>
        if (h.2.2 a1).1 = 9 then
          (zCall zCode kMachine_report [.ref a1, .int x1] h).bind (zRI fun r3 h2 =>
            some (.inl (some (.int r3), h2)))
        else
          none
  := (zRun_eb [] 400 0 _ _ _).trans rfl
set_option maxRecDepth 100000 in
set_option maxHeartbeats 4000000 in
theorem zb_Law_output_0 (x0 : Nat) (x1 : Int32) (x2 : Nat) (h : zH) : zRun zCode kLaw_output 0 [.ref x0, .int x1, .ref x2, .retAddr 0] [] h =
    if (h.2.2 x0).1 = 0 then
      (zCall zCode kPassForge_output [.ref x0, .int x1] h).bind (zXm (fun kd q hq =>
          if kd = 15 then
            some (.inl (some (.int (zi 1)), hq))
          else
            none) (zRL fun r2 h1 =>
        (zIx h1 x2 101 (zi 0)).bind fun j3 =>
        (zPut h1 x2 101 j3 (.long r2)).bind fun h4 =>
        some (.inl (some (.int (zi 0)), h4))))
    else
      none
  := (zRun_eb [] 400 0 _ _ _).trans rfl
set_option maxRecDepth 100000 in
set_option maxHeartbeats 4000000 in
theorem zb_PassForge_output_0 (x0 : Nat) (x1 : Int32) (h : zH) : zRun zCode kPassForge_output 0 [.ref x0, .int x1] [] h =
    if x1 < 0 then
      some (.inr (15, h.1, zPush h 6 (15, [])))
    else
      (zVA (zAt h x0 0 9)).bind fun a1 =>
      if (h.2.2 a1).1 = 9 then
        (zCall zCode kMachine_kept [.ref a1] h).bind (zRI fun r3 h2 =>
          if x1 < r3 then
            (zVA (zAt h2 x0 0 9)).bind fun a4 =>
            if (h2.2.2 a4).1 = 9 then
              (zCall zCode kMachine_keptAt [.ref a4, .int x1] h2).bind (zRL fun r6 h5 =>
                some (.inl (some (.long r6), h5)))
            else
              none
          else
            some (.inr (15, h2.1, zPush h2 6 (15, []))))
      else
        none
  := (zRun_eb [] 400 0 _ _ _).trans rfl
set_option maxRecDepth 100000 in
set_option maxHeartbeats 4000000 in
theorem zb_Law_variable_0 (x0 : Nat) (x1 : Int32) (x2 : Nat) (h : zH) : zRun zCode kLaw_variable 0 [.ref x0, .int x1, .ref x2, .retAddr 0] [] h =
    if (h.2.2 x0).1 = 0 then
      (zCall zCode kPassForge_variable [.ref x0, .int x1] h).bind (zXm (fun kd q hq =>
          if kd = 15 then
            some (.inl (some (.int (zi 1)), hq))
          else
            none) (zRL fun r2 h1 =>
        (zIx h1 x2 101 (zi 0)).bind fun j3 =>
        (zPut h1 x2 101 j3 (.long r2)).bind fun h4 =>
        some (.inl (some (.int (zi 0)), h4))))
    else
      none
  := (zRun_eb [] 400 0 _ _ _).trans rfl
set_option maxRecDepth 100000 in
set_option maxHeartbeats 4000000 in
theorem zb_PassForge_variable_0 (x0 : Nat) (x1 : Int32) (h : zH) : zRun zCode kPassForge_variable 0 [.ref x0, .int x1] [] h =
    if x1 < 0 then
      some (.inr (15, h.1, zPush h 6 (15, [])))
    else
      if x1 < (zi 12) then
        (zVA (zAt h x0 0 9)).bind fun a1 =>
        if (h.2.2 a1).1 = 9 then
          (zCall zCode kMachine_valueOf [.ref a1, .int x1] h).bind (zRL fun r3 h2 =>
            some (.inl (some (.long r3), h2)))
        else
          none
      else
        some (.inr (15, h.1, zPush h 6 (15, [])))
  := (zRun_eb [] 400 0 _ _ _).trans rfl
set_option maxRecDepth 100000 in
set_option maxHeartbeats 4000000 in
theorem zb_Law_differ_0 (x0 : Nat) (x1 : Int32) (x2 : Int32) (x3 : Int32) (x4 : Int32) (x5 : Nat) (h : zH) : zRun zCode kLaw_differ 0 [.ref x0, .int x1, .int x2, .int x3, .int x4, .ref x5, .retAddr 0] [] h =
    if (h.2.2 x0).1 = 0 then
      (zCall zCode kPassForge_differ [.ref x0, .int x1, .int x2, .int x3, .int x4] h).bind (zXm (fun kd q hq =>
          if kd = 15 then
            some (.inl (some (.int (zi 1)), hq))
          else
            if kd = 14 then
              some (.inl (some (.int (zi 2)), hq))
            else
              none) (zRI fun r2 h1 =>
        (zIx h1 x5 101 (zi 0)).bind fun j3 =>
        (zPut h1 x5 101 j3 (.long r2.toInt64)).bind fun h4 =>
        some (.inl (some (.int (zi 0)), h4))))
    else
      none
  := (zRun_eb [] 400 0 _ _ _).trans rfl
set_option maxRecDepth 100000 in
set_option maxHeartbeats 4000000 in
theorem zb_PassForge_differ_0 (x0 : Nat) (x1 : Int32) (x2 : Int32) (x3 : Int32) (x4 : Int32) (h : zH) : zRun zCode kPassForge_differ 0 [.ref x0, .int x1, .int x2, .int x3, .int x4, .retAddr 0, .retAddr 0, .retAddr 0, .retAddr 0] [] h =
    if (h.2.2 x0).1 = 0 then
      (zCall zCode kPassForge_programAt [.ref x0, .int x1] h).bind (zRA fun a2 h1 =>
        if (h1.2.2 x0).1 = 0 then
          (zCall zCode kPassForge_programAt [.ref x0, .int x2] h1).bind (zRA fun a4 h3 =>
            (zCall zCode kPassForge_inputsOf [.int x3, .int x4] h3).bind (zRI fun r6 h5 =>
              if (h5.2.2 x0).1 = 0 then
                (zCall zCode kPassForge_clearDigits [.ref x0] h5).bind (zRV fun h7 =>
                  zRun zCode kPassForge_differ 16 [.ref x0, .retAddr 0, .retAddr 0, .int x3, .int x4, .ref a2, .ref a4, .int r6, .int (zi 0)] [] h7)
              else
                none))
        else
          none)
    else
      none
  := (zRun_eb [16] 400 0 _ _ _).trans rfl
set_option maxRecDepth 100000 in
set_option maxHeartbeats 4000000 in
theorem zb_PassForge_differ_16 (x0 : Nat) (x3 : Int32) (x4 : Int32) (x5 : Nat) (x6 : Nat) (x7 : Int32) (x8 : Int32) (h : zH) : zRun zCode kPassForge_differ 16 [.ref x0, .retAddr 0, .retAddr 0, .int x3, .int x4, .ref x5, .ref x6, .int x7, .int x8] [] h =
    if x8 < x7 then
      (zVA (zAt h x0 0 10)).bind fun a1 =>
      (zVA (zAt h x0 0 12)).bind fun a2 =>
      if (h.2.2 a1).1 = 9 then
        (zCall zCode kMachine_execute [.ref a1, .ref x5, .ref a2, .int x3, .int (zi 500)] h).bind (zRV fun h3 =>
          (zVA (zAt h3 x0 0 11)).bind fun a4 =>
          (zVA (zAt h3 x0 0 12)).bind fun a5 =>
          if (h3.2.2 a4).1 = 9 then
            (zCall zCode kMachine_execute [.ref a4, .ref x6, .ref a5, .int x3, .int (zi 500)] h3).bind (zRV fun h6 =>
              (zVA (zAt h6 x0 0 10)).bind fun a7 =>
              (zVA (zAt h6 x0 0 11)).bind fun a8 =>
              if (h6.2.2 a7).1 = 9 then
                (zCall zCode kMachine_isUnlike [.ref a7, .ref a8] h6).bind (zRI fun r10 h9 =>
                  if r10 = 0 then
                    if (h9.2.2 x0).1 = 0 then
                      (zCall zCode kPassForge_countUpDigits [.ref x0, .int x3, .int x4] h9).bind (zRV fun h11 =>
                        zRun zCode kPassForge_differ 16 [.ref x0, .retAddr 0, .retAddr 0, .int x3, .int x4, .ref x5, .ref x6, .int x7, .int (x8 + zi 1)] [] h11)
                    else
                      none
                  else
                    some (.inl (some (.int x8), h9)))
              else
                none)
          else
            none)
      else
        none
    else
      some (.inl (some (.int (zi (-1))), h))
  := (zRun_eb [16] 400 16 _ _ _).trans rfl
set_option maxRecDepth 100000 in
set_option maxHeartbeats 4000000 in
theorem zb_PassForge_inputsOf_0 (x0 : Int32) (x1 : Int32) (h : zH) : zRun zCode kPassForge_inputsOf 0 [.int x0, .int x1, .retAddr 0, .retAddr 0] [] h =
    if x0 < 0 then
      some (.inr (14, h.1, zPush h 6 (14, [])))
    else
      if (zi 4) < x0 then
        some (.inr (14, h.1, zPush h 6 (14, [])))
      else
        if x1 < (zi 1) then
          some (.inr (14, h.1, zPush h 6 (14, [])))
        else
          if (zi 5) < x1 then
            some (.inr (14, h.1, zPush h 6 (14, [])))
          else
            zRun zCode kPassForge_inputsOf 16 [.int x0, .int x1, .int (zi 1), .int (zi 0)] [] h
  := (zRun_eb [16] 400 0 _ _ _).trans rfl
set_option maxRecDepth 100000 in
set_option maxHeartbeats 4000000 in
theorem zb_PassForge_inputsOf_16 (x0 : Int32) (x1 : Int32) (x2 : Int32) (x3 : Int32) (h : zH) : zRun zCode kPassForge_inputsOf 16 [.int x0, .int x1, .int x2, .int x3] [] h =
    if x3 < x0 then
      zRun zCode kPassForge_inputsOf 16 [.int x0, .int x1, .int (x2 * x1), .int (x3 + zi 1)] [] h
    else
      if (zi 64) < x2 then
        some (.inr (14, h.1, zPush h 6 (14, [])))
      else
        some (.inl (some (.int x2), h))
  := (zRun_eb [16] 400 16 _ _ _).trans rfl
set_option maxRecDepth 100000 in
set_option maxHeartbeats 4000000 in
theorem zb_PassForge_clearDigits_0 (x0 : Nat) (h : zH) : zRun zCode kPassForge_clearDigits 0 [.ref x0, .retAddr 0] [] h =
    zRun zCode kPassForge_clearDigits 2 [.ref x0, .int (zi 0)] [] h
  := (zRun_eb [2] 400 0 _ _ _).trans rfl
set_option maxRecDepth 100000 in
set_option maxHeartbeats 4000000 in
theorem zb_PassForge_clearDigits_2 (x0 : Nat) (x1 : Int32) (h : zH) : zRun zCode kPassForge_clearDigits 2 [.ref x0, .int x1] [] h =
    (zVA (zAt h x0 0 12)).bind fun a1 =>
    if 100 ≤ (h.2.2 a1).1 then
      if x1 < ((h.2.2 a1).2.length.toInt32) then
        (zVA (zAt h x0 0 12)).bind fun a2 =>
        (zIx h a2 101 x1).bind fun j3 =>
        (zPut h a2 101 j3 (.long (zl 0))).bind fun h4 =>
        zRun zCode kPassForge_clearDigits 2 [.ref x0, .int (x1 + zi 1)] [] h4
      else
        some (.inl (none, h))
    else
      none
  := (zRun_eb [2] 400 2 _ _ _).trans rfl
set_option maxRecDepth 100000 in
set_option maxHeartbeats 4000000 in
theorem zb_Machine_isUnlike_0 (x0 : Nat) (x1 : Nat) (h : zH) : zRun zCode kMachine_isUnlike 0 [.ref x0, .ref x1, .retAddr 0] [] h =
    (zVI (zAt h x0 9 5)).bind fun v1 =>
    (zVI (zAt h x1 9 5)).bind fun v2 =>
    if v1 = v2 then
      (zVI (zAt h x0 9 5)).bind fun v3 =>
      if v3 = 0 then
        (zB (zi 0)).bind fun b7 =>
        some (.inl (some (.int b7), h))
      else
        (zVI (zAt h x0 9 2)).bind fun v4 =>
        (zVI (zAt h x1 9 2)).bind fun v5 =>
        if v4 = v5 then
          zRun zCode kMachine_isUnlike 21 [.ref x0, .ref x1, .int (zi 0)] [] h
        else
          (zB (zi 1)).bind fun b6 =>
          some (.inl (some (.int b6), h))
    else
      (zB (zi 1)).bind fun b8 =>
      some (.inl (some (.int b8), h))
  := (zRun_eb [21] 400 0 _ _ _).trans rfl
set_option maxRecDepth 100000 in
set_option maxHeartbeats 4000000 in
theorem zb_Machine_isUnlike_21 (x0 : Nat) (x1 : Nat) (x2 : Int32) (h : zH) : zRun zCode kMachine_isUnlike 21 [.ref x0, .ref x1, .int x2] [] h =
    if (h.2.2 x0).1 = 9 then
      (zCall zCode kMachine_kept [.ref x0] h).bind (zRI fun r2 h1 =>
        if x2 < r2 then
          if (h1.2.2 x0).1 = 9 then
            (zCall zCode kMachine_keptAt [.ref x0, .int x2] h1).bind (zRL fun r5 h4 =>
              if (h4.2.2 x1).1 = 9 then
                (zCall zCode kMachine_keptAt [.ref x1, .int x2] h4).bind (zRL fun r7 h6 =>
                  if (lg_cmp r5 r7) = 0 then
                    zRun zCode kMachine_isUnlike 21 [.ref x0, .ref x1, .int (x2 + zi 1)] [] h6
                  else
                    (zB (zi 1)).bind fun b8 =>
                    some (.inl (some (.int b8), h6)))
              else
                none)
          else
            none
        else
          (zB (zi 0)).bind fun b3 =>
          some (.inl (some (.int b3), h1)))
    else
      none
  := (zRun_eb [21] 400 21 _ _ _).trans rfl
set_option maxRecDepth 100000 in
set_option maxHeartbeats 4000000 in
theorem zb_PassForge_countUpDigits_0 (x0 : Nat) (x1 : Int32) (x2 : Int32) (h : zH) : zRun zCode kPassForge_countUpDigits 0 [.ref x0, .int x1, .int x2, .retAddr 0] [] h =
    (zVA (zAt h x0 0 12)).bind fun a1 =>
    if 100 ≤ (h.2.2 a1).1 then
      (zCall zCode kMath_min [.int x1, .int ((h.2.2 a1).2.length.toInt32)] h).bind (zRI fun r3 h2 =>
        zRun zCode kPassForge_countUpDigits 8 [.ref x0, .retAddr 0, .int x2, .int (r3 - (zi 1))] [] h2)
    else
      none
  := (zRun_eb [8] 400 0 _ _ _).trans rfl
set_option maxRecDepth 100000 in
set_option maxHeartbeats 4000000 in
theorem zb_PassForge_countUpDigits_8 (x0 : Nat) (x2 : Int32) (x3 : Int32) (h : zH) : zRun zCode kPassForge_countUpDigits 8 [.ref x0, .retAddr 0, .int x2, .int x3] [] h =
    if x3 < 0 then
      some (.inl (none, h))
    else
      (zVA (zAt h x0 0 12)).bind fun a1 =>
      (zIx h a1 101 x3).bind fun j2 =>
      (zVL (zAt h a1 101 j2)).bind fun v3 =>
      (zIx h a1 101 x3).bind fun j4 =>
      (zPut h a1 101 j4 (.long (v3 + (zl 1)))).bind fun h5 =>
      (zVA (zAt h5 x0 0 12)).bind fun a6 =>
      (zIx h5 a6 101 x3).bind fun j7 =>
      (zVL (zAt h5 a6 101 j7)).bind fun v8 =>
      if (lg_cmp v8 x2.toInt64) < 0 then
        some (.inl (none, h5))
      else
        (zVA (zAt h5 x0 0 12)).bind fun a9 =>
        (zIx h5 a9 101 x3).bind fun j10 =>
        (zPut h5 a9 101 j10 (.long (zl 0))).bind fun h11 =>
        zRun zCode kPassForge_countUpDigits 8 [.ref x0, .retAddr 0, .int x2, .int (x3 + zi (-1))] [] h11
  := (zRun_eb [8] 400 8 _ _ _).trans rfl
set_option maxRecDepth 100000 in
set_option maxHeartbeats 4000000 in
theorem zb_Law_share_0 (x0 : Nat) (x1 : Int32) (x2 : Int32) (x3 : Int32) (x4 : Int32) (x5 : Nat) (h : zH) : zRun zCode kLaw_share 0 [.ref x0, .int x1, .int x2, .int x3, .int x4, .ref x5, .retAddr 0] [] h =
    if (h.2.2 x0).1 = 0 then
      (zCall zCode kPassForge_share [.ref x0, .int x1, .int x2, .int x3, .int x4] h).bind (zXm (fun kd q hq =>
          if kd = 15 then
            some (.inl (some (.int (zi 1)), hq))
          else
            if kd = 14 then
              some (.inl (some (.int (zi 2)), hq))
            else
              none) (zRD fun r2 h1 =>
        (zIx h1 x5 105 (zi 0)).bind fun j3 =>
        (zPut h1 x5 105 j3 (.double r2)).bind fun h4 =>
        some (.inl (some (.int (zi 0)), h4))))
    else
      none
  := (zRun_eb [] 400 0 _ _ _).trans rfl
set_option maxRecDepth 100000 in
set_option maxHeartbeats 4000000 in
theorem zb_PassForge_share_0 (x0 : Nat) (x1 : Int32) (x2 : Int32) (x3 : Int32) (x4 : Int32) (h : zH) : zRun zCode kPassForge_share 0 [.ref x0, .int x1, .int x2, .int x3, .int x4, .retAddr 0, .retAddr 0, .retAddr 0, .retAddr 0, .retAddr 0, .retAddr 0] [] h =
    if (h.2.2 x0).1 = 0 then
      (zCall zCode kPassForge_programAt [.ref x0, .int x1] h).bind (zRA fun a2 h1 =>
        if (h1.2.2 x0).1 = 0 then
          (zCall zCode kPassForge_programAt [.ref x0, .int x2] h1).bind (zRA fun a4 h3 =>
            (zCall zCode kPassForge_inputsOf [.int x3, .int x4] h3).bind (zRI fun r6 h5 =>
              if (h5.2.2 x0).1 = 0 then
                (zCall zCode kPassForge_clearDigits [.ref x0] h5).bind (zRV fun h7 =>
                  zRun zCode kPassForge_share 20 [.ref x0, .retAddr 0, .retAddr 0, .int x3, .int x4, .ref a2, .ref a4, .int r6, .int (zi 0), .int (zi 0), .int (zi 0)] [] h7)
              else
                none))
        else
          none)
    else
      none
  := (zRun_eb [20] 400 0 _ _ _).trans rfl
set_option maxRecDepth 100000 in
set_option maxHeartbeats 4000000 in
theorem zb_PassForge_share_20 (x0 : Nat) (x3 : Int32) (x4 : Int32) (x5 : Nat) (x6 : Nat) (x7 : Int32) (x8 : Int32) (x9 : Int32) (x10 : Int32) (h : zH) : zRun zCode kPassForge_share 20 [.ref x0, .retAddr 0, .retAddr 0, .int x3, .int x4, .ref x5, .ref x6, .int x7, .int x8, .int x9, .int x10] [] h =
    if x10 < x7 then
      (zVA (zAt h x0 0 10)).bind fun a1 =>
      (zVA (zAt h x0 0 12)).bind fun a2 =>
      if (h.2.2 a1).1 = 9 then
        (zCall zCode kMachine_execute [.ref a1, .ref x5, .ref a2, .int x3, .int (zi 500)] h).bind (zRV fun h3 =>
          (zVA (zAt h3 x0 0 11)).bind fun a4 =>
          (zVA (zAt h3 x0 0 12)).bind fun a5 =>
          if (h3.2.2 a4).1 = 9 then
            (zCall zCode kMachine_execute [.ref a4, .ref x6, .ref a5, .int x3, .int (zi 500)] h3).bind (zRV fun h6 =>
              (zVA (zAt h6 x0 0 10)).bind fun a7 =>
              if (h6.2.2 a7).1 = 9 then
                (zCall zCode kMachine_steps [.ref a7] h6).bind (zRI fun r9 h8 =>
                  (zVA (zAt h8 x0 0 11)).bind fun a10 =>
                  if (h8.2.2 a10).1 = 9 then
                    (zCall zCode kMachine_steps [.ref a10] h8).bind (zRI fun r12 h11 =>
                      if (h11.2.2 x0).1 = 0 then
                        (zCall zCode kPassForge_countUpDigits [.ref x0, .int x3, .int x4] h11).bind (zRV fun h13 =>
                          zRun zCode kPassForge_share 20 [.ref x0, .retAddr 0, .retAddr 0, .int x3, .int x4, .ref x5, .ref x6, .int x7, .int (x8 + r9), .int (x9 + r12), .int (x10 + zi 1)] [] h13)
                      else
                        none)
                  else
                    none)
              else
                none)
          else
            none)
      else
        none
    else
      if x8 = 0 then
        some (.inl (some (.double FP.dconst1), h))
      else
        if FP.ddiv (FP.i2d x9) (FP.i2d x8) &&& 0x7fffffffffffffff ≤ 0x7ff0000000000000 then
          some (.inl (some (.double (FP.ddiv (FP.i2d x9) (FP.i2d x8))), h))
        else
          none
  := (zRun_eb [20] 400 20 _ _ _).trans rfl
set_option maxRecDepth 100000 in
set_option maxHeartbeats 4000000 in
theorem zb_Model_init_0 (x0 : Nat) (h : zH) : zRun zCode kModel_init 0 [.ref x0] [] h =
    if (zi 12) < 0 ∨ (zi 570) < 0 ∨ 65536 < (zi 12).toNatClampNeg ∨ 65536 < (zi 570).toNatClampNeg then
      none
    else
      (zPut (zRows h (zi 12).toNatClampNeg (zi 570).toNatClampNeg) x0 10 2 (.ref h.1)).bind fun h1 =>
      if (zi 570) < 0 ∨ 65536 < (zi 570).toNatClampNeg then
        none
      else
        (zPut (zPush h1 (zi 570).toNatClampNeg (101, List.replicate (zi 570).toNatClampNeg (.long 0))) x0 10 3 (.ref h1.1)).bind fun h2 =>
        if (zi 1600) < 0 ∨ 65536 < (zi 1600).toNatClampNeg then
          none
        else
          (zPut (zPush h2 (zi 1600).toNatClampNeg (100, List.replicate (zi 1600).toNatClampNeg (.int 0))) x0 10 4 (.ref h2.1)).bind fun h3 =>
          if (zi 12) < 0 ∨ 65536 < (zi 12).toNatClampNeg then
            none
          else
            (zPut (zPush h3 (zi 12).toNatClampNeg (101, List.replicate (zi 12).toNatClampNeg (.long 0))) x0 10 10 (.ref h3.1)).bind fun h4 =>
            if (zi 12) < 0 ∨ 65536 < (zi 12).toNatClampNeg then
              none
            else
              (zPut (zPush h4 (zi 12).toNatClampNeg (101, List.replicate (zi 12).toNatClampNeg (.long 0))) x0 10 11 (.ref h4.1)).bind fun h5 =>
              if (zi 12) < 0 ∨ 65536 < (zi 12).toNatClampNeg then
                none
              else
                (zPut (zPush h5 (zi 12).toNatClampNeg (102, List.replicate (zi 12).toNatClampNeg (.int 0))) x0 10 12 (.ref h5.1)).bind fun h6 =>
                if (zi 12) < 0 ∨ 65536 < (zi 12).toNatClampNeg then
                  none
                else
                  (zPut (zPush h6 (zi 12).toNatClampNeg (100, List.replicate (zi 12).toNatClampNeg (.int 0))) x0 10 13 (.ref h6.1)).bind fun h7 =>
                  (zPut h7 x0 10 14 (.int (zi (-1)))).bind fun h8 =>
                  if (zi 81) < 0 ∨ 65536 < (zi 81).toNatClampNeg then
                    none
                  else
                    (zPut (zPush h8 (zi 81).toNatClampNeg (100, List.replicate (zi 81).toNatClampNeg (.int 0))) x0 10 15 (.ref h8.1)).bind fun h9 =>
                    if (zi 81) < 0 ∨ 65536 < (zi 81).toNatClampNeg then
                      none
                    else
                      (zPut (zPush h9 (zi 81).toNatClampNeg (102, List.replicate (zi 81).toNatClampNeg (.int 0))) x0 10 16 (.ref h9.1)).bind fun h10 =>
                      if (zi 12) < 0 ∨ 65536 < (zi 12).toNatClampNeg then
                        none
                      else
                        (zPut (zPush h10 (zi 12).toNatClampNeg (102, List.replicate (zi 12).toNatClampNeg (.int 0))) x0 10 17 (.ref h10.1)).bind fun h11 =>
                        if (zi 12) < 0 ∨ 65536 < (zi 12).toNatClampNeg then
                          none
                        else
                          (zPut (zPush h11 (zi 12).toNatClampNeg (101, List.replicate (zi 12).toNatClampNeg (.long 0))) x0 10 18 (.ref h11.1)).bind fun h12 =>
                          if (zi 12) < 0 ∨ 65536 < (zi 12).toNatClampNeg then
                            none
                          else
                            (zPut (zPush h12 (zi 12).toNatClampNeg (100, List.replicate (zi 12).toNatClampNeg (.int 0))) x0 10 19 (.ref h12.1)).bind fun h13 =>
                            if (zi 30) < 0 ∨ 65536 < (zi 30).toNatClampNeg then
                              none
                            else
                              (zPut (zPush h13 (zi 30).toNatClampNeg (101, List.replicate (zi 30).toNatClampNeg (.long 0))) x0 10 21 (.ref h13.1)).bind fun h14 =>
                              if (zi 12) < 0 ∨ 65536 < (zi 12).toNatClampNeg then
                                none
                              else
                                (zPut (zPush h14 (zi 12).toNatClampNeg (101, List.replicate (zi 12).toNatClampNeg (.long 0))) x0 10 22 (.ref h14.1)).bind fun h15 =>
                                if (zi 60) < 0 ∨ 65536 < (zi 60).toNatClampNeg then
                                  none
                                else
                                  (zPut (zPush h15 (zi 60).toNatClampNeg (101, List.replicate (zi 60).toNatClampNeg (.long 0))) x0 10 23 (.ref h15.1)).bind fun h16 =>
                                  if (zi 12) < 0 ∨ 65536 < (zi 12).toNatClampNeg then
                                    none
                                  else
                                    (zPut (zPush h16 (zi 12).toNatClampNeg (101, List.replicate (zi 12).toNatClampNeg (.long 0))) x0 10 27 (.ref h16.1)).bind fun h17 =>
                                    if (zi 60) < 0 ∨ 65536 < (zi 60).toNatClampNeg then
                                      none
                                    else
                                      (zPut (zPush h17 (zi 60).toNatClampNeg (101, List.replicate (zi 60).toNatClampNeg (.long 0))) x0 10 28 (.ref h17.1)).bind fun h18 =>
                                      if (zi 3) < 0 ∨ 65536 < (zi 3).toNatClampNeg then
                                        none
                                      else
                                        (zPut (zPush h18 (zi 3).toNatClampNeg (100, List.replicate (zi 3).toNatClampNeg (.int 0))) x0 10 29 (.ref h18.1)).bind fun h19 =>
                                        if (zi 4) < 0 ∨ 65536 < (zi 4).toNatClampNeg then
                                          none
                                        else
                                          (zPut (zPush h19 (zi 4).toNatClampNeg (101, List.replicate (zi 4).toNatClampNeg (.long 0))) x0 10 30 (.ref h19.1)).bind fun h20 =>
                                          if (zi 60) < 0 ∨ 65536 < (zi 60).toNatClampNeg then
                                            none
                                          else
                                            (zPut (zPush h20 (zi 60).toNatClampNeg (101, List.replicate (zi 60).toNatClampNeg (.long 0))) x0 10 31 (.ref h20.1)).bind fun h21 =>
                                            some (.inl (none, h21))
  := (zRun_eb [] 400 0 _ _ _).trans rfl
set_option maxRecDepth 100000 in
set_option maxHeartbeats 4000000 in
theorem zb_Model_thrown_0 (x0 : Nat) (h : zH) : zRun zCode kModel_thrown 0 [.ref x0] [] h =
    (zVI (zAt h x0 10 0)).bind fun v1 =>
    some (.inl (some (.int v1), h))
  := (zRun_eb [] 400 0 _ _ _).trans rfl
set_option maxRecDepth 100000 in
set_option maxHeartbeats 4000000 in
theorem zb_Model_feed_0 (x0 : Nat) (x1 : Int32) (x2 : Int32) (x3 : Int32) (x4 : Int32) (x5 : Int32) (h : zH) : zRun zCode kModel_feed 0 [.ref x0, .int x1, .int x2, .int x3, .int x4, .int x5] [] h =
    (zPut h x0 10 0 (.int (zi 0))).bind fun h1 =>
    (zVI (zAt h1 x0 10 5)).bind fun v2 =>
    if (zi 1600) < (v2 + (zi 20)) then
      if (h1.2.2 x0).1 = 10 then
        (zCall zCode kModel_fail [.ref x0, .int (zi 1)] h1).bind (zRI fun r10 h9 =>
          some (.inl (some (.int r10), h9)))
      else
        none
    else
      if (h1.2.2 x0).1 = 10 then
        (zCall zCode kModel_four [.ref x0, .int x1] h1).bind (zRV fun h3 =>
          if (h3.2.2 x0).1 = 10 then
            (zCall zCode kModel_four [.ref x0, .int x2] h3).bind (zRV fun h4 =>
              if (h4.2.2 x0).1 = 10 then
                (zCall zCode kModel_four [.ref x0, .int x3] h4).bind (zRV fun h5 =>
                  if (h5.2.2 x0).1 = 10 then
                    (zCall zCode kModel_four [.ref x0, .int x4] h5).bind (zRV fun h6 =>
                      if (h6.2.2 x0).1 = 10 then
                        (zCall zCode kModel_four [.ref x0, .int x5] h6).bind (zRV fun h7 =>
                          (zVI (zAt h7 x0 10 5)).bind fun v8 =>
                          some (.inl (some (.int v8), h7)))
                      else
                        none)
                  else
                    none)
              else
                none)
          else
            none)
      else
        none
  := (zRun_eb [] 400 0 _ _ _).trans rfl
set_option maxRecDepth 100000 in
set_option maxHeartbeats 4000000 in
theorem zb_Model_fail_0 (x0 : Nat) (x1 : Int32) (h : zH) : zRun zCode kModel_fail 0 [.ref x0, .int x1] [] h =
    (zPut h x0 10 0 (.int x1)).bind fun h1 =>
    some (.inl (some (.int (zi 0)), h1))
  := (zRun_eb [] 400 0 _ _ _).trans rfl
set_option maxRecDepth 100000 in
set_option maxHeartbeats 4000000 in
theorem zb_Model_four_0 (x0 : Nat) (x1 : Int32) (h : zH) : zRun zCode kModel_four 0 [.ref x0, .int x1, .retAddr 0] [] h =
    zRun zCode kModel_four 2 [.ref x0, .int x1, .int (zi 24)] [] h
  := (zRun_eb [2] 400 0 _ _ _).trans rfl
set_option maxRecDepth 100000 in
set_option maxHeartbeats 4000000 in
theorem zb_Model_four_2 (x0 : Nat) (x1 : Int32) (x2 : Int32) (h : zH) : zRun zCode kModel_four 2 [.ref x0, .int x1, .int x2] [] h =
    if x2 < 0 then
      some (.inl (none, h))
    else
      (zVA (zAt h x0 10 4)).bind fun a1 =>
      (zVI (zAt h x0 10 5)).bind fun v2 =>
      (zIx h a1 100 v2).bind fun j3 =>
      (zPut h a1 100 j3 (.int ((x1 >>> (x2 &&& 31)) &&& (zi 255)))).bind fun h4 =>
      (zVI (zAt h4 x0 10 5)).bind fun v5 =>
      (zPut h4 x0 10 5 (.int (v5 + (zi 1)))).bind fun h6 =>
      zRun zCode kModel_four 2 [.ref x0, .int x1, .int (x2 + zi (-8))] [] h6
  := (zRun_eb [2] 400 2 _ _ _).trans rfl
set_option maxRecDepth 100000 in
set_option maxHeartbeats 4000000 in
theorem zb_Model_trim_0 (x0 : Nat) (x1 : Int32) (h : zH) : zRun zCode kModel_trim 0 [.ref x0, .int x1] [] h =
    (zPut h x0 10 0 (.int (zi 0))).bind fun h1 =>
    (zVI (zAt h1 x0 10 5)).bind fun v2 =>
    (zCall zCode kModel_isIn [.long x1.toInt64, .long (zl 0), .long v2.toInt64] h1).bind (zRI fun r4 h3 =>
      if r4 = 0 then
        if (h3.2.2 x0).1 = 10 then
          (zCall zCode kModel_fail [.ref x0, .int (zi 1)] h3).bind (zRI fun r7 h6 =>
            some (.inl (some (.int r7), h6)))
        else
          none
      else
        (zPut h3 x0 10 5 (.int x1)).bind fun h5 =>
        some (.inl (some (.int x1), h5)))
  := (zRun_eb [] 400 0 _ _ _).trans rfl
set_option maxRecDepth 100000 in
set_option maxHeartbeats 4000000 in
theorem zb_Model_isIn_0 (x0 : Int64) (x2 : Int64) (x4 : Int64) (h : zH) : zRun zCode kModel_isIn 0 [.long x0, .retAddr 0, .long x2, .retAddr 0, .long x4, .retAddr 0] [] h =
    if (lg_cmp x0 x2) < 0 then
      (zB (zi 0)).bind fun b1 =>
      some (.inl (some (.int b1), h))
    else
      if 0 < (lg_cmp x0 x4) then
        (zB (zi 0)).bind fun b2 =>
        some (.inl (some (.int b2), h))
      else
        (zB (zi 1)).bind fun b3 =>
        some (.inl (some (.int b3), h))
  := (zRun_eb [] 400 0 _ _ _).trans rfl
set_option maxRecDepth 100000 in
set_option maxHeartbeats 4000000 in
theorem zb_Model_compile_0 (x0 : Nat) (h : zH) : zRun zCode kModel_compile 0 [.ref x0, .retAddr 0, .retAddr 0, .retAddr 0] [] h =
    (zPut h x0 10 0 (.int (zi 0))).bind fun h1 =>
    (zVI (zAt h1 x0 10 1)).bind fun v2 =>
    if v2 = (zi 12) then
      if (h1.2.2 x0).1 = 10 then
        (zCall zCode kModel_fail [.ref x0, .int (zi 1)] h1).bind (zRI fun r9 h8 =>
          some (.inl (some (.int r9), h8)))
      else
        none
    else
      (zVA (zAt h1 x0 10 2)).bind fun a3 =>
      (zVI (zAt h1 x0 10 1)).bind fun v4 =>
      (zIx h1 a3 111 v4).bind fun j5 =>
      (zVA (zAt h1 a3 111 j5)).bind fun a6 =>
      (zPut h1 x0 10 3 (.ref a6)).bind fun h7 =>
      zRun zCode kModel_compile 20 [.ref x0, .int (zi 0), .retAddr 0, .retAddr 0] [] h7
  := (zRun_eb [20, 40, 51, 81] 400 0 _ _ _).trans rfl
set_option maxRecDepth 100000 in
set_option maxHeartbeats 4000000 in
theorem zb_Model_compile_20 (x0 : Nat) (x1 : Int32) (h : zH) : zRun zCode kModel_compile 20 [.ref x0, .int x1, .retAddr 0, .retAddr 0] [] h =
    if x1 < (zi 3) then
      (zVA (zAt h x0 10 3)).bind fun a8 =>
      (zIx h a8 101 x1).bind fun j9 =>
      (zPut h a8 101 j9 (.long (zl 0))).bind fun h10 =>
      zRun zCode kModel_compile 20 [.ref x0, .int (x1 + zi 1), .retAddr 0, .retAddr 0] [] h10
    else
      (zPut h x0 10 14 (.int (zi (-1)))).bind fun h1 =>
      (zPut h1 x0 10 6 (.int (zi 0))).bind fun h2 =>
      if (h2.2.2 x0).1 = 10 then
        (zCall zCode kModel_next [.ref x0] h2).bind (zXm (fun kd q hq =>
            if kd = 11 then
              (zVI (zAt hq q 11 0)).bind fun v4 =>
              (zVI (zAt hq q 11 1)).bind fun v5 =>
              (zPut hq x0 10 14 (.int v5)).bind fun h6 =>
              (zPut h6 x0 10 5 (.int (zi 0))).bind fun h7 =>
              some (.inl (some (.int v4), h7))
            else
              none) (zRV fun h3 =>
          zRun zCode kModel_compile 40 [.ref x0, .int (zi 0), .retAddr 0, .retAddr 0] [] h3))
      else
        none
  := (zRun_eb [20, 40, 51, 81] 400 20 _ _ _).trans rfl
set_option maxRecDepth 100000 in
set_option maxHeartbeats 4000000 in
theorem zb_Model_compile_40 (x0 : Nat) (x1 : Int32) (h : zH) : zRun zCode kModel_compile 40 [.ref x0, .int x1, .retAddr 0, .retAddr 0] [] h =
    if (h.2.2 x0).1 = 10 then
      (zCall zCode kModel_line [.ref x0] h).bind (zXm (fun kd q hq =>
          if kd = 11 then
            (zVI (zAt hq q 11 0)).bind fun v4 =>
            (zVI (zAt hq q 11 1)).bind fun v5 =>
            (zPut hq x0 10 14 (.int v5)).bind fun h6 =>
            (zPut h6 x0 10 5 (.int (zi 0))).bind fun h7 =>
            some (.inl (some (.int v4), h7))
          else
            none) (zRV fun h1 =>
        (zVI (zAt h1 x0 10 7)).bind fun v2 =>
        if v2 = (zi 302) then
          (zVI (zAt h1 x0 10 5)).bind fun v3 =>
          zRun zCode kModel_compile 51 [.ref x0, .int x1, .int v3, .int (zi 0)] [] h1
        else
          zRun zCode kModel_compile 40 [.ref x0, .int x1, .retAddr 0, .retAddr 0] [] h1))
    else
      none
  := (zRun_eb [20, 40, 51, 81] 400 40 _ _ _).trans rfl
set_option maxRecDepth 100000 in
set_option maxHeartbeats 4000000 in
theorem zb_Model_compile_51 (x0 : Nat) (x1 : Int32) (x2 : Int32) (x3 : Int32) (h : zH) : zRun zCode kModel_compile 51 [.ref x0, .int x1, .int x2, .int x3] [] h =
    (zVA (zAt h x0 10 3)).bind fun a1 =>
    (zIx h a1 101 (zi 2)).bind fun j2 =>
    (zVL (zAt h a1 101 j2)).bind fun v3 =>
    if (lg_cmp x3.toInt64 v3) < 0 then
      (zVA (zAt h x0 10 12)).bind fun a5 =>
      (zIx h a5 102 x3).bind fun j6 =>
      (zVI (zAt h a5 102 j6)).bind fun v7 =>
      if v7 = 0 then
        (zVA (zAt h x0 10 13)).bind fun a8 =>
        (zIx h a8 100 x3).bind fun j9 =>
        (zVI (zAt h a8 100 j9)).bind fun v10 =>
        (zCall zCode kMath_min [.int x2, .int v10] h).bind (zXm (fun kd q hq =>
            if kd = 11 then
              (zVI (zAt hq q 11 0)).bind fun v13 =>
              (zVI (zAt hq q 11 1)).bind fun v14 =>
              (zPut hq x0 10 14 (.int v14)).bind fun h15 =>
              (zPut h15 x0 10 5 (.int (zi 0))).bind fun h16 =>
              some (.inl (some (.int v13), h16))
            else
              none) (zRI fun r12 h11 =>
          zRun zCode kModel_compile 51 [.ref x0, .int x1, .int r12, .int (x3 + zi 1)] [] h11))
      else
        zRun zCode kModel_compile 51 [.ref x0, .int x1, .int x2, .int (x3 + zi 1)] [] h
    else
      (zVI (zAt h x0 10 5)).bind fun v4 =>
      if x2 = v4 then
        zRun zCode kModel_compile 81 [.ref x0, .int x1, .int x2, .retAddr 0] [.int (zi 1), .ref x0] h
      else
        zRun zCode kModel_compile 81 [.ref x0, .int x1, .int x2, .retAddr 0] [.int (zi 0), .ref x0] h
  := (zRun_eb [20, 40, 51, 81] 400 51 _ _ _).trans rfl
set_option maxRecDepth 100000 in
set_option maxHeartbeats 4000000 in
theorem zb_Model_compile_81 (x0 : Nat) (x1 : Int32) (x2 : Int32) (y0 : Int32) (y1 : Nat) (h : zH) : zRun zCode kModel_compile 81 [.ref x0, .int x1, .int x2, .retAddr 0] [.int y0, .ref y1] h =
    if (h.2.2 y1).1 = 10 then
      (zCall zCode kModel_must [.ref y1, .int y0, .int (zi 3), .int x2] h).bind (zXm (fun kd q hq =>
          if kd = 11 then
            (zVI (zAt hq q 11 0)).bind fun v5 =>
            (zVI (zAt hq q 11 1)).bind fun v6 =>
            (zPut hq x0 10 14 (.int v6)).bind fun h7 =>
            (zPut h7 x0 10 5 (.int (zi 0))).bind fun h8 =>
            some (.inl (some (.int v5), h8))
          else
            none) (zRV fun h1 =>
        (zVI (zAt h1 x0 10 1)).bind fun v2 =>
        (zPut h1 x0 10 1 (.int (v2 + (zi 1)))).bind fun h3 =>
        (zPut h3 x0 10 5 (.int (zi 0))).bind fun h4 =>
        some (.inl (some (.int x1), h4))))
    else
      none
  := (zRun_eb [20, 40, 51, 81] 400 81 _ _ _).trans rfl
set_option maxRecDepth 100000 in
set_option maxHeartbeats 4000000 in
theorem zb_Model_next_0 (x0 : Nat) (h : zH) : zRun zCode kModel_next 0 [.ref x0, .retAddr 0] [] h =
    (zVI (zAt h x0 10 6)).bind fun v1 =>
    if (h.2.2 x0).1 = 10 then
      (zCall zCode kModel_byteAt [.ref x0, .int v1] h).bind (zRI fun r3 h2 =>
        if r3 = (zi 32) then
          (zVI (zAt h2 x0 10 6)).bind fun v4 =>
          (zPut h2 x0 10 6 (.int (v4 + (zi 1)))).bind fun h5 =>
          zRun zCode kModel_next 0 [.ref x0, .retAddr 0] [] h5
        else
          (zVI (zAt h2 x0 10 6)).bind fun v6 =>
          if (h2.2.2 x0).1 = 10 then
            (zCall zCode kModel_byteAt [.ref x0, .int v6] h2).bind (zRI fun r8 h7 =>
              if r8 = (zi 10) then
                (zVI (zAt h7 x0 10 6)).bind fun v34 =>
                (zPut h7 x0 10 6 (.int (v34 + (zi 1)))).bind fun h35 =>
                zRun zCode kModel_next 0 [.ref x0, .retAddr 0] [] h35
              else
                (zVI (zAt h7 x0 10 6)).bind fun v9 =>
                if (h7.2.2 x0).1 = 10 then
                  (zCall zCode kModel_byteAt [.ref x0, .int v9] h7).bind (zRI fun r11 h10 =>
                    (zVI (zAt h10 x0 10 6)).bind fun v12 =>
                    (zPut h10 x0 10 8 (.int v12)).bind fun h13 =>
                    (zPut h13 x0 10 9 (.long (zl 0))).bind fun h14 =>
                    if r11 = (zi (-1)) then
                      (zPut h14 x0 10 7 (.int (zi 302))).bind fun h33 =>
                      some (.inl (none, h33))
                    else
                      (zCall zCode kModel_isLetter [.int r11] h14).bind (zRI fun r16 h15 =>
                        if r16 = 0 then
                          (zCall zCode kModel_isDigit [.int r11] h15).bind (zRI fun r18 h17 =>
                            if r18 = 0 then
                              if r11 = (zi 59) then
                                (zPut h17 x0 10 7 (.int r11)).bind fun h19 =>
                                (zVI (zAt h19 x0 10 6)).bind fun v20 =>
                                (zPut h19 x0 10 6 (.int (v20 + (zi 1)))).bind fun h21 =>
                                some (.inl (none, h21))
                              else
                                if r11 = (zi 58) then
                                  (zPut h17 x0 10 7 (.int r11)).bind fun h22 =>
                                  (zVI (zAt h22 x0 10 6)).bind fun v23 =>
                                  (zPut h22 x0 10 6 (.int (v23 + (zi 1)))).bind fun h24 =>
                                  some (.inl (none, h24))
                                else
                                  if (h17.2.2 1).1 = 12 then
                                    (zCall zCode kString_indexOf2 [.ref 1, .int r11] h17).bind (zRI fun r26 h25 =>
                                      if r26 < 0 then
                                        (zPut h25 x0 10 7 (.int (zi 303))).bind fun h27 =>
                                        (zVI (zAt h27 x0 10 6)).bind fun v28 =>
                                        (zPut h27 x0 10 6 (.int (v28 + (zi 1)))).bind fun h29 =>
                                        some (.inl (none, h29))
                                      else
                                        (zPut h25 x0 10 7 (.int r11)).bind fun h30 =>
                                        (zVI (zAt h30 x0 10 6)).bind fun v31 =>
                                        (zPut h30 x0 10 6 (.int (v31 + (zi 1)))).bind fun h32 =>
                                        some (.inl (none, h32)))
                                  else
                                    none
                            else
                              zRun zCode kModel_next 99 [.ref x0, .retAddr 0] [] h17)
                        else
                          zRun zCode kModel_next 41 [.ref x0, .retAddr 0] [] h15))
                else
                  none)
          else
            none)
    else
      none
  := (zRun_eb [0, 41, 53, 99] 400 0 _ _ _).trans rfl
set_option maxRecDepth 100000 in
set_option maxHeartbeats 4000000 in
theorem zb_Model_next_41 (x0 : Nat) (h : zH) : zRun zCode kModel_next 41 [.ref x0, .retAddr 0] [] h =
    (zVI (zAt h x0 10 6)).bind fun v1 =>
    if (h.2.2 x0).1 = 10 then
      (zCall zCode kModel_byteAt [.ref x0, .int v1] h).bind (zRI fun r3 h2 =>
        (zCall zCode kModel_isLetter [.int r3] h2).bind (zRI fun r5 h4 =>
          if r5 = 0 then
            (zVI (zAt h4 x0 10 6)).bind fun v6 =>
            if (h4.2.2 x0).1 = 10 then
              (zCall zCode kModel_byteAt [.ref x0, .int v6] h4).bind (zRI fun r8 h7 =>
                (zCall zCode kModel_isDigit [.int r8] h7).bind (zRI fun r10 h9 =>
                  if r10 = 0 then
                    (zVI (zAt h9 x0 10 6)).bind fun v11 =>
                    (zVI (zAt h9 x0 10 8)).bind fun v12 =>
                    if (zi 6) < (v11 - v12) then
                      (zPut h9 x0 10 7 (.int (zi 303))).bind fun h21 =>
                      some (.inl (none, h21))
                    else
                      (zVL (zAt h9 x0 10 9)).bind fun v13 =>
                      (zCall zCode kModel_keyOf [.long v13] h9).bind (zRI fun r15 h14 =>
                        if r15 = (zi (-1)) then
                          (zPut h14 x0 10 7 (.int (zi 300))).bind fun h20 =>
                          some (.inl (none, h20))
                        else
                          (zVL (zAt h14 x0 10 9)).bind fun v16 =>
                          (zCall zCode kModel_keyOf [.long v16] h14).bind (zRI fun r18 h17 =>
                            (zPut h17 x0 10 7 (.int ((zi 310) + r18))).bind fun h19 =>
                            some (.inl (none, h19))))
                  else
                    zRun zCode kModel_next 53 [.ref x0, .retAddr 0] [] h9))
            else
              none
          else
            zRun zCode kModel_next 53 [.ref x0, .retAddr 0] [] h4))
    else
      none
  := (zRun_eb [0, 41, 53, 99] 400 41 _ _ _).trans rfl
set_option maxRecDepth 100000 in
set_option maxHeartbeats 4000000 in
theorem zb_Model_next_53 (x0 : Nat) (h : zH) : zRun zCode kModel_next 53 [.ref x0, .retAddr 0] [] h =
    (zVL (zAt h x0 10 9)).bind fun v1 =>
    (zVI (zAt h x0 10 6)).bind fun v2 =>
    if (h.2.2 x0).1 = 10 then
      (zCall zCode kModel_byteAt [.ref x0, .int v2] h).bind (zRI fun r4 h3 =>
        (zPut h3 x0 10 9 (.long ((v1 <<< ((zi 8).toInt64 &&& 63)) ||| r4.toInt64))).bind fun h5 =>
        (zVI (zAt h5 x0 10 6)).bind fun v6 =>
        (zPut h5 x0 10 6 (.int (v6 + (zi 1)))).bind fun h7 =>
        zRun zCode kModel_next 41 [.ref x0, .retAddr 0] [] h7)
    else
      none
  := (zRun_eb [0, 41, 53, 99] 400 53 _ _ _).trans rfl
set_option maxRecDepth 100000 in
set_option maxHeartbeats 4000000 in
theorem zb_Model_next_99 (x0 : Nat) (h : zH) : zRun zCode kModel_next 99 [.ref x0, .retAddr 0] [] h =
    (zVI (zAt h x0 10 6)).bind fun v1 =>
    if (h.2.2 x0).1 = 10 then
      (zCall zCode kModel_byteAt [.ref x0, .int v1] h).bind (zRI fun r3 h2 =>
        (zCall zCode kModel_isDigit [.int r3] h2).bind (zRI fun r5 h4 =>
          if r5 = 0 then
            (zVI (zAt h4 x0 10 6)).bind fun v6 =>
            (zVI (zAt h4 x0 10 8)).bind fun v7 =>
            if (zi 6) < (v6 - v7) then
              (zPut h4 x0 10 7 (.int (zi 303))).bind fun h9 =>
              some (.inl (none, h9))
            else
              (zPut h4 x0 10 7 (.int (zi 301))).bind fun h8 =>
              some (.inl (none, h8))
          else
            (zVI (zAt h4 x0 10 6)).bind fun v10 =>
            (zVI (zAt h4 x0 10 8)).bind fun v11 =>
            if (v10 - v11) < (zi 6) then
              (zVL (zAt h4 x0 10 9)).bind fun v15 =>
              (zVI (zAt h4 x0 10 6)).bind fun v16 =>
              if (h4.2.2 x0).1 = 10 then
                (zCall zCode kModel_byteAt [.ref x0, .int v16] h4).bind (zRI fun r18 h17 =>
                  (zPut h17 x0 10 9 (.long ((((zl 10) * v15) + r18.toInt64) - (zl 48)))).bind fun h19 =>
                  (zVI (zAt h19 x0 10 6)).bind fun v20 =>
                  (zPut h19 x0 10 6 (.int (v20 + (zi 1)))).bind fun h21 =>
                  zRun zCode kModel_next 99 [.ref x0, .retAddr 0] [] h21)
              else
                none
            else
              (zPut h4 x0 10 9 (.long (zl 0))).bind fun h12 =>
              (zVI (zAt h12 x0 10 6)).bind fun v13 =>
              (zPut h12 x0 10 6 (.int (v13 + (zi 1)))).bind fun h14 =>
              zRun zCode kModel_next 99 [.ref x0, .retAddr 0] [] h14))
    else
      none
  := (zRun_eb [0, 41, 53, 99] 400 99 _ _ _).trans rfl
set_option maxRecDepth 100000 in
set_option maxHeartbeats 4000000 in
theorem zb_Model_byteAt_0 (x0 : Nat) (x1 : Int32) (h : zH) : zRun zCode kModel_byteAt 0 [.ref x0, .int x1] [] h =
    (zVI (zAt h x0 10 5)).bind fun v1 =>
    if x1 < v1 then
      (zVA (zAt h x0 10 4)).bind fun a2 =>
      (zIx h a2 100 x1).bind fun j3 =>
      (zVI (zAt h a2 100 j3)).bind fun v4 =>
      some (.inl (some (.int v4), h))
    else
      some (.inl (some (.int (zi (-1))), h))
  := (zRun_eb [] 400 0 _ _ _).trans rfl
set_option maxRecDepth 100000 in
set_option maxHeartbeats 4000000 in
theorem zb_Model_isLetter_0 (x0 : Int32) (h : zH) : zRun zCode kModel_isLetter 0 [.int x0] [] h =
    (zCall zCode kModel_isIn [.long x0.toInt64, .long (zl 97), .long (zl 122)] h).bind (zRI fun r2 h1 =>
      (zB r2).bind fun b3 =>
      some (.inl (some (.int b3), h1)))
  := (zRun_eb [] 400 0 _ _ _).trans rfl
set_option maxRecDepth 100000 in
set_option maxHeartbeats 4000000 in
theorem zb_Model_isDigit_0 (x0 : Int32) (h : zH) : zRun zCode kModel_isDigit 0 [.int x0] [] h =
    (zCall zCode kModel_isIn [.long x0.toInt64, .long (zl 48), .long (zl 57)] h).bind (zRI fun r2 h1 =>
      (zB r2).bind fun b3 =>
      some (.inl (some (.int b3), h1)))
  := (zRun_eb [] 400 0 _ _ _).trans rfl
set_option maxRecDepth 100000 in
set_option maxHeartbeats 4000000 in
theorem zb_Model_keyOf_0 (x0 : Int64) (h : zH) : zRun zCode kModel_keyOf 0 [.long x0, .retAddr 0, .retAddr 0, .retAddr 0, .retAddr 0, .retAddr 0, .retAddr 0, .retAddr 0] [] h =
    zRun zCode kModel_keyOf 4 [.long x0, .retAddr 0, .int (zi 0), .int (zi 0), .retAddr 0, .retAddr 0, .retAddr 0, .retAddr 0] [] h
  := (zRun_eb [4, 16] 400 0 _ _ _).trans rfl
set_option maxRecDepth 100000 in
set_option maxHeartbeats 4000000 in
theorem zb_Model_keyOf_4 (x0 : Int64) (x2 : Int32) (x3 : Int32) (h : zH) : zRun zCode kModel_keyOf 4 [.long x0, .retAddr 0, .int x2, .int x3, .retAddr 0, .retAddr 0, .retAddr 0, .retAddr 0] [] h =
    if x3 < (zi 5) then
      if (h.2.2 3).1 = 12 then
        (zCall zCode kString_indexOf [.ref 3, .int (zi 32), .int x2] h).bind (zRI fun r2 h1 =>
          zRun zCode kModel_keyOf 16 [.long x0, .retAddr 0, .retAddr 0, .int x3, .int r2, .long (zl 0), .retAddr 0, .int x2] [] h1)
      else
        none
    else
      some (.inl (some (.int (zi (-1))), h))
  := (zRun_eb [4, 16] 400 4 _ _ _).trans rfl
set_option maxRecDepth 100000 in
set_option maxHeartbeats 4000000 in
theorem zb_Model_keyOf_16 (x0 : Int64) (x3 : Int32) (x4 : Int32) (x5 : Int64) (x7 : Int32) (h : zH) : zRun zCode kModel_keyOf 16 [.long x0, .retAddr 0, .retAddr 0, .int x3, .int x4, .long x5, .retAddr 0, .int x7] [] h =
    if x7 < x4 then
      if (h.2.2 3).1 = 12 then
        (zCall zCode kString_charAt [.ref 3, .int x7] h).bind (zRI fun r2 h1 =>
          zRun zCode kModel_keyOf 16 [.long x0, .retAddr 0, .retAddr 0, .int x3, .int x4, .long ((x5 <<< ((zi 8).toInt64 &&& 63)) ||| r2.toInt64), .retAddr 0, .int (x7 + zi 1)] [] h1)
      else
        none
    else
      if (lg_cmp x5 x0) = 0 then
        some (.inl (some (.int ((zi 3) + x3)), h))
      else
        zRun zCode kModel_keyOf 4 [.long x0, .retAddr 0, .int (x4 + (zi 1)), .int (x3 + zi 1), .retAddr 0, .retAddr 0, .retAddr 0, .retAddr 0] [] h
  := (zRun_eb [4, 16] 400 16 _ _ _).trans rfl
set_option maxRecDepth 100000 in
set_option maxHeartbeats 4000000 in
theorem zb_String_indexOf_0 (x0 : Nat) (x1 : Int32) (x2 : Int32) (h : zH) : zRun zCode kString_indexOf 0 [.ref x0, .int x1, .int x2] [] h =
    if (h.2.2 x0).1 = 12 then
      (zCall zCode kString_isLatin1 [.ref x0] h).bind (zRI fun r2 h1 =>
        if r2 = 0 then
          (zVA (zAt h1 x0 12 0)).bind fun a3 =>
          if (h1.2.2 x0).1 = 12 then
            (zCall zCode kString_length [.ref x0] h1).bind (zRI fun r5 h4 =>
              none)
          else
            none
        else
          (zVA (zAt h1 x0 12 0)).bind fun a6 =>
          if (h1.2.2 x0).1 = 12 then
            (zCall zCode kString_length [.ref x0] h1).bind (zRI fun r8 h7 =>
              (zCall zCode kStringLatin1_indexOf [.ref a6, .int x1, .int x2, .int r8] h7).bind (zRI fun r10 h9 =>
                some (.inl (some (.int r10), h9))))
          else
            none)
    else
      none
  := (zRun_eb [] 400 0 _ _ _).trans rfl
set_option maxRecDepth 100000 in
set_option maxHeartbeats 4000000 in
theorem zb_String_isLatin1_0 (x0 : Nat) (h : zH) : zRun zCode kString_isLatin1 0 [.ref x0] [] h =
    if (zi 1) = 0 then
      (zB (zi 0)).bind fun b1 =>
      some (.inl (some (.int b1), h))
    else
      (zVI (zAt h x0 12 1)).bind fun v2 =>
      if v2 = 0 then
        (zB (zi 1)).bind fun b4 =>
        some (.inl (some (.int b4), h))
      else
        (zB (zi 0)).bind fun b3 =>
        some (.inl (some (.int b3), h))
  := (zRun_eb [] 400 0 _ _ _).trans rfl
set_option maxRecDepth 100000 in
set_option maxHeartbeats 4000000 in
theorem zb_String_length_0 (x0 : Nat) (h : zH) : zRun zCode kString_length 0 [.ref x0] [] h =
    (zVA (zAt h x0 12 0)).bind fun a1 =>
    if 100 ≤ (h.2.2 a1).1 then
      if (h.2.2 x0).1 = 12 then
        (zCall zCode kString_coder [.ref x0] h).bind (zRI fun r3 h2 =>
          some (.inl (some (.int (((h.2.2 a1).2.length.toInt32) >>> (r3 &&& 31))), h2)))
      else
        none
    else
      none
  := (zRun_eb [] 400 0 _ _ _).trans rfl
set_option maxRecDepth 100000 in
set_option maxHeartbeats 4000000 in
theorem zb_String_coder_0 (x0 : Nat) (h : zH) : zRun zCode kString_coder 0 [.ref x0] [] h =
    if (zi 1) = 0 then
      (zNarrow 2 (zi 1)).bind fun b1 =>
      some (.inl (some (.int b1), h))
    else
      (zVI (zAt h x0 12 1)).bind fun v2 =>
      (zNarrow 2 v2).bind fun b3 =>
      some (.inl (some (.int b3), h))
  := (zRun_eb [] 400 0 _ _ _).trans rfl
set_option maxRecDepth 100000 in
set_option maxHeartbeats 4000000 in
theorem zb_StringLatin1_indexOf_0 (x0 : Nat) (x1 : Int32) (x2 : Int32) (x3 : Int32) (h : zH) : zRun zCode kStringLatin1_indexOf 0 [.ref x0, .int x1, .int x2, .int x3] [] h =
    (zCall zCode kStringLatin1_canEncode [.int x1] h).bind (zRI fun r2 h1 =>
      if r2 = 0 then
        some (.inl (some (.int (zi (-1))), h1))
      else
        (zCall zCode kMath_max [.int x2, .int (zi 0)] h1).bind (zRI fun r4 h3 =>
          if 100 ≤ (h3.2.2 x0).1 then
            (zCall zCode kMath_min [.int x3, .int ((h3.2.2 x0).2.length.toInt32)] h3).bind (zRI fun r6 h5 =>
              if r4 < r6 then
                (zCall zCode kStringLatin1_indexOfChar [.ref x0, .int x1, .int r4, .int r6] h5).bind (zRI fun r8 h7 =>
                  some (.inl (some (.int r8), h7)))
              else
                some (.inl (some (.int (zi (-1))), h5)))
          else
            none))
  := (zRun_eb [] 400 0 _ _ _).trans rfl
set_option maxRecDepth 100000 in
set_option maxHeartbeats 4000000 in
theorem zb_StringLatin1_canEncode_0 (x0 : Int32) (h : zH) : zRun zCode kStringLatin1_canEncode 0 [.int x0] [] h =
    if x0 < 0 then
      (zB (zi 0)).bind fun b1 =>
      some (.inl (some (.int b1), h))
    else
      if (zi 255) < x0 then
        (zB (zi 0)).bind fun b2 =>
        some (.inl (some (.int b2), h))
      else
        (zB (zi 1)).bind fun b3 =>
        some (.inl (some (.int b3), h))
  := (zRun_eb [] 400 0 _ _ _).trans rfl
set_option maxRecDepth 100000 in
set_option maxHeartbeats 4000000 in
theorem zb_StringLatin1_indexOfChar_0 (x0 : Nat) (x1 : Int32) (x2 : Int32) (x3 : Int32) (h : zH) : zRun zCode kStringLatin1_indexOfChar 0 [.ref x0, .int x1, .int x2, .int x3, .retAddr 0, .retAddr 0] [] h =
    zRun zCode kStringLatin1_indexOfChar 5 [.ref x0, .retAddr 0, .retAddr 0, .int x3, .int x1.toInt8.toInt32, .int x2] [] h
  := (zRun_eb [5] 400 0 _ _ _).trans rfl
set_option maxRecDepth 100000 in
set_option maxHeartbeats 4000000 in
theorem zb_StringLatin1_indexOfChar_5 (x0 : Nat) (x3 : Int32) (x4 : Int32) (x5 : Int32) (h : zH) : zRun zCode kStringLatin1_indexOfChar 5 [.ref x0, .retAddr 0, .retAddr 0, .int x3, .int x4, .int x5] [] h =
    if x5 < x3 then
      (zIx h x0 103 x5).bind fun j1 =>
      (zVI (zAt h x0 103 j1)).bind fun v2 =>
      if v2 = x4 then
        some (.inl (some (.int x5), h))
      else
        zRun zCode kStringLatin1_indexOfChar 5 [.ref x0, .retAddr 0, .retAddr 0, .int x3, .int x4, .int (x5 + zi 1)] [] h
    else
      some (.inl (some (.int (zi (-1))), h))
  := (zRun_eb [5] 400 5 _ _ _).trans rfl
set_option maxRecDepth 100000 in
set_option maxHeartbeats 4000000 in
theorem zb_String_charAt_0 (x0 : Nat) (x1 : Int32) (h : zH) : zRun zCode kString_charAt 0 [.ref x0, .int x1] [] h =
    if (h.2.2 x0).1 = 12 then
      (zCall zCode kString_isLatin1 [.ref x0] h).bind (zRI fun r2 h1 =>
        if r2 = 0 then
          (zVA (zAt h1 x0 12 0)).bind fun a3 =>
          none
        else
          (zVA (zAt h1 x0 12 0)).bind fun a4 =>
          (zCall zCode kStringLatin1_charAt [.ref a4, .int x1] h1).bind (zRI fun r6 h5 =>
            (zNarrow 3 r6).bind fun b7 =>
            some (.inl (some (.int b7), h5))))
    else
      none
  := (zRun_eb [] 400 0 _ _ _).trans rfl
set_option maxRecDepth 100000 in
set_option maxHeartbeats 4000000 in
theorem zb_StringLatin1_charAt_0 (x0 : Nat) (x1 : Int32) (h : zH) : zRun zCode kStringLatin1_charAt 0 [.ref x0, .int x1] [] h =
    if 100 ≤ (h.2.2 x0).1 then
      (zCall zCode kString_checkIndex [.int x1, .int ((h.2.2 x0).2.length.toInt32)] h).bind (zRV fun h1 =>
        (zIx h1 x0 103 x1).bind fun j2 =>
        (zVI (zAt h1 x0 103 j2)).bind fun v3 =>
        (zNarrow 3 (((v3 &&& (zi 255)).toUInt32 % 65536).toInt32)).bind fun b4 =>
        some (.inl (some (.int b4), h1)))
    else
      none
  := (zRun_eb [] 400 0 _ _ _).trans rfl
set_option maxRecDepth 100000 in
set_option maxHeartbeats 4000000 in
theorem zb_String_checkIndex_0 (x0 : Int32) (x1 : Int32) (h : zH) : zRun zCode kString_checkIndex 0 [.int x0, .int x1] [] h =
    (zCall zCode kPreconditions_checkIndex [.int x0, .int x1, .retAddr 1] h).bind (zRI fun r2 h1 =>
      some (.inl (none, h1)))
  := (zRun_eb [] 400 0 _ _ _).trans rfl
set_option maxRecDepth 100000 in
set_option maxHeartbeats 4000000 in
theorem zb_Preconditions_checkIndex_0 (x0 : Int32) (x1 : Int32) (h : zH) : zRun zCode kPreconditions_checkIndex 0 [.int x0, .int x1, .retAddr 1] [] h =
    if x0 < 0 then
      none
    else
      if x0 < x1 then
        some (.inl (some (.int x0), h))
      else
        none
  := (zRun_eb [] 400 0 _ _ _).trans rfl
set_option maxRecDepth 100000 in
set_option maxHeartbeats 4000000 in
theorem zb_String_indexOf2_0 (x0 : Nat) (x1 : Int32) (h : zH) : zRun zCode kString_indexOf2 0 [.ref x0, .int x1] [] h =
    if (h.2.2 x0).1 = 12 then
      (zCall zCode kString_indexOf [.ref x0, .int x1, .int (zi 0)] h).bind (zRI fun r2 h1 =>
        some (.inl (some (.int r2), h1)))
    else
      none
  := (zRun_eb [] 400 0 _ _ _).trans rfl
set_option maxRecDepth 100000 in
set_option maxHeartbeats 4000000 in
theorem zb_Model_line_0 (x0 : Nat) (h : zH) : zRun zCode kModel_line 0 [.ref x0, .retAddr 0, .retAddr 0] [] h =
    (zVI (zAt h x0 10 7)).bind fun v1 =>
    (zVI (zAt h x0 10 7)).bind fun v2 =>
    if v2 = (zi 300) then
      (zVA (zAt h x0 10 3)).bind fun a3 =>
      (zIx h a3 101 (zi 0)).bind fun j4 =>
      (zVL (zAt h a3 101 j4)).bind fun v5 =>
      if (lg_cmp v5 (zl 80)) < 0 then
        zRun zCode kModel_line 29 [.ref x0, .int (v1 - (zi 310)), .retAddr 0] [.int (zi 1), .ref x0] h
      else
        zRun zCode kModel_line 29 [.ref x0, .int (v1 - (zi 310)), .retAddr 0] [.int (zi 0), .ref x0] h
    else
      (zCall zCode kModel_isIn [.long ((v1 - (zi 310)).toInt64), .long (zl 3), .long (zl 7)] h).bind (zRI fun r7 h6 =>
        if r7 = 0 then
          if (h6.2.2 x0).1 = 10 then
            (zCall zCode kModel_wrong [.ref x0] h6).bind (zRA fun a12 h11 =>
              if (h11.2.2 a12).1 = 11 then
                some (.inr ((h11.2.2 a12).1, a12, h11))
              else
                none)
          else
            none
        else
          (zVA (zAt h6 x0 10 3)).bind fun a8 =>
          (zIx h6 a8 101 (zi 0)).bind fun j9 =>
          (zVL (zAt h6 a8 101 j9)).bind fun v10 =>
          if (lg_cmp v10 (zl 80)) < 0 then
            zRun zCode kModel_line 29 [.ref x0, .int (v1 - (zi 310)), .retAddr 0] [.int (zi 1), .ref x0] h6
          else
            zRun zCode kModel_line 29 [.ref x0, .int (v1 - (zi 310)), .retAddr 0] [.int (zi 0), .ref x0] h6)
  := (zRun_eb [29, 59, 65, 78] 400 0 _ _ _).trans rfl
set_option maxRecDepth 100000 in
set_option maxHeartbeats 4000000 in
theorem zb_Model_line_29 (x0 : Nat) (x1 : Int32) (y0 : Int32) (y1 : Nat) (h : zH) : zRun zCode kModel_line 29 [.ref x0, .int x1, .retAddr 0] [.int y0, .ref y1] h =
    (zVI (zAt h x0 10 8)).bind fun v1 =>
    if (h.2.2 y1).1 = 10 then
      (zCall zCode kModel_must [.ref y1, .int y0, .int (zi 2), .int v1] h).bind (zRV fun h2 =>
        (zVA (zAt h2 x0 10 3)).bind fun a3 =>
        (zCall zCode kModel_many [.ref a3] h2).bind (zRI fun r5 h4 =>
          if (h4.2.2 x0).1 = 10 then
            (zCall zCode kModel_lay [.ref x0, .int r5, .int x1, .int (zi (-1)), .int (zi (-1))] h4).bind (zRV fun h6 =>
              (zVI (zAt h6 x0 10 7)).bind fun v7 =>
              if v7 = (zi 300) then
                if (h6.2.2 x0).1 = 10 then
                  (zCall zCode kModel_named [.ref x0, .int r5] h6).bind (zRV fun h10 =>
                    (zVA (zAt h10 x0 10 3)).bind fun a11 =>
                    (zIx h10 a11 101 (zi 0)).bind fun j12 =>
                    (zVL (zAt h10 a11 101 j12)).bind fun v13 =>
                    (zIx h10 a11 101 (zi 0)).bind fun j14 =>
                    (zPut h10 a11 101 j14 (.long (v13 + (zl 1)))).bind fun h15 =>
                    some (.inl (none, h15)))
                else
                  none
              else
                if (h6.2.2 x0).1 = 10 then
                  (zCall zCode kModel_next [.ref x0] h6).bind (zRV fun h8 =>
                    if x1 = (zi 3) then
                      if (h8.2.2 x0).1 = 10 then
                        (zCall zCode kModel_jump [.ref x0, .int r5] h8).bind (zRV fun h9 =>
                          zRun zCode kModel_line 59 [.ref x0, .int x1, .int r5] [] h9)
                      else
                        none
                    else
                      zRun zCode kModel_line 59 [.ref x0, .int x1, .int r5] [] h8)
                else
                  none)
          else
            none))
    else
      none
  := (zRun_eb [29, 59, 65, 78] 400 29 _ _ _).trans rfl
set_option maxRecDepth 100000 in
set_option maxHeartbeats 4000000 in
theorem zb_Model_line_59 (x0 : Nat) (x1 : Int32) (x2 : Int32) (h : zH) : zRun zCode kModel_line 59 [.ref x0, .int x1, .int x2] [] h =
    if x1 = (zi 4) then
      zRun zCode kModel_line 65 [.ref x0, .int x1, .int x2] [] h
    else
      if x1 = (zi 6) then
        zRun zCode kModel_line 65 [.ref x0, .int x1, .int x2] [] h
      else
        if x1 = (zi 4) then
          if (h.2.2 x0).1 = 10 then
            (zCall zCode kModel_take [.ref x0, .int (zi 313)] h).bind (zRV fun h1 =>
              if (h1.2.2 x0).1 = 10 then
                (zCall zCode kModel_jump [.ref x0, .int x2] h1).bind (zRV fun h2 =>
                  zRun zCode kModel_line 78 [.ref x0, .int x1, .int x2] [] h2)
              else
                none)
          else
            none
        else
          zRun zCode kModel_line 78 [.ref x0, .int x1, .int x2] [] h
  := (zRun_eb [29, 59, 65, 78] 400 59 _ _ _).trans rfl
set_option maxRecDepth 100000 in
set_option maxHeartbeats 4000000 in
theorem zb_Model_line_65 (x0 : Nat) (x1 : Int32) (x2 : Int32) (h : zH) : zRun zCode kModel_line 65 [.ref x0, .int x1, .int x2] [] h =
    if (h.2.2 x0).1 = 10 then
      (zCall zCode kModel_value [.ref x0, .int x2, .int (zi 0)] h).bind (zRV fun h1 =>
        if x1 = (zi 4) then
          if (h1.2.2 x0).1 = 10 then
            (zCall zCode kModel_take [.ref x0, .int (zi 313)] h1).bind (zRV fun h2 =>
              if (h2.2.2 x0).1 = 10 then
                (zCall zCode kModel_jump [.ref x0, .int x2] h2).bind (zRV fun h3 =>
                  zRun zCode kModel_line 78 [.ref x0, .int x1, .int x2] [] h3)
              else
                none)
          else
            none
        else
          zRun zCode kModel_line 78 [.ref x0, .int x1, .int x2] [] h1)
    else
      none
  := (zRun_eb [29, 59, 65, 78] 400 65 _ _ _).trans rfl
set_option maxRecDepth 100000 in
set_option maxHeartbeats 4000000 in
theorem zb_Model_line_78 (x0 : Nat) (x1 : Int32) (x2 : Int32) (h : zH) : zRun zCode kModel_line 78 [.ref x0, .int x1, .int x2] [] h =
    if x1 = (zi 5) then
      if (h.2.2 x0).1 = 10 then
        (zCall zCode kModel_variable [.ref x0] h).bind (zRI fun r8 h7 =>
          if (h7.2.2 x0).1 = 10 then
            (zCall zCode kModel_set [.ref x0, .int x2, .int (zi 1), .long r8.toInt64] h7).bind (zRV fun h9 =>
              if (h9.2.2 x0).1 = 10 then
                (zCall zCode kModel_take [.ref x0, .int (zi 59)] h9).bind (zRV fun h10 =>
                  (zVA (zAt h10 x0 10 3)).bind fun a11 =>
                  (zIx h10 a11 101 (zi 0)).bind fun j12 =>
                  (zVL (zAt h10 a11 101 j12)).bind fun v13 =>
                  (zIx h10 a11 101 (zi 0)).bind fun j14 =>
                  (zPut h10 a11 101 j14 (.long (v13 + (zl 1)))).bind fun h15 =>
                  some (.inl (none, h15)))
              else
                none)
          else
            none)
      else
        none
    else
      if (h.2.2 x0).1 = 10 then
        (zCall zCode kModel_take [.ref x0, .int (zi 59)] h).bind (zRV fun h1 =>
          (zVA (zAt h1 x0 10 3)).bind fun a2 =>
          (zIx h1 a2 101 (zi 0)).bind fun j3 =>
          (zVL (zAt h1 a2 101 j3)).bind fun v4 =>
          (zIx h1 a2 101 (zi 0)).bind fun j5 =>
          (zPut h1 a2 101 j5 (.long (v4 + (zl 1)))).bind fun h6 =>
          some (.inl (none, h6)))
      else
        none
  := (zRun_eb [29, 59, 65, 78] 400 78 _ _ _).trans rfl
set_option maxRecDepth 100000 in
set_option maxHeartbeats 4000000 in
theorem zb_Model_wrong_0 (x0 : Nat) (h : zH) : zRun zCode kModel_wrong 0 [.ref x0] [] h =
    (zVI (zAt (zPush h 8 (11, [.int 0, .int 0, .null])) x0 10 8)).bind fun v1 =>
    (zCall zCode kWrong_init [.ref h.1, .int (zi 1), .int v1] (zPush h 8 (11, [.int 0, .int 0, .null]))).bind (zRV fun h2 =>
      some (.inl (some (.ref h.1), h2)))
  := (zRun_eb [] 400 0 _ _ _).trans rfl
set_option maxRecDepth 100000 in
set_option maxHeartbeats 4000000 in
theorem zb_Wrong_init_0 (x0 : Nat) (x1 : Int32) (x2 : Int32) (h : zH) : zRun zCode kWrong_init 0 [.ref x0, .int x1, .int x2] [] h =
    if (h.2.2 x0).1 = 11 then
      zWr (h.2.2 x0).2 (
        (zPut (zSet h x0 (11, [.retAddr 0, .retAddr 0, .retAddr 0])) x0 11 0 (.int x1)).bind fun h1 =>
        (zPut h1 x0 11 1 (.int x2)).bind fun h2 =>
        some (.inl (none, h2)))
    else
      none
  := (zRun_eb [] 400 0 _ _ _).trans rfl
set_option maxRecDepth 100000 in
set_option maxHeartbeats 4000000 in
theorem zb_Model_must_0 (x0 : Nat) (x1 : Int32) (x2 : Int32) (x3 : Int32) (h : zH) : zRun zCode kModel_must 0 [.ref x0, .int x1, .int x2, .int x3] [] h =
    if x1 = 0 then
      (zCall zCode kWrong_init [.ref h.1, .int x2, .int x3] (zPush h 8 (11, [.int 0, .int 0, .null]))).bind (zRV fun h1 =>
        if (h1.2.2 h.1).1 = 11 then
          some (.inr ((h1.2.2 h.1).1, h.1, h1))
        else
          none)
    else
      some (.inl (none, h))
  := (zRun_eb [] 400 0 _ _ _).trans rfl
set_option maxRecDepth 100000 in
set_option maxHeartbeats 4000000 in
theorem zb_Model_many_0 (x0 : Nat) (h : zH) : zRun zCode kModel_many 0 [.ref x0] [] h =
    (zIx h x0 101 (zi 0)).bind fun j1 =>
    (zVL (zAt h x0 101 j1)).bind fun v2 =>
    some (.inl (some (.int v2.toInt32), h))
  := (zRun_eb [] 400 0 _ _ _).trans rfl
set_option maxRecDepth 100000 in
set_option maxHeartbeats 4000000 in
theorem zb_Model_lay_0 (x0 : Nat) (x1 : Int32) (x2 : Int32) (x3 : Int32) (x4 : Int32) (h : zH) : zRun zCode kModel_lay 0 [.ref x0, .int x1, .int x2, .int x3, .int x4, .retAddr 0, .retAddr 0] [] h =
    if (zi 7) < 0 ∨ 65536 < (zi 7).toNatClampNeg then
      none
    else
      (zIx (zPush h (zi 7).toNatClampNeg (101, List.replicate (zi 7).toNatClampNeg (.long 0))) h.1 101 (zi 0)).bind fun j1 =>
      (zPut (zPush h (zi 7).toNatClampNeg (101, List.replicate (zi 7).toNatClampNeg (.long 0))) h.1 101 j1 (.long x2.toInt64)).bind fun h2 =>
      (zIx h2 h.1 101 (zi 1)).bind fun j3 =>
      (zPut h2 h.1 101 j3 (.long x3.toInt64)).bind fun h4 =>
      (zIx h4 h.1 101 (zi 2)).bind fun j5 =>
      (zPut h4 h.1 101 j5 (.long x4.toInt64)).bind fun h6 =>
      (zIx h6 h.1 101 (zi 3)).bind fun j7 =>
      (zPut h6 h.1 101 j7 (.long (zl (-1)))).bind fun h8 =>
      (zIx h8 h.1 101 (zi 4)).bind fun j9 =>
      (zPut h8 h.1 101 j9 (.long (zl (-1)))).bind fun h10 =>
      (zIx h10 h.1 101 (zi 5)).bind fun j11 =>
      (zPut h10 h.1 101 j11 (.long (zl 0))).bind fun h12 =>
      (zIx h12 h.1 101 (zi 6)).bind fun j13 =>
      (zPut h12 h.1 101 j13 (.long (zl 0))).bind fun h14 =>
      (zVA (zAt h14 x0 10 3)).bind fun a15 =>
      (zACopy h14 h.1 (zi 0) a15 ((zi 3) + ((zi 7) * x1)) (zi 7)).bind fun h16 =>
      some (.inl (none, h16))
  := (zRun_eb [] 400 0 _ _ _).trans rfl
set_option maxRecDepth 100000 in
set_option maxHeartbeats 4000000 in
theorem zb_Model_named_0 (x0 : Nat) (x1 : Int32) (h : zH) : zRun zCode kModel_named 0 [.ref x0, .int x1, .retAddr 0, .retAddr 0, .retAddr 0, .retAddr 0] [] h =
    (zVL (zAt h x0 10 9)).bind fun v1 =>
    (zVI (zAt h x0 10 8)).bind fun v2 =>
    if (h.2.2 x0).1 = 10 then
      (zCall zCode kModel_next [.ref x0] h).bind (zRV fun h3 =>
        (zVI (zAt h3 x0 10 7)).bind fun v4 =>
        if v4 = (zi 58) then
          if (h3.2.2 x0).1 = 10 then
            (zCall zCode kModel_number [.ref x0, .int (zi 2), .long v1, .int v2] h3).bind (zRI fun r18 h17 =>
              (zVA (zAt h17 x0 10 12)).bind fun a19 =>
              (zIx h17 a19 102 r18).bind fun j20 =>
              (zVI (zAt h17 a19 102 j20)).bind fun v21 =>
              if v21 = 0 then
                zRun zCode kModel_named 27 [.ref x0, .int x1, .retAddr 0, .retAddr 0, .int v2, .int r18] [.int (zi 1), .ref x0] h17
              else
                zRun zCode kModel_named 27 [.ref x0, .int x1, .retAddr 0, .retAddr 0, .int v2, .int r18] [.int (zi 0), .ref x0] h17)
          else
            none
        else
          (zVI (zAt h3 x0 10 7)).bind fun v5 =>
          if v5 = (zi 61) then
            if (h3.2.2 x0).1 = 10 then
              (zCall zCode kModel_number [.ref x0, .int (zi 1), .long v1, .int v2] h3).bind (zRI fun r7 h6 =>
                if (h6.2.2 x0).1 = 10 then
                  (zCall zCode kModel_lay [.ref x0, .int x1, .int (zi 1), .int r7, .int (zi (-1))] h6).bind (zRV fun h8 =>
                    if (h8.2.2 x0).1 = 10 then
                      (zCall zCode kModel_next [.ref x0] h8).bind (zRV fun h9 =>
                        if (h9.2.2 x0).1 = 10 then
                          (zCall zCode kModel_value [.ref x0, .int x1, .int (zi 0)] h9).bind (zRV fun h10 =>
                            (zVI (zAt h10 x0 10 7)).bind fun v11 =>
                            if v11 < (zi 128) then
                              (zVI (zAt h10 x0 10 7)).bind fun v12 =>
                              if (h10.2.2 1).1 = 12 then
                                (zCall zCode kString_indexOf2 [.ref 1, .int v12] h10).bind (zRI fun r14 h13 =>
                                  zRun zCode kModel_named 77 [.ref x0, .int x1, .retAddr 0, .retAddr 0, .retAddr 0, .retAddr 0] [.int r14] h13)
                              else
                                none
                            else
                              zRun zCode kModel_named 77 [.ref x0, .int x1, .retAddr 0, .retAddr 0, .retAddr 0, .retAddr 0] [.int (zi (-1))] h10)
                        else
                          none)
                    else
                      none)
                else
                  none)
            else
              none
          else
            if (h3.2.2 x0).1 = 10 then
              (zCall zCode kModel_wrong [.ref x0] h3).bind (zRA fun a16 h15 =>
                if (h15.2.2 a16).1 = 11 then
                  some (.inr ((h15.2.2 a16).1, a16, h15))
                else
                  none)
            else
              none)
    else
      none
  := (zRun_eb [27, 77] 400 0 _ _ _).trans rfl
set_option maxRecDepth 100000 in
set_option maxHeartbeats 4000000 in
theorem zb_Model_named_27 (x0 : Nat) (x1 : Int32) (x4 : Int32) (x5 : Int32) (y0 : Int32) (y1 : Nat) (h : zH) : zRun zCode kModel_named 27 [.ref x0, .int x1, .retAddr 0, .retAddr 0, .int x4, .int x5] [.int y0, .ref y1] h =
    if (h.2.2 y1).1 = 10 then
      (zCall zCode kModel_must [.ref y1, .int y0, .int (zi 2), .int x4] h).bind (zRV fun h1 =>
        (zVA (zAt h1 x0 10 12)).bind fun a2 =>
        (zB (zi 1)).bind fun b5 =>
        (zIx h1 a2 102 x5).bind fun j3 =>
        (zPut h1 a2 102 j3 (.int b5)).bind fun h4 =>
        if (h4.2.2 x0).1 = 10 then
          (zCall zCode kModel_lay [.ref x0, .int x1, .int (zi 0), .int x5, .int (zi (-1))] h4).bind (zRV fun h6 =>
            if (h6.2.2 x0).1 = 10 then
              (zCall zCode kModel_next [.ref x0] h6).bind (zRV fun h7 =>
                some (.inl (none, h7)))
            else
              none)
        else
          none)
    else
      none
  := (zRun_eb [27, 77] 400 27 _ _ _).trans rfl
set_option maxRecDepth 100000 in
set_option maxHeartbeats 4000000 in
theorem zb_Model_named_77 (x0 : Nat) (x1 : Int32) (y0 : Int32) (h : zH) : zRun zCode kModel_named 77 [.ref x0, .int x1, .retAddr 0, .retAddr 0, .retAddr 0, .retAddr 0] [.int y0] h =
    if y0 < 0 then
      if (h.2.2 x0).1 = 10 then
        (zCall zCode kModel_take [.ref x0, .int (zi 59)] h).bind (zRV fun h1 =>
          some (.inl (none, h1)))
      else
        none
    else
      if (h.2.2 x0).1 = 10 then
        (zCall zCode kModel_set [.ref x0, .int x1, .int (zi 0), .long (zl 2)] h).bind (zRV fun h2 =>
          if (h2.2.2 x0).1 = 10 then
            (zCall zCode kModel_set [.ref x0, .int x1, .int (zi 2), .long y0.toInt64] h2).bind (zRV fun h3 =>
              if (h3.2.2 x0).1 = 10 then
                (zCall zCode kModel_next [.ref x0] h3).bind (zRV fun h4 =>
                  if (h4.2.2 x0).1 = 10 then
                    (zCall zCode kModel_value [.ref x0, .int x1, .int (zi 1)] h4).bind (zRV fun h5 =>
                      if (h5.2.2 x0).1 = 10 then
                        (zCall zCode kModel_take [.ref x0, .int (zi 59)] h5).bind (zRV fun h6 =>
                          some (.inl (none, h6)))
                      else
                        none)
                  else
                    none)
              else
                none)
          else
            none)
      else
        none
  := (zRun_eb [27, 77] 400 77 _ _ _).trans rfl
set_option maxRecDepth 100000 in
set_option maxHeartbeats 4000000 in
theorem zb_Model_number_0 (x0 : Nat) (x1 : Int32) (x2 : Int64) (x4 : Int32) (h : zH) : zRun zCode kModel_number 0 [.ref x0, .int x1, .long x2, .retAddr 0, .int x4, .retAddr 0, .retAddr 0] [] h =
    if x1 = (zi 1) then
      (zVA (zAt h x0 10 10)).bind fun a2 =>
      zRun zCode kModel_number 8 [.ref x0, .int x1, .long x2, .retAddr 0, .int x4, .retAddr 0, .retAddr 0] [.ref a2] h
    else
      (zVA (zAt h x0 10 11)).bind fun a1 =>
      zRun zCode kModel_number 8 [.ref x0, .int x1, .long x2, .retAddr 0, .int x4, .retAddr 0, .retAddr 0] [.ref a1] h
  := (zRun_eb [8, 33] 400 0 _ _ _).trans rfl
set_option maxRecDepth 100000 in
set_option maxHeartbeats 4000000 in
theorem zb_Model_number_8 (x0 : Nat) (x1 : Int32) (x2 : Int64) (x4 : Int32) (y0 : Nat) (h : zH) : zRun zCode kModel_number 8 [.ref x0, .int x1, .long x2, .retAddr 0, .int x4, .retAddr 0, .retAddr 0] [.ref y0] h =
    (zVA (zAt h x0 10 3)).bind fun a1 =>
    (zIx h a1 101 x1).bind fun j2 =>
    (zVL (zAt h a1 101 j2)).bind fun v3 =>
    (zCall zCode kModel_indexOf [.ref y0, .long v3, .long x2] h).bind (zRI fun r5 h4 =>
      if r5 = (zi (-1)) then
        (zVA (zAt h4 x0 10 3)).bind fun a6 =>
        (zIx h4 a6 101 x1).bind fun j7 =>
        (zVL (zAt h4 a6 101 j7)).bind fun v8 =>
        if (lg_cmp v8 (zl 12)) < 0 then
          zRun zCode kModel_number 33 [.ref x0, .int x1, .long x2, .retAddr 0, .int x4, .ref y0, .retAddr 0] [.int (zi 1), .ref x0] h4
        else
          zRun zCode kModel_number 33 [.ref x0, .int x1, .long x2, .retAddr 0, .int x4, .ref y0, .retAddr 0] [.int (zi 0), .ref x0] h4
      else
        some (.inl (some (.int r5), h4)))
  := (zRun_eb [8, 33] 400 8 _ _ _).trans rfl
set_option maxRecDepth 100000 in
set_option maxHeartbeats 4000000 in
theorem zb_Model_number_33 (x0 : Nat) (x1 : Int32) (x2 : Int64) (x4 : Int32) (x5 : Nat) (y0 : Int32) (y1 : Nat) (h : zH) : zRun zCode kModel_number 33 [.ref x0, .int x1, .long x2, .retAddr 0, .int x4, .ref x5, .retAddr 0] [.int y0, .ref y1] h =
    if (h.2.2 y1).1 = 10 then
      (zCall zCode kModel_must [.ref y1, .int y0, .int (zi 2), .int x4] h).bind (zRV fun h1 =>
        (zVA (zAt h1 x0 10 3)).bind fun a2 =>
        (zIx h1 a2 101 x1).bind fun j3 =>
        (zVL (zAt h1 a2 101 j3)).bind fun v4 =>
        (zIx h1 x5 101 v4.toInt32).bind fun j5 =>
        (zPut h1 x5 101 j5 (.long x2)).bind fun h6 =>
        (zVA (zAt h6 x0 10 3)).bind fun a7 =>
        (zIx h6 a7 101 x1).bind fun j8 =>
        (zVL (zAt h6 a7 101 j8)).bind fun v9 =>
        (zIx h6 a7 101 x1).bind fun j10 =>
        (zPut h6 a7 101 j10 (.long (v9 + (zl 1)))).bind fun h11 =>
        if x1 = (zi 2) then
          (zVA (zAt h11 x0 10 12)).bind fun a12 =>
          (zB (zi 0)).bind fun b15 =>
          (zIx h11 a12 102 v4.toInt32).bind fun j13 =>
          (zPut h11 a12 102 j13 (.int b15)).bind fun h14 =>
          (zVA (zAt h14 x0 10 13)).bind fun a16 =>
          (zIx h14 a16 100 v4.toInt32).bind fun j17 =>
          (zPut h14 a16 100 j17 (.int (zi (-1)))).bind fun h18 =>
          some (.inl (some (.int v4.toInt32), h18))
        else
          some (.inl (some (.int v4.toInt32), h11)))
    else
      none
  := (zRun_eb [8, 33] 400 33 _ _ _).trans rfl
set_option maxRecDepth 100000 in
set_option maxHeartbeats 4000000 in
theorem zb_Model_indexOf_0 (x0 : Nat) (x1 : Int64) (x3 : Int64) (h : zH) : zRun zCode kModel_indexOf 0 [.ref x0, .long x1, .retAddr 0, .long x3, .retAddr 0, .retAddr 0] [] h =
    zRun zCode kModel_indexOf 2 [.ref x0, .long x1, .retAddr 0, .long x3, .retAddr 0, .int (zi 0)] [] h
  := (zRun_eb [2] 400 0 _ _ _).trans rfl
set_option maxRecDepth 100000 in
set_option maxHeartbeats 4000000 in
theorem zb_Model_indexOf_2 (x0 : Nat) (x1 : Int64) (x3 : Int64) (x5 : Int32) (h : zH) : zRun zCode kModel_indexOf 2 [.ref x0, .long x1, .retAddr 0, .long x3, .retAddr 0, .int x5] [] h =
    if (lg_cmp x5.toInt64 x1) < 0 then
      (zIx h x0 101 x5).bind fun j1 =>
      (zVL (zAt h x0 101 j1)).bind fun v2 =>
      if (lg_cmp v2 x3) = 0 then
        some (.inl (some (.int x5), h))
      else
        zRun zCode kModel_indexOf 2 [.ref x0, .long x1, .retAddr 0, .long x3, .retAddr 0, .int (x5 + zi 1)] [] h
    else
      some (.inl (some (.int (zi (-1))), h))
  := (zRun_eb [2] 400 2 _ _ _).trans rfl
set_option maxRecDepth 100000 in
set_option maxHeartbeats 4000000 in
theorem zb_Model_value_0 (x0 : Nat) (x1 : Int32) (x2 : Int32) (h : zH) : zRun zCode kModel_value 0 [.ref x0, .int x1, .int x2, .retAddr 0] [] h =
    (zVI (zAt h x0 10 7)).bind fun v1 =>
    if v1 = (zi 300) then
      (zVL (zAt h x0 10 9)).bind fun v5 =>
      (zVI (zAt h x0 10 8)).bind fun v6 =>
      if (h.2.2 x0).1 = 10 then
        (zCall zCode kModel_number [.ref x0, .int (zi 1), .long v5, .int v6] h).bind (zRI fun r8 h7 =>
          if (h7.2.2 x0).1 = 10 then
            (zCall zCode kModel_set [.ref x0, .int x1, .int ((zi 3) + x2), .long r8.toInt64] h7).bind (zRV fun h9 =>
              if (h9.2.2 x0).1 = 10 then
                (zCall zCode kModel_next [.ref x0] h9).bind (zRV fun h10 =>
                  some (.inl (none, h10)))
              else
                none)
          else
            none)
      else
        none
    else
      (zVI (zAt h x0 10 7)).bind fun v2 =>
      if v2 = (zi 45) then
        if (zi 1) = 0 then
          zRun zCode kModel_value 33 [.ref x0, .int x1, .int x2, .int (zi 1)] [] h
        else
          if (h.2.2 x0).1 = 10 then
            (zCall zCode kModel_next [.ref x0] h).bind (zRV fun h4 =>
              zRun zCode kModel_value 33 [.ref x0, .int x1, .int x2, .int (zi 1)] [] h4)
          else
            none
      else
        if (zi 0) = 0 then
          zRun zCode kModel_value 33 [.ref x0, .int x1, .int x2, .int (zi 0)] [] h
        else
          if (h.2.2 x0).1 = 10 then
            (zCall zCode kModel_next [.ref x0] h).bind (zRV fun h3 =>
              zRun zCode kModel_value 33 [.ref x0, .int x1, .int x2, .int (zi 0)] [] h3)
          else
            none
  := (zRun_eb [33] 400 0 _ _ _).trans rfl
set_option maxRecDepth 100000 in
set_option maxHeartbeats 4000000 in
theorem zb_Model_value_33 (x0 : Nat) (x1 : Int32) (x2 : Int32) (x3 : Int32) (h : zH) : zRun zCode kModel_value 33 [.ref x0, .int x1, .int x2, .int x3] [] h =
    (zVI (zAt h x0 10 7)).bind fun v1 =>
    if v1 = (zi 301) then
      if x3 = 0 then
        (zVL (zAt h x0 10 9)).bind fun v2 =>
        if (h.2.2 x0).1 = 10 then
          (zCall zCode kModel_set [.ref x0, .int x1, .int ((zi 5) + x2), .long v2] h).bind (zRV fun h3 =>
            if (h3.2.2 x0).1 = 10 then
              (zCall zCode kModel_next [.ref x0] h3).bind (zRV fun h4 =>
                some (.inl (none, h4)))
            else
              none)
        else
          none
      else
        (zVL (zAt h x0 10 9)).bind fun v5 =>
        if (h.2.2 x0).1 = 10 then
          (zCall zCode kModel_set [.ref x0, .int x1, .int ((zi 5) + x2), .long (-v5)] h).bind (zRV fun h6 =>
            if (h6.2.2 x0).1 = 10 then
              (zCall zCode kModel_next [.ref x0] h6).bind (zRV fun h7 =>
                some (.inl (none, h7)))
            else
              none)
        else
          none
    else
      if (h.2.2 x0).1 = 10 then
        (zCall zCode kModel_wrong [.ref x0] h).bind (zRA fun a9 h8 =>
          if (h8.2.2 a9).1 = 11 then
            some (.inr ((h8.2.2 a9).1, a9, h8))
          else
            none)
      else
        none
  := (zRun_eb [33] 400 33 _ _ _).trans rfl
set_option maxRecDepth 100000 in
set_option maxHeartbeats 4000000 in
theorem zb_Model_set_0 (x0 : Nat) (x1 : Int32) (x2 : Int32) (x3 : Int64) (h : zH) : zRun zCode kModel_set 0 [.ref x0, .int x1, .int x2, .long x3, .retAddr 0] [] h =
    (zVA (zAt h x0 10 3)).bind fun a1 =>
    (zIx h a1 101 (((zi 3) + ((zi 7) * x1)) + x2)).bind fun j2 =>
    (zPut h a1 101 j2 (.long x3)).bind fun h3 =>
    some (.inl (none, h3))
  := (zRun_eb [] 400 0 _ _ _).trans rfl
set_option maxRecDepth 100000 in
set_option maxHeartbeats 4000000 in
theorem zb_Model_take_0 (x0 : Nat) (x1 : Int32) (h : zH) : zRun zCode kModel_take 0 [.ref x0, .int x1] [] h =
    (zVI (zAt h x0 10 7)).bind fun v1 =>
    if v1 = x1 then
      if (h.2.2 x0).1 = 10 then
        (zCall zCode kModel_next [.ref x0] h).bind (zRV fun h2 =>
          some (.inl (none, h2)))
      else
        none
    else
      if (h.2.2 x0).1 = 10 then
        (zCall zCode kModel_wrong [.ref x0] h).bind (zRA fun a4 h3 =>
          if (h3.2.2 a4).1 = 11 then
            some (.inr ((h3.2.2 a4).1, a4, h3))
          else
            none)
      else
        none
  := (zRun_eb [] 400 0 _ _ _).trans rfl
set_option maxRecDepth 100000 in
set_option maxHeartbeats 4000000 in
theorem zb_Model_jump_0 (x0 : Nat) (x1 : Int32) (h : zH) : zRun zCode kModel_jump 0 [.ref x0, .int x1, .retAddr 0] [] h =
    (zVI (zAt h x0 10 7)).bind fun v1 =>
    if v1 = (zi 300) then
      (zVL (zAt h x0 10 9)).bind fun v2 =>
      (zVI (zAt h x0 10 8)).bind fun v3 =>
      if (h.2.2 x0).1 = 10 then
        (zCall zCode kModel_number [.ref x0, .int (zi 2), .long v2, .int v3] h).bind (zRI fun r5 h4 =>
          (zVA (zAt h4 x0 10 13)).bind fun a6 =>
          (zIx h4 a6 100 r5).bind fun j7 =>
          (zVI (zAt h4 a6 100 j7)).bind fun v8 =>
          if v8 = (zi (-1)) then
            (zVA (zAt h4 x0 10 13)).bind fun a11 =>
            (zVI (zAt h4 x0 10 8)).bind fun v12 =>
            (zIx h4 a11 100 r5).bind fun j13 =>
            (zPut h4 a11 100 j13 (.int v12)).bind fun h14 =>
            if (h14.2.2 x0).1 = 10 then
              (zCall zCode kModel_set [.ref x0, .int x1, .int (zi 1), .long r5.toInt64] h14).bind (zRV fun h15 =>
                if (h15.2.2 x0).1 = 10 then
                  (zCall zCode kModel_next [.ref x0] h15).bind (zRV fun h16 =>
                    some (.inl (none, h16)))
                else
                  none)
            else
              none
          else
            if (h4.2.2 x0).1 = 10 then
              (zCall zCode kModel_set [.ref x0, .int x1, .int (zi 1), .long r5.toInt64] h4).bind (zRV fun h9 =>
                if (h9.2.2 x0).1 = 10 then
                  (zCall zCode kModel_next [.ref x0] h9).bind (zRV fun h10 =>
                    some (.inl (none, h10)))
                else
                  none)
            else
              none)
      else
        none
    else
      if (h.2.2 x0).1 = 10 then
        (zCall zCode kModel_wrong [.ref x0] h).bind (zRA fun a18 h17 =>
          if (h17.2.2 a18).1 = 11 then
            some (.inr ((h17.2.2 a18).1, a18, h17))
          else
            none)
      else
        none
  := (zRun_eb [] 400 0 _ _ _).trans rfl
set_option maxRecDepth 100000 in
set_option maxHeartbeats 4000000 in
theorem zb_Model_variable_0 (x0 : Nat) (h : zH) : zRun zCode kModel_variable 0 [.ref x0, .retAddr 0] [] h =
    (zVI (zAt h x0 10 7)).bind fun v1 =>
    if v1 = (zi 300) then
      (zVL (zAt h x0 10 9)).bind fun v2 =>
      (zVI (zAt h x0 10 8)).bind fun v3 =>
      if (h.2.2 x0).1 = 10 then
        (zCall zCode kModel_number [.ref x0, .int (zi 1), .long v2, .int v3] h).bind (zRI fun r5 h4 =>
          if (h4.2.2 x0).1 = 10 then
            (zCall zCode kModel_next [.ref x0] h4).bind (zRV fun h6 =>
              some (.inl (some (.int r5), h6)))
          else
            none)
      else
        none
    else
      if (h.2.2 x0).1 = 10 then
        (zCall zCode kModel_wrong [.ref x0] h).bind (zRA fun a8 h7 =>
          if (h7.2.2 a8).1 = 11 then
            some (.inr ((h7.2.2 a8).1, a8, h7))
          else
            none)
      else
        none
  := (zRun_eb [] 400 0 _ _ _).trans rfl
set_option maxRecDepth 100000 in
set_option maxHeartbeats 4000000 in
theorem zb_Model_errorAt_0 (x0 : Nat) (h : zH) : zRun zCode kModel_errorAt 0 [.ref x0] [] h =
    (zPut h x0 10 0 (.int (zi 0))).bind fun h1 =>
    (zVI (zAt h1 x0 10 14)).bind fun v2 =>
    some (.inl (some (.int v2), h1))
  := (zRun_eb [] 400 0 _ _ _).trans rfl
set_option maxRecDepth 100000 in
set_option maxHeartbeats 4000000 in
theorem zb_Model_programs_0 (x0 : Nat) (h : zH) : zRun zCode kModel_programs 0 [.ref x0] [] h =
    (zPut h x0 10 0 (.int (zi 0))).bind fun h1 =>
    (zVI (zAt h1 x0 10 1)).bind fun v2 =>
    some (.inl (some (.int v2), h1))
  := (zRun_eb [] 400 0 _ _ _).trans rfl
set_option maxRecDepth 100000 in
set_option maxHeartbeats 4000000 in
theorem zb_Model_count_0 (x0 : Nat) (x1 : Int32) (x2 : Int32) (h : zH) : zRun zCode kModel_count 0 [.ref x0, .int x1, .int x2] [] h =
    (zPut h x0 10 0 (.int (zi 0))).bind fun h1 =>
    if (h1.2.2 x0).1 = 10 then
      (zCall zCode kModel_isProgram [.ref x0, .int x1] h1).bind (zRI fun r3 h2 =>
        if r3 = 0 then
          if (h2.2.2 x0).1 = 10 then
            (zCall zCode kModel_fail [.ref x0, .int (zi 1)] h2).bind (zRI fun r5 h4 =>
              some (.inl (some (.int r5), h4)))
          else
            none
        else
          (zCall zCode kModel_isIn [.long x2.toInt64, .long (zl 0), .long (zl 5)] h2).bind (zRI fun r7 h6 =>
            if r7 = 0 then
              if (h6.2.2 x0).1 = 10 then
                (zCall zCode kModel_fail [.ref x0, .int (zi 1)] h6).bind (zRI fun r15 h14 =>
                  some (.inl (some (.int r15), h14)))
              else
                none
            else
              (zVA (zAt h6 x0 10 2)).bind fun a8 =>
              (zIx h6 a8 111 x1).bind fun j9 =>
              (zVA (zAt h6 a8 111 j9)).bind fun a10 =>
              (zPut h6 x0 10 3 (.ref a10)).bind fun h11 =>
              if (h11.2.2 x0).1 = 10 then
                (zCall zCode kModel_counted [.ref x0, .int x2] h11).bind (zRI fun r13 h12 =>
                  some (.inl (some (.int r13), h12)))
              else
                none))
    else
      none
  := (zRun_eb [] 400 0 _ _ _).trans rfl
set_option maxRecDepth 100000 in
set_option maxHeartbeats 4000000 in
theorem zb_Model_isProgram_0 (x0 : Nat) (x1 : Int32) (h : zH) : zRun zCode kModel_isProgram 0 [.ref x0, .int x1] [] h =
    (zVI (zAt h x0 10 1)).bind fun v1 =>
    (zCall zCode kModel_isIn [.long x1.toInt64, .long (zl 0), .long ((v1 - (zi 1)).toInt64)] h).bind (zRI fun r3 h2 =>
      (zB r3).bind fun b4 =>
      some (.inl (some (.int b4), h2)))
  := (zRun_eb [] 400 0 _ _ _).trans rfl
set_option maxRecDepth 100000 in
set_option maxHeartbeats 4000000 in
theorem zb_Model_counted_0 (x0 : Nat) (x1 : Int32) (h : zH) : zRun zCode kModel_counted 0 [.ref x0, .int x1, .retAddr 0, .retAddr 0, .retAddr 0] [] h =
    (zVA (zAt h x0 10 3)).bind fun a1 =>
    (zCall zCode kModel_many [.ref a1] h).bind (zRI fun r3 h2 =>
      if x1 < (zi 3) then
        (zVA (zAt h2 x0 10 3)).bind fun a5 =>
        (zIx h2 a5 101 x1).bind fun j6 =>
        (zVL (zAt h2 a5 101 j6)).bind fun v7 =>
        some (.inl (some (.int v7.toInt32), h2))
      else
        if x1 = (zi 5) then
          if (h2.2.2 x0).1 = 10 then
            (zCall zCode kModel_findReach [.ref x0] h2).bind (zRV fun h4 =>
              zRun zCode kModel_counted 22 [.ref x0, .int x1, .int r3, .int (zi 0), .int (zi 0)] [] h4)
          else
            none
        else
          zRun zCode kModel_counted 22 [.ref x0, .int x1, .int r3, .int (zi 0), .int (zi 0)] [] h2)
  := (zRun_eb [22] 400 0 _ _ _).trans rfl
set_option maxRecDepth 100000 in
set_option maxHeartbeats 4000000 in
theorem zb_Model_counted_22 (x0 : Nat) (x1 : Int32) (x2 : Int32) (x3 : Int32) (x4 : Int32) (h : zH) : zRun zCode kModel_counted 22 [.ref x0, .int x1, .int x2, .int x3, .int x4] [] h =
    if x4 < x2 then
      if x1 = (zi 3) then
        if (h.2.2 x0).1 = 10 then
          (zCall zCode kModel_beginsBlock [.ref x0, .int x4] h).bind (zRI fun r7 h6 =>
            if r7 = 0 then
              zRun zCode kModel_counted 22 [.ref x0, .int x1, .int x2, .int (x3 + (zi 0)), .int (x4 + zi 1)] [] h6
            else
              zRun zCode kModel_counted 22 [.ref x0, .int x1, .int x2, .int (x3 + (zi 1)), .int (x4 + zi 1)] [] h6)
        else
          none
      else
        if x1 = (zi 4) then
          if (h.2.2 x0).1 = 10 then
            (zCall zCode kModel_loopEnd [.ref x0, .int x4] h).bind (zRI fun r5 h4 =>
              if r5 = (zi (-1)) then
                zRun zCode kModel_counted 22 [.ref x0, .int x1, .int x2, .int (x3 + (zi 0)), .int (x4 + zi 1)] [] h4
              else
                zRun zCode kModel_counted 22 [.ref x0, .int x1, .int x2, .int (x3 + (zi 1)), .int (x4 + zi 1)] [] h4)
          else
            none
        else
          (zVA (zAt h x0 10 16)).bind fun a1 =>
          (zIx h a1 102 x4).bind fun j2 =>
          (zVI (zAt h a1 102 j2)).bind fun v3 =>
          if v3 = 0 then
            zRun zCode kModel_counted 22 [.ref x0, .int x1, .int x2, .int (x3 + (zi 1)), .int (x4 + zi 1)] [] h
          else
            zRun zCode kModel_counted 22 [.ref x0, .int x1, .int x2, .int (x3 + (zi 0)), .int (x4 + zi 1)] [] h
    else
      some (.inl (some (.int x3), h))
  := (zRun_eb [22] 400 22 _ _ _).trans rfl
set_option maxRecDepth 100000 in
set_option maxHeartbeats 4000000 in
theorem zb_Model_findReach_0 (x0 : Nat) (h : zH) : zRun zCode kModel_findReach 0 [.ref x0, .retAddr 0, .retAddr 0, .retAddr 0, .retAddr 0, .retAddr 0] [] h =
    (zVA (zAt h x0 10 3)).bind fun a1 =>
    (zCall zCode kModel_many [.ref a1] h).bind (zRI fun r3 h2 =>
      zRun zCode kModel_findReach 6 [.ref x0, .int r3, .int (zi 0), .retAddr 0, .retAddr 0, .retAddr 0] [] h2)
  := (zRun_eb [6, 22, 28, 59, 72, 85] 400 0 _ _ _).trans rfl
set_option maxRecDepth 100000 in
set_option maxHeartbeats 4000000 in
theorem zb_Model_findReach_6 (x0 : Nat) (x1 : Int32) (x2 : Int32) (h : zH) : zRun zCode kModel_findReach 6 [.ref x0, .int x1, .int x2, .retAddr 0, .retAddr 0, .retAddr 0] [] h =
    if x2 < x1 then
      (zVA (zAt h x0 10 16)).bind fun a1 =>
      if x2 = 0 then
        (zB (zi 1)).bind fun b7 =>
        (zIx h a1 102 x2).bind fun j5 =>
        (zPut h a1 102 j5 (.int b7)).bind fun h6 =>
        zRun zCode kModel_findReach 6 [.ref x0, .int x1, .int (x2 + zi 1), .retAddr 0, .retAddr 0, .retAddr 0] [] h6
      else
        (zB (zi 0)).bind fun b4 =>
        (zIx h a1 102 x2).bind fun j2 =>
        (zPut h a1 102 j2 (.int b4)).bind fun h3 =>
        zRun zCode kModel_findReach 6 [.ref x0, .int x1, .int (x2 + zi 1), .retAddr 0, .retAddr 0, .retAddr 0] [] h3
    else
      zRun zCode kModel_findReach 22 [.ref x0, .int x1, .int (zi 1), .retAddr 0, .retAddr 0, .retAddr 0] [] h
  := (zRun_eb [6, 22, 28, 59, 72, 85] 400 6 _ _ _).trans rfl
set_option maxRecDepth 100000 in
set_option maxHeartbeats 4000000 in
theorem zb_Model_findReach_22 (x0 : Nat) (x1 : Int32) (x2 : Int32) (h : zH) : zRun zCode kModel_findReach 22 [.ref x0, .int x1, .int x2, .retAddr 0, .retAddr 0, .retAddr 0] [] h =
    if x2 = 0 then
      some (.inl (none, h))
    else
      zRun zCode kModel_findReach 28 [.ref x0, .int x1, .int (zi 0), .int (zi 0), .retAddr 0, .retAddr 0] [] h
  := (zRun_eb [6, 22, 28, 59, 72, 85] 400 22 _ _ _).trans rfl
set_option maxRecDepth 100000 in
set_option maxHeartbeats 4000000 in
theorem zb_Model_findReach_28 (x0 : Nat) (x1 : Int32) (x2 : Int32) (x3 : Int32) (h : zH) : zRun zCode kModel_findReach 28 [.ref x0, .int x1, .int x2, .int x3, .retAddr 0, .retAddr 0] [] h =
    if x3 < x1 then
      (zVA (zAt h x0 10 16)).bind fun a1 =>
      (zIx h a1 102 x3).bind fun j2 =>
      (zVI (zAt h a1 102 j2)).bind fun v3 =>
      if v3 = 0 then
        zRun zCode kModel_findReach 28 [.ref x0, .int x1, .int x2, .int (x3 + zi 1), .retAddr 0, .retAddr 0] [] h
      else
        if (x3 + (zi 1)) < x1 then
          if (h.2.2 x0).1 = 10 then
            (zCall zCode kModel_follows [.ref x0, .int x3, .int (x3 + (zi 1))] h).bind (zRI fun r5 h4 =>
              if r5 = 0 then
                zRun zCode kModel_findReach 59 [.ref x0, .int x1, .int x2, .int x3, .retAddr 0, .retAddr 0] [.int (zi 0)] h4
              else
                (zVA (zAt h4 x0 10 16)).bind fun a6 =>
                (zIx h4 a6 102 (x3 + (zi 1))).bind fun j7 =>
                (zVI (zAt h4 a6 102 j7)).bind fun v8 =>
                if v8 = 0 then
                  zRun zCode kModel_findReach 59 [.ref x0, .int x1, .int x2, .int x3, .retAddr 0, .retAddr 0] [.int (zi 1)] h4
                else
                  zRun zCode kModel_findReach 59 [.ref x0, .int x1, .int x2, .int x3, .retAddr 0, .retAddr 0] [.int (zi 0)] h4)
          else
            none
        else
          zRun zCode kModel_findReach 59 [.ref x0, .int x1, .int x2, .int x3, .retAddr 0, .retAddr 0] [.int (zi 0)] h
    else
      zRun zCode kModel_findReach 22 [.ref x0, .int x1, .int x2, .retAddr 0, .retAddr 0, .retAddr 0] [] h
  := (zRun_eb [6, 22, 28, 59, 72, 85] 400 28 _ _ _).trans rfl
set_option maxRecDepth 100000 in
set_option maxHeartbeats 4000000 in
theorem zb_Model_findReach_59 (x0 : Nat) (x1 : Int32) (x2 : Int32) (x3 : Int32) (y0 : Int32) (h : zH) : zRun zCode kModel_findReach 59 [.ref x0, .int x1, .int x2, .int x3, .retAddr 0, .retAddr 0] [.int y0] h =
    if (h.2.2 x0).1 = 10 then
      (zCall zCode kModel_jumps [.ref x0, .int x3] h).bind (zRI fun r2 h1 =>
        if r2 = 0 then
          zRun zCode kModel_findReach 72 [.ref x0, .int x1, .int x2, .int x3, .int y0, .retAddr 0] [.int x3] h1
        else
          if (h1.2.2 x0).1 = 10 then
            (zCall zCode kModel_get [.ref x0, .int x3, .int (zi 1)] h1).bind (zRI fun r4 h3 =>
              if (h3.2.2 x0).1 = 10 then
                (zCall zCode kModel_placeOf [.ref x0, .int r4] h3).bind (zRI fun r6 h5 =>
                  zRun zCode kModel_findReach 72 [.ref x0, .int x1, .int x2, .int x3, .int y0, .retAddr 0] [.int r6] h5)
              else
                none)
          else
            none)
    else
      none
  := (zRun_eb [6, 22, 28, 59, 72, 85] 400 59 _ _ _).trans rfl
set_option maxRecDepth 100000 in
set_option maxHeartbeats 4000000 in
theorem zb_Model_findReach_72 (x0 : Nat) (x1 : Int32) (x2 : Int32) (x3 : Int32) (x4 : Int32) (y0 : Int32) (h : zH) : zRun zCode kModel_findReach 72 [.ref x0, .int x1, .int x2, .int x3, .int x4, .retAddr 0] [.int y0] h =
    if x2 = 0 then
      if x4 = 0 then
        (zVA (zAt h x0 10 16)).bind fun a1 =>
        (zIx h a1 102 y0).bind fun j2 =>
        (zVI (zAt h a1 102 j2)).bind fun v3 =>
        if v3 = 0 then
          zRun zCode kModel_findReach 85 [.ref x0, .int x1, .retAddr 0, .int x3, .int x4, .int y0] [.int (zi 1)] h
        else
          zRun zCode kModel_findReach 85 [.ref x0, .int x1, .retAddr 0, .int x3, .int x4, .int y0] [.int (zi 0)] h
      else
        zRun zCode kModel_findReach 85 [.ref x0, .int x1, .retAddr 0, .int x3, .int x4, .int y0] [.int (zi 1)] h
    else
      zRun zCode kModel_findReach 85 [.ref x0, .int x1, .retAddr 0, .int x3, .int x4, .int y0] [.int (zi 1)] h
  := (zRun_eb [6, 22, 28, 59, 72, 85] 400 72 _ _ _).trans rfl
set_option maxRecDepth 100000 in
set_option maxHeartbeats 4000000 in
theorem zb_Model_findReach_85 (x0 : Nat) (x1 : Int32) (x3 : Int32) (x4 : Int32) (x5 : Int32) (y0 : Int32) (h : zH) : zRun zCode kModel_findReach 85 [.ref x0, .int x1, .retAddr 0, .int x3, .int x4, .int x5] [.int y0] h =
    if x4 = 0 then
      (zVA (zAt h x0 10 16)).bind fun a1 =>
      (zB (zi 1)).bind fun b4 =>
      (zIx h a1 102 x5).bind fun j2 =>
      (zPut h a1 102 j2 (.int b4)).bind fun h3 =>
      zRun zCode kModel_findReach 28 [.ref x0, .int x1, .int y0, .int (x3 + zi 1), .retAddr 0, .retAddr 0] [] h3
    else
      (zVA (zAt h x0 10 16)).bind fun a5 =>
      (zB (zi 1)).bind fun b8 =>
      (zIx h a5 102 (x3 + (zi 1))).bind fun j6 =>
      (zPut h a5 102 j6 (.int b8)).bind fun h7 =>
      (zVA (zAt h7 x0 10 16)).bind fun a9 =>
      (zB (zi 1)).bind fun b12 =>
      (zIx h7 a9 102 x5).bind fun j10 =>
      (zPut h7 a9 102 j10 (.int b12)).bind fun h11 =>
      zRun zCode kModel_findReach 28 [.ref x0, .int x1, .int y0, .int (x3 + zi 1), .retAddr 0, .retAddr 0] [] h11
  := (zRun_eb [6, 22, 28, 59, 72, 85] 400 85 _ _ _).trans rfl
set_option maxRecDepth 100000 in
set_option maxHeartbeats 4000000 in
theorem zb_Model_follows_0 (x0 : Nat) (x1 : Int32) (x2 : Int32) (h : zH) : zRun zCode kModel_follows 0 [.ref x0, .int x1, .int x2, .retAddr 0] [] h =
    if (h.2.2 x0).1 = 10 then
      (zCall zCode kModel_get [.ref x0, .int x1, .int (zi 0)] h).bind (zRI fun r2 h1 =>
        if r2 = (zi 3) then
          if (zi 0) = 0 then
            zRun zCode kModel_follows 23 [.ref x0, .int x1, .int x2, .retAddr 0] [] h1
          else
            if x2 = (x1 + (zi 1)) then
              (zB (zi 1)).bind fun b3 =>
              some (.inl (some (.int b3), h1))
            else
              zRun zCode kModel_follows 23 [.ref x0, .int x1, .int x2, .retAddr 0] [] h1
        else
          if (h1.2.2 x0).1 = 10 then
            (zCall zCode kModel_get [.ref x0, .int x1, .int (zi 0)] h1).bind (zRI fun r5 h4 =>
              if r5 = (zi 7) then
                if (zi 0) = 0 then
                  zRun zCode kModel_follows 23 [.ref x0, .int x1, .int x2, .retAddr 0] [] h4
                else
                  if x2 = (x1 + (zi 1)) then
                    (zB (zi 1)).bind fun b6 =>
                    some (.inl (some (.int b6), h4))
                  else
                    zRun zCode kModel_follows 23 [.ref x0, .int x1, .int x2, .retAddr 0] [] h4
              else
                if (zi 1) = 0 then
                  zRun zCode kModel_follows 23 [.ref x0, .int x1, .int x2, .retAddr 0] [] h4
                else
                  if x2 = (x1 + (zi 1)) then
                    (zB (zi 1)).bind fun b7 =>
                    some (.inl (some (.int b7), h4))
                  else
                    zRun zCode kModel_follows 23 [.ref x0, .int x1, .int x2, .retAddr 0] [] h4)
          else
            none)
    else
      none
  := (zRun_eb [23] 400 0 _ _ _).trans rfl
set_option maxRecDepth 100000 in
set_option maxHeartbeats 4000000 in
theorem zb_Model_follows_23 (x0 : Nat) (x1 : Int32) (x2 : Int32) (h : zH) : zRun zCode kModel_follows 23 [.ref x0, .int x1, .int x2, .retAddr 0] [] h =
    if (h.2.2 x0).1 = 10 then
      (zCall zCode kModel_jumps [.ref x0, .int x1] h).bind (zRI fun r2 h1 =>
        if r2 = 0 then
          (zB (zi 0)).bind fun b3 =>
          some (.inl (some (.int b3), h1))
        else
          if (h1.2.2 x0).1 = 10 then
            (zCall zCode kModel_get [.ref x0, .int x2, .int (zi 0)] h1).bind (zRI fun r5 h4 =>
              if r5 = 0 then
                if (h4.2.2 x0).1 = 10 then
                  (zCall zCode kModel_get [.ref x0, .int x2, .int (zi 1)] h4).bind (zRI fun r8 h7 =>
                    if (h7.2.2 x0).1 = 10 then
                      (zCall zCode kModel_get [.ref x0, .int x1, .int (zi 1)] h7).bind (zRI fun r10 h9 =>
                        if r8 = r10 then
                          (zB (zi 1)).bind fun b12 =>
                          some (.inl (some (.int b12), h9))
                        else
                          (zB (zi 0)).bind fun b11 =>
                          some (.inl (some (.int b11), h9)))
                    else
                      none)
                else
                  none
              else
                (zB (zi 0)).bind fun b6 =>
                some (.inl (some (.int b6), h4)))
          else
            none)
    else
      none
  := (zRun_eb [23] 400 23 _ _ _).trans rfl
set_option maxRecDepth 100000 in
set_option maxHeartbeats 4000000 in
theorem zb_Model_get_0 (x0 : Nat) (x1 : Int32) (x2 : Int32) (h : zH) : zRun zCode kModel_get 0 [.ref x0, .int x1, .int x2] [] h =
    (zVA (zAt h x0 10 3)).bind fun a1 =>
    (zCall zCode kModel_get2 [.ref a1, .int x1, .int x2] h).bind (zRI fun r3 h2 =>
      some (.inl (some (.int r3), h2)))
  := (zRun_eb [] 400 0 _ _ _).trans rfl
set_option maxRecDepth 100000 in
set_option maxHeartbeats 4000000 in
theorem zb_Model_get2_0 (x0 : Nat) (x1 : Int32) (x2 : Int32) (h : zH) : zRun zCode kModel_get2 0 [.ref x0, .int x1, .int x2] [] h =
    (zIx h x0 101 (((zi 3) + ((zi 7) * x1)) + x2)).bind fun j1 =>
    (zVL (zAt h x0 101 j1)).bind fun v2 =>
    some (.inl (some (.int v2.toInt32), h))
  := (zRun_eb [] 400 0 _ _ _).trans rfl
set_option maxRecDepth 100000 in
set_option maxHeartbeats 4000000 in
theorem zb_Model_jumps_0 (x0 : Nat) (x1 : Int32) (h : zH) : zRun zCode kModel_jumps 0 [.ref x0, .int x1] [] h =
    if (h.2.2 x0).1 = 10 then
      (zCall zCode kModel_get [.ref x0, .int x1, .int (zi 0)] h).bind (zRI fun r2 h1 =>
        if r2 = (zi 3) then
          (zB (zi 1)).bind fun b3 =>
          some (.inl (some (.int b3), h1))
        else
          if (h1.2.2 x0).1 = 10 then
            (zCall zCode kModel_get [.ref x0, .int x1, .int (zi 0)] h1).bind (zRI fun r5 h4 =>
              if r5 = (zi 4) then
                (zB (zi 1)).bind fun b7 =>
                some (.inl (some (.int b7), h4))
              else
                (zB (zi 0)).bind fun b6 =>
                some (.inl (some (.int b6), h4)))
          else
            none)
    else
      none
  := (zRun_eb [] 400 0 _ _ _).trans rfl
set_option maxRecDepth 100000 in
set_option maxHeartbeats 4000000 in
theorem zb_Model_placeOf_0 (x0 : Nat) (x1 : Int32) (h : zH) : zRun zCode kModel_placeOf 0 [.ref x0, .int x1, .retAddr 0] [] h =
    zRun zCode kModel_placeOf 2 [.ref x0, .int x1, .int (zi 0)] [] h
  := (zRun_eb [2] 400 0 _ _ _).trans rfl
set_option maxRecDepth 100000 in
set_option maxHeartbeats 4000000 in
theorem zb_Model_placeOf_2 (x0 : Nat) (x1 : Int32) (x2 : Int32) (h : zH) : zRun zCode kModel_placeOf 2 [.ref x0, .int x1, .int x2] [] h =
    if (h.2.2 x0).1 = 10 then
      (zCall zCode kModel_get [.ref x0, .int x2, .int (zi 0)] h).bind (zRI fun r2 h1 =>
        if r2 = 0 then
          if (h1.2.2 x0).1 = 10 then
            (zCall zCode kModel_get [.ref x0, .int x2, .int (zi 1)] h1).bind (zRI fun r4 h3 =>
              if r4 = x1 then
                some (.inl (some (.int x2), h3))
              else
                zRun zCode kModel_placeOf 2 [.ref x0, .int x1, .int (x2 + zi 1)] [] h3)
          else
            none
        else
          zRun zCode kModel_placeOf 2 [.ref x0, .int x1, .int (x2 + zi 1)] [] h1)
    else
      none
  := (zRun_eb [2] 400 2 _ _ _).trans rfl
set_option maxRecDepth 100000 in
set_option maxHeartbeats 4000000 in
theorem zb_Model_beginsBlock_0 (x0 : Nat) (x1 : Int32) (h : zH) : zRun zCode kModel_beginsBlock 0 [.ref x0, .int x1] [] h =
    if x1 = 0 then
      (zB (zi 1)).bind fun b1 =>
      some (.inl (some (.int b1), h))
    else
      if (h.2.2 x0).1 = 10 then
        (zCall zCode kModel_get [.ref x0, .int x1, .int (zi 0)] h).bind (zRI fun r3 h2 =>
          if r3 = 0 then
            (zB (zi 1)).bind fun b4 =>
            some (.inl (some (.int b4), h2))
          else
            if (h2.2.2 x0).1 = 10 then
              (zCall zCode kModel_jumps [.ref x0, .int (x1 - (zi 1))] h2).bind (zRI fun r6 h5 =>
                if r6 = 0 then
                  if (h5.2.2 x0).1 = 10 then
                    (zCall zCode kModel_get [.ref x0, .int (x1 - (zi 1)), .int (zi 0)] h5).bind (zRI fun r9 h8 =>
                      if r9 = (zi 7) then
                        (zB (zi 1)).bind fun b11 =>
                        some (.inl (some (.int b11), h8))
                      else
                        (zB (zi 0)).bind fun b10 =>
                        some (.inl (some (.int b10), h8)))
                  else
                    none
                else
                  (zB (zi 1)).bind fun b7 =>
                  some (.inl (some (.int b7), h5)))
            else
              none)
      else
        none
  := (zRun_eb [] 400 0 _ _ _).trans rfl
set_option maxRecDepth 100000 in
set_option maxHeartbeats 4000000 in
theorem zb_Model_loopEnd_0 (x0 : Nat) (x1 : Int32) (h : zH) : zRun zCode kModel_loopEnd 0 [.ref x0, .int x1, .retAddr 0, .retAddr 0, .retAddr 0, .retAddr 0] [] h =
    if (h.2.2 x0).1 = 10 then
      (zCall zCode kModel_get [.ref x0, .int x1, .int (zi 0)] h).bind (zRI fun r2 h1 =>
        if r2 = 0 then
          if (h1.2.2 x0).1 = 10 then
            (zCall zCode kModel_get [.ref x0, .int x1, .int (zi 1)] h1).bind (zRI fun r4 h3 =>
              if (h3.2.2 x0).1 = 10 then
                (zCall zCode kModel_leadsTo [.ref x0, .int r4] h3).bind (zRI fun r6 h5 =>
                  if r6 = (zi 1) then
                    (zVA (zAt h5 x0 10 3)).bind fun a7 =>
                    (zCall zCode kModel_many [.ref a7] h5).bind (zRI fun r9 h8 =>
                      zRun zCode kModel_loopEnd 23 [.ref x0, .int x1, .int r9, .int (x1 + (zi 1)), .retAddr 0, .retAddr 0] [] h8)
                  else
                    some (.inl (some (.int (zi (-1))), h5)))
              else
                none)
          else
            none
        else
          some (.inl (some (.int (zi (-1))), h1)))
    else
      none
  := (zRun_eb [23, 48, 62] 400 0 _ _ _).trans rfl
set_option maxRecDepth 100000 in
set_option maxHeartbeats 4000000 in
theorem zb_Model_loopEnd_23 (x0 : Nat) (x1 : Int32) (x2 : Int32) (x3 : Int32) (h : zH) : zRun zCode kModel_loopEnd 23 [.ref x0, .int x1, .int x2, .int x3, .retAddr 0, .retAddr 0] [] h =
    if x3 < x2 then
      if (h.2.2 x0).1 = 10 then
        (zCall zCode kModel_jumps [.ref x0, .int x3] h).bind (zRI fun r2 h1 =>
          if r2 = 0 then
            zRun zCode kModel_loopEnd 23 [.ref x0, .int x1, .int x2, .int (x3 + zi 1), .retAddr 0, .retAddr 0] [] h1
          else
            if (h1.2.2 x0).1 = 10 then
              (zCall zCode kModel_get [.ref x0, .int x3, .int (zi 1)] h1).bind (zRI fun r4 h3 =>
                if (h3.2.2 x0).1 = 10 then
                  (zCall zCode kModel_get [.ref x0, .int x1, .int (zi 1)] h3).bind (zRI fun r6 h5 =>
                    if r4 = r6 then
                      if x3 < x2 then
                        zRun zCode kModel_loopEnd 48 [.ref x0, .int x1, .int x2, .int x3, .int (zi 0), .retAddr 0] [] h5
                      else
                        some (.inl (some (.int (zi (-1))), h5))
                    else
                      zRun zCode kModel_loopEnd 23 [.ref x0, .int x1, .int x2, .int (x3 + zi 1), .retAddr 0, .retAddr 0] [] h5)
                else
                  none)
            else
              none)
      else
        none
    else
      if x3 < x2 then
        zRun zCode kModel_loopEnd 48 [.ref x0, .int x1, .int x2, .int x3, .int (zi 0), .retAddr 0] [] h
      else
        some (.inl (some (.int (zi (-1))), h))
  := (zRun_eb [23, 48, 62] 400 23 _ _ _).trans rfl
set_option maxRecDepth 100000 in
set_option maxHeartbeats 4000000 in
theorem zb_Model_loopEnd_48 (x0 : Nat) (x1 : Int32) (x2 : Int32) (x3 : Int32) (x4 : Int32) (h : zH) : zRun zCode kModel_loopEnd 48 [.ref x0, .int x1, .int x2, .int x3, .int x4, .retAddr 0] [] h =
    if x4 < x2 then
      if (h.2.2 x0).1 = 10 then
        (zCall zCode kModel_jumps [.ref x0, .int x4] h).bind (zRI fun r2 h1 =>
          if r2 = 0 then
            zRun zCode kModel_loopEnd 48 [.ref x0, .int x1, .int x2, .int x3, .int (x4 + zi 1), .retAddr 0] [] h1
          else
            if x4 < x1 then
              zRun zCode kModel_loopEnd 62 [.ref x0, .int x1, .int x2, .int x3, .int x4, .retAddr 0] [] h1
            else
              if x3 < x4 then
                zRun zCode kModel_loopEnd 62 [.ref x0, .int x1, .int x2, .int x3, .int x4, .retAddr 0] [] h1
              else
                zRun zCode kModel_loopEnd 48 [.ref x0, .int x1, .int x2, .int x3, .int (x4 + zi 1), .retAddr 0] [] h1)
      else
        none
    else
      some (.inl (some (.int x3), h))
  := (zRun_eb [23, 48, 62] 400 48 _ _ _).trans rfl
set_option maxRecDepth 100000 in
set_option maxHeartbeats 4000000 in
theorem zb_Model_loopEnd_62 (x0 : Nat) (x1 : Int32) (x2 : Int32) (x3 : Int32) (x4 : Int32) (h : zH) : zRun zCode kModel_loopEnd 62 [.ref x0, .int x1, .int x2, .int x3, .int x4, .retAddr 0] [] h =
    if (h.2.2 x0).1 = 10 then
      (zCall zCode kModel_get [.ref x0, .int x4, .int (zi 1)] h).bind (zRI fun r2 h1 =>
        if (h1.2.2 x0).1 = 10 then
          (zCall zCode kModel_placeOf [.ref x0, .int r2] h1).bind (zRI fun r4 h3 =>
            if x1 < r4 then
              if x3 < r4 then
                zRun zCode kModel_loopEnd 48 [.ref x0, .int x1, .int x2, .int x3, .int (x4 + zi 1), .retAddr 0] [] h3
              else
                some (.inl (some (.int (zi (-1))), h3))
            else
              zRun zCode kModel_loopEnd 48 [.ref x0, .int x1, .int x2, .int x3, .int (x4 + zi 1), .retAddr 0] [] h3)
        else
          none)
    else
      none
  := (zRun_eb [23, 48, 62] 400 62 _ _ _).trans rfl
set_option maxRecDepth 100000 in
set_option maxHeartbeats 4000000 in
theorem zb_Model_leadsTo_0 (x0 : Nat) (x1 : Int32) (h : zH) : zRun zCode kModel_leadsTo 0 [.ref x0, .int x1, .retAddr 0, .retAddr 0] [] h =
    zRun zCode kModel_leadsTo 4 [.ref x0, .int x1, .int (zi 0), .int (zi 0)] [] h
  := (zRun_eb [4] 400 0 _ _ _).trans rfl
set_option maxRecDepth 100000 in
set_option maxHeartbeats 4000000 in
theorem zb_Model_leadsTo_4 (x0 : Nat) (x1 : Int32) (x2 : Int32) (x3 : Int32) (h : zH) : zRun zCode kModel_leadsTo 4 [.ref x0, .int x1, .int x2, .int x3] [] h =
    (zVA (zAt h x0 10 3)).bind fun a1 =>
    (zCall zCode kModel_many [.ref a1] h).bind (zRI fun r3 h2 =>
      if x3 < r3 then
        if (h2.2.2 x0).1 = 10 then
          (zCall zCode kModel_jumps [.ref x0, .int x3] h2).bind (zRI fun r5 h4 =>
            if r5 = 0 then
              zRun zCode kModel_leadsTo 4 [.ref x0, .int x1, .int (x2 + (zi 0)), .int (x3 + zi 1)] [] h4
            else
              if (h4.2.2 x0).1 = 10 then
                (zCall zCode kModel_get [.ref x0, .int x3, .int (zi 1)] h4).bind (zRI fun r7 h6 =>
                  if r7 = x1 then
                    zRun zCode kModel_leadsTo 4 [.ref x0, .int x1, .int (x2 + (zi 1)), .int (x3 + zi 1)] [] h6
                  else
                    zRun zCode kModel_leadsTo 4 [.ref x0, .int x1, .int (x2 + (zi 0)), .int (x3 + zi 1)] [] h6)
              else
                none)
        else
          none
      else
        some (.inl (some (.int x2), h2)))
  := (zRun_eb [4] 400 4 _ _ _).trans rfl
set_option maxRecDepth 100000 in
set_option maxHeartbeats 4000000 in
theorem zb_Model_code_0 (x0 : Nat) (x1 : Int32) (x2 : Int32) (x3 : Int32) (h : zH) : zRun zCode kModel_code 0 [.ref x0, .int x1, .int x2, .int x3] [] h =
    (zPut h x0 10 0 (.int (zi 0))).bind fun h1 =>
    if (h1.2.2 x0).1 = 10 then
      (zCall zCode kModel_isInstruction [.ref x0, .int x1, .int x2] h1).bind (zRI fun r3 h2 =>
        if r3 = 0 then
          if (h2.2.2 x0).1 = 10 then
            (zCall zCode kModel_fail [.ref x0, .int (zi 1)] h2).bind (zRI fun r5 h4 =>
              some (.inl (some (.int r5), h4)))
          else
            none
        else
          (zCall zCode kModel_isIn [.long x3.toInt64, .long (zl 0), .long (zl 4)] h2).bind (zRI fun r7 h6 =>
            if r7 = 0 then
              if (h6.2.2 x0).1 = 10 then
                (zCall zCode kModel_fail [.ref x0, .int (zi 1)] h6).bind (zRI fun r9 h8 =>
                  some (.inl (some (.int r9), h8)))
              else
                none
            else
              (zVA (zAt h6 x0 10 2)).bind fun a10 =>
              (zIx h6 a10 111 x1).bind fun j11 =>
              (zVA (zAt h6 a10 111 j11)).bind fun a12 =>
              (zCall zCode kModel_get2 [.ref a12, .int x2, .int x3] h6).bind (zRI fun r14 h13 =>
                some (.inl (some (.int r14), h13)))))
    else
      none
  := (zRun_eb [] 400 0 _ _ _).trans rfl
set_option maxRecDepth 100000 in
set_option maxHeartbeats 4000000 in
theorem zb_Model_isInstruction_0 (x0 : Nat) (x1 : Int32) (x2 : Int32) (h : zH) : zRun zCode kModel_isInstruction 0 [.ref x0, .int x1, .int x2] [] h =
    if (h.2.2 x0).1 = 10 then
      (zCall zCode kModel_isProgram [.ref x0, .int x1] h).bind (zRI fun r2 h1 =>
        if r2 = 0 then
          (zB (zi 0)).bind fun b3 =>
          some (.inl (some (.int b3), h1))
        else
          (zVA (zAt h1 x0 10 2)).bind fun a4 =>
          (zIx h1 a4 111 x1).bind fun j5 =>
          (zVA (zAt h1 a4 111 j5)).bind fun a6 =>
          (zCall zCode kModel_many [.ref a6] h1).bind (zRI fun r8 h7 =>
            (zCall zCode kModel_isIn [.long x2.toInt64, .long (zl 0), .long ((r8 - (zi 1)).toInt64)] h7).bind (zRI fun r10 h9 =>
              if r10 = 0 then
                (zB (zi 0)).bind fun b11 =>
                some (.inl (some (.int b11), h9))
              else
                (zB (zi 1)).bind fun b12 =>
                some (.inl (some (.int b12), h9)))))
    else
      none
  := (zRun_eb [] 400 0 _ _ _).trans rfl
set_option maxRecDepth 100000 in
set_option maxHeartbeats 4000000 in
theorem zb_Model_number2_0 (x0 : Nat) (x1 : Int32) (x2 : Int32) (x3 : Int32) (h : zH) : zRun zCode kModel_number2 0 [.ref x0, .int x1, .int x2, .int x3] [] h =
    if (h.2.2 x0).1 = 10 then
      (zCall zCode kModel_isInstruction [.ref x0, .int x1, .int x2] h).bind (zRI fun r2 h1 =>
        if r2 = 0 then
          zRun zCode kModel_number2 9 [.ref x0, .int x1, .int x2, .int x3] [.int (zi 1), .ref x0] h1
        else
          zRun zCode kModel_number2 9 [.ref x0, .int x1, .int x2, .int x3] [.int (zi 0), .ref x0] h1)
    else
      none
  := (zRun_eb [9] 400 0 _ _ _).trans rfl
set_option maxRecDepth 100000 in
set_option maxHeartbeats 4000000 in
theorem zb_Model_number2_9 (x0 : Nat) (x1 : Int32) (x2 : Int32) (x3 : Int32) (y0 : Int32) (y1 : Nat) (h : zH) : zRun zCode kModel_number2 9 [.ref x0, .int x1, .int x2, .int x3] [.int y0, .ref y1] h =
    (zPut h y1 10 0 (.int y0)).bind fun h1 =>
    (zVI (zAt h1 x0 10 0)).bind fun v2 =>
    if v2 = 0 then
      (zVA (zAt h1 x0 10 2)).bind fun a3 =>
      (zIx h1 a3 111 x1).bind fun j4 =>
      (zVA (zAt h1 a3 111 j4)).bind fun a5 =>
      if x3 = 0 then
        (zCall zCode kModel_numberOf [.ref a5, .int x2, .int (zi 0)] h1).bind (zRL fun r7 h6 =>
          some (.inl (some (.long r7), h6)))
      else
        (zCall zCode kModel_numberOf [.ref a5, .int x2, .int (zi 1)] h1).bind (zRL fun r9 h8 =>
          some (.inl (some (.long r9), h8)))
    else
      some (.inl (some (.long (zl 0)), h1))
  := (zRun_eb [9] 400 9 _ _ _).trans rfl
set_option maxRecDepth 100000 in
set_option maxHeartbeats 4000000 in
theorem zb_Model_numberOf_0 (x0 : Nat) (x1 : Int32) (x2 : Int32) (h : zH) : zRun zCode kModel_numberOf 0 [.ref x0, .int x1, .int x2] [] h =
    (zIx h x0 101 ((((zi 3) + ((zi 7) * x1)) + (zi 5)) + x2)).bind fun j1 =>
    (zVL (zAt h x0 101 j1)).bind fun v2 =>
    some (.inl (some (.long v2), h))
  := (zRun_eb [] 400 0 _ _ _).trans rfl
set_option maxRecDepth 100000 in
set_option maxHeartbeats 4000000 in
theorem zb_Model_live_0 (x0 : Nat) (x1 : Int32) (x2 : Int32) (h : zH) : zRun zCode kModel_live 0 [.ref x0, .int x1, .int x2] [] h =
    (zPut h x0 10 0 (.int (zi 0))).bind fun h1 =>
    if (h1.2.2 x0).1 = 10 then
      (zCall zCode kModel_isInstruction [.ref x0, .int x1, .int x2] h1).bind (zRI fun r3 h2 =>
        if r3 = 0 then
          if (h2.2.2 x0).1 = 10 then
            (zCall zCode kModel_fail [.ref x0, .int (zi 1)] h2).bind (zRI fun r13 h12 =>
              some (.inl (some (.int r13), h12)))
          else
            none
        else
          (zVA (zAt h2 x0 10 2)).bind fun a4 =>
          (zIx h2 a4 111 x1).bind fun j5 =>
          (zVA (zAt h2 a4 111 j5)).bind fun a6 =>
          (zPut h2 x0 10 3 (.ref a6)).bind fun h7 =>
          if (h7.2.2 x0).1 = 10 then
            (zCall zCode kModel_findLive [.ref x0] h7).bind (zRV fun h8 =>
              (zVA (zAt h8 x0 10 15)).bind fun a9 =>
              (zIx h8 a9 100 x2).bind fun j10 =>
              (zVI (zAt h8 a9 100 j10)).bind fun v11 =>
              some (.inl (some (.int v11), h8)))
          else
            none)
    else
      none
  := (zRun_eb [] 400 0 _ _ _).trans rfl
set_option maxRecDepth 100000 in
set_option maxHeartbeats 4000000 in
theorem zb_Model_findLive_0 (x0 : Nat) (h : zH) : zRun zCode kModel_findLive 0 [.ref x0, .retAddr 0, .retAddr 0, .retAddr 0, .retAddr 0] [] h =
    (zVA (zAt h x0 10 3)).bind fun a1 =>
    (zCall zCode kModel_many [.ref a1] h).bind (zRI fun r3 h2 =>
      zRun zCode kModel_findLive 6 [.ref x0, .int r3, .int (zi 0), .retAddr 0, .retAddr 0] [] h2)
  := (zRun_eb [6, 18, 26, 50, 65] 400 0 _ _ _).trans rfl
set_option maxRecDepth 100000 in
set_option maxHeartbeats 4000000 in
theorem zb_Model_findLive_6 (x0 : Nat) (x1 : Int32) (x2 : Int32) (h : zH) : zRun zCode kModel_findLive 6 [.ref x0, .int x1, .int x2, .retAddr 0, .retAddr 0] [] h =
    if x2 < x1 then
      (zVA (zAt h x0 10 15)).bind fun a1 =>
      (zIx h a1 100 x2).bind fun j2 =>
      (zPut h a1 100 j2 (.int (zi 0))).bind fun h3 =>
      zRun zCode kModel_findLive 6 [.ref x0, .int x1, .int (x2 + zi 1), .retAddr 0, .retAddr 0] [] h3
    else
      zRun zCode kModel_findLive 18 [.ref x0, .int x1, .int (zi 1), .retAddr 0, .retAddr 0] [] h
  := (zRun_eb [6, 18, 26, 50, 65] 400 6 _ _ _).trans rfl
set_option maxRecDepth 100000 in
set_option maxHeartbeats 4000000 in
theorem zb_Model_findLive_18 (x0 : Nat) (x1 : Int32) (x2 : Int32) (h : zH) : zRun zCode kModel_findLive 18 [.ref x0, .int x1, .int x2, .retAddr 0, .retAddr 0] [] h =
    if x2 = 0 then
      some (.inl (none, h))
    else
      zRun zCode kModel_findLive 26 [.ref x0, .int x1, .int (zi 0), .int (x1 - (zi 1)), .retAddr 0] [] h
  := (zRun_eb [6, 18, 26, 50, 65] 400 18 _ _ _).trans rfl
set_option maxRecDepth 100000 in
set_option maxHeartbeats 4000000 in
theorem zb_Model_findLive_26 (x0 : Nat) (x1 : Int32) (x2 : Int32) (x3 : Int32) (h : zH) : zRun zCode kModel_findLive 26 [.ref x0, .int x1, .int x2, .int x3, .retAddr 0] [] h =
    if x3 < 0 then
      zRun zCode kModel_findLive 18 [.ref x0, .int x1, .int x2, .retAddr 0, .retAddr 0] [] h
    else
      if (x3 + (zi 1)) < x1 then
        if (h.2.2 x0).1 = 10 then
          (zCall zCode kModel_follows [.ref x0, .int x3, .int (x3 + (zi 1))] h).bind (zRI fun r2 h1 =>
            if r2 = 0 then
              zRun zCode kModel_findLive 50 [.ref x0, .int x1, .int x2, .int x3, .int (zi 0)] [] h1
            else
              if (h1.2.2 x0).1 = 10 then
                (zCall zCode kModel_ahead [.ref x0, .int (x3 + (zi 1))] h1).bind (zRI fun r4 h3 =>
                  zRun zCode kModel_findLive 50 [.ref x0, .int x1, .int x2, .int x3, .int ((zi 0) ||| r4)] [] h3)
              else
                none)
        else
          none
      else
        zRun zCode kModel_findLive 50 [.ref x0, .int x1, .int x2, .int x3, .int (zi 0)] [] h
  := (zRun_eb [6, 18, 26, 50, 65] 400 26 _ _ _).trans rfl
set_option maxRecDepth 100000 in
set_option maxHeartbeats 4000000 in
theorem zb_Model_findLive_50 (x0 : Nat) (x1 : Int32) (x2 : Int32) (x3 : Int32) (x4 : Int32) (h : zH) : zRun zCode kModel_findLive 50 [.ref x0, .int x1, .int x2, .int x3, .int x4] [] h =
    if (h.2.2 x0).1 = 10 then
      (zCall zCode kModel_jumps [.ref x0, .int x3] h).bind (zRI fun r2 h1 =>
        if r2 = 0 then
          zRun zCode kModel_findLive 65 [.ref x0, .int x1, .int x2, .int x3, .int x4] [] h1
        else
          if (h1.2.2 x0).1 = 10 then
            (zCall zCode kModel_get [.ref x0, .int x3, .int (zi 1)] h1).bind (zRI fun r4 h3 =>
              if (h3.2.2 x0).1 = 10 then
                (zCall zCode kModel_placeOf [.ref x0, .int r4] h3).bind (zRI fun r6 h5 =>
                  if (h5.2.2 x0).1 = 10 then
                    (zCall zCode kModel_ahead [.ref x0, .int r6] h5).bind (zRI fun r8 h7 =>
                      zRun zCode kModel_findLive 65 [.ref x0, .int x1, .int x2, .int x3, .int (x4 ||| r8)] [] h7)
                  else
                    none)
              else
                none)
          else
            none)
    else
      none
  := (zRun_eb [6, 18, 26, 50, 65] 400 50 _ _ _).trans rfl
set_option maxRecDepth 100000 in
set_option maxHeartbeats 4000000 in
theorem zb_Model_findLive_65 (x0 : Nat) (x1 : Int32) (x2 : Int32) (x3 : Int32) (x4 : Int32) (h : zH) : zRun zCode kModel_findLive 65 [.ref x0, .int x1, .int x2, .int x3, .int x4] [] h =
    if x2 = 0 then
      (zVA (zAt h x0 10 15)).bind fun a4 =>
      (zIx h a4 100 x3).bind fun j5 =>
      (zVI (zAt h a4 100 j5)).bind fun v6 =>
      if x4 = v6 then
        (zVA (zAt h x0 10 15)).bind fun a7 =>
        (zIx h a7 100 x3).bind fun j8 =>
        (zPut h a7 100 j8 (.int x4)).bind fun h9 =>
        zRun zCode kModel_findLive 26 [.ref x0, .int x1, .int (zi 0), .int (x3 + zi (-1)), .retAddr 0] [] h9
      else
        (zVA (zAt h x0 10 15)).bind fun a10 =>
        (zIx h a10 100 x3).bind fun j11 =>
        (zPut h a10 100 j11 (.int x4)).bind fun h12 =>
        zRun zCode kModel_findLive 26 [.ref x0, .int x1, .int (zi 1), .int (x3 + zi (-1)), .retAddr 0] [] h12
    else
      (zVA (zAt h x0 10 15)).bind fun a1 =>
      (zIx h a1 100 x3).bind fun j2 =>
      (zPut h a1 100 j2 (.int x4)).bind fun h3 =>
      zRun zCode kModel_findLive 26 [.ref x0, .int x1, .int (zi 1), .int (x3 + zi (-1)), .retAddr 0] [] h3
  := (zRun_eb [6, 18, 26, 50, 65] 400 65 _ _ _).trans rfl
set_option maxRecDepth 100000 in
set_option maxHeartbeats 4000000 in
theorem zb_Model_ahead_0 (x0 : Nat) (x1 : Int32) (h : zH) : zRun zCode kModel_ahead 0 [.ref x0, .int x1, .retAddr 0] [] h =
    (zVA (zAt h x0 10 15)).bind fun a1 =>
    (zIx h a1 100 x1).bind fun j2 =>
    (zVI (zAt h a1 100 j2)).bind fun v3 =>
    if (h.2.2 x0).1 = 10 then
      (zCall zCode kModel_assigns [.ref x0, .int x1] h).bind (zRI fun r5 h4 =>
        if r5 = 0 then
          zRun zCode kModel_ahead 20 [.ref x0, .int x1, .int v3] [] h4
        else
          if (h4.2.2 x0).1 = 10 then
            (zCall zCode kModel_get [.ref x0, .int x1, .int (zi 1)] h4).bind (zRI fun r7 h6 =>
              zRun zCode kModel_ahead 20 [.ref x0, .int x1, .int (v3 &&& (((zi 1) <<< (r7 &&& 31)) ^^^ (zi (-1))))] [] h6)
          else
            none)
    else
      none
  := (zRun_eb [20, 35] 400 0 _ _ _).trans rfl
set_option maxRecDepth 100000 in
set_option maxHeartbeats 4000000 in
theorem zb_Model_ahead_20 (x0 : Nat) (x1 : Int32) (x2 : Int32) (h : zH) : zRun zCode kModel_ahead 20 [.ref x0, .int x1, .int x2] [] h =
    if (h.2.2 x0).1 = 10 then
      (zCall zCode kModel_get [.ref x0, .int x1, .int (zi 3)] h).bind (zRI fun r2 h1 =>
        if r2 = (zi (-1)) then
          zRun zCode kModel_ahead 35 [.ref x0, .int x1, .int x2] [] h1
        else
          if (h1.2.2 x0).1 = 10 then
            (zCall zCode kModel_get [.ref x0, .int x1, .int (zi 3)] h1).bind (zRI fun r4 h3 =>
              zRun zCode kModel_ahead 35 [.ref x0, .int x1, .int (x2 ||| ((zi 1) <<< (r4 &&& 31)))] [] h3)
          else
            none)
    else
      none
  := (zRun_eb [20, 35] 400 20 _ _ _).trans rfl
set_option maxRecDepth 100000 in
set_option maxHeartbeats 4000000 in
theorem zb_Model_ahead_35 (x0 : Nat) (x1 : Int32) (x2 : Int32) (h : zH) : zRun zCode kModel_ahead 35 [.ref x0, .int x1, .int x2] [] h =
    if (h.2.2 x0).1 = 10 then
      (zCall zCode kModel_get [.ref x0, .int x1, .int (zi 4)] h).bind (zRI fun r2 h1 =>
        if r2 = (zi (-1)) then
          some (.inl (some (.int x2), h1))
        else
          if (h1.2.2 x0).1 = 10 then
            (zCall zCode kModel_get [.ref x0, .int x1, .int (zi 4)] h1).bind (zRI fun r4 h3 =>
              some (.inl (some (.int (x2 ||| ((zi 1) <<< (r4 &&& 31)))), h3)))
          else
            none)
    else
      none
  := (zRun_eb [20, 35] 400 35 _ _ _).trans rfl
set_option maxRecDepth 100000 in
set_option maxHeartbeats 4000000 in
theorem zb_Model_assigns_0 (x0 : Nat) (x1 : Int32) (h : zH) : zRun zCode kModel_assigns 0 [.ref x0, .int x1] [] h =
    if (h.2.2 x0).1 = 10 then
      (zCall zCode kModel_get [.ref x0, .int x1, .int (zi 0)] h).bind (zRI fun r2 h1 =>
        (zCall zCode kModel_isIn [.long r2.toInt64, .long (zl 1), .long (zl 2)] h1).bind (zRI fun r4 h3 =>
          if r4 = 0 then
            if (h3.2.2 x0).1 = 10 then
              (zCall zCode kModel_get [.ref x0, .int x1, .int (zi 0)] h3).bind (zRI fun r7 h6 =>
                if r7 = (zi 5) then
                  (zB (zi 1)).bind fun b9 =>
                  some (.inl (some (.int b9), h6))
                else
                  (zB (zi 0)).bind fun b8 =>
                  some (.inl (some (.int b8), h6)))
            else
              none
          else
            (zB (zi 1)).bind fun b5 =>
            some (.inl (some (.int b5), h3))))
    else
      none
  := (zRun_eb [] 400 0 _ _ _).trans rfl
set_option maxRecDepth 100000 in
set_option maxHeartbeats 4000000 in
theorem zb_Model_pass_0 (x0 : Nat) (x1 : Int32) (x2 : Int32) (h : zH) : zRun zCode kModel_pass 0 [.ref x0, .int x1, .int x2] [] h =
    (zPut h x0 10 0 (.int (zi 0))).bind fun h1 =>
    if (h1.2.2 x0).1 = 10 then
      (zCall zCode kModel_isProgram [.ref x0, .int x1] h1).bind (zRI fun r3 h2 =>
        if r3 = 0 then
          if (h2.2.2 x0).1 = 10 then
            (zCall zCode kModel_fail [.ref x0, .int (zi 1)] h2).bind (zRI fun r15 h14 =>
              some (.inl (some (.int r15), h14)))
          else
            none
        else
          (zCall zCode kModel_isIn [.long x2.toInt64, .long (zl 0), .long (zl 4)] h2).bind (zRI fun r5 h4 =>
            if r5 = 0 then
              if (h4.2.2 x0).1 = 10 then
                (zCall zCode kModel_fail [.ref x0, .int (zi 2)] h4).bind (zRI fun r13 h12 =>
                  some (.inl (some (.int r13), h12)))
              else
                none
            else
              (zVI (zAt h4 x0 10 1)).bind fun v6 =>
              if v6 = (zi 12) then
                if (h4.2.2 x0).1 = 10 then
                  (zCall zCode kModel_fail [.ref x0, .int (zi 3)] h4).bind (zRI fun r11 h10 =>
                    some (.inl (some (.int r11), h10)))
                else
                  none
              else
                if (h4.2.2 x0).1 = 10 then
                  (zCall zCode kModel_begin [.ref x0, .int x1] h4).bind (zRV fun h7 =>
                    if (h7.2.2 x0).1 = 10 then
                      (zCall zCode kModel_make [.ref x0, .int x2] h7).bind (zRI fun r9 h8 =>
                        some (.inl (some (.int r9), h8)))
                    else
                      none)
                else
                  none))
    else
      none
  := (zRun_eb [] 400 0 _ _ _).trans rfl
set_option maxRecDepth 100000 in
set_option maxHeartbeats 4000000 in
theorem zb_Model_begin_0 (x0 : Nat) (x1 : Int32) (h : zH) : zRun zCode kModel_begin 0 [.ref x0, .int x1] [] h =
    (zVA (zAt h x0 10 2)).bind fun a1 =>
    (zVI (zAt h x0 10 1)).bind fun v2 =>
    (zIx h a1 111 v2).bind fun j3 =>
    (zVA (zAt h a1 111 j3)).bind fun a4 =>
    (zPut h x0 10 3 (.ref a4)).bind fun h5 =>
    (zVA (zAt h5 x0 10 2)).bind fun a6 =>
    (zIx h5 a6 111 x1).bind fun j7 =>
    (zVA (zAt h5 a6 111 j7)).bind fun a8 =>
    (zVA (zAt h5 x0 10 3)).bind fun a9 =>
    (zACopy h5 a8 (zi 0) a9 (zi 0) (zi 570)).bind fun h10 =>
    (zVI (zAt h10 x0 10 1)).bind fun v11 =>
    (zPut h10 x0 10 1 (.int (v11 + (zi 1)))).bind fun h12 =>
    some (.inl (none, h12))
  := (zRun_eb [] 400 0 _ _ _).trans rfl
set_option maxRecDepth 100000 in
set_option maxHeartbeats 4000000 in
theorem zb_Model_make_0 (x0 : Nat) (x1 : Int32) (h : zH) : zRun zCode kModel_make 0 [.ref x0, .int x1] [] h =
    if x1 = zi 0 then
      if (h.2.2 x0).1 = 10 then
        (zCall zCode kModel_fold [.ref x0] h).bind (zRI fun r10 h9 =>
          some (.inl (some (.int r10), h9)))
      else
        none
    else
      if x1 = zi 1 then
        if (h.2.2 x0).1 = 10 then
          (zCall zCode kModel_copy [.ref x0] h).bind (zRI fun r8 h7 =>
            some (.inl (some (.int r8), h7)))
        else
          none
      else
        if x1 = zi 2 then
          if (h.2.2 x0).1 = 10 then
            (zCall zCode kModel_value2 [.ref x0] h).bind (zRI fun r6 h5 =>
              some (.inl (some (.int r6), h5)))
          else
            none
        else
          if x1 = zi 3 then
            if (h.2.2 x0).1 = 10 then
              (zCall zCode kModel_drop [.ref x0] h).bind (zRI fun r4 h3 =>
                some (.inl (some (.int r4), h3)))
            else
              none
          else
            if (h.2.2 x0).1 = 10 then
              (zCall zCode kModel_move [.ref x0] h).bind (zRI fun r2 h1 =>
                some (.inl (some (.int r2), h1)))
            else
              none
  := (zRun_eb [] 400 0 _ _ _).trans rfl
set_option maxRecDepth 100000 in
set_option maxHeartbeats 4000000 in
theorem zb_Model_fold_0 (x0 : Nat) (h : zH) : zRun zCode kModel_fold 0 [.ref x0, .retAddr 0, .retAddr 0, .retAddr 0, .retAddr 0, .retAddr 0] [] h =
    zRun zCode kModel_fold 6 [.ref x0, .int (zi 0), .int (zi 1), .int (zi 0), .retAddr 0, .retAddr 0] [] h
  := (zRun_eb [6, 20, 30, 46, 132, 165] 400 0 _ _ _).trans rfl
set_option maxRecDepth 100000 in
set_option maxHeartbeats 4000000 in
theorem zb_Model_fold_6 (x0 : Nat) (x1 : Int32) (x2 : Int32) (x3 : Int32) (h : zH) : zRun zCode kModel_fold 6 [.ref x0, .int x1, .int x2, .int x3, .retAddr 0, .retAddr 0] [] h =
    (zVA (zAt h x0 10 3)).bind fun a1 =>
    (zCall zCode kModel_many [.ref a1] h).bind (zRI fun r3 h2 =>
      if x3 < r3 then
        if x2 = 0 then
          if (h2.2.2 x0).1 = 10 then
            (zCall zCode kModel_get [.ref x0, .int x3, .int (zi 0)] h2).bind (zRI fun r5 h4 =>
              if r5 = 0 then
                zRun zCode kModel_fold 20 [.ref x0, .int x1, .retAddr 0, .int x3, .int (zi 0), .retAddr 0] [] h4
              else
                zRun zCode kModel_fold 30 [.ref x0, .int x1, .retAddr 0, .int x3, .retAddr 0, .retAddr 0] [] h4)
          else
            none
        else
          zRun zCode kModel_fold 20 [.ref x0, .int x1, .retAddr 0, .int x3, .int (zi 0), .retAddr 0] [] h2
      else
        some (.inl (some (.int x1), h2)))
  := (zRun_eb [6, 20, 30, 46, 132, 165] 400 6 _ _ _).trans rfl
set_option maxRecDepth 100000 in
set_option maxHeartbeats 4000000 in
theorem zb_Model_fold_20 (x0 : Nat) (x1 : Int32) (x3 : Int32) (x4 : Int32) (h : zH) : zRun zCode kModel_fold 20 [.ref x0, .int x1, .retAddr 0, .int x3, .int x4, .retAddr 0] [] h =
    if x4 < (zi 12) then
      (zVA (zAt h x0 10 17)).bind fun a1 =>
      (zB (zi 0)).bind fun b4 =>
      (zIx h a1 102 x4).bind fun j2 =>
      (zPut h a1 102 j2 (.int b4)).bind fun h3 =>
      zRun zCode kModel_fold 20 [.ref x0, .int x1, .retAddr 0, .int x3, .int (x4 + zi 1), .retAddr 0] [] h3
    else
      zRun zCode kModel_fold 30 [.ref x0, .int x1, .retAddr 0, .int x3, .retAddr 0, .retAddr 0] [] h
  := (zRun_eb [6, 20, 30, 46, 132, 165] 400 20 _ _ _).trans rfl
set_option maxRecDepth 100000 in
set_option maxHeartbeats 4000000 in
theorem zb_Model_fold_30 (x0 : Nat) (x1 : Int32) (x3 : Int32) (h : zH) : zRun zCode kModel_fold 30 [.ref x0, .int x1, .retAddr 0, .int x3, .retAddr 0, .retAddr 0] [] h =
    if (h.2.2 x0).1 = 10 then
      (zCall zCode kModel_jumps [.ref x0, .int x3] h).bind (zRI fun r2 h1 =>
        if r2 = 0 then
          if (h1.2.2 x0).1 = 10 then
            (zCall zCode kModel_get [.ref x0, .int x3, .int (zi 0)] h1).bind (zRI fun r4 h3 =>
              if r4 = (zi 7) then
                zRun zCode kModel_fold 46 [.ref x0, .int x1, .int (zi 1), .int x3, .int (zi 0), .retAddr 0] [] h3
              else
                zRun zCode kModel_fold 46 [.ref x0, .int x1, .int (zi 0), .int x3, .int (zi 0), .retAddr 0] [] h3)
          else
            none
        else
          zRun zCode kModel_fold 46 [.ref x0, .int x1, .int (zi 1), .int x3, .int (zi 0), .retAddr 0] [] h1)
    else
      none
  := (zRun_eb [6, 20, 30, 46, 132, 165] 400 30 _ _ _).trans rfl
set_option maxRecDepth 100000 in
set_option maxHeartbeats 4000000 in
theorem zb_Model_fold_46 (x0 : Nat) (x1 : Int32) (x2 : Int32) (x3 : Int32) (x4 : Int32) (h : zH) : zRun zCode kModel_fold 46 [.ref x0, .int x1, .int x2, .int x3, .int x4, .retAddr 0] [] h =
    if x4 < (zi 2) then
      if (h.2.2 x0).1 = 10 then
        (zCall zCode kModel_get [.ref x0, .int x3, .int ((zi 3) + x4)] h).bind (zRI fun r22 h21 =>
          if r22 = (zi (-1)) then
            zRun zCode kModel_fold 46 [.ref x0, .int x1, .int x2, .int x3, .int (x4 + zi 1), .retAddr 0] [] h21
          else
            (zVA (zAt h21 x0 10 17)).bind fun a23 =>
            (zIx h21 a23 102 r22).bind fun j24 =>
            (zVI (zAt h21 a23 102 j24)).bind fun v25 =>
            if v25 = 0 then
              zRun zCode kModel_fold 46 [.ref x0, .int x1, .int x2, .int x3, .int (x4 + zi 1), .retAddr 0] [] h21
            else
              if (h21.2.2 x0).1 = 10 then
                (zCall zCode kModel_set [.ref x0, .int x3, .int ((zi 3) + x4), .long (zl (-1))] h21).bind (zRV fun h26 =>
                  (zVA (zAt h26 x0 10 18)).bind fun a27 =>
                  (zIx h26 a27 101 r22).bind fun j28 =>
                  (zVL (zAt h26 a27 101 j28)).bind fun v29 =>
                  if (h26.2.2 x0).1 = 10 then
                    (zCall zCode kModel_set [.ref x0, .int x3, .int ((zi 5) + x4), .long v29] h26).bind (zRV fun h30 =>
                      zRun zCode kModel_fold 46 [.ref x0, .int (x1 + zi 1), .int x2, .int x3, .int (x4 + zi 1), .retAddr 0] [] h30)
                  else
                    none)
              else
                none)
      else
        none
    else
      if (h.2.2 x0).1 = 10 then
        (zCall zCode kModel_get [.ref x0, .int x3, .int (zi 0)] h).bind (zRI fun r2 h1 =>
          if r2 = (zi 2) then
            if (h1.2.2 x0).1 = 10 then
              (zCall zCode kModel_isNumber [.ref x0, .int x3, .int (zi 0)] h1).bind (zRI fun r4 h3 =>
                if r4 = 0 then
                  zRun zCode kModel_fold 132 [.ref x0, .int x1, .int x2, .int x3, .retAddr 0, .retAddr 0] [] h3
                else
                  if (h3.2.2 x0).1 = 10 then
                    (zCall zCode kModel_isNumber [.ref x0, .int x3, .int (zi 1)] h3).bind (zRI fun r6 h5 =>
                      if r6 = 0 then
                        zRun zCode kModel_fold 132 [.ref x0, .int x1, .int x2, .int x3, .retAddr 0, .retAddr 0] [] h5
                      else
                        if (h5.2.2 x0).1 = 10 then
                          (zCall zCode kModel_get [.ref x0, .int x3, .int (zi 2)] h5).bind (zRI fun r8 h7 =>
                            (zVA (zAt h7 x0 10 3)).bind fun a9 =>
                            (zCall zCode kModel_numberOf [.ref a9, .int x3, .int (zi 0)] h7).bind (zRL fun r11 h10 =>
                              (zVA (zAt h10 x0 10 3)).bind fun a12 =>
                              (zCall zCode kModel_numberOf [.ref a12, .int x3, .int (zi 1)] h10).bind (zRL fun r14 h13 =>
                                (zCall zCode kModel_two [.int r8, .long r11, .long r14] h13).bind (zRL fun r16 h15 =>
                                  if (h15.2.2 x0).1 = 10 then
                                    (zCall zCode kModel_get [.ref x0, .int x3, .int (zi 1)] h15).bind (zRI fun r18 h17 =>
                                      if (h17.2.2 x0).1 = 10 then
                                        (zCall zCode kModel_lay [.ref x0, .int x3, .int (zi 1), .int r18, .int (zi (-1))] h17).bind (zRV fun h19 =>
                                          if (h19.2.2 x0).1 = 10 then
                                            (zCall zCode kModel_set [.ref x0, .int x3, .int (zi 5), .long r16] h19).bind (zRV fun h20 =>
                                              zRun zCode kModel_fold 132 [.ref x0, .int (x1 + zi 1), .int x2, .int x3, .retAddr 0, .retAddr 0] [] h20)
                                          else
                                            none)
                                      else
                                        none)
                                  else
                                    none))))
                        else
                          none)
                  else
                    none)
            else
              none
          else
            zRun zCode kModel_fold 132 [.ref x0, .int x1, .int x2, .int x3, .retAddr 0, .retAddr 0] [] h1)
      else
        none
  := (zRun_eb [6, 20, 30, 46, 132, 165] 400 46 _ _ _).trans rfl
set_option maxRecDepth 100000 in
set_option maxHeartbeats 4000000 in
theorem zb_Model_fold_132 (x0 : Nat) (x1 : Int32) (x2 : Int32) (x3 : Int32) (h : zH) : zRun zCode kModel_fold 132 [.ref x0, .int x1, .int x2, .int x3, .retAddr 0, .retAddr 0] [] h =
    if (h.2.2 x0).1 = 10 then
      (zCall zCode kModel_get [.ref x0, .int x3, .int (zi 0)] h).bind (zRI fun r2 h1 =>
        if r2 = (zi 4) then
          if (h1.2.2 x0).1 = 10 then
            (zCall zCode kModel_isNumber [.ref x0, .int x3, .int (zi 0)] h1).bind (zRI fun r4 h3 =>
              if r4 = 0 then
                zRun zCode kModel_fold 165 [.ref x0, .int x1, .int x2, .int x3, .retAddr 0, .retAddr 0] [] h3
              else
                (zVA (zAt h3 x0 10 3)).bind fun a5 =>
                (zCall zCode kModel_numberOf [.ref a5, .int x3, .int (zi 0)] h3).bind (zRL fun r7 h6 =>
                  if (lg_cmp r7 (zl 0)) = 0 then
                    if (h6.2.2 x0).1 = 10 then
                      (zCall zCode kModel_takeOut [.ref x0, .int x3] h6).bind (zRV fun h11 =>
                        zRun zCode kModel_fold 6 [.ref x0, .int (x1 + zi 1), .int x2, .int x3, .retAddr 0, .retAddr 0] [] h11)
                    else
                      none
                  else
                    if (h6.2.2 x0).1 = 10 then
                      (zCall zCode kModel_get [.ref x0, .int x3, .int (zi 1)] h6).bind (zRI fun r9 h8 =>
                        if (h8.2.2 x0).1 = 10 then
                          (zCall zCode kModel_lay [.ref x0, .int x3, .int (zi 3), .int r9, .int (zi (-1))] h8).bind (zRV fun h10 =>
                            zRun zCode kModel_fold 165 [.ref x0, .int (x1 + zi 1), .int x2, .int x3, .retAddr 0, .retAddr 0] [] h10)
                        else
                          none)
                    else
                      none))
          else
            none
        else
          zRun zCode kModel_fold 165 [.ref x0, .int x1, .int x2, .int x3, .retAddr 0, .retAddr 0] [] h1)
    else
      none
  := (zRun_eb [6, 20, 30, 46, 132, 165] 400 132 _ _ _).trans rfl
set_option maxRecDepth 100000 in
set_option maxHeartbeats 4000000 in
theorem zb_Model_fold_165 (x0 : Nat) (x1 : Int32) (x2 : Int32) (x3 : Int32) (h : zH) : zRun zCode kModel_fold 165 [.ref x0, .int x1, .int x2, .int x3, .retAddr 0, .retAddr 0] [] h =
    if (h.2.2 x0).1 = 10 then
      (zCall zCode kModel_assigns [.ref x0, .int x3] h).bind (zRI fun r2 h1 =>
        if r2 = 0 then
          zRun zCode kModel_fold 6 [.ref x0, .int x1, .int x2, .int (x3 + zi 1), .retAddr 0, .retAddr 0] [] h1
        else
          if (h1.2.2 x0).1 = 10 then
            (zCall zCode kModel_get [.ref x0, .int x3, .int (zi 1)] h1).bind (zRI fun r4 h3 =>
              (zVA (zAt h3 x0 10 17)).bind fun a5 =>
              if (h3.2.2 x0).1 = 10 then
                (zCall zCode kModel_get [.ref x0, .int x3, .int (zi 0)] h3).bind (zRI fun r7 h6 =>
                  if r7 = (zi 1) then
                    if (h6.2.2 x0).1 = 10 then
                      (zCall zCode kModel_isNumber [.ref x0, .int x3, .int (zi 0)] h6).bind (zRI fun r18 h17 =>
                        if r18 = 0 then
                          (zB (zi 0)).bind fun b21 =>
                          (zIx h17 a5 102 r4).bind fun j19 =>
                          (zPut h17 a5 102 j19 (.int b21)).bind fun h20 =>
                          (zVA (zAt h20 x0 10 18)).bind fun a22 =>
                          (zVA (zAt h20 x0 10 3)).bind fun a23 =>
                          (zCall zCode kModel_numberOf [.ref a23, .int x3, .int (zi 0)] h20).bind (zRL fun r25 h24 =>
                            (zIx h24 a22 101 r4).bind fun j26 =>
                            (zPut h24 a22 101 j26 (.long r25)).bind fun h27 =>
                            zRun zCode kModel_fold 6 [.ref x0, .int x1, .int x2, .int (x3 + zi 1), .retAddr 0, .retAddr 0] [] h27)
                        else
                          (zB (zi 1)).bind fun b30 =>
                          (zIx h17 a5 102 r4).bind fun j28 =>
                          (zPut h17 a5 102 j28 (.int b30)).bind fun h29 =>
                          (zVA (zAt h29 x0 10 18)).bind fun a31 =>
                          (zVA (zAt h29 x0 10 3)).bind fun a32 =>
                          (zCall zCode kModel_numberOf [.ref a32, .int x3, .int (zi 0)] h29).bind (zRL fun r34 h33 =>
                            (zIx h33 a31 101 r4).bind fun j35 =>
                            (zPut h33 a31 101 j35 (.long r34)).bind fun h36 =>
                            zRun zCode kModel_fold 6 [.ref x0, .int x1, .int x2, .int (x3 + zi 1), .retAddr 0, .retAddr 0] [] h36))
                    else
                      none
                  else
                    (zB (zi 0)).bind fun b10 =>
                    (zIx h6 a5 102 r4).bind fun j8 =>
                    (zPut h6 a5 102 j8 (.int b10)).bind fun h9 =>
                    (zVA (zAt h9 x0 10 18)).bind fun a11 =>
                    (zVA (zAt h9 x0 10 3)).bind fun a12 =>
                    (zCall zCode kModel_numberOf [.ref a12, .int x3, .int (zi 0)] h9).bind (zRL fun r14 h13 =>
                      (zIx h13 a11 101 r4).bind fun j15 =>
                      (zPut h13 a11 101 j15 (.long r14)).bind fun h16 =>
                      zRun zCode kModel_fold 6 [.ref x0, .int x1, .int x2, .int (x3 + zi 1), .retAddr 0, .retAddr 0] [] h16))
              else
                none)
          else
            none)
    else
      none
  := (zRun_eb [6, 20, 30, 46, 132, 165] 400 165 _ _ _).trans rfl
set_option maxRecDepth 100000 in
set_option maxHeartbeats 4000000 in
theorem zb_Model_isNumber_0 (x0 : Nat) (x1 : Int32) (x2 : Int32) (h : zH) : zRun zCode kModel_isNumber 0 [.ref x0, .int x1, .int x2] [] h =
    if (h.2.2 x0).1 = 10 then
      (zCall zCode kModel_get [.ref x0, .int x1, .int ((zi 3) + x2)] h).bind (zRI fun r2 h1 =>
        if r2 = (zi (-1)) then
          (zB (zi 1)).bind fun b4 =>
          some (.inl (some (.int b4), h1))
        else
          (zB (zi 0)).bind fun b3 =>
          some (.inl (some (.int b3), h1)))
    else
      none
  := (zRun_eb [] 400 0 _ _ _).trans rfl
set_option maxRecDepth 100000 in
set_option maxHeartbeats 4000000 in
theorem zb_Model_two_0 (x0 : Int32) (x1 : Int64) (x3 : Int64) (h : zH) : zRun zCode kModel_two 0 [.int x0, .long x1, .retAddr 0, .long x3, .retAddr 0] [] h =
    if x0 = zi 0 then
      some (.inl (some (.long (x1 + x3)), h))
    else
      if x0 = zi 1 then
        some (.inl (some (.long (x1 - x3)), h))
      else
        if x0 = zi 2 then
          some (.inl (some (.long (x1 * x3)), h))
        else
          if x0 = zi 3 then
            if (lg_cmp x3 (zl 0)) = 0 then
              some (.inl (some (.long (zl 0)), h))
            else
              if x3 = 0 then
                none
              else
                some (.inl (some (.long (x1 / x3)), h))
          else
            if x0 = zi 4 then
              if (lg_cmp x3 (zl 0)) = 0 then
                some (.inl (some (.long (zl 0)), h))
              else
                if x3 = 0 then
                  none
                else
                  some (.inl (some (.long (x1 - x1 / x3 * x3)), h))
            else
              if x0 = zi 5 then
                some (.inl (some (.long (x1 &&& x3)), h))
              else
                if x0 = zi 6 then
                  some (.inl (some (.long (x1 ||| x3)), h))
                else
                  if x0 = zi 7 then
                    some (.inl (some (.long (x1 ^^^ x3)), h))
                  else
                    if x0 = zi 8 then
                      if (lg_cmp x1 x3) < 0 then
                        some (.inl (some (.long (zl 1)), h))
                      else
                        some (.inl (some (.long (zl 0)), h))
                    else
                      if (lg_cmp x1 x3) = 0 then
                        some (.inl (some (.long (zl 1)), h))
                      else
                        some (.inl (some (.long (zl 0)), h))
  := (zRun_eb [] 400 0 _ _ _).trans rfl
set_option maxRecDepth 100000 in
set_option maxHeartbeats 4000000 in
theorem zb_Model_takeOut_0 (x0 : Nat) (x1 : Int32) (h : zH) : zRun zCode kModel_takeOut 0 [.ref x0, .int x1] [] h =
    (zVA (zAt h x0 10 3)).bind fun a1 =>
    (zIx h a1 101 (zi 0)).bind fun j2 =>
    (zVL (zAt h a1 101 j2)).bind fun v3 =>
    (zIx h a1 101 (zi 0)).bind fun j4 =>
    (zPut h a1 101 j4 (.long (v3 - (zl 1)))).bind fun h5 =>
    (zVA (zAt h5 x0 10 3)).bind fun a6 =>
    (zVA (zAt h5 x0 10 3)).bind fun a7 =>
    (zVA (zAt h5 x0 10 3)).bind fun a8 =>
    (zCall zCode kModel_many [.ref a8] h5).bind (zRI fun r10 h9 =>
      (zACopy h9 a6 ((zi 3) + ((zi 7) * (x1 + (zi 1)))) a7 ((zi 3) + ((zi 7) * x1)) ((zi 7) * (r10 - x1))).bind fun h11 =>
      some (.inl (none, h11)))
  := (zRun_eb [] 400 0 _ _ _).trans rfl
set_option maxRecDepth 100000 in
set_option maxHeartbeats 4000000 in
theorem zb_Model_copy_0 (x0 : Nat) (h : zH) : zRun zCode kModel_copy 0 [.ref x0, .retAddr 0, .retAddr 0, .retAddr 0, .retAddr 0, .retAddr 0, .retAddr 0] [] h =
    zRun zCode kModel_copy 6 [.ref x0, .int (zi 0), .int (zi 1), .int (zi 0), .retAddr 0, .retAddr 0, .retAddr 0] [] h
  := (zRun_eb [6, 20, 30, 46, 99, 124, 140] 400 0 _ _ _).trans rfl
set_option maxRecDepth 100000 in
set_option maxHeartbeats 4000000 in
theorem zb_Model_copy_6 (x0 : Nat) (x1 : Int32) (x2 : Int32) (x3 : Int32) (h : zH) : zRun zCode kModel_copy 6 [.ref x0, .int x1, .int x2, .int x3, .retAddr 0, .retAddr 0, .retAddr 0] [] h =
    (zVA (zAt h x0 10 3)).bind fun a1 =>
    (zCall zCode kModel_many [.ref a1] h).bind (zRI fun r3 h2 =>
      if x3 < r3 then
        if x2 = 0 then
          if (h2.2.2 x0).1 = 10 then
            (zCall zCode kModel_get [.ref x0, .int x3, .int (zi 0)] h2).bind (zRI fun r5 h4 =>
              if r5 = 0 then
                zRun zCode kModel_copy 20 [.ref x0, .int x1, .retAddr 0, .int x3, .int (zi 0), .retAddr 0, .retAddr 0] [] h4
              else
                zRun zCode kModel_copy 30 [.ref x0, .int x1, .retAddr 0, .int x3, .retAddr 0, .retAddr 0, .retAddr 0] [] h4)
          else
            none
        else
          zRun zCode kModel_copy 20 [.ref x0, .int x1, .retAddr 0, .int x3, .int (zi 0), .retAddr 0, .retAddr 0] [] h2
      else
        some (.inl (some (.int x1), h2)))
  := (zRun_eb [6, 20, 30, 46, 99, 124, 140] 400 6 _ _ _).trans rfl
set_option maxRecDepth 100000 in
set_option maxHeartbeats 4000000 in
theorem zb_Model_copy_20 (x0 : Nat) (x1 : Int32) (x3 : Int32) (x4 : Int32) (h : zH) : zRun zCode kModel_copy 20 [.ref x0, .int x1, .retAddr 0, .int x3, .int x4, .retAddr 0, .retAddr 0] [] h =
    if x4 < (zi 12) then
      (zVA (zAt h x0 10 19)).bind fun a1 =>
      (zIx h a1 100 x4).bind fun j2 =>
      (zPut h a1 100 j2 (.int (zi (-1)))).bind fun h3 =>
      zRun zCode kModel_copy 20 [.ref x0, .int x1, .retAddr 0, .int x3, .int (x4 + zi 1), .retAddr 0, .retAddr 0] [] h3
    else
      zRun zCode kModel_copy 30 [.ref x0, .int x1, .retAddr 0, .int x3, .retAddr 0, .retAddr 0, .retAddr 0] [] h
  := (zRun_eb [6, 20, 30, 46, 99, 124, 140] 400 20 _ _ _).trans rfl
set_option maxRecDepth 100000 in
set_option maxHeartbeats 4000000 in
theorem zb_Model_copy_30 (x0 : Nat) (x1 : Int32) (x3 : Int32) (h : zH) : zRun zCode kModel_copy 30 [.ref x0, .int x1, .retAddr 0, .int x3, .retAddr 0, .retAddr 0, .retAddr 0] [] h =
    if (h.2.2 x0).1 = 10 then
      (zCall zCode kModel_jumps [.ref x0, .int x3] h).bind (zRI fun r2 h1 =>
        if r2 = 0 then
          if (h1.2.2 x0).1 = 10 then
            (zCall zCode kModel_get [.ref x0, .int x3, .int (zi 0)] h1).bind (zRI fun r4 h3 =>
              if r4 = (zi 7) then
                zRun zCode kModel_copy 46 [.ref x0, .int x1, .int (zi 1), .int x3, .int (zi 0), .retAddr 0, .retAddr 0] [] h3
              else
                zRun zCode kModel_copy 46 [.ref x0, .int x1, .int (zi 0), .int x3, .int (zi 0), .retAddr 0, .retAddr 0] [] h3)
          else
            none
        else
          zRun zCode kModel_copy 46 [.ref x0, .int x1, .int (zi 1), .int x3, .int (zi 0), .retAddr 0, .retAddr 0] [] h1)
    else
      none
  := (zRun_eb [6, 20, 30, 46, 99, 124, 140] 400 30 _ _ _).trans rfl
set_option maxRecDepth 100000 in
set_option maxHeartbeats 4000000 in
theorem zb_Model_copy_46 (x0 : Nat) (x1 : Int32) (x2 : Int32) (x3 : Int32) (x4 : Int32) (h : zH) : zRun zCode kModel_copy 46 [.ref x0, .int x1, .int x2, .int x3, .int x4, .retAddr 0, .retAddr 0] [] h =
    if x4 < (zi 2) then
      if (h.2.2 x0).1 = 10 then
        (zCall zCode kModel_get [.ref x0, .int x3, .int ((zi 3) + x4)] h).bind (zRI fun r8 h7 =>
          if r8 = (zi (-1)) then
            zRun zCode kModel_copy 46 [.ref x0, .int x1, .int x2, .int x3, .int (x4 + zi 1), .retAddr 0, .retAddr 0] [] h7
          else
            (zVA (zAt h7 x0 10 19)).bind fun a9 =>
            (zIx h7 a9 100 r8).bind fun j10 =>
            (zVI (zAt h7 a9 100 j10)).bind fun v11 =>
            if v11 = (zi (-1)) then
              zRun zCode kModel_copy 46 [.ref x0, .int x1, .int x2, .int x3, .int (x4 + zi 1), .retAddr 0, .retAddr 0] [] h7
            else
              (zVA (zAt h7 x0 10 19)).bind fun a12 =>
              (zIx h7 a12 100 r8).bind fun j13 =>
              (zVI (zAt h7 a12 100 j13)).bind fun v14 =>
              if (h7.2.2 x0).1 = 10 then
                (zCall zCode kModel_set [.ref x0, .int x3, .int ((zi 3) + x4), .long v14.toInt64] h7).bind (zRV fun h15 =>
                  zRun zCode kModel_copy 46 [.ref x0, .int (x1 + zi 1), .int x2, .int x3, .int (x4 + zi 1), .retAddr 0, .retAddr 0] [] h15)
              else
                none)
      else
        none
    else
      if (h.2.2 x0).1 = 10 then
        (zCall zCode kModel_get [.ref x0, .int x3, .int (zi 1)] h).bind (zRI fun r2 h1 =>
          if (h1.2.2 x0).1 = 10 then
            (zCall zCode kModel_get [.ref x0, .int x3, .int (zi 0)] h1).bind (zRI fun r4 h3 =>
              if r4 = (zi 1) then
                if (h3.2.2 x0).1 = 10 then
                  (zCall zCode kModel_isNumber [.ref x0, .int x3, .int (zi 0)] h3).bind (zRI fun r6 h5 =>
                    if r6 = 0 then
                      zRun zCode kModel_copy 99 [.ref x0, .int x1, .int x2, .int x3, .int r2, .retAddr 0, .retAddr 0] [.int (zi 1)] h5
                    else
                      zRun zCode kModel_copy 99 [.ref x0, .int x1, .int x2, .int x3, .int r2, .retAddr 0, .retAddr 0] [.int (zi 0)] h5)
                else
                  none
              else
                zRun zCode kModel_copy 99 [.ref x0, .int x1, .int x2, .int x3, .int r2, .retAddr 0, .retAddr 0] [.int (zi 0)] h3)
          else
            none)
      else
        none
  := (zRun_eb [6, 20, 30, 46, 99, 124, 140] 400 46 _ _ _).trans rfl
set_option maxRecDepth 100000 in
set_option maxHeartbeats 4000000 in
theorem zb_Model_copy_99 (x0 : Nat) (x1 : Int32) (x2 : Int32) (x3 : Int32) (x4 : Int32) (y0 : Int32) (h : zH) : zRun zCode kModel_copy 99 [.ref x0, .int x1, .int x2, .int x3, .int x4, .retAddr 0, .retAddr 0] [.int y0] h =
    if y0 = 0 then
      if (h.2.2 x0).1 = 10 then
        (zCall zCode kModel_assigns [.ref x0, .int x3] h).bind (zRI fun r2 h1 =>
          if r2 = 0 then
            zRun zCode kModel_copy 140 [.ref x0, .int x1, .int x2, .int x3, .int x4, .int y0, .retAddr 0] [] h1
          else
            (zVA (zAt h1 x0 10 19)).bind fun a3 =>
            (zIx h1 a3 100 x4).bind fun j4 =>
            (zPut h1 a3 100 j4 (.int (zi (-1)))).bind fun h5 =>
            zRun zCode kModel_copy 124 [.ref x0, .int x1, .int x2, .int x3, .int x4, .int y0, .int (zi 0)] [] h5)
      else
        none
    else
      if (h.2.2 x0).1 = 10 then
        (zCall zCode kModel_get [.ref x0, .int x3, .int (zi 3)] h).bind (zRI fun r7 h6 =>
          if r7 = x4 then
            if (h6.2.2 x0).1 = 10 then
              (zCall zCode kModel_takeOut [.ref x0, .int x3] h6).bind (zRV fun h13 =>
                zRun zCode kModel_copy 6 [.ref x0, .int (x1 + zi 1), .int x2, .int x3, .retAddr 0, .retAddr 0, .retAddr 0] [] h13)
            else
              none
          else
            if (h6.2.2 x0).1 = 10 then
              (zCall zCode kModel_assigns [.ref x0, .int x3] h6).bind (zRI fun r9 h8 =>
                if r9 = 0 then
                  zRun zCode kModel_copy 140 [.ref x0, .int x1, .int x2, .int x3, .int x4, .int y0, .retAddr 0] [] h8
                else
                  (zVA (zAt h8 x0 10 19)).bind fun a10 =>
                  (zIx h8 a10 100 x4).bind fun j11 =>
                  (zPut h8 a10 100 j11 (.int (zi (-1)))).bind fun h12 =>
                  zRun zCode kModel_copy 124 [.ref x0, .int x1, .int x2, .int x3, .int x4, .int y0, .int (zi 0)] [] h12)
            else
              none)
      else
        none
  := (zRun_eb [6, 20, 30, 46, 99, 124, 140] 400 99 _ _ _).trans rfl
set_option maxRecDepth 100000 in
set_option maxHeartbeats 4000000 in
theorem zb_Model_copy_124 (x0 : Nat) (x1 : Int32) (x2 : Int32) (x3 : Int32) (x4 : Int32) (x5 : Int32) (x6 : Int32) (h : zH) : zRun zCode kModel_copy 124 [.ref x0, .int x1, .int x2, .int x3, .int x4, .int x5, .int x6] [] h =
    if x6 < (zi 12) then
      (zVA (zAt h x0 10 19)).bind fun a1 =>
      (zIx h a1 100 x6).bind fun j2 =>
      (zVI (zAt h a1 100 j2)).bind fun v3 =>
      if v3 = x4 then
        (zVA (zAt h x0 10 19)).bind fun a4 =>
        (zIx h a4 100 x6).bind fun j5 =>
        (zPut h a4 100 j5 (.int (zi (-1)))).bind fun h6 =>
        zRun zCode kModel_copy 124 [.ref x0, .int x1, .int x2, .int x3, .int x4, .int x5, .int (x6 + zi 1)] [] h6
      else
        zRun zCode kModel_copy 124 [.ref x0, .int x1, .int x2, .int x3, .int x4, .int x5, .int (x6 + zi 1)] [] h
    else
      zRun zCode kModel_copy 140 [.ref x0, .int x1, .int x2, .int x3, .int x4, .int x5, .retAddr 0] [] h
  := (zRun_eb [6, 20, 30, 46, 99, 124, 140] 400 124 _ _ _).trans rfl
set_option maxRecDepth 100000 in
set_option maxHeartbeats 4000000 in
theorem zb_Model_copy_140 (x0 : Nat) (x1 : Int32) (x2 : Int32) (x3 : Int32) (x4 : Int32) (x5 : Int32) (h : zH) : zRun zCode kModel_copy 140 [.ref x0, .int x1, .int x2, .int x3, .int x4, .int x5, .retAddr 0] [] h =
    if x5 = 0 then
      zRun zCode kModel_copy 6 [.ref x0, .int x1, .int x2, .int (x3 + zi 1), .retAddr 0, .retAddr 0, .retAddr 0] [] h
    else
      (zVA (zAt h x0 10 19)).bind fun a1 =>
      if (h.2.2 x0).1 = 10 then
        (zCall zCode kModel_get [.ref x0, .int x3, .int (zi 3)] h).bind (zRI fun r3 h2 =>
          (zIx h2 a1 100 x4).bind fun j4 =>
          (zPut h2 a1 100 j4 (.int r3)).bind fun h5 =>
          zRun zCode kModel_copy 6 [.ref x0, .int x1, .int x2, .int (x3 + zi 1), .retAddr 0, .retAddr 0, .retAddr 0] [] h5)
      else
        none
  := (zRun_eb [6, 20, 30, 46, 99, 124, 140] 400 140 _ _ _).trans rfl
set_option maxRecDepth 100000 in
set_option maxHeartbeats 4000000 in
theorem zb_Model_value2_0 (x0 : Nat) (h : zH) : zRun zCode kModel_value2 0 [.ref x0, .retAddr 0, .retAddr 0, .retAddr 0, .retAddr 0] [] h =
    zRun zCode kModel_value2 6 [.ref x0, .int (zi 0), .int (zi 0), .int (zi 0), .retAddr 0] [] h
  := (zRun_eb [6, 26, 49] 400 0 _ _ _).trans rfl
set_option maxRecDepth 100000 in
set_option maxHeartbeats 4000000 in
theorem zb_Model_value2_6 (x0 : Nat) (x1 : Int32) (x2 : Int32) (x3 : Int32) (h : zH) : zRun zCode kModel_value2 6 [.ref x0, .int x1, .int x2, .int x3, .retAddr 0] [] h =
    (zVA (zAt h x0 10 3)).bind fun a1 =>
    (zCall zCode kModel_many [.ref a1] h).bind (zRI fun r3 h2 =>
      if x3 < r3 then
        if (h2.2.2 x0).1 = 10 then
          (zCall zCode kModel_beginsBlock [.ref x0, .int x3] h2).bind (zRI fun r5 h4 =>
            if r5 = 0 then
              if (h4.2.2 x0).1 = 10 then
                (zCall zCode kModel_get [.ref x0, .int x3, .int (zi 0)] h4).bind (zRI fun r7 h6 =>
                  if r7 = (zi 2) then
                    zRun zCode kModel_value2 26 [.ref x0, .int x1, .int x2, .int x3, .int x2] [] h6
                  else
                    zRun zCode kModel_value2 6 [.ref x0, .int x1, .int x2, .int (x3 + zi 1), .retAddr 0] [] h6)
              else
                none
            else
              if (h4.2.2 x0).1 = 10 then
                (zCall zCode kModel_get [.ref x0, .int x3, .int (zi 0)] h4).bind (zRI fun r9 h8 =>
                  if r9 = (zi 2) then
                    zRun zCode kModel_value2 26 [.ref x0, .int x1, .int x3, .int x3, .int x3] [] h8
                  else
                    zRun zCode kModel_value2 6 [.ref x0, .int x1, .int x3, .int (x3 + zi 1), .retAddr 0] [] h8)
              else
                none)
        else
          none
      else
        some (.inl (some (.int x1), h2)))
  := (zRun_eb [6, 26, 49] 400 6 _ _ _).trans rfl
set_option maxRecDepth 100000 in
set_option maxHeartbeats 4000000 in
theorem zb_Model_value2_26 (x0 : Nat) (x1 : Int32) (x2 : Int32) (x3 : Int32) (x4 : Int32) (h : zH) : zRun zCode kModel_value2 26 [.ref x0, .int x1, .int x2, .int x3, .int x4] [] h =
    if x4 < x3 then
      if (h.2.2 x0).1 = 10 then
        (zCall zCode kModel_isSameTwo [.ref x0, .int x3, .int x4] h).bind (zRI fun r2 h1 =>
          if r2 = 0 then
            zRun zCode kModel_value2 26 [.ref x0, .int x1, .int x2, .int x3, .int (x4 + zi 1)] [] h1
          else
            if (h1.2.2 x0).1 = 10 then
              (zCall zCode kModel_get [.ref x0, .int x4, .int (zi 1)] h1).bind (zRI fun r4 h3 =>
                if (h3.2.2 x0).1 = 10 then
                  (zCall zCode kModel_reads [.ref x0, .int x4, .int r4] h3).bind (zRI fun r6 h5 =>
                    if r6 = 0 then
                      if (h5.2.2 x0).1 = 10 then
                        (zCall zCode kModel_isKept [.ref x0, .int x4, .int x3] h5).bind (zRI fun r8 h7 =>
                          if r8 = 0 then
                            zRun zCode kModel_value2 26 [.ref x0, .int x1, .int x2, .int x3, .int (x4 + zi 1)] [] h7
                          else
                            zRun zCode kModel_value2 49 [.ref x0, .int x1, .int x2, .int x3, .int x4] [] h7)
                      else
                        none
                    else
                      zRun zCode kModel_value2 26 [.ref x0, .int x1, .int x2, .int x3, .int (x4 + zi 1)] [] h5)
                else
                  none)
            else
              none)
      else
        none
    else
      zRun zCode kModel_value2 49 [.ref x0, .int x1, .int x2, .int x3, .int x4] [] h
  := (zRun_eb [6, 26, 49] 400 26 _ _ _).trans rfl
set_option maxRecDepth 100000 in
set_option maxHeartbeats 4000000 in
theorem zb_Model_value2_49 (x0 : Nat) (x1 : Int32) (x2 : Int32) (x3 : Int32) (x4 : Int32) (h : zH) : zRun zCode kModel_value2 49 [.ref x0, .int x1, .int x2, .int x3, .int x4] [] h =
    if x4 = x3 then
      zRun zCode kModel_value2 6 [.ref x0, .int x1, .int x2, .int (x3 + zi 1), .retAddr 0] [] h
    else
      if (h.2.2 x0).1 = 10 then
        (zCall zCode kModel_get [.ref x0, .int x3, .int (zi 1)] h).bind (zRI fun r2 h1 =>
          if (h1.2.2 x0).1 = 10 then
            (zCall zCode kModel_lay [.ref x0, .int x3, .int (zi 1), .int r2, .int (zi (-1))] h1).bind (zRV fun h3 =>
              if (h3.2.2 x0).1 = 10 then
                (zCall zCode kModel_get [.ref x0, .int x4, .int (zi 1)] h3).bind (zRI fun r5 h4 =>
                  if (h4.2.2 x0).1 = 10 then
                    (zCall zCode kModel_set [.ref x0, .int x3, .int (zi 3), .long r5.toInt64] h4).bind (zRV fun h6 =>
                      zRun zCode kModel_value2 6 [.ref x0, .int (x1 + zi 1), .int x2, .int (x3 + zi 1), .retAddr 0] [] h6)
                  else
                    none)
              else
                none)
          else
            none)
      else
        none
  := (zRun_eb [6, 26, 49] 400 49 _ _ _).trans rfl
set_option maxRecDepth 100000 in
set_option maxHeartbeats 4000000 in
theorem zb_Model_isSameTwo_0 (x0 : Nat) (x1 : Int32) (x2 : Int32) (h : zH) : zRun zCode kModel_isSameTwo 0 [.ref x0, .int x1, .int x2, .retAddr 0, .retAddr 0] [] h =
    if (h.2.2 x0).1 = 10 then
      (zCall zCode kModel_get [.ref x0, .int x1, .int (zi 2)] h).bind (zRI fun r2 h1 =>
        if (h1.2.2 x0).1 = 10 then
          (zCall zCode kModel_get [.ref x0, .int x2, .int (zi 0)] h1).bind (zRI fun r4 h3 =>
            if r4 = (zi 2) then
              if (h3.2.2 x0).1 = 10 then
                (zCall zCode kModel_get [.ref x0, .int x2, .int (zi 2)] h3).bind (zRI fun r7 h6 =>
                  if r7 = r2 then
                    if r2 = 0 then
                      zRun zCode kModel_isSameTwo 36 [.ref x0, .int x1, .int x2, .retAddr 0, .retAddr 0] [.int (zi 1)] h6
                    else
                      if r2 = (zi 2) then
                        zRun zCode kModel_isSameTwo 36 [.ref x0, .int x1, .int x2, .retAddr 0, .retAddr 0] [.int (zi 1)] h6
                      else
                        (zCall zCode kModel_isIn [.long r2.toInt64, .long (zl 5), .long (zl 7)] h6).bind (zRI fun r9 h8 =>
                          if r9 = 0 then
                            if r2 = (zi 9) then
                              zRun zCode kModel_isSameTwo 36 [.ref x0, .int x1, .int x2, .retAddr 0, .retAddr 0] [.int (zi 1)] h8
                            else
                              zRun zCode kModel_isSameTwo 36 [.ref x0, .int x1, .int x2, .retAddr 0, .retAddr 0] [.int (zi 0)] h8
                          else
                            zRun zCode kModel_isSameTwo 36 [.ref x0, .int x1, .int x2, .retAddr 0, .retAddr 0] [.int (zi 1)] h8)
                  else
                    (zB (zi 0)).bind fun b10 =>
                    some (.inl (some (.int b10), h6)))
              else
                none
            else
              (zB (zi 0)).bind fun b5 =>
              some (.inl (some (.int b5), h3)))
        else
          none)
    else
      none
  := (zRun_eb [36, 51] 400 0 _ _ _).trans rfl
set_option maxRecDepth 100000 in
set_option maxHeartbeats 4000000 in
theorem zb_Model_isSameTwo_36 (x0 : Nat) (x1 : Int32) (x2 : Int32) (y0 : Int32) (h : zH) : zRun zCode kModel_isSameTwo 36 [.ref x0, .int x1, .int x2, .retAddr 0, .retAddr 0] [.int y0] h =
    if (h.2.2 x0).1 = 10 then
      (zCall zCode kModel_isSameValue [.ref x0, .int x1, .int (zi 0), .int x2, .int (zi 0)] h).bind (zRI fun r2 h1 =>
        if r2 = 0 then
          zRun zCode kModel_isSameTwo 51 [.ref x0, .int x1, .int x2, .retAddr 0, .int y0] [] h1
        else
          if (h1.2.2 x0).1 = 10 then
            (zCall zCode kModel_isSameValue [.ref x0, .int x1, .int (zi 1), .int x2, .int (zi 1)] h1).bind (zRI fun r4 h3 =>
              if r4 = 0 then
                zRun zCode kModel_isSameTwo 51 [.ref x0, .int x1, .int x2, .retAddr 0, .int y0] [] h3
              else
                (zB (zi 1)).bind fun b5 =>
                some (.inl (some (.int b5), h3)))
          else
            none)
    else
      none
  := (zRun_eb [36, 51] 400 36 _ _ _).trans rfl
set_option maxRecDepth 100000 in
set_option maxHeartbeats 4000000 in
theorem zb_Model_isSameTwo_51 (x0 : Nat) (x1 : Int32) (x2 : Int32) (x4 : Int32) (h : zH) : zRun zCode kModel_isSameTwo 51 [.ref x0, .int x1, .int x2, .retAddr 0, .int x4] [] h =
    if x4 = 0 then
      (zB (zi 0)).bind fun b1 =>
      some (.inl (some (.int b1), h))
    else
      if (h.2.2 x0).1 = 10 then
        (zCall zCode kModel_isSameValue [.ref x0, .int x1, .int (zi 0), .int x2, .int (zi 1)] h).bind (zRI fun r3 h2 =>
          if r3 = 0 then
            (zB (zi 0)).bind fun b4 =>
            some (.inl (some (.int b4), h2))
          else
            if (h2.2.2 x0).1 = 10 then
              (zCall zCode kModel_isSameValue [.ref x0, .int x1, .int (zi 1), .int x2, .int (zi 0)] h2).bind (zRI fun r6 h5 =>
                if r6 = 0 then
                  (zB (zi 0)).bind fun b7 =>
                  some (.inl (some (.int b7), h5))
                else
                  (zB (zi 1)).bind fun b8 =>
                  some (.inl (some (.int b8), h5)))
            else
              none)
      else
        none
  := (zRun_eb [36, 51] 400 51 _ _ _).trans rfl
set_option maxRecDepth 100000 in
set_option maxHeartbeats 4000000 in
theorem zb_Model_isSameValue_0 (x0 : Nat) (x1 : Int32) (x2 : Int32) (x3 : Int32) (x4 : Int32) (h : zH) : zRun zCode kModel_isSameValue 0 [.ref x0, .int x1, .int x2, .int x3, .int x4] [] h =
    if (h.2.2 x0).1 = 10 then
      (zCall zCode kModel_get [.ref x0, .int x1, .int ((zi 3) + x2)] h).bind (zRI fun r2 h1 =>
        if (h1.2.2 x0).1 = 10 then
          (zCall zCode kModel_get [.ref x0, .int x3, .int ((zi 3) + x4)] h1).bind (zRI fun r4 h3 =>
            if r2 = r4 then
              (zVA (zAt h3 x0 10 3)).bind fun a6 =>
              (zCall zCode kModel_numberOf [.ref a6, .int x1, .int x2] h3).bind (zRL fun r8 h7 =>
                (zVA (zAt h7 x0 10 3)).bind fun a9 =>
                (zCall zCode kModel_numberOf [.ref a9, .int x3, .int x4] h7).bind (zRL fun r11 h10 =>
                  if (lg_cmp r8 r11) = 0 then
                    (zB (zi 1)).bind fun b13 =>
                    some (.inl (some (.int b13), h10))
                  else
                    (zB (zi 0)).bind fun b12 =>
                    some (.inl (some (.int b12), h10))))
            else
              (zB (zi 0)).bind fun b5 =>
              some (.inl (some (.int b5), h3)))
        else
          none)
    else
      none
  := (zRun_eb [] 400 0 _ _ _).trans rfl
set_option maxRecDepth 100000 in
set_option maxHeartbeats 4000000 in
theorem zb_Model_reads_0 (x0 : Nat) (x1 : Int32) (x2 : Int32) (h : zH) : zRun zCode kModel_reads 0 [.ref x0, .int x1, .int x2] [] h =
    if x2 = (zi (-1)) then
      (zB (zi 0)).bind fun b1 =>
      some (.inl (some (.int b1), h))
    else
      if (h.2.2 x0).1 = 10 then
        (zCall zCode kModel_get [.ref x0, .int x1, .int (zi 3)] h).bind (zRI fun r3 h2 =>
          if r3 = x2 then
            (zB (zi 1)).bind fun b4 =>
            some (.inl (some (.int b4), h2))
          else
            if (h2.2.2 x0).1 = 10 then
              (zCall zCode kModel_get [.ref x0, .int x1, .int (zi 4)] h2).bind (zRI fun r6 h5 =>
                if r6 = x2 then
                  (zB (zi 1)).bind fun b8 =>
                  some (.inl (some (.int b8), h5))
                else
                  (zB (zi 0)).bind fun b7 =>
                  some (.inl (some (.int b7), h5)))
            else
              none)
      else
        none
  := (zRun_eb [] 400 0 _ _ _).trans rfl
set_option maxRecDepth 100000 in
set_option maxHeartbeats 4000000 in
theorem zb_Model_isKept_0 (x0 : Nat) (x1 : Int32) (x2 : Int32) (h : zH) : zRun zCode kModel_isKept 0 [.ref x0, .int x1, .int x2, .retAddr 0, .retAddr 0] [] h =
    if (h.2.2 x0).1 = 10 then
      (zCall zCode kModel_get [.ref x0, .int x1, .int (zi 1)] h).bind (zRI fun r2 h1 =>
        zRun zCode kModel_isKept 9 [.ref x0, .int x1, .int x2, .int r2, .int (x1 + (zi 1))] [] h1)
    else
      none
  := (zRun_eb [9] 400 0 _ _ _).trans rfl
set_option maxRecDepth 100000 in
set_option maxHeartbeats 4000000 in
theorem zb_Model_isKept_9 (x0 : Nat) (x1 : Int32) (x2 : Int32) (x3 : Int32) (x4 : Int32) (h : zH) : zRun zCode kModel_isKept 9 [.ref x0, .int x1, .int x2, .int x3, .int x4] [] h =
    if x4 < x2 then
      if (h.2.2 x0).1 = 10 then
        (zCall zCode kModel_assigns [.ref x0, .int x4] h).bind (zRI fun r3 h2 =>
          if r3 = 0 then
            zRun zCode kModel_isKept 9 [.ref x0, .int x1, .int x2, .int x3, .int (x4 + zi 1)] [] h2
          else
            if (h2.2.2 x0).1 = 10 then
              (zCall zCode kModel_get [.ref x0, .int x4, .int (zi 1)] h2).bind (zRI fun r5 h4 =>
                if r5 = x3 then
                  (zB (zi 0)).bind fun b6 =>
                  some (.inl (some (.int b6), h4))
                else
                  if (h4.2.2 x0).1 = 10 then
                    (zCall zCode kModel_get [.ref x0, .int x4, .int (zi 1)] h4).bind (zRI fun r8 h7 =>
                      if (h7.2.2 x0).1 = 10 then
                        (zCall zCode kModel_reads [.ref x0, .int x1, .int r8] h7).bind (zRI fun r10 h9 =>
                          if r10 = 0 then
                            zRun zCode kModel_isKept 9 [.ref x0, .int x1, .int x2, .int x3, .int (x4 + zi 1)] [] h9
                          else
                            (zB (zi 0)).bind fun b11 =>
                            some (.inl (some (.int b11), h9)))
                      else
                        none)
                  else
                    none)
            else
              none)
      else
        none
    else
      (zB (zi 1)).bind fun b1 =>
      some (.inl (some (.int b1), h))
  := (zRun_eb [9] 400 9 _ _ _).trans rfl
set_option maxRecDepth 100000 in
set_option maxHeartbeats 4000000 in
theorem zb_Model_drop_0 (x0 : Nat) (h : zH) : zRun zCode kModel_drop 0 [.ref x0, .retAddr 0, .retAddr 0] [] h =
    zRun zCode kModel_drop 4 [.ref x0, .int (zi 0), .int (zi 0)] [] h
  := (zRun_eb [4, 15] 400 0 _ _ _).trans rfl
set_option maxRecDepth 100000 in
set_option maxHeartbeats 4000000 in
theorem zb_Model_drop_4 (x0 : Nat) (x1 : Int32) (x2 : Int32) (h : zH) : zRun zCode kModel_drop 4 [.ref x0, .int x1, .int x2] [] h =
    (zVA (zAt h x0 10 3)).bind fun a1 =>
    (zCall zCode kModel_many [.ref a1] h).bind (zRI fun r3 h2 =>
      if x2 < r3 then
        if x2 = 0 then
          if (h2.2.2 x0).1 = 10 then
            (zCall zCode kModel_findLive [.ref x0] h2).bind (zRV fun h4 =>
              if (h4.2.2 x0).1 = 10 then
                (zCall zCode kModel_findReach [.ref x0] h4).bind (zRV fun h5 =>
                  zRun zCode kModel_drop 15 [.ref x0, .int x1, .int x2] [] h5)
              else
                none)
          else
            none
        else
          zRun zCode kModel_drop 15 [.ref x0, .int x1, .int x2] [] h2
      else
        some (.inl (some (.int x1), h2)))
  := (zRun_eb [4, 15] 400 4 _ _ _).trans rfl
set_option maxRecDepth 100000 in
set_option maxHeartbeats 4000000 in
theorem zb_Model_drop_15 (x0 : Nat) (x1 : Int32) (x2 : Int32) (h : zH) : zRun zCode kModel_drop 15 [.ref x0, .int x1, .int x2] [] h =
    if (h.2.2 x0).1 = 10 then
      (zCall zCode kModel_isIdle [.ref x0, .int x2] h).bind (zRI fun r2 h1 =>
        if r2 = 0 then
          zRun zCode kModel_drop 4 [.ref x0, .int x1, .int (x2 + zi 1)] [] h1
        else
          if (h1.2.2 x0).1 = 10 then
            (zCall zCode kModel_takeOut [.ref x0, .int x2] h1).bind (zRV fun h3 =>
              zRun zCode kModel_drop 4 [.ref x0, .int (x1 + zi 1), .int (zi 0)] [] h3)
          else
            none)
    else
      none
  := (zRun_eb [4, 15] 400 15 _ _ _).trans rfl
set_option maxRecDepth 100000 in
set_option maxHeartbeats 4000000 in
theorem zb_Model_isIdle_0 (x0 : Nat) (x1 : Int32) (h : zH) : zRun zCode kModel_isIdle 0 [.ref x0, .int x1, .retAddr 0, .retAddr 0] [] h =
    if (h.2.2 x0).1 = 10 then
      (zCall zCode kModel_get [.ref x0, .int x1, .int (zi 0)] h).bind (zRI fun r2 h1 =>
        if r2 = 0 then
          if (h1.2.2 x0).1 = 10 then
            (zCall zCode kModel_get [.ref x0, .int x1, .int (zi 1)] h1).bind (zRI fun r9 h8 =>
              if (h8.2.2 x0).1 = 10 then
                (zCall zCode kModel_leadsTo [.ref x0, .int r9] h8).bind (zRI fun r11 h10 =>
                  if r11 = 0 then
                    (zB (zi 1)).bind fun b13 =>
                    some (.inl (some (.int b13), h10))
                  else
                    (zB (zi 0)).bind fun b12 =>
                    some (.inl (some (.int b12), h10)))
              else
                none)
          else
            none
        else
          (zVA (zAt h1 x0 10 16)).bind fun a3 =>
          (zIx h1 a3 102 x1).bind fun j4 =>
          (zVI (zAt h1 a3 102 j4)).bind fun v5 =>
          if v5 = 0 then
            (zB (zi 1)).bind fun b7 =>
            some (.inl (some (.int b7), h1))
          else
            if r2 = (zi 1) then
              zRun zCode kModel_isIdle 31 [.ref x0, .int x1, .retAddr 0, .retAddr 0] [] h1
            else
              if r2 = (zi 2) then
                zRun zCode kModel_isIdle 31 [.ref x0, .int x1, .retAddr 0, .retAddr 0] [] h1
              else
                if r2 = (zi 3) then
                  zRun zCode kModel_isIdle 56 [.ref x0, .int x1, .retAddr 0, .int (x1 + (zi 1))] [] h1
                else
                  (zB (zi 0)).bind fun b6 =>
                  some (.inl (some (.int b6), h1)))
    else
      none
  := (zRun_eb [31, 56, 77] 400 0 _ _ _).trans rfl
set_option maxRecDepth 100000 in
set_option maxHeartbeats 4000000 in
theorem zb_Model_isIdle_31 (x0 : Nat) (x1 : Int32) (h : zH) : zRun zCode kModel_isIdle 31 [.ref x0, .int x1, .retAddr 0, .retAddr 0] [] h =
    (zVA (zAt h x0 10 15)).bind fun a1 =>
    (zIx h a1 100 x1).bind fun j2 =>
    (zVI (zAt h a1 100 j2)).bind fun v3 =>
    if (h.2.2 x0).1 = 10 then
      (zCall zCode kModel_get [.ref x0, .int x1, .int (zi 1)] h).bind (zRI fun r5 h4 =>
        if ((v3 >>> (r5 &&& 31)) &&& (zi 1)) = 0 then
          (zB (zi 1)).bind fun b7 =>
          some (.inl (some (.int b7), h4))
        else
          (zB (zi 0)).bind fun b6 =>
          some (.inl (some (.int b6), h4)))
    else
      none
  := (zRun_eb [31, 56, 77] 400 31 _ _ _).trans rfl
set_option maxRecDepth 100000 in
set_option maxHeartbeats 4000000 in
theorem zb_Model_isIdle_56 (x0 : Nat) (x1 : Int32) (x3 : Int32) (h : zH) : zRun zCode kModel_isIdle 56 [.ref x0, .int x1, .retAddr 0, .int x3] [] h =
    (zVA (zAt h x0 10 3)).bind fun a1 =>
    (zCall zCode kModel_many [.ref a1] h).bind (zRI fun r3 h2 =>
      if x3 < r3 then
        if (h2.2.2 x0).1 = 10 then
          (zCall zCode kModel_get [.ref x0, .int x3, .int (zi 0)] h2).bind (zRI fun r5 h4 =>
            if r5 = 0 then
              if (h4.2.2 x0).1 = 10 then
                (zCall zCode kModel_get [.ref x0, .int x3, .int (zi 1)] h4).bind (zRI fun r7 h6 =>
                  if (h6.2.2 x0).1 = 10 then
                    (zCall zCode kModel_get [.ref x0, .int x1, .int (zi 1)] h6).bind (zRI fun r9 h8 =>
                      if r7 = r9 then
                        zRun zCode kModel_isIdle 77 [.ref x0, .retAddr 0, .retAddr 0, .int x3] [] h8
                      else
                        zRun zCode kModel_isIdle 56 [.ref x0, .int x1, .retAddr 0, .int (x3 + zi 1)] [] h8)
                  else
                    none)
              else
                none
            else
              zRun zCode kModel_isIdle 77 [.ref x0, .retAddr 0, .retAddr 0, .int x3] [] h4)
        else
          none
      else
        zRun zCode kModel_isIdle 77 [.ref x0, .retAddr 0, .retAddr 0, .int x3] [] h2)
  := (zRun_eb [31, 56, 77] 400 56 _ _ _).trans rfl
set_option maxRecDepth 100000 in
set_option maxHeartbeats 4000000 in
theorem zb_Model_isIdle_77 (x0 : Nat) (x3 : Int32) (h : zH) : zRun zCode kModel_isIdle 77 [.ref x0, .retAddr 0, .retAddr 0, .int x3] [] h =
    (zVA (zAt h x0 10 3)).bind fun a1 =>
    (zCall zCode kModel_many [.ref a1] h).bind (zRI fun r3 h2 =>
      if x3 < r3 then
        if (h2.2.2 x0).1 = 10 then
          (zCall zCode kModel_get [.ref x0, .int x3, .int (zi 0)] h2).bind (zRI fun r6 h5 =>
            if r6 = 0 then
              (zB (zi 1)).bind fun b8 =>
              some (.inl (some (.int b8), h5))
            else
              (zB (zi 0)).bind fun b7 =>
              some (.inl (some (.int b7), h5)))
        else
          none
      else
        (zB (zi 0)).bind fun b4 =>
        some (.inl (some (.int b4), h2)))
  := (zRun_eb [31, 56, 77] 400 77 _ _ _).trans rfl
set_option maxRecDepth 100000 in
set_option maxHeartbeats 4000000 in
theorem zb_Model_move_0 (x0 : Nat) (h : zH) : zRun zCode kModel_move 0 [.ref x0, .retAddr 0] [] h =
    zRun zCode kModel_move 2 [.ref x0, .int (zi 0)] [] h
  := (zRun_eb [2] 400 0 _ _ _).trans rfl
set_option maxRecDepth 100000 in
set_option maxHeartbeats 4000000 in
theorem zb_Model_move_2 (x0 : Nat) (x1 : Int32) (h : zH) : zRun zCode kModel_move 2 [.ref x0, .int x1] [] h =
    if (h.2.2 x0).1 = 10 then
      (zCall zCode kModel_moveOne [.ref x0] h).bind (zRI fun r2 h1 =>
        if r2 = 0 then
          some (.inl (some (.int x1), h1))
        else
          zRun zCode kModel_move 2 [.ref x0, .int (x1 + zi 1)] [] h1)
    else
      none
  := (zRun_eb [2] 400 2 _ _ _).trans rfl
set_option maxRecDepth 100000 in
set_option maxHeartbeats 4000000 in
theorem zb_Model_moveOne_0 (x0 : Nat) (h : zH) : zRun zCode kModel_moveOne 0 [.ref x0, .retAddr 0, .retAddr 0, .retAddr 0, .retAddr 0] [] h =
    if (h.2.2 x0).1 = 10 then
      (zCall zCode kModel_findLive [.ref x0] h).bind (zRV fun h1 =>
        zRun zCode kModel_moveOne 4 [.ref x0, .int (zi 0), .retAddr 0, .retAddr 0, .retAddr 0] [] h1)
    else
      none
  := (zRun_eb [4, 17] 400 0 _ _ _).trans rfl
set_option maxRecDepth 100000 in
set_option maxHeartbeats 4000000 in
theorem zb_Model_moveOne_4 (x0 : Nat) (x1 : Int32) (h : zH) : zRun zCode kModel_moveOne 4 [.ref x0, .int x1, .retAddr 0, .retAddr 0, .retAddr 0] [] h =
    (zVA (zAt h x0 10 3)).bind fun a1 =>
    (zCall zCode kModel_many [.ref a1] h).bind (zRI fun r3 h2 =>
      if x1 < r3 then
        if (h2.2.2 x0).1 = 10 then
          (zCall zCode kModel_loopEnd [.ref x0, .int x1] h2).bind (zRI fun r6 h5 =>
            zRun zCode kModel_moveOne 17 [.ref x0, .int x1, .int r6, .int (x1 + (zi 1)), .retAddr 0] [] h5)
        else
          none
      else
        (zB (zi 0)).bind fun b4 =>
        some (.inl (some (.int b4), h2)))
  := (zRun_eb [4, 17] 400 4 _ _ _).trans rfl
set_option maxRecDepth 100000 in
set_option maxHeartbeats 4000000 in
theorem zb_Model_moveOne_17 (x0 : Nat) (x1 : Int32) (x2 : Int32) (x3 : Int32) (h : zH) : zRun zCode kModel_moveOne 17 [.ref x0, .int x1, .int x2, .int x3, .retAddr 0] [] h =
    if x3 < x2 then
      if (h.2.2 x0).1 = 10 then
        (zCall zCode kModel_canMove [.ref x0, .int x1, .int x2, .int x3] h).bind (zRI fun r2 h1 =>
          if r2 = 0 then
            zRun zCode kModel_moveOne 17 [.ref x0, .int x1, .int x2, .int (x3 + zi 1), .retAddr 0] [] h1
          else
            if (zi 7) < 0 ∨ 65536 < (zi 7).toNatClampNeg then
              none
            else
              (zVA (zAt (zPush h1 (zi 7).toNatClampNeg (101, List.replicate (zi 7).toNatClampNeg (.long 0))) x0 10 3)).bind fun a3 =>
              (zACopy (zPush h1 (zi 7).toNatClampNeg (101, List.replicate (zi 7).toNatClampNeg (.long 0))) a3 ((zi 3) + ((zi 7) * x3)) h1.1 (zi 0) (zi 7)).bind fun h4 =>
              (zVA (zAt h4 x0 10 3)).bind fun a5 =>
              (zVA (zAt h4 x0 10 3)).bind fun a6 =>
              (zACopy h4 a5 ((zi 3) + ((zi 7) * x1)) a6 ((zi 3) + ((zi 7) * (x1 + (zi 1)))) ((zi 7) * (x3 - x1))).bind fun h7 =>
              (zVA (zAt h7 x0 10 3)).bind fun a8 =>
              (zACopy h7 h1.1 (zi 0) a8 ((zi 3) + ((zi 7) * x1)) (zi 7)).bind fun h9 =>
              (zB (zi 1)).bind fun b10 =>
              some (.inl (some (.int b10), h9)))
      else
        none
    else
      zRun zCode kModel_moveOne 4 [.ref x0, .int (x1 + zi 1), .retAddr 0, .retAddr 0, .retAddr 0] [] h
  := (zRun_eb [4, 17] 400 17 _ _ _).trans rfl
set_option maxRecDepth 100000 in
set_option maxHeartbeats 4000000 in
theorem zb_Model_canMove_0 (x0 : Nat) (x1 : Int32) (x2 : Int32) (x3 : Int32) (h : zH) : zRun zCode kModel_canMove 0 [.ref x0, .int x1, .int x2, .int x3, .retAddr 0, .retAddr 0, .retAddr 0, .retAddr 0] [] h =
    if (h.2.2 x0).1 = 10 then
      (zCall zCode kModel_get [.ref x0, .int x3, .int (zi 0)] h).bind (zRI fun r2 h1 =>
        (zCall zCode kModel_isIn [.long r2.toInt64, .long (zl 1), .long (zl 2)] h1).bind (zRI fun r4 h3 =>
          if r4 = 0 then
            (zB (zi 0)).bind fun b17 =>
            some (.inl (some (.int b17), h3))
          else
            if (h3.2.2 x0).1 = 10 then
              (zCall zCode kModel_get [.ref x0, .int x3, .int (zi 1)] h3).bind (zRI fun r6 h5 =>
                if (h5.2.2 x0).1 = 10 then
                  (zCall zCode kModel_reads [.ref x0, .int x3, .int r6] h5).bind (zRI fun r8 h7 =>
                    if r8 = 0 then
                      (zVA (zAt h7 x0 10 15)).bind fun a10 =>
                      (zIx h7 a10 100 x1).bind fun j11 =>
                      (zVI (zAt h7 a10 100 j11)).bind fun v12 =>
                      if ((v12 >>> (r6 &&& 31)) &&& (zi 1)) = (zi 1) then
                        (zB (zi 0)).bind fun b16 =>
                        some (.inl (some (.int b16), h7))
                      else
                        (zVA (zAt h7 x0 10 3)).bind fun a13 =>
                        (zCall zCode kModel_many [.ref a13] h7).bind (zRI fun r15 h14 =>
                          zRun zCode kModel_canMove 39 [.ref x0, .int x1, .int x2, .int x3, .int r6, .int r15, .int x1, .retAddr 0] [] h14)
                    else
                      (zB (zi 0)).bind fun b9 =>
                      some (.inl (some (.int b9), h7)))
                else
                  none)
            else
              none))
    else
      none
  := (zRun_eb [39, 67, 76] 400 0 _ _ _).trans rfl
set_option maxRecDepth 100000 in
set_option maxHeartbeats 4000000 in
theorem zb_Model_canMove_39 (x0 : Nat) (x1 : Int32) (x2 : Int32) (x3 : Int32) (x4 : Int32) (x5 : Int32) (x6 : Int32) (h : zH) : zRun zCode kModel_canMove 39 [.ref x0, .int x1, .int x2, .int x3, .int x4, .int x5, .int x6, .retAddr 0] [] h =
    if x2 < x6 then
      (zB (zi 1)).bind fun b1 =>
      some (.inl (some (.int b1), h))
    else
      if x6 = x3 then
        zRun zCode kModel_canMove 67 [.ref x0, .int x1, .int x2, .int x3, .int x4, .int x5, .int x6, .int (zi 0)] [] h
      else
        if (h.2.2 x0).1 = 10 then
          (zCall zCode kModel_assigns [.ref x0, .int x6] h).bind (zRI fun r3 h2 =>
            if r3 = 0 then
              zRun zCode kModel_canMove 67 [.ref x0, .int x1, .int x2, .int x3, .int x4, .int x5, .int x6, .int (zi 0)] [] h2
            else
              if (h2.2.2 x0).1 = 10 then
                (zCall zCode kModel_get [.ref x0, .int x6, .int (zi 1)] h2).bind (zRI fun r5 h4 =>
                  if r5 = x4 then
                    (zB (zi 0)).bind fun b6 =>
                    some (.inl (some (.int b6), h4))
                  else
                    if (h4.2.2 x0).1 = 10 then
                      (zCall zCode kModel_get [.ref x0, .int x6, .int (zi 1)] h4).bind (zRI fun r8 h7 =>
                        if (h7.2.2 x0).1 = 10 then
                          (zCall zCode kModel_reads [.ref x0, .int x3, .int r8] h7).bind (zRI fun r10 h9 =>
                            if r10 = 0 then
                              zRun zCode kModel_canMove 67 [.ref x0, .int x1, .int x2, .int x3, .int x4, .int x5, .int x6, .int (zi 0)] [] h9
                            else
                              (zB (zi 0)).bind fun b11 =>
                              some (.inl (some (.int b11), h9)))
                        else
                          none)
                    else
                      none)
              else
                none)
        else
          none
  := (zRun_eb [39, 67, 76] 400 39 _ _ _).trans rfl
set_option maxRecDepth 100000 in
set_option maxHeartbeats 4000000 in
theorem zb_Model_canMove_67 (x0 : Nat) (x1 : Int32) (x2 : Int32) (x3 : Int32) (x4 : Int32) (x5 : Int32) (x6 : Int32) (x7 : Int32) (h : zH) : zRun zCode kModel_canMove 67 [.ref x0, .int x1, .int x2, .int x3, .int x4, .int x5, .int x6, .int x7] [] h =
    if x7 < x5 then
      if x7 < x1 then
        zRun zCode kModel_canMove 76 [.ref x0, .int x1, .int x2, .int x3, .int x4, .int x5, .int x6, .int x7] [] h
      else
        if x2 < x7 then
          zRun zCode kModel_canMove 76 [.ref x0, .int x1, .int x2, .int x3, .int x4, .int x5, .int x6, .int x7] [] h
        else
          zRun zCode kModel_canMove 67 [.ref x0, .int x1, .int x2, .int x3, .int x4, .int x5, .int x6, .int (x7 + zi 1)] [] h
    else
      zRun zCode kModel_canMove 39 [.ref x0, .int x1, .int x2, .int x3, .int x4, .int x5, .int (x6 + zi 1), .retAddr 0] [] h
  := (zRun_eb [39, 67, 76] 400 67 _ _ _).trans rfl
set_option maxRecDepth 100000 in
set_option maxHeartbeats 4000000 in
theorem zb_Model_canMove_76 (x0 : Nat) (x1 : Int32) (x2 : Int32) (x3 : Int32) (x4 : Int32) (x5 : Int32) (x6 : Int32) (x7 : Int32) (h : zH) : zRun zCode kModel_canMove 76 [.ref x0, .int x1, .int x2, .int x3, .int x4, .int x5, .int x6, .int x7] [] h =
    if (h.2.2 x0).1 = 10 then
      (zCall zCode kModel_follows [.ref x0, .int x6, .int x7] h).bind (zRI fun r2 h1 =>
        if r2 = 0 then
          zRun zCode kModel_canMove 67 [.ref x0, .int x1, .int x2, .int x3, .int x4, .int x5, .int x6, .int (x7 + zi 1)] [] h1
        else
          if (h1.2.2 x0).1 = 10 then
            (zCall zCode kModel_ahead [.ref x0, .int x7] h1).bind (zRI fun r4 h3 =>
              if ((r4 >>> (x4 &&& 31)) &&& (zi 1)) = (zi 1) then
                (zB (zi 0)).bind fun b5 =>
                some (.inl (some (.int b5), h3))
              else
                zRun zCode kModel_canMove 67 [.ref x0, .int x1, .int x2, .int x3, .int x4, .int x5, .int x6, .int (x7 + zi 1)] [] h3)
          else
            none)
    else
      none
  := (zRun_eb [39, 67, 76] 400 76 _ _ _).trans rfl
set_option maxRecDepth 100000 in
set_option maxHeartbeats 4000000 in
theorem zb_Model_better_0 (x0 : Nat) (x1 : Int32) (h : zH) : zRun zCode kModel_better 0 [.ref x0, .int x1, .retAddr 0, .retAddr 0, .retAddr 0, .retAddr 0] [] h =
    (zPut h x0 10 0 (.int (zi 0))).bind fun h1 =>
    if (h1.2.2 x0).1 = 10 then
      (zCall zCode kModel_isProgram [.ref x0, .int x1] h1).bind (zRI fun r3 h2 =>
        if r3 = 0 then
          if (h2.2.2 x0).1 = 10 then
            (zCall zCode kModel_fail [.ref x0, .int (zi 1)] h2).bind (zRI fun r9 h8 =>
              some (.inl (some (.int r9), h8)))
          else
            none
        else
          (zVI (zAt h2 x0 10 1)).bind fun v4 =>
          if v4 = (zi 12) then
            if (h2.2.2 x0).1 = 10 then
              (zCall zCode kModel_fail [.ref x0, .int (zi 2)] h2).bind (zRI fun r7 h6 =>
                some (.inl (some (.int r7), h6)))
            else
              none
          else
            if (h2.2.2 x0).1 = 10 then
              (zCall zCode kModel_begin [.ref x0, .int x1] h2).bind (zRV fun h5 =>
                zRun zCode kModel_better 28 [.ref x0, .retAddr 0, .int (zi 0), .int (zi (-1)), .int (zi 0), .retAddr 0] [] h5)
            else
              none)
    else
      none
  := (zRun_eb [28, 38] 400 0 _ _ _).trans rfl
set_option maxRecDepth 100000 in
set_option maxHeartbeats 4000000 in
theorem zb_Model_better_28 (x0 : Nat) (x2 : Int32) (x3 : Int32) (x4 : Int32) (h : zH) : zRun zCode kModel_better 28 [.ref x0, .retAddr 0, .int x2, .int x3, .int x4, .retAddr 0] [] h =
    if x4 < (zi 8) then
      if x2 = x3 then
        some (.inl (some (.int x2), h))
      else
        zRun zCode kModel_better 38 [.ref x0, .retAddr 0, .int x2, .int x2, .int x4, .int (zi 0)] [] h
    else
      some (.inl (some (.int x2), h))
  := (zRun_eb [28, 38] 400 28 _ _ _).trans rfl
set_option maxRecDepth 100000 in
set_option maxHeartbeats 4000000 in
theorem zb_Model_better_38 (x0 : Nat) (x2 : Int32) (x3 : Int32) (x4 : Int32) (x5 : Int32) (h : zH) : zRun zCode kModel_better 38 [.ref x0, .retAddr 0, .int x2, .int x3, .int x4, .int x5] [] h =
    if x5 < (zi 5) then
      if (h.2.2 x0).1 = 10 then
        (zCall zCode kModel_make [.ref x0, .int x5] h).bind (zRI fun r2 h1 =>
          zRun zCode kModel_better 38 [.ref x0, .retAddr 0, .int (x2 + r2), .int x3, .int x4, .int (x5 + zi 1)] [] h1)
      else
        none
    else
      zRun zCode kModel_better 28 [.ref x0, .retAddr 0, .int x2, .int x3, .int (x4 + zi 1), .retAddr 0] [] h
  := (zRun_eb [28, 38] 400 38 _ _ _).trans rfl
set_option maxRecDepth 100000 in
set_option maxHeartbeats 4000000 in
theorem zb_Model_put_0 (x0 : Nat) (x1 : Int64) (h : zH) : zRun zCode kModel_put 0 [.ref x0, .long x1, .retAddr 0] [] h =
    (zPut h x0 10 0 (.int (zi 0))).bind fun h1 =>
    (zVI (zAt h1 x0 10 20)).bind fun v2 =>
    if v2 = (zi 30) then
      if (h1.2.2 x0).1 = 10 then
        (zCall zCode kModel_fail [.ref x0, .int (zi 1)] h1).bind (zRI fun r11 h10 =>
          some (.inl (some (.int r11), h10)))
      else
        none
    else
      (zVA (zAt h1 x0 10 21)).bind fun a3 =>
      (zVI (zAt h1 x0 10 20)).bind fun v4 =>
      (zIx h1 a3 101 v4).bind fun j5 =>
      (zPut h1 a3 101 j5 (.long x1)).bind fun h6 =>
      (zVI (zAt h6 x0 10 20)).bind fun v7 =>
      (zPut h6 x0 10 20 (.int (v7 + (zi 1)))).bind fun h8 =>
      (zVI (zAt h8 x0 10 20)).bind fun v9 =>
      some (.inl (some (.int v9), h8))
  := (zRun_eb [] 400 0 _ _ _).trans rfl
set_option maxRecDepth 100000 in
set_option maxHeartbeats 4000000 in
theorem zb_Model_empty_0 (x0 : Nat) (h : zH) : zRun zCode kModel_empty 0 [.ref x0, .retAddr 0] [] h =
    (zPut h x0 10 0 (.int (zi 0))).bind fun h1 =>
    (zVI (zAt h1 x0 10 20)).bind fun v2 =>
    (zPut h1 x0 10 20 (.int (zi 0))).bind fun h3 =>
    some (.inl (some (.int v2), h3))
  := (zRun_eb [] 400 0 _ _ _).trans rfl
set_option maxRecDepth 100000 in
set_option maxHeartbeats 4000000 in
theorem zb_Model_run_0 (x0 : Nat) (x1 : Int32) (x2 : Int32) (h : zH) : zRun zCode kModel_run 0 [.ref x0, .int x1, .int x2, .retAddr 0, .retAddr 0] [] h =
    (zPut h x0 10 0 (.int (zi 0))).bind fun h1 =>
    if (h1.2.2 x0).1 = 10 then
      (zCall zCode kModel_isProgram [.ref x0, .int x1] h1).bind (zRI fun r3 h2 =>
        if r3 = 0 then
          if (h2.2.2 x0).1 = 10 then
            (zCall zCode kModel_fail [.ref x0, .int (zi 1)] h2).bind (zRI fun r20 h19 =>
              some (.inl (some (.int r20), h19)))
          else
            none
        else
          (zCall zCode kModel_isIn [.long x2.toInt64, .long (zl 1), .long (zl 5000)] h2).bind (zRI fun r5 h4 =>
            if r5 = 0 then
              if (h4.2.2 x0).1 = 10 then
                (zCall zCode kModel_fail [.ref x0, .int (zi 2)] h4).bind (zRI fun r18 h17 =>
                  some (.inl (some (.int r18), h17)))
              else
                none
            else
              (zVA (zAt h4 x0 10 21)).bind fun a6 =>
              (zVI (zAt h4 x0 10 20)).bind fun v7 =>
              if (h4.2.2 x0).1 = 10 then
                (zCall zCode kModel_runWith [.ref x0, .int x1, .int x2, .ref a6, .int v7] h4).bind (zRI fun r9 h8 =>
                  (zVA (zAt h8 x0 10 22)).bind fun a10 =>
                  (zVA (zAt h8 x0 10 27)).bind fun a11 =>
                  (zACopy h8 a10 (zi 0) a11 (zi 0) (zi 12)).bind fun h12 =>
                  (zVA (zAt h12 x0 10 23)).bind fun a13 =>
                  (zVA (zAt h12 x0 10 28)).bind fun a14 =>
                  (zACopy h12 a13 (zi 0) a14 (zi 0) (zi 60)).bind fun h15 =>
                  if (zi 3) < 0 ∨ 65536 < (zi 3).toNatClampNeg then
                    none
                  else
                    (zVI (zAt (zPush h15 (zi 3).toNatClampNeg (100, List.replicate (zi 3).toNatClampNeg (.int 0))) x0 10 24)).bind fun v16 =>
                    if v16 = 0 then
                      zRun zCode kModel_run 56 [.ref x0, .retAddr 0, .retAddr 0, .int r9, .retAddr 0] [.int (zi 0), .int (zi 0), .ref h15.1, .ref h15.1] (zPush h15 (zi 3).toNatClampNeg (100, List.replicate (zi 3).toNatClampNeg (.int 0)))
                    else
                      zRun zCode kModel_run 56 [.ref x0, .retAddr 0, .retAddr 0, .int r9, .retAddr 0] [.int (zi 1), .int (zi 0), .ref h15.1, .ref h15.1] (zPush h15 (zi 3).toNatClampNeg (100, List.replicate (zi 3).toNatClampNeg (.int 0))))
              else
                none))
    else
      none
  := (zRun_eb [56] 400 0 _ _ _).trans rfl
set_option maxRecDepth 100000 in
set_option maxHeartbeats 4000000 in
theorem zb_Model_run_56 (x0 : Nat) (x3 : Int32) (y0 : Int32) (y1 : Int32) (y2 : Nat) (y3 : Nat) (h : zH) : zRun zCode kModel_run 56 [.ref x0, .retAddr 0, .retAddr 0, .int x3, .retAddr 0] [.int y0, .int y1, .ref y2, .ref y3] h =
    (zIx h y2 100 y1).bind fun j1 =>
    (zPut h y2 100 j1 (.int y0)).bind fun h2 =>
    (zVI (zAt h2 x0 10 25)).bind fun v3 =>
    (zIx h2 y3 100 (zi 1)).bind fun j4 =>
    (zPut h2 y3 100 j4 (.int v3)).bind fun h5 =>
    (zVI (zAt h5 x0 10 26)).bind fun v6 =>
    (zIx h5 y3 100 (zi 2)).bind fun j7 =>
    (zPut h5 y3 100 j7 (.int v6)).bind fun h8 =>
    (zVA (zAt h8 x0 10 29)).bind fun a9 =>
    (zACopy h8 y3 (zi 0) a9 (zi 0) (zi 3)).bind fun h10 =>
    some (.inl (some (.int x3), h10))
  := (zRun_eb [56] 400 56 _ _ _).trans rfl
set_option maxRecDepth 100000 in
set_option maxHeartbeats 4000000 in
theorem zb_Model_runWith_0 (x0 : Nat) (x1 : Int32) (x2 : Int32) (x3 : Nat) (x4 : Int32) (h : zH) : zRun zCode kModel_runWith 0 [.ref x0, .int x1, .int x2, .ref x3, .int x4, .retAddr 0, .retAddr 0] [] h =
    (zVA (zAt h x0 10 2)).bind fun a1 =>
    (zIx h a1 111 x1).bind fun j2 =>
    (zVA (zAt h a1 111 j2)).bind fun a3 =>
    (zPut h x0 10 3 (.ref a3)).bind fun h4 =>
    zRun zCode kModel_runWith 8 [.ref x0, .retAddr 0, .int x2, .ref x3, .int x4, .int (zi 0), .retAddr 0] [] h4
  := (zRun_eb [8, 30, 48] 400 0 _ _ _).trans rfl
set_option maxRecDepth 100000 in
set_option maxHeartbeats 4000000 in
theorem zb_Model_runWith_8 (x0 : Nat) (x2 : Int32) (x3 : Nat) (x4 : Int32) (x5 : Int32) (h : zH) : zRun zCode kModel_runWith 8 [.ref x0, .retAddr 0, .int x2, .ref x3, .int x4, .int x5, .retAddr 0] [] h =
    if x5 < (zi 12) then
      (zVA (zAt h x0 10 22)).bind fun a5 =>
      (zIx h a5 101 x5).bind fun j6 =>
      (zPut h a5 101 j6 (.long (zl 0))).bind fun h7 =>
      zRun zCode kModel_runWith 8 [.ref x0, .retAddr 0, .int x2, .ref x3, .int x4, .int (x5 + zi 1), .retAddr 0] [] h7
    else
      (zPut h x0 10 25 (.int (zi 0))).bind fun h1 =>
      (zPut h1 x0 10 26 (.int (zi 0))).bind fun h2 =>
      if (h2.2.2 x0).1 = 10 then
        (zCall zCode kModel_behindLabels [.ref x0, .int (zi 0)] h2).bind (zRI fun r4 h3 =>
          zRun zCode kModel_runWith 30 [.ref x0, .retAddr 0, .int x2, .ref x3, .int x4, .int (zi 0), .int r4] [] h3)
      else
        none
  := (zRun_eb [8, 30, 48] 400 8 _ _ _).trans rfl
set_option maxRecDepth 100000 in
set_option maxHeartbeats 4000000 in
theorem zb_Model_runWith_30 (x0 : Nat) (x2 : Int32) (x3 : Nat) (x4 : Int32) (x5 : Int32) (x6 : Int32) (h : zH) : zRun zCode kModel_runWith 30 [.ref x0, .retAddr 0, .int x2, .ref x3, .int x4, .int x5, .int x6] [] h =
    (zVA (zAt h x0 10 3)).bind fun a1 =>
    (zCall zCode kModel_many [.ref a1] h).bind (zRI fun r3 h2 =>
      if x6 < r3 then
        if x5 < x2 then
          if (h2.2.2 x0).1 = 10 then
            (zCall zCode kModel_step [.ref x0, .int x6, .ref x3, .int x4] h2).bind (zRI fun r5 h4 =>
              if (h4.2.2 x0).1 = 10 then
                (zCall zCode kModel_behindLabels [.ref x0, .int r5] h4).bind (zRI fun r7 h6 =>
                  zRun zCode kModel_runWith 30 [.ref x0, .retAddr 0, .int x2, .ref x3, .int x4, .int (x5 + zi 1), .int r7] [] h6)
              else
                none)
          else
            none
        else
          zRun zCode kModel_runWith 48 [.ref x0, .retAddr 0, .retAddr 0, .retAddr 0, .retAddr 0, .int x5, .int x6] [] h2
      else
        zRun zCode kModel_runWith 48 [.ref x0, .retAddr 0, .retAddr 0, .retAddr 0, .retAddr 0, .int x5, .int x6] [] h2)
  := (zRun_eb [8, 30, 48] 400 30 _ _ _).trans rfl
set_option maxRecDepth 100000 in
set_option maxHeartbeats 4000000 in
theorem zb_Model_runWith_48 (x0 : Nat) (x5 : Int32) (x6 : Int32) (h : zH) : zRun zCode kModel_runWith 48 [.ref x0, .retAddr 0, .retAddr 0, .retAddr 0, .retAddr 0, .int x5, .int x6] [] h =
    (zVA (zAt h x0 10 3)).bind fun a1 =>
    (zCall zCode kModel_many [.ref a1] h).bind (zRI fun r3 h2 =>
      if x6 < r3 then
        (zB (zi 0)).bind fun b5 =>
        (zPut h2 x0 10 24 (.int b5)).bind fun h4 =>
        some (.inl (some (.int x5), h4))
      else
        (zB (zi 1)).bind fun b7 =>
        (zPut h2 x0 10 24 (.int b7)).bind fun h6 =>
        some (.inl (some (.int x5), h6)))
  := (zRun_eb [8, 30, 48] 400 48 _ _ _).trans rfl
set_option maxRecDepth 100000 in
set_option maxHeartbeats 4000000 in
theorem zb_Model_behindLabels_0 (x0 : Nat) (x1 : Int32) (h : zH) : zRun zCode kModel_behindLabels 0 [.ref x0, .int x1, .retAddr 0] [] h =
    zRun zCode kModel_behindLabels 2 [.ref x0, .retAddr 0, .int x1] [] h
  := (zRun_eb [2] 400 0 _ _ _).trans rfl
set_option maxRecDepth 100000 in
set_option maxHeartbeats 4000000 in
theorem zb_Model_behindLabels_2 (x0 : Nat) (x2 : Int32) (h : zH) : zRun zCode kModel_behindLabels 2 [.ref x0, .retAddr 0, .int x2] [] h =
    (zVA (zAt h x0 10 3)).bind fun a1 =>
    (zCall zCode kModel_many [.ref a1] h).bind (zRI fun r3 h2 =>
      if x2 < r3 then
        if (h2.2.2 x0).1 = 10 then
          (zCall zCode kModel_get [.ref x0, .int x2, .int (zi 0)] h2).bind (zRI fun r5 h4 =>
            if r5 = 0 then
              zRun zCode kModel_behindLabels 2 [.ref x0, .retAddr 0, .int (x2 + zi 1)] [] h4
            else
              some (.inl (some (.int x2), h4)))
        else
          none
      else
        some (.inl (some (.int x2), h2)))
  := (zRun_eb [2] 400 2 _ _ _).trans rfl
set_option maxRecDepth 100000 in
set_option maxHeartbeats 4000000 in
theorem zb_Model_step_0 (x0 : Nat) (x1 : Int32) (x2 : Nat) (x3 : Int32) (h : zH) : zRun zCode kModel_step 0 [.ref x0, .int x1, .ref x2, .int x3, .retAddr 0] [] h =
    if (h.2.2 x0).1 = 10 then
      (zCall zCode kModel_get [.ref x0, .int x1, .int (zi 1)] h).bind (zRI fun r2 h1 =>
        if (h1.2.2 x0).1 = 10 then
          (zCall zCode kModel_get [.ref x0, .int x1, .int (zi 0)] h1).bind (zRI fun r4 h3 =>
            if r4 = zi 1 then
              (zVA (zAt h3 x0 10 22)).bind fun a49 =>
              if (h3.2.2 x0).1 = 10 then
                (zCall zCode kModel_valueOf [.ref x0, .int x1, .int (zi 0)] h3).bind (zRL fun r51 h50 =>
                  (zIx h50 a49 101 r2).bind fun j52 =>
                  (zPut h50 a49 101 j52 (.long r51)).bind fun h53 =>
                  some (.inl (some (.int (x1 + (zi 1))), h53)))
              else
                none
            else
              if r4 = zi 2 then
                (zVA (zAt h3 x0 10 22)).bind fun a38 =>
                if (h3.2.2 x0).1 = 10 then
                  (zCall zCode kModel_get [.ref x0, .int x1, .int (zi 2)] h3).bind (zRI fun r40 h39 =>
                    if (h39.2.2 x0).1 = 10 then
                      (zCall zCode kModel_valueOf [.ref x0, .int x1, .int (zi 0)] h39).bind (zRL fun r42 h41 =>
                        if (h41.2.2 x0).1 = 10 then
                          (zCall zCode kModel_valueOf [.ref x0, .int x1, .int (zi 1)] h41).bind (zRL fun r44 h43 =>
                            (zCall zCode kModel_two [.int r40, .long r42, .long r44] h43).bind (zRL fun r46 h45 =>
                              (zIx h45 a38 101 r2).bind fun j47 =>
                              (zPut h45 a38 101 j47 (.long r46)).bind fun h48 =>
                              some (.inl (some (.int (x1 + (zi 1))), h48))))
                        else
                          none)
                    else
                      none)
                else
                  none
              else
                if r4 = zi 3 then
                  if (h3.2.2 x0).1 = 10 then
                    (zCall zCode kModel_placeOf [.ref x0, .int r2] h3).bind (zRI fun r37 h36 =>
                      some (.inl (some (.int r37), h36)))
                  else
                    none
                else
                  if r4 = zi 4 then
                    if (h3.2.2 x0).1 = 10 then
                      (zCall zCode kModel_valueOf [.ref x0, .int x1, .int (zi 0)] h3).bind (zRL fun r33 h32 =>
                        if (lg_cmp r33 (zl 0)) = 0 then
                          some (.inl (some (.int (x1 + (zi 1))), h32))
                        else
                          if (h32.2.2 x0).1 = 10 then
                            (zCall zCode kModel_placeOf [.ref x0, .int r2] h32).bind (zRI fun r35 h34 =>
                              some (.inl (some (.int r35), h34)))
                          else
                            none)
                    else
                      none
                  else
                    if r4 = zi 5 then
                      (zVA (zAt h3 x0 10 22)).bind fun a19 =>
                      (zVI (zAt h3 x0 10 26)).bind fun v20 =>
                      if v20 < x3 then
                        (zVI (zAt h3 x0 10 26)).bind fun v25 =>
                        (zIx h3 x2 101 v25).bind fun j26 =>
                        (zVL (zAt h3 x2 101 j26)).bind fun v27 =>
                        (zIx h3 a19 101 r2).bind fun j28 =>
                        (zPut h3 a19 101 j28 (.long v27)).bind fun h29 =>
                        (zVI (zAt h29 x0 10 26)).bind fun v30 =>
                        (zPut h29 x0 10 26 (.int (v30 + (zi 1)))).bind fun h31 =>
                        some (.inl (some (.int (x1 + (zi 1))), h31))
                      else
                        (zIx h3 a19 101 r2).bind fun j21 =>
                        (zPut h3 a19 101 j21 (.long (zl 0))).bind fun h22 =>
                        (zVI (zAt h22 x0 10 26)).bind fun v23 =>
                        (zPut h22 x0 10 26 (.int (v23 + (zi 1)))).bind fun h24 =>
                        some (.inl (some (.int (x1 + (zi 1))), h24))
                    else
                      if r4 = zi 6 then
                        (zVI (zAt h3 x0 10 25)).bind fun v8 =>
                        if v8 < (zi 60) then
                          (zVA (zAt h3 x0 10 23)).bind fun a11 =>
                          (zVI (zAt h3 x0 10 25)).bind fun v12 =>
                          if (h3.2.2 x0).1 = 10 then
                            (zCall zCode kModel_valueOf [.ref x0, .int x1, .int (zi 0)] h3).bind (zRL fun r14 h13 =>
                              (zIx h13 a11 101 v12).bind fun j15 =>
                              (zPut h13 a11 101 j15 (.long r14)).bind fun h16 =>
                              (zVI (zAt h16 x0 10 25)).bind fun v17 =>
                              (zPut h16 x0 10 25 (.int (v17 + (zi 1)))).bind fun h18 =>
                              some (.inl (some (.int (x1 + (zi 1))), h18)))
                          else
                            none
                        else
                          (zVI (zAt h3 x0 10 25)).bind fun v9 =>
                          (zPut h3 x0 10 25 (.int (v9 + (zi 1)))).bind fun h10 =>
                          some (.inl (some (.int (x1 + (zi 1))), h10))
                      else
                        (zVA (zAt h3 x0 10 3)).bind fun a5 =>
                        (zCall zCode kModel_many [.ref a5] h3).bind (zRI fun r7 h6 =>
                          some (.inl (some (.int r7), h6))))
        else
          none)
    else
      none
  := (zRun_eb [] 400 0 _ _ _).trans rfl
set_option maxRecDepth 100000 in
set_option maxHeartbeats 4000000 in
theorem zb_Model_valueOf_0 (x0 : Nat) (x1 : Int32) (x2 : Int32) (h : zH) : zRun zCode kModel_valueOf 0 [.ref x0, .int x1, .int x2] [] h =
    if (h.2.2 x0).1 = 10 then
      (zCall zCode kModel_isNumber [.ref x0, .int x1, .int x2] h).bind (zRI fun r2 h1 =>
        if r2 = 0 then
          (zVA (zAt h1 x0 10 22)).bind fun a3 =>
          if (h1.2.2 x0).1 = 10 then
            (zCall zCode kModel_get [.ref x0, .int x1, .int ((zi 3) + x2)] h1).bind (zRI fun r5 h4 =>
              (zIx h4 a3 101 r5).bind fun j6 =>
              (zVL (zAt h4 a3 101 j6)).bind fun v7 =>
              some (.inl (some (.long v7), h4)))
          else
            none
        else
          (zVA (zAt h1 x0 10 3)).bind fun a8 =>
          (zCall zCode kModel_numberOf [.ref a8, .int x1, .int x2] h1).bind (zRL fun r10 h9 =>
            some (.inl (some (.long r10), h9))))
    else
      none
  := (zRun_eb [] 400 0 _ _ _).trans rfl
set_option maxRecDepth 100000 in
set_option maxHeartbeats 4000000 in
theorem zb_Model_ran_0 (x0 : Nat) (x1 : Int32) (h : zH) : zRun zCode kModel_ran 0 [.ref x0, .int x1] [] h =
    (zPut h x0 10 0 (.int (zi 0))).bind fun h1 =>
    (zCall zCode kModel_isIn [.long x1.toInt64, .long (zl 0), .long (zl 2)] h1).bind (zRI fun r3 h2 =>
      if r3 = 0 then
        if (h2.2.2 x0).1 = 10 then
          (zCall zCode kModel_fail [.ref x0, .int (zi 1)] h2).bind (zRI fun r5 h4 =>
            some (.inl (some (.int r5), h4)))
        else
          none
      else
        (zVA (zAt h2 x0 10 29)).bind fun a6 =>
        (zIx h2 a6 100 x1).bind fun j7 =>
        (zVI (zAt h2 a6 100 j7)).bind fun v8 =>
        some (.inl (some (.int v8), h2)))
  := (zRun_eb [] 400 0 _ _ _).trans rfl
set_option maxRecDepth 100000 in
set_option maxHeartbeats 4000000 in
theorem zb_Model_output_0 (x0 : Nat) (x1 : Int32) (h : zH) : zRun zCode kModel_output 0 [.ref x0, .int x1] [] h =
    (zVA (zAt h x0 10 29)).bind fun a1 =>
    (zIx h a1 100 (zi 1)).bind fun j2 =>
    (zVI (zAt h a1 100 j2)).bind fun v3 =>
    (zCall zCode kMath_min [.int (zi 60), .int v3] h).bind (zRI fun r5 h4 =>
      (zCall zCode kModel_isIn [.long x1.toInt64, .long (zl 0), .long ((r5 - (zi 1)).toInt64)] h4).bind (zRI fun r7 h6 =>
        if r7 = 0 then
          (zPut h6 x0 10 0 (.int (zi 1))).bind fun h8 =>
          (zVI (zAt h8 x0 10 0)).bind fun v9 =>
          if v9 = 0 then
            (zVA (zAt h8 x0 10 28)).bind fun a10 =>
            (zIx h8 a10 101 x1).bind fun j11 =>
            (zVL (zAt h8 a10 101 j11)).bind fun v12 =>
            some (.inl (some (.long v12), h8))
          else
            some (.inl (some (.long (zl 0)), h8))
        else
          (zPut h6 x0 10 0 (.int (zi 0))).bind fun h13 =>
          (zVI (zAt h13 x0 10 0)).bind fun v14 =>
          if v14 = 0 then
            (zVA (zAt h13 x0 10 28)).bind fun a15 =>
            (zIx h13 a15 101 x1).bind fun j16 =>
            (zVL (zAt h13 a15 101 j16)).bind fun v17 =>
            some (.inl (some (.long v17), h13))
          else
            some (.inl (some (.long (zl 0)), h13))))
  := (zRun_eb [] 400 0 _ _ _).trans rfl
set_option maxRecDepth 100000 in
set_option maxHeartbeats 4000000 in
theorem zb_Model_variable2_0 (x0 : Nat) (x1 : Int32) (h : zH) : zRun zCode kModel_variable2 0 [.ref x0, .int x1] [] h =
    (zCall zCode kModel_isIn [.long x1.toInt64, .long (zl 0), .long (zl 11)] h).bind (zRI fun r2 h1 =>
      if r2 = 0 then
        (zPut h1 x0 10 0 (.int (zi 1))).bind fun h3 =>
        (zVI (zAt h3 x0 10 0)).bind fun v4 =>
        if v4 = 0 then
          (zVA (zAt h3 x0 10 27)).bind fun a5 =>
          (zIx h3 a5 101 x1).bind fun j6 =>
          (zVL (zAt h3 a5 101 j6)).bind fun v7 =>
          some (.inl (some (.long v7), h3))
        else
          some (.inl (some (.long (zl 0)), h3))
      else
        (zPut h1 x0 10 0 (.int (zi 0))).bind fun h8 =>
        (zVI (zAt h8 x0 10 0)).bind fun v9 =>
        if v9 = 0 then
          (zVA (zAt h8 x0 10 27)).bind fun a10 =>
          (zIx h8 a10 101 x1).bind fun j11 =>
          (zVL (zAt h8 a10 101 j11)).bind fun v12 =>
          some (.inl (some (.long v12), h8))
        else
          some (.inl (some (.long (zl 0)), h8)))
  := (zRun_eb [] 400 0 _ _ _).trans rfl
set_option maxRecDepth 100000 in
set_option maxHeartbeats 4000000 in
theorem zb_Model_differ_0 (x0 : Nat) (x1 : Int32) (x2 : Int32) (x3 : Int32) (x4 : Int32) (h : zH) : zRun zCode kModel_differ 0 [.ref x0, .int x1, .int x2, .int x3, .int x4, .retAddr 0] [] h =
    (zPut h x0 10 0 (.int (zi 0))).bind fun h1 =>
    if (h1.2.2 x0).1 = 10 then
      (zCall zCode kModel_isProgram [.ref x0, .int x1] h1).bind (zRI fun r3 h2 =>
        if r3 = 0 then
          if (h2.2.2 x0).1 = 10 then
            (zCall zCode kModel_fail [.ref x0, .int (zi 1)] h2).bind (zRI fun r5 h4 =>
              some (.inl (some (.int r5), h4)))
          else
            none
        else
          if (h2.2.2 x0).1 = 10 then
            (zCall zCode kModel_isProgram [.ref x0, .int x2] h2).bind (zRI fun r7 h6 =>
              if r7 = 0 then
                if (h6.2.2 x0).1 = 10 then
                  (zCall zCode kModel_fail [.ref x0, .int (zi 1)] h6).bind (zRI fun r13 h12 =>
                    some (.inl (some (.int r13), h12)))
                else
                  none
              else
                (zCall zCode kModel_areCases [.int x3, .int x4] h6).bind (zRI fun r9 h8 =>
                  if r9 = 0 then
                    if (h8.2.2 x0).1 = 10 then
                      (zCall zCode kModel_fail [.ref x0, .int (zi 2)] h8).bind (zRI fun r11 h10 =>
                        some (.inl (some (.int r11), h10)))
                    else
                      none
                  else
                    zRun zCode kModel_differ 25 [.ref x0, .int x1, .int x2, .int x3, .int x4, .int (zi 0)] [] h8))
          else
            none)
    else
      none
  := (zRun_eb [25] 400 0 _ _ _).trans rfl
set_option maxRecDepth 100000 in
set_option maxHeartbeats 4000000 in
theorem zb_Model_differ_25 (x0 : Nat) (x1 : Int32) (x2 : Int32) (x3 : Int32) (x4 : Int32) (x5 : Int32) (h : zH) : zRun zCode kModel_differ 25 [.ref x0, .int x1, .int x2, .int x3, .int x4, .int x5] [] h =
    (zCall zCode kModel_inputsOf [.int x3, .int x4] h).bind (zRI fun r2 h1 =>
      if x5 < r2 then
        if (h1.2.2 x0).1 = 10 then
          (zCall zCode kModel_layCase [.ref x0, .int x5, .int x3, .int x4] h1).bind (zRV fun h3 =>
            if (h3.2.2 x0).1 = 10 then
              (zCall zCode kModel_isOther [.ref x0, .int x1, .int x2, .int x3] h3).bind (zRI fun r5 h4 =>
                if r5 = 0 then
                  zRun zCode kModel_differ 25 [.ref x0, .int x1, .int x2, .int x3, .int x4, .int (x5 + zi 1)] [] h4
                else
                  some (.inl (some (.int x5), h4)))
            else
              none)
        else
          none
      else
        some (.inl (some (.int (zi (-1))), h1)))
  := (zRun_eb [25] 400 25 _ _ _).trans rfl
set_option maxRecDepth 100000 in
set_option maxHeartbeats 4000000 in
theorem zb_Model_areCases_0 (x0 : Int32) (x1 : Int32) (h : zH) : zRun zCode kModel_areCases 0 [.int x0, .int x1] [] h =
    (zCall zCode kModel_isIn [.long x0.toInt64, .long (zl 0), .long (zl 4)] h).bind (zRI fun r2 h1 =>
      if r2 = 0 then
        (zB (zi 0)).bind fun b3 =>
        some (.inl (some (.int b3), h1))
      else
        (zCall zCode kModel_isIn [.long x1.toInt64, .long (zl 1), .long (zl 5)] h1).bind (zRI fun r5 h4 =>
          if r5 = 0 then
            (zB (zi 0)).bind fun b6 =>
            some (.inl (some (.int b6), h4))
          else
            (zCall zCode kModel_inputsOf [.int x0, .int x1] h4).bind (zRI fun r8 h7 =>
              if r8 = (zi (-1)) then
                (zB (zi 0)).bind fun b9 =>
                some (.inl (some (.int b9), h7))
              else
                (zB (zi 1)).bind fun b10 =>
                some (.inl (some (.int b10), h7)))))
  := (zRun_eb [] 400 0 _ _ _).trans rfl
set_option maxRecDepth 100000 in
set_option maxHeartbeats 4000000 in
theorem zb_Model_inputsOf_0 (x0 : Int32) (x1 : Int32) (h : zH) : zRun zCode kModel_inputsOf 0 [.int x0, .int x1, .retAddr 0, .retAddr 0] [] h =
    zRun zCode kModel_inputsOf 4 [.int x0, .int x1, .int (zi 1), .int (zi 0)] [] h
  := (zRun_eb [4] 400 0 _ _ _).trans rfl
set_option maxRecDepth 100000 in
set_option maxHeartbeats 4000000 in
theorem zb_Model_inputsOf_4 (x0 : Int32) (x1 : Int32) (x2 : Int32) (x3 : Int32) (h : zH) : zRun zCode kModel_inputsOf 4 [.int x0, .int x1, .int x2, .int x3] [] h =
    if x3 < x0 then
      zRun zCode kModel_inputsOf 4 [.int x0, .int x1, .int (x2 * x1), .int (x3 + zi 1)] [] h
    else
      if (zi 64) < x2 then
        some (.inl (some (.int (zi (-1))), h))
      else
        some (.inl (some (.int x2), h))
  := (zRun_eb [4] 400 4 _ _ _).trans rfl
set_option maxRecDepth 100000 in
set_option maxHeartbeats 4000000 in
theorem zb_Model_layCase_0 (x0 : Nat) (x1 : Int32) (x2 : Int32) (x3 : Int32) (h : zH) : zRun zCode kModel_layCase 0 [.ref x0, .int x1, .int x2, .int x3, .retAddr 0, .retAddr 0] [] h =
    zRun zCode kModel_layCase 6 [.ref x0, .retAddr 0, .retAddr 0, .int x3, .int x1, .int (x2 - (zi 1))] [] h
  := (zRun_eb [6] 400 0 _ _ _).trans rfl
set_option maxRecDepth 100000 in
set_option maxHeartbeats 4000000 in
theorem zb_Model_layCase_6 (x0 : Nat) (x3 : Int32) (x4 : Int32) (x5 : Int32) (h : zH) : zRun zCode kModel_layCase 6 [.ref x0, .retAddr 0, .retAddr 0, .int x3, .int x4, .int x5] [] h =
    if x5 < 0 then
      some (.inl (none, h))
    else
      (zVA (zAt h x0 10 30)).bind fun a1 =>
      if x3 = 0 then
        none
      else
        (zIx h a1 101 x5).bind fun j2 =>
        (zPut h a1 101 j2 (.long ((x4 - x4 / x3 * x3).toInt64))).bind fun h3 =>
        if x3 = 0 then
          none
        else
          zRun zCode kModel_layCase 6 [.ref x0, .retAddr 0, .retAddr 0, .int x3, .int (x4 / x3), .int (x5 + zi (-1))] [] h3
  := (zRun_eb [6] 400 6 _ _ _).trans rfl
set_option maxRecDepth 100000 in
set_option maxHeartbeats 4000000 in
theorem zb_Model_isOther_0 (x0 : Nat) (x1 : Int32) (x2 : Int32) (x3 : Int32) (h : zH) : zRun zCode kModel_isOther 0 [.ref x0, .int x1, .int x2, .int x3, .retAddr 0, .retAddr 0, .retAddr 0, .retAddr 0] [] h =
    (zVA (zAt h x0 10 30)).bind fun a1 =>
    if (h.2.2 x0).1 = 10 then
      (zCall zCode kModel_runWith [.ref x0, .int x1, .int (zi 500), .ref a1, .int x3] h).bind (zRI fun r3 h2 =>
        (zVI (zAt h2 x0 10 24)).bind fun v4 =>
        (zVI (zAt h2 x0 10 25)).bind fun v5 =>
        (zVA (zAt h2 x0 10 23)).bind fun a6 =>
        (zVA (zAt h2 x0 10 31)).bind fun a7 =>
        (zACopy h2 a6 (zi 0) a7 (zi 0) (zi 60)).bind fun h8 =>
        (zVA (zAt h8 x0 10 30)).bind fun a9 =>
        if (h8.2.2 x0).1 = 10 then
          (zCall zCode kModel_runWith [.ref x0, .int x2, .int (zi 500), .ref a9, .int x3] h8).bind (zRI fun r11 h10 =>
            (zVI (zAt h10 x0 10 24)).bind fun v12 =>
            if v4 = v12 then
              if v4 = 0 then
                zRun zCode kModel_isOther 48 [.ref x0, .retAddr 0, .retAddr 0, .retAddr 0, .int v4, .int v5, .int (zi 0), .int (zi 0)] [] h10
              else
                (zVI (zAt h10 x0 10 25)).bind fun v13 =>
                if v5 = v13 then
                  zRun zCode kModel_isOther 48 [.ref x0, .retAddr 0, .retAddr 0, .retAddr 0, .int v4, .int v5, .int (zi 0), .int (zi 0)] [] h10
                else
                  zRun zCode kModel_isOther 48 [.ref x0, .retAddr 0, .retAddr 0, .retAddr 0, .int v4, .int v5, .int (zi 1), .int (zi 0)] [] h10
            else
              (zB (zi 1)).bind fun b14 =>
              some (.inl (some (.int b14), h10)))
        else
          none)
    else
      none
  := (zRun_eb [48] 400 0 _ _ _).trans rfl
set_option maxRecDepth 100000 in
set_option maxHeartbeats 4000000 in
theorem zb_Model_isOther_48 (x0 : Nat) (x4 : Int32) (x5 : Int32) (x6 : Int32) (x7 : Int32) (h : zH) : zRun zCode kModel_isOther 48 [.ref x0, .retAddr 0, .retAddr 0, .retAddr 0, .int x4, .int x5, .int x6, .int x7] [] h =
    (zCall zCode kMath_min [.int x5, .int (zi 60)] h).bind (zRI fun r2 h1 =>
      if x7 < r2 then
        if x4 = 0 then
          (zB x6).bind fun b4 =>
          some (.inl (some (.int b4), h1))
        else
          if x6 = 0 then
            (zVA (zAt h1 x0 10 31)).bind fun a6 =>
            (zIx h1 a6 101 x7).bind fun j7 =>
            (zVL (zAt h1 a6 101 j7)).bind fun v8 =>
            (zVA (zAt h1 x0 10 23)).bind fun a9 =>
            (zIx h1 a9 101 x7).bind fun j10 =>
            (zVL (zAt h1 a9 101 j10)).bind fun v11 =>
            if (lg_cmp v8 v11) = 0 then
              zRun zCode kModel_isOther 48 [.ref x0, .retAddr 0, .retAddr 0, .retAddr 0, .int x4, .int x5, .int (zi 0), .int (x7 + zi 1)] [] h1
            else
              zRun zCode kModel_isOther 48 [.ref x0, .retAddr 0, .retAddr 0, .retAddr 0, .int x4, .int x5, .int (zi 1), .int (x7 + zi 1)] [] h1
          else
            (zB x6).bind fun b5 =>
            some (.inl (some (.int b5), h1))
      else
        (zB x6).bind fun b3 =>
        some (.inl (some (.int b3), h1)))
  := (zRun_eb [48] 400 48 _ _ _).trans rfl
set_option maxRecDepth 100000 in
set_option maxHeartbeats 4000000 in
theorem zb_Model_share_0 (x0 : Nat) (x1 : Int32) (x2 : Int32) (x3 : Int32) (x4 : Int32) (h : zH) : zRun zCode kModel_share 0 [.ref x0, .int x1, .int x2, .int x3, .int x4, .retAddr 0, .retAddr 0, .retAddr 0] [] h =
    if (h.2.2 x0).1 = 10 then
      (zCall zCode kModel_isProgram [.ref x0, .int x1] h).bind (zRI fun r2 h1 =>
        if r2 = 0 then
          zRun zCode kModel_share 9 [.ref x0, .int x1, .int x2, .int x3, .int x4, .retAddr 0, .retAddr 0, .retAddr 0] [.ref x0] h1
        else
          if (h1.2.2 x0).1 = 10 then
            (zCall zCode kModel_isProgram [.ref x0, .int x2] h1).bind (zRI fun r4 h3 =>
              if r4 = 0 then
                zRun zCode kModel_share 9 [.ref x0, .int x1, .int x2, .int x3, .int x4, .retAddr 0, .retAddr 0, .retAddr 0] [.ref x0] h3
              else
                (zCall zCode kModel_areCases [.int x3, .int x4] h3).bind (zRI fun r6 h5 =>
                  if r6 = 0 then
                    (zPut h5 x0 10 0 (.int (zi 2))).bind fun h7 =>
                    (zVI (zAt h7 x0 10 0)).bind fun v8 =>
                    if v8 = 0 then
                      zRun zCode kModel_share 30 [.ref x0, .int x1, .int x2, .int x3, .int x4, .int (zi 0), .int (zi 0), .int (zi 0)] [] h7
                    else
                      some (.inl (some (.double FP.dconst0), h7))
                  else
                    (zPut h5 x0 10 0 (.int (zi 0))).bind fun h9 =>
                    (zVI (zAt h9 x0 10 0)).bind fun v10 =>
                    if v10 = 0 then
                      zRun zCode kModel_share 30 [.ref x0, .int x1, .int x2, .int x3, .int x4, .int (zi 0), .int (zi 0), .int (zi 0)] [] h9
                    else
                      some (.inl (some (.double FP.dconst0), h9))))
          else
            none)
    else
      none
  := (zRun_eb [9, 30] 400 0 _ _ _).trans rfl
set_option maxRecDepth 100000 in
set_option maxHeartbeats 4000000 in
theorem zb_Model_share_9 (x0 : Nat) (x1 : Int32) (x2 : Int32) (x3 : Int32) (x4 : Int32) (y0 : Nat) (h : zH) : zRun zCode kModel_share 9 [.ref x0, .int x1, .int x2, .int x3, .int x4, .retAddr 0, .retAddr 0, .retAddr 0] [.ref y0] h =
    (zPut h y0 10 0 (.int (zi 1))).bind fun h1 =>
    (zVI (zAt h1 x0 10 0)).bind fun v2 =>
    if v2 = 0 then
      zRun zCode kModel_share 30 [.ref x0, .int x1, .int x2, .int x3, .int x4, .int (zi 0), .int (zi 0), .int (zi 0)] [] h1
    else
      some (.inl (some (.double FP.dconst0), h1))
  := (zRun_eb [9, 30] 400 9 _ _ _).trans rfl
set_option maxRecDepth 100000 in
set_option maxHeartbeats 4000000 in
theorem zb_Model_share_30 (x0 : Nat) (x1 : Int32) (x2 : Int32) (x3 : Int32) (x4 : Int32) (x5 : Int32) (x6 : Int32) (x7 : Int32) (h : zH) : zRun zCode kModel_share 30 [.ref x0, .int x1, .int x2, .int x3, .int x4, .int x5, .int x6, .int x7] [] h =
    (zCall zCode kModel_inputsOf [.int x3, .int x4] h).bind (zRI fun r2 h1 =>
      if x7 < r2 then
        if (h1.2.2 x0).1 = 10 then
          (zCall zCode kModel_layCase [.ref x0, .int x7, .int x3, .int x4] h1).bind (zRV fun h3 =>
            (zVA (zAt h3 x0 10 30)).bind fun a4 =>
            if (h3.2.2 x0).1 = 10 then
              (zCall zCode kModel_runWith [.ref x0, .int x1, .int (zi 500), .ref a4, .int x3] h3).bind (zRI fun r6 h5 =>
                (zVA (zAt h5 x0 10 30)).bind fun a7 =>
                if (h5.2.2 x0).1 = 10 then
                  (zCall zCode kModel_runWith [.ref x0, .int x2, .int (zi 500), .ref a7, .int x3] h5).bind (zRI fun r9 h8 =>
                    zRun zCode kModel_share 30 [.ref x0, .int x1, .int x2, .int x3, .int x4, .int (x5 + r6), .int (x6 + r9), .int (x7 + zi 1)] [] h8)
                else
                  none)
            else
              none)
        else
          none
      else
        if x5 = 0 then
          some (.inl (some (.double FP.dconst1), h1))
        else
          if FP.ddiv (FP.i2d x6) (FP.i2d x5) &&& 0x7fffffffffffffff ≤ 0x7ff0000000000000 then
            some (.inl (some (.double (FP.ddiv (FP.i2d x6) (FP.i2d x5))), h1))
          else
            none)
  := (zRun_eb [9, 30] 400 30 _ _ _).trans rfl
set_option maxRecDepth 100000 in
set_option maxHeartbeats 4000000 in
theorem zb_Model_digest_0 (x0 : Nat) (h : zH) : zRun zCode kModel_digest 0 [.ref x0, .retAddr 0, .retAddr 0, .retAddr 0, .retAddr 0, .retAddr 0] [] h =
    (zPut h x0 10 0 (.int (zi 0))).bind fun h1 =>
    (zVI (zAt h1 x0 10 1)).bind fun v2 =>
    zRun zCode kModel_digest 11 [.ref x0, .long ((zl 12431) + v2.toInt64), .retAddr 0, .int (zi 0), .retAddr 0, .retAddr 0] [] h1
  := (zRun_eb [11, 23, 41, 48, 109, 126, 143, 164] 400 0 _ _ _).trans rfl
set_option maxRecDepth 100000 in
set_option maxHeartbeats 4000000 in
theorem zb_Model_digest_11 (x0 : Nat) (x1 : Int64) (x3 : Int32) (h : zH) : zRun zCode kModel_digest 11 [.ref x0, .long x1, .retAddr 0, .int x3, .retAddr 0, .retAddr 0] [] h =
    (zVI (zAt h x0 10 1)).bind fun v1 =>
    if x3 < v1 then
      (zVA (zAt h x0 10 2)).bind fun a4 =>
      (zIx h a4 111 x3).bind fun j5 =>
      (zVA (zAt h a4 111 j5)).bind fun a6 =>
      (zPut h x0 10 3 (.ref a6)).bind fun h7 =>
      zRun zCode kModel_digest 23 [.ref x0, .long x1, .retAddr 0, .int x3, .int (zi 0), .retAddr 0] [] h7
    else
      (zVI (zAt h x0 10 5)).bind fun v2 =>
      (zVI (zAt h x0 10 20)).bind fun v3 =>
      zRun zCode kModel_digest 109 [.ref x0, .long ((((x1 * (zl 31)) + v2.toInt64) * (zl 31)) + v3.toInt64), .retAddr 0, .int (zi 0), .retAddr 0, .retAddr 0] [] h
  := (zRun_eb [11, 23, 41, 48, 109, 126, 143, 164] 400 11 _ _ _).trans rfl
set_option maxRecDepth 100000 in
set_option maxHeartbeats 4000000 in
theorem zb_Model_digest_23 (x0 : Nat) (x1 : Int64) (x3 : Int32) (x4 : Int32) (h : zH) : zRun zCode kModel_digest 23 [.ref x0, .long x1, .retAddr 0, .int x3, .int x4, .retAddr 0] [] h =
    if x4 < (zi 6) then
      if (h.2.2 x0).1 = 10 then
        (zCall zCode kModel_counted [.ref x0, .int x4] h).bind (zRI fun r3 h2 =>
          zRun zCode kModel_digest 23 [.ref x0, .long ((x1 * (zl 31)) + r3.toInt64), .retAddr 0, .int x3, .int (x4 + zi 1), .retAddr 0] [] h2)
      else
        none
    else
      if (h.2.2 x0).1 = 10 then
        (zCall zCode kModel_findLive [.ref x0] h).bind (zRV fun h1 =>
          zRun zCode kModel_digest 41 [.ref x0, .long x1, .retAddr 0, .int x3, .int (zi 0), .retAddr 0] [] h1)
      else
        none
  := (zRun_eb [11, 23, 41, 48, 109, 126, 143, 164] 400 23 _ _ _).trans rfl
set_option maxRecDepth 100000 in
set_option maxHeartbeats 4000000 in
theorem zb_Model_digest_41 (x0 : Nat) (x1 : Int64) (x3 : Int32) (x4 : Int32) (h : zH) : zRun zCode kModel_digest 41 [.ref x0, .long x1, .retAddr 0, .int x3, .int x4, .retAddr 0] [] h =
    (zVA (zAt h x0 10 3)).bind fun a1 =>
    (zCall zCode kModel_many [.ref a1] h).bind (zRI fun r3 h2 =>
      if x4 < r3 then
        zRun zCode kModel_digest 48 [.ref x0, .long x1, .retAddr 0, .int x3, .int x4, .int (zi 0)] [] h2
      else
        zRun zCode kModel_digest 11 [.ref x0, .long x1, .retAddr 0, .int (x3 + zi 1), .retAddr 0, .retAddr 0] [] h2)
  := (zRun_eb [11, 23, 41, 48, 109, 126, 143, 164] 400 41 _ _ _).trans rfl
set_option maxRecDepth 100000 in
set_option maxHeartbeats 4000000 in
theorem zb_Model_digest_48 (x0 : Nat) (x1 : Int64) (x3 : Int32) (x4 : Int32) (x5 : Int32) (h : zH) : zRun zCode kModel_digest 48 [.ref x0, .long x1, .retAddr 0, .int x3, .int x4, .int x5] [] h =
    if x5 < (zi 5) then
      if (h.2.2 x0).1 = 10 then
        (zCall zCode kModel_get [.ref x0, .int x4, .int x5] h).bind (zRI fun r11 h10 =>
          zRun zCode kModel_digest 48 [.ref x0, .long ((x1 * (zl 31)) + r11.toInt64), .retAddr 0, .int x3, .int x4, .int (x5 + zi 1)] [] h10)
      else
        none
    else
      (zVA (zAt h x0 10 3)).bind fun a1 =>
      (zCall zCode kModel_numberOf [.ref a1, .int x4, .int (zi 0)] h).bind (zRL fun r3 h2 =>
        (zVA (zAt h2 x0 10 3)).bind fun a4 =>
        (zCall zCode kModel_numberOf [.ref a4, .int x4, .int (zi 1)] h2).bind (zRL fun r6 h5 =>
          (zVA (zAt h5 x0 10 15)).bind fun a7 =>
          (zIx h5 a7 100 x4).bind fun j8 =>
          (zVI (zAt h5 a7 100 j8)).bind fun v9 =>
          zRun zCode kModel_digest 41 [.ref x0, .long ((((((x1 * (zl 31)) + r3) * (zl 31)) + r6) * (zl 31)) + v9.toInt64), .retAddr 0, .int x3, .int (x4 + zi 1), .retAddr 0] [] h5))
  := (zRun_eb [11, 23, 41, 48, 109, 126, 143, 164] 400 48 _ _ _).trans rfl
set_option maxRecDepth 100000 in
set_option maxHeartbeats 4000000 in
theorem zb_Model_digest_109 (x0 : Nat) (x1 : Int64) (x3 : Int32) (h : zH) : zRun zCode kModel_digest 109 [.ref x0, .long x1, .retAddr 0, .int x3, .retAddr 0, .retAddr 0] [] h =
    (zVI (zAt h x0 10 20)).bind fun v1 =>
    if x3 < v1 then
      (zVA (zAt h x0 10 21)).bind fun a2 =>
      (zIx h a2 101 x3).bind fun j3 =>
      (zVL (zAt h a2 101 j3)).bind fun v4 =>
      zRun zCode kModel_digest 109 [.ref x0, .long ((x1 * (zl 31)) + v4), .retAddr 0, .int (x3 + zi 1), .retAddr 0, .retAddr 0] [] h
    else
      zRun zCode kModel_digest 126 [.ref x0, .long x1, .retAddr 0, .int (zi 0), .retAddr 0, .retAddr 0] [] h
  := (zRun_eb [11, 23, 41, 48, 109, 126, 143, 164] 400 109 _ _ _).trans rfl
set_option maxRecDepth 100000 in
set_option maxHeartbeats 4000000 in
theorem zb_Model_digest_126 (x0 : Nat) (x1 : Int64) (x3 : Int32) (h : zH) : zRun zCode kModel_digest 126 [.ref x0, .long x1, .retAddr 0, .int x3, .retAddr 0, .retAddr 0] [] h =
    if x3 < (zi 3) then
      (zVA (zAt h x0 10 29)).bind fun a1 =>
      (zIx h a1 100 x3).bind fun j2 =>
      (zVI (zAt h a1 100 j2)).bind fun v3 =>
      zRun zCode kModel_digest 126 [.ref x0, .long ((x1 * (zl 31)) + v3.toInt64), .retAddr 0, .int (x3 + zi 1), .retAddr 0, .retAddr 0] [] h
    else
      zRun zCode kModel_digest 143 [.ref x0, .long x1, .retAddr 0, .int (zi 0), .retAddr 0, .retAddr 0] [] h
  := (zRun_eb [11, 23, 41, 48, 109, 126, 143, 164] 400 126 _ _ _).trans rfl
set_option maxRecDepth 100000 in
set_option maxHeartbeats 4000000 in
theorem zb_Model_digest_143 (x0 : Nat) (x1 : Int64) (x3 : Int32) (h : zH) : zRun zCode kModel_digest 143 [.ref x0, .long x1, .retAddr 0, .int x3, .retAddr 0, .retAddr 0] [] h =
    (zVA (zAt h x0 10 29)).bind fun a1 =>
    (zIx h a1 100 (zi 1)).bind fun j2 =>
    (zVI (zAt h a1 100 j2)).bind fun v3 =>
    (zCall zCode kMath_min [.int (zi 60), .int v3] h).bind (zRI fun r5 h4 =>
      if x3 < r5 then
        (zVA (zAt h4 x0 10 28)).bind fun a6 =>
        (zIx h4 a6 101 x3).bind fun j7 =>
        (zVL (zAt h4 a6 101 j7)).bind fun v8 =>
        zRun zCode kModel_digest 143 [.ref x0, .long ((x1 * (zl 31)) + v8), .retAddr 0, .int (x3 + zi 1), .retAddr 0, .retAddr 0] [] h4
      else
        zRun zCode kModel_digest 164 [.ref x0, .long x1, .retAddr 0, .int (zi 0), .retAddr 0, .retAddr 0] [] h4)
  := (zRun_eb [11, 23, 41, 48, 109, 126, 143, 164] 400 143 _ _ _).trans rfl
set_option maxRecDepth 100000 in
set_option maxHeartbeats 4000000 in
theorem zb_Model_digest_164 (x0 : Nat) (x1 : Int64) (x3 : Int32) (h : zH) : zRun zCode kModel_digest 164 [.ref x0, .long x1, .retAddr 0, .int x3, .retAddr 0, .retAddr 0] [] h =
    if x3 < (zi 12) then
      (zVA (zAt h x0 10 27)).bind fun a1 =>
      (zIx h a1 101 x3).bind fun j2 =>
      (zVL (zAt h a1 101 j2)).bind fun v3 =>
      zRun zCode kModel_digest 164 [.ref x0, .long ((x1 * (zl 31)) + v3), .retAddr 0, .int (x3 + zi 1), .retAddr 0, .retAddr 0] [] h
    else
      some (.inl (some (.long x1), h))
  := (zRun_eb [11, 23, 41, 48, 109, 126, 143, 164] 400 164 _ _ _).trans rfl
end ZB
