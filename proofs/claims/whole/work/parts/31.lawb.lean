section ZB
set_option maxRecDepth 100000 in
set_option maxHeartbeats 4000000 in
theorem zb_Law_law_0 (x0 : Nat) (h : zH) : zRun zCode kLaw_law 0 [.ref x0, .retAddr 0, .retAddr 0, .retAddr 0, .retAddr 0, .retAddr 0, .retAddr 0, .retAddr 0, .retAddr 0] [] h =
    (zCall zCode kPassForge_init [.ref h.1] (zPush h 13 (0, [.null, .int 0, .null, .null, .null, .null, .null, .null, .int 0, .null, .null, .null, .null]))).bind (zRV fun h1 =>
      (zCall zCode kModel_init [.ref h1.1] (zPush h1 32 (10, [.int 0, .int 0, .null, .null, .null, .int 0, .int 0, .int 0, .int 0, .long 0, .null, .null, .null, .null, .int 0, .null, .null, .null, .null, .null, .int 0, .null, .null, .null, .int 0, .int 0, .int 0, .null, .null, .null, .null, .null]))).bind (zRV fun h2 =>
        if (zi 1) < 0 ∨ 65536 < (zi 1).toNatClampNeg then
          none
        else
          if (zi 1) < 0 ∨ 65536 < (zi 1).toNatClampNeg then
            none
          else
            zRun zCode kLaw_law 16 [.ref x0, .ref h.1, .ref h1.1, .ref h2.1, .ref ((zPush h2 (zi 1).toNatClampNeg (101, List.replicate (zi 1).toNatClampNeg (.long 0))).1), .int (zi 0), .retAddr 0, .retAddr 0, .retAddr 0] [] (zPush (zPush h2 (zi 1).toNatClampNeg (101, List.replicate (zi 1).toNatClampNeg (.long 0))) (zi 1).toNatClampNeg (105, List.replicate (zi 1).toNatClampNeg (.double 0)))))
  := (zRun_eb [16, 297, 320] 400 0 _ _ _).trans rfl
set_option maxRecDepth 100000 in
set_option maxHeartbeats 4000000 in
theorem zb_Law_law_16 (x0 : Nat) (x1 : Nat) (x2 : Nat) (x3 : Nat) (x4 : Nat) (x5 : Int32) (h : zH) : zRun zCode kLaw_law 16 [.ref x0, .ref x1, .ref x2, .ref x3, .ref x4, .int x5, .retAddr 0, .retAddr 0, .retAddr 0] [] h =
    if 100 ≤ (h.2.2 x0).1 then
      if (((h.2.2 x0).2.length.toInt32) - (zi 6)) < x5 then
        (zB (zi 1)).bind fun b1 =>
        some (.inl (some (.int b1), h))
      else
        (zIx h x0 106 x5).bind fun j2 =>
        (zVI (zAt h x0 106 j2)).bind fun v3 =>
        if (v3 &&& (zi 31)) = zi 0 then
          (zIx h x0 106 (x5 + (zi 1))).bind fun j279 =>
          (zVI (zAt h x0 106 j279)).bind fun v280 =>
          (zIx h x0 106 (x5 + (zi 2))).bind fun j281 =>
          (zVI (zAt h x0 106 j281)).bind fun v282 =>
          (zIx h x0 106 (x5 + (zi 3))).bind fun j283 =>
          (zVI (zAt h x0 106 j283)).bind fun v284 =>
          (zIx h x0 106 (x5 + (zi 4))).bind fun j285 =>
          (zVI (zAt h x0 106 j285)).bind fun v286 =>
          (zIx h x0 106 (x5 + (zi 5))).bind fun j287 =>
          (zVI (zAt h x0 106 j287)).bind fun v288 =>
          (zCall zCode kLaw_feed [.ref x1, .int v280, .int v282, .int v284, .int v286, .int v288, .ref x3] h).bind (zRI fun r290 h289 =>
            (zIx h289 x0 106 (x5 + (zi 1))).bind fun j291 =>
            (zVI (zAt h289 x0 106 j291)).bind fun v292 =>
            (zIx h289 x0 106 (x5 + (zi 2))).bind fun j293 =>
            (zVI (zAt h289 x0 106 j293)).bind fun v294 =>
            (zIx h289 x0 106 (x5 + (zi 3))).bind fun j295 =>
            (zVI (zAt h289 x0 106 j295)).bind fun v296 =>
            (zIx h289 x0 106 (x5 + (zi 4))).bind fun j297 =>
            (zVI (zAt h289 x0 106 j297)).bind fun v298 =>
            (zIx h289 x0 106 (x5 + (zi 5))).bind fun j299 =>
            (zVI (zAt h289 x0 106 j299)).bind fun v300 =>
            if (h289.2.2 x2).1 = 10 then
              (zCall zCode kModel_feed [.ref x2, .int v292, .int v294, .int v296, .int v298, .int v300] h289).bind (zRI fun r302 h301 =>
                if (h301.2.2 x2).1 = 10 then
                  (zCall zCode kModel_thrown [.ref x2] h301).bind (zRI fun r304 h303 =>
                    if r304 = r290 then
                      if r290 = 0 then
                        (zIx h303 x3 101 (zi 0)).bind fun j305 =>
                        (zVL (zAt h303 x3 101 j305)).bind fun v306 =>
                        if (lg_cmp v306 r302.toInt64) = 0 then
                          zRun zCode kLaw_law 16 [.ref x0, .ref x1, .ref x2, .ref x3, .ref x4, .int (x5 + zi 6), .retAddr 0, .retAddr 0, .retAddr 0] [] h303
                        else
                          (zB (zi 0)).bind fun b307 =>
                          some (.inl (some (.int b307), h303))
                      else
                        zRun zCode kLaw_law 16 [.ref x0, .ref x1, .ref x2, .ref x3, .ref x4, .int (x5 + zi 6), .retAddr 0, .retAddr 0, .retAddr 0] [] h303
                    else
                      (zB (zi 0)).bind fun b308 =>
                      some (.inl (some (.int b308), h303)))
                else
                  none)
            else
              none)
        else
          if (v3 &&& (zi 31)) = zi 1 then
            (zIx h x0 106 (x5 + (zi 1))).bind fun j265 =>
            (zVI (zAt h x0 106 j265)).bind fun v266 =>
            (zCall zCode kLaw_trim [.ref x1, .int v266, .ref x3] h).bind (zRI fun r268 h267 =>
              (zIx h267 x0 106 (x5 + (zi 1))).bind fun j269 =>
              (zVI (zAt h267 x0 106 j269)).bind fun v270 =>
              if (h267.2.2 x2).1 = 10 then
                (zCall zCode kModel_trim [.ref x2, .int v270] h267).bind (zRI fun r272 h271 =>
                  if (h271.2.2 x2).1 = 10 then
                    (zCall zCode kModel_thrown [.ref x2] h271).bind (zRI fun r274 h273 =>
                      if r274 = r268 then
                        if r268 = 0 then
                          (zIx h273 x3 101 (zi 0)).bind fun j275 =>
                          (zVL (zAt h273 x3 101 j275)).bind fun v276 =>
                          if (lg_cmp v276 r272.toInt64) = 0 then
                            zRun zCode kLaw_law 16 [.ref x0, .ref x1, .ref x2, .ref x3, .ref x4, .int (x5 + zi 6), .retAddr 0, .retAddr 0, .retAddr 0] [] h273
                          else
                            (zB (zi 0)).bind fun b277 =>
                            some (.inl (some (.int b277), h273))
                        else
                          zRun zCode kLaw_law 16 [.ref x0, .ref x1, .ref x2, .ref x3, .ref x4, .int (x5 + zi 6), .retAddr 0, .retAddr 0, .retAddr 0] [] h273
                      else
                        (zB (zi 0)).bind fun b278 =>
                        some (.inl (some (.int b278), h273)))
                  else
                    none)
              else
                none)
          else
            if (v3 &&& (zi 31)) = zi 2 then
              (zCall zCode kLaw_compile [.ref x1, .ref x3] h).bind (zRI fun r256 h255 =>
                if (h255.2.2 x2).1 = 10 then
                  (zCall zCode kModel_compile [.ref x2] h255).bind (zRI fun r258 h257 =>
                    if (h257.2.2 x2).1 = 10 then
                      (zCall zCode kModel_thrown [.ref x2] h257).bind (zRI fun r260 h259 =>
                        if r260 = r256 then
                          if r256 = 0 then
                            (zIx h259 x3 101 (zi 0)).bind fun j261 =>
                            (zVL (zAt h259 x3 101 j261)).bind fun v262 =>
                            if (lg_cmp v262 r258.toInt64) = 0 then
                              zRun zCode kLaw_law 16 [.ref x0, .ref x1, .ref x2, .ref x3, .ref x4, .int (x5 + zi 6), .retAddr 0, .retAddr 0, .retAddr 0] [] h259
                            else
                              (zB (zi 0)).bind fun b263 =>
                              some (.inl (some (.int b263), h259))
                          else
                            zRun zCode kLaw_law 16 [.ref x0, .ref x1, .ref x2, .ref x3, .ref x4, .int (x5 + zi 6), .retAddr 0, .retAddr 0, .retAddr 0] [] h259
                        else
                          (zB (zi 0)).bind fun b264 =>
                          some (.inl (some (.int b264), h259)))
                    else
                      none)
                else
                  none)
            else
              if (v3 &&& (zi 31)) = zi 3 then
                if (h.2.2 x1).1 = 0 then
                  (zCall zCode kPassForge_errorAt [.ref x1] h).bind (zRI fun r251 h250 =>
                    if (h250.2.2 x2).1 = 10 then
                      (zCall zCode kModel_errorAt [.ref x2] h250).bind (zRI fun r253 h252 =>
                        if r251 = r253 then
                          zRun zCode kLaw_law 16 [.ref x0, .ref x1, .ref x2, .ref x3, .ref x4, .int (x5 + zi 6), .retAddr 0, .retAddr 0, .retAddr 0] [] h252
                        else
                          (zB (zi 0)).bind fun b254 =>
                          some (.inl (some (.int b254), h252)))
                    else
                      none)
                else
                  none
              else
                if (v3 &&& (zi 31)) = zi 4 then
                  if (h.2.2 x1).1 = 0 then
                    (zCall zCode kPassForge_programs [.ref x1] h).bind (zRI fun r246 h245 =>
                      if (h245.2.2 x2).1 = 10 then
                        (zCall zCode kModel_programs [.ref x2] h245).bind (zRI fun r248 h247 =>
                          if r246 = r248 then
                            zRun zCode kLaw_law 16 [.ref x0, .ref x1, .ref x2, .ref x3, .ref x4, .int (x5 + zi 6), .retAddr 0, .retAddr 0, .retAddr 0] [] h247
                          else
                            (zB (zi 0)).bind fun b249 =>
                            some (.inl (some (.int b249), h247)))
                      else
                        none)
                  else
                    none
                else
                  if (v3 &&& (zi 31)) = zi 5 then
                    (zIx h x0 106 (x5 + (zi 1))).bind fun j227 =>
                    (zVI (zAt h x0 106 j227)).bind fun v228 =>
                    (zIx h x0 106 (x5 + (zi 2))).bind fun j229 =>
                    (zVI (zAt h x0 106 j229)).bind fun v230 =>
                    (zCall zCode kLaw_count [.ref x1, .int v228, .int v230, .ref x3] h).bind (zRI fun r232 h231 =>
                      (zIx h231 x0 106 (x5 + (zi 1))).bind fun j233 =>
                      (zVI (zAt h231 x0 106 j233)).bind fun v234 =>
                      (zIx h231 x0 106 (x5 + (zi 2))).bind fun j235 =>
                      (zVI (zAt h231 x0 106 j235)).bind fun v236 =>
                      if (h231.2.2 x2).1 = 10 then
                        (zCall zCode kModel_count [.ref x2, .int v234, .int v236] h231).bind (zRI fun r238 h237 =>
                          if (h237.2.2 x2).1 = 10 then
                            (zCall zCode kModel_thrown [.ref x2] h237).bind (zRI fun r240 h239 =>
                              if r240 = r232 then
                                if r232 = 0 then
                                  (zIx h239 x3 101 (zi 0)).bind fun j241 =>
                                  (zVL (zAt h239 x3 101 j241)).bind fun v242 =>
                                  if (lg_cmp v242 r238.toInt64) = 0 then
                                    zRun zCode kLaw_law 16 [.ref x0, .ref x1, .ref x2, .ref x3, .ref x4, .int (x5 + zi 6), .retAddr 0, .retAddr 0, .retAddr 0] [] h239
                                  else
                                    (zB (zi 0)).bind fun b243 =>
                                    some (.inl (some (.int b243), h239))
                                else
                                  zRun zCode kLaw_law 16 [.ref x0, .ref x1, .ref x2, .ref x3, .ref x4, .int (x5 + zi 6), .retAddr 0, .retAddr 0, .retAddr 0] [] h239
                              else
                                (zB (zi 0)).bind fun b244 =>
                                some (.inl (some (.int b244), h239)))
                          else
                            none)
                      else
                        none)
                  else
                    if (v3 &&& (zi 31)) = zi 6 then
                      (zIx h x0 106 (x5 + (zi 1))).bind fun j205 =>
                      (zVI (zAt h x0 106 j205)).bind fun v206 =>
                      (zIx h x0 106 (x5 + (zi 2))).bind fun j207 =>
                      (zVI (zAt h x0 106 j207)).bind fun v208 =>
                      (zIx h x0 106 (x5 + (zi 3))).bind fun j209 =>
                      (zVI (zAt h x0 106 j209)).bind fun v210 =>
                      (zCall zCode kLaw_code [.ref x1, .int v206, .int v208, .int v210, .ref x3] h).bind (zRI fun r212 h211 =>
                        (zIx h211 x0 106 (x5 + (zi 1))).bind fun j213 =>
                        (zVI (zAt h211 x0 106 j213)).bind fun v214 =>
                        (zIx h211 x0 106 (x5 + (zi 2))).bind fun j215 =>
                        (zVI (zAt h211 x0 106 j215)).bind fun v216 =>
                        (zIx h211 x0 106 (x5 + (zi 3))).bind fun j217 =>
                        (zVI (zAt h211 x0 106 j217)).bind fun v218 =>
                        if (h211.2.2 x2).1 = 10 then
                          (zCall zCode kModel_code [.ref x2, .int v214, .int v216, .int v218] h211).bind (zRI fun r220 h219 =>
                            if (h219.2.2 x2).1 = 10 then
                              (zCall zCode kModel_thrown [.ref x2] h219).bind (zRI fun r222 h221 =>
                                if r222 = r212 then
                                  if r212 = 0 then
                                    (zIx h221 x3 101 (zi 0)).bind fun j223 =>
                                    (zVL (zAt h221 x3 101 j223)).bind fun v224 =>
                                    if (lg_cmp v224 r220.toInt64) = 0 then
                                      zRun zCode kLaw_law 16 [.ref x0, .ref x1, .ref x2, .ref x3, .ref x4, .int (x5 + zi 6), .retAddr 0, .retAddr 0, .retAddr 0] [] h221
                                    else
                                      (zB (zi 0)).bind fun b225 =>
                                      some (.inl (some (.int b225), h221))
                                  else
                                    zRun zCode kLaw_law 16 [.ref x0, .ref x1, .ref x2, .ref x3, .ref x4, .int (x5 + zi 6), .retAddr 0, .retAddr 0, .retAddr 0] [] h221
                                else
                                  (zB (zi 0)).bind fun b226 =>
                                  some (.inl (some (.int b226), h221)))
                            else
                              none)
                        else
                          none)
                    else
                      if (v3 &&& (zi 31)) = zi 7 then
                        (zIx h x0 106 (x5 + (zi 1))).bind fun j199 =>
                        (zVI (zAt h x0 106 j199)).bind fun v200 =>
                        (zIx h x0 106 (x5 + (zi 2))).bind fun j201 =>
                        (zVI (zAt h x0 106 j201)).bind fun v202 =>
                        (zIx h x0 106 (x5 + (zi 3))).bind fun j203 =>
                        (zVI (zAt h x0 106 j203)).bind fun v204 =>
                        if v204 = 0 then
                          zRun zCode kLaw_law 297 [.ref x0, .ref x1, .ref x2, .ref x3, .ref x4, .int x5, .retAddr 0, .retAddr 0, .retAddr 0] [.int (zi 0), .int v202, .int v200, .ref x1] h
                        else
                          zRun zCode kLaw_law 297 [.ref x0, .ref x1, .ref x2, .ref x3, .ref x4, .int x5, .retAddr 0, .retAddr 0, .retAddr 0] [.int (zi 1), .int v202, .int v200, .ref x1] h
                      else
                        if (v3 &&& (zi 31)) = zi 8 then
                          (zIx h x0 106 (x5 + (zi 1))).bind fun j181 =>
                          (zVI (zAt h x0 106 j181)).bind fun v182 =>
                          (zIx h x0 106 (x5 + (zi 2))).bind fun j183 =>
                          (zVI (zAt h x0 106 j183)).bind fun v184 =>
                          (zCall zCode kLaw_live [.ref x1, .int v182, .int v184, .ref x3] h).bind (zRI fun r186 h185 =>
                            (zIx h185 x0 106 (x5 + (zi 1))).bind fun j187 =>
                            (zVI (zAt h185 x0 106 j187)).bind fun v188 =>
                            (zIx h185 x0 106 (x5 + (zi 2))).bind fun j189 =>
                            (zVI (zAt h185 x0 106 j189)).bind fun v190 =>
                            if (h185.2.2 x2).1 = 10 then
                              (zCall zCode kModel_live [.ref x2, .int v188, .int v190] h185).bind (zRI fun r192 h191 =>
                                if (h191.2.2 x2).1 = 10 then
                                  (zCall zCode kModel_thrown [.ref x2] h191).bind (zRI fun r194 h193 =>
                                    if r194 = r186 then
                                      if r186 = 0 then
                                        (zIx h193 x3 101 (zi 0)).bind fun j195 =>
                                        (zVL (zAt h193 x3 101 j195)).bind fun v196 =>
                                        if (lg_cmp v196 r192.toInt64) = 0 then
                                          zRun zCode kLaw_law 16 [.ref x0, .ref x1, .ref x2, .ref x3, .ref x4, .int (x5 + zi 6), .retAddr 0, .retAddr 0, .retAddr 0] [] h193
                                        else
                                          (zB (zi 0)).bind fun b197 =>
                                          some (.inl (some (.int b197), h193))
                                      else
                                        zRun zCode kLaw_law 16 [.ref x0, .ref x1, .ref x2, .ref x3, .ref x4, .int (x5 + zi 6), .retAddr 0, .retAddr 0, .retAddr 0] [] h193
                                    else
                                      (zB (zi 0)).bind fun b198 =>
                                      some (.inl (some (.int b198), h193)))
                                else
                                  none)
                            else
                              none)
                        else
                          if (v3 &&& (zi 31)) = zi 9 then
                            (zIx h x0 106 (x5 + (zi 1))).bind fun j163 =>
                            (zVI (zAt h x0 106 j163)).bind fun v164 =>
                            (zIx h x0 106 (x5 + (zi 2))).bind fun j165 =>
                            (zVI (zAt h x0 106 j165)).bind fun v166 =>
                            (zCall zCode kLaw_pass [.ref x1, .int v164, .int v166, .ref x3] h).bind (zRI fun r168 h167 =>
                              (zIx h167 x0 106 (x5 + (zi 1))).bind fun j169 =>
                              (zVI (zAt h167 x0 106 j169)).bind fun v170 =>
                              (zIx h167 x0 106 (x5 + (zi 2))).bind fun j171 =>
                              (zVI (zAt h167 x0 106 j171)).bind fun v172 =>
                              if (h167.2.2 x2).1 = 10 then
                                (zCall zCode kModel_pass [.ref x2, .int v170, .int v172] h167).bind (zRI fun r174 h173 =>
                                  if (h173.2.2 x2).1 = 10 then
                                    (zCall zCode kModel_thrown [.ref x2] h173).bind (zRI fun r176 h175 =>
                                      if r176 = r168 then
                                        if r168 = 0 then
                                          (zIx h175 x3 101 (zi 0)).bind fun j177 =>
                                          (zVL (zAt h175 x3 101 j177)).bind fun v178 =>
                                          if (lg_cmp v178 r174.toInt64) = 0 then
                                            zRun zCode kLaw_law 16 [.ref x0, .ref x1, .ref x2, .ref x3, .ref x4, .int (x5 + zi 6), .retAddr 0, .retAddr 0, .retAddr 0] [] h175
                                          else
                                            (zB (zi 0)).bind fun b179 =>
                                            some (.inl (some (.int b179), h175))
                                        else
                                          zRun zCode kLaw_law 16 [.ref x0, .ref x1, .ref x2, .ref x3, .ref x4, .int (x5 + zi 6), .retAddr 0, .retAddr 0, .retAddr 0] [] h175
                                      else
                                        (zB (zi 0)).bind fun b180 =>
                                        some (.inl (some (.int b180), h175)))
                                  else
                                    none)
                              else
                                none)
                          else
                            if (v3 &&& (zi 31)) = zi 10 then
                              (zIx h x0 106 (x5 + (zi 1))).bind fun j149 =>
                              (zVI (zAt h x0 106 j149)).bind fun v150 =>
                              (zCall zCode kLaw_better [.ref x1, .int v150, .ref x3] h).bind (zRI fun r152 h151 =>
                                (zIx h151 x0 106 (x5 + (zi 1))).bind fun j153 =>
                                (zVI (zAt h151 x0 106 j153)).bind fun v154 =>
                                if (h151.2.2 x2).1 = 10 then
                                  (zCall zCode kModel_better [.ref x2, .int v154] h151).bind (zRI fun r156 h155 =>
                                    if (h155.2.2 x2).1 = 10 then
                                      (zCall zCode kModel_thrown [.ref x2] h155).bind (zRI fun r158 h157 =>
                                        if r158 = r152 then
                                          if r152 = 0 then
                                            (zIx h157 x3 101 (zi 0)).bind fun j159 =>
                                            (zVL (zAt h157 x3 101 j159)).bind fun v160 =>
                                            if (lg_cmp v160 r156.toInt64) = 0 then
                                              zRun zCode kLaw_law 16 [.ref x0, .ref x1, .ref x2, .ref x3, .ref x4, .int (x5 + zi 6), .retAddr 0, .retAddr 0, .retAddr 0] [] h157
                                            else
                                              (zB (zi 0)).bind fun b161 =>
                                              some (.inl (some (.int b161), h157))
                                          else
                                            zRun zCode kLaw_law 16 [.ref x0, .ref x1, .ref x2, .ref x3, .ref x4, .int (x5 + zi 6), .retAddr 0, .retAddr 0, .retAddr 0] [] h157
                                        else
                                          (zB (zi 0)).bind fun b162 =>
                                          some (.inl (some (.int b162), h157)))
                                    else
                                      none)
                                else
                                  none)
                            else
                              if (v3 &&& (zi 31)) = zi 11 then
                                (zIx h x0 106 (x5 + (zi 1))).bind fun j131 =>
                                (zVI (zAt h x0 106 j131)).bind fun v132 =>
                                (zIx h x0 106 (x5 + (zi 2))).bind fun j133 =>
                                (zVI (zAt h x0 106 j133)).bind fun v134 =>
                                (zCall zCode kLaw_put [.ref x1, .long ((v132.toInt64 <<< ((zi 32).toInt64 &&& 63)) ||| (v134.toInt64 &&& (zl 4294967295))), .ref x3] h).bind (zRI fun r136 h135 =>
                                  (zIx h135 x0 106 (x5 + (zi 1))).bind fun j137 =>
                                  (zVI (zAt h135 x0 106 j137)).bind fun v138 =>
                                  (zIx h135 x0 106 (x5 + (zi 2))).bind fun j139 =>
                                  (zVI (zAt h135 x0 106 j139)).bind fun v140 =>
                                  if (h135.2.2 x2).1 = 10 then
                                    (zCall zCode kModel_put [.ref x2, .long ((v138.toInt64 <<< ((zi 32).toInt64 &&& 63)) ||| (v140.toInt64 &&& (zl 4294967295)))] h135).bind (zRI fun r142 h141 =>
                                      if (h141.2.2 x2).1 = 10 then
                                        (zCall zCode kModel_thrown [.ref x2] h141).bind (zRI fun r144 h143 =>
                                          if r144 = r136 then
                                            if r136 = 0 then
                                              (zIx h143 x3 101 (zi 0)).bind fun j145 =>
                                              (zVL (zAt h143 x3 101 j145)).bind fun v146 =>
                                              if (lg_cmp v146 r142.toInt64) = 0 then
                                                zRun zCode kLaw_law 16 [.ref x0, .ref x1, .ref x2, .ref x3, .ref x4, .int (x5 + zi 6), .retAddr 0, .retAddr 0, .retAddr 0] [] h143
                                              else
                                                (zB (zi 0)).bind fun b147 =>
                                                some (.inl (some (.int b147), h143))
                                            else
                                              zRun zCode kLaw_law 16 [.ref x0, .ref x1, .ref x2, .ref x3, .ref x4, .int (x5 + zi 6), .retAddr 0, .retAddr 0, .retAddr 0] [] h143
                                          else
                                            (zB (zi 0)).bind fun b148 =>
                                            some (.inl (some (.int b148), h143)))
                                      else
                                        none)
                                  else
                                    none)
                              else
                                if (v3 &&& (zi 31)) = zi 12 then
                                  if (h.2.2 x1).1 = 0 then
                                    (zCall zCode kPassForge_empty [.ref x1] h).bind (zRI fun r127 h126 =>
                                      if (h126.2.2 x2).1 = 10 then
                                        (zCall zCode kModel_empty [.ref x2] h126).bind (zRI fun r129 h128 =>
                                          if r127 = r129 then
                                            zRun zCode kLaw_law 16 [.ref x0, .ref x1, .ref x2, .ref x3, .ref x4, .int (x5 + zi 6), .retAddr 0, .retAddr 0, .retAddr 0] [] h128
                                          else
                                            (zB (zi 0)).bind fun b130 =>
                                            some (.inl (some (.int b130), h128)))
                                      else
                                        none)
                                  else
                                    none
                                else
                                  if (v3 &&& (zi 31)) = zi 13 then
                                    (zIx h x0 106 (x5 + (zi 1))).bind fun j108 =>
                                    (zVI (zAt h x0 106 j108)).bind fun v109 =>
                                    (zIx h x0 106 (x5 + (zi 2))).bind fun j110 =>
                                    (zVI (zAt h x0 106 j110)).bind fun v111 =>
                                    (zCall zCode kLaw_run [.ref x1, .int v109, .int v111, .ref x3] h).bind (zRI fun r113 h112 =>
                                      (zIx h112 x0 106 (x5 + (zi 1))).bind fun j114 =>
                                      (zVI (zAt h112 x0 106 j114)).bind fun v115 =>
                                      (zIx h112 x0 106 (x5 + (zi 2))).bind fun j116 =>
                                      (zVI (zAt h112 x0 106 j116)).bind fun v117 =>
                                      if (h112.2.2 x2).1 = 10 then
                                        (zCall zCode kModel_run [.ref x2, .int v115, .int v117] h112).bind (zRI fun r119 h118 =>
                                          if (h118.2.2 x2).1 = 10 then
                                            (zCall zCode kModel_thrown [.ref x2] h118).bind (zRI fun r121 h120 =>
                                              if r121 = r113 then
                                                if r113 = 0 then
                                                  (zIx h120 x3 101 (zi 0)).bind fun j122 =>
                                                  (zVL (zAt h120 x3 101 j122)).bind fun v123 =>
                                                  if (lg_cmp v123 r119.toInt64) = 0 then
                                                    zRun zCode kLaw_law 16 [.ref x0, .ref x1, .ref x2, .ref x3, .ref x4, .int (x5 + zi 6), .retAddr 0, .retAddr 0, .retAddr 0] [] h120
                                                  else
                                                    (zB (zi 0)).bind fun b124 =>
                                                    some (.inl (some (.int b124), h120))
                                                else
                                                  zRun zCode kLaw_law 16 [.ref x0, .ref x1, .ref x2, .ref x3, .ref x4, .int (x5 + zi 6), .retAddr 0, .retAddr 0, .retAddr 0] [] h120
                                              else
                                                (zB (zi 0)).bind fun b125 =>
                                                some (.inl (some (.int b125), h120)))
                                          else
                                            none)
                                      else
                                        none)
                                  else
                                    if (v3 &&& (zi 31)) = zi 14 then
                                      (zIx h x0 106 (x5 + (zi 1))).bind fun j94 =>
                                      (zVI (zAt h x0 106 j94)).bind fun v95 =>
                                      (zCall zCode kLaw_ran [.ref x1, .int v95, .ref x3] h).bind (zRI fun r97 h96 =>
                                        (zIx h96 x0 106 (x5 + (zi 1))).bind fun j98 =>
                                        (zVI (zAt h96 x0 106 j98)).bind fun v99 =>
                                        if (h96.2.2 x2).1 = 10 then
                                          (zCall zCode kModel_ran [.ref x2, .int v99] h96).bind (zRI fun r101 h100 =>
                                            if (h100.2.2 x2).1 = 10 then
                                              (zCall zCode kModel_thrown [.ref x2] h100).bind (zRI fun r103 h102 =>
                                                if r103 = r97 then
                                                  if r97 = 0 then
                                                    (zIx h102 x3 101 (zi 0)).bind fun j104 =>
                                                    (zVL (zAt h102 x3 101 j104)).bind fun v105 =>
                                                    if (lg_cmp v105 r101.toInt64) = 0 then
                                                      zRun zCode kLaw_law 16 [.ref x0, .ref x1, .ref x2, .ref x3, .ref x4, .int (x5 + zi 6), .retAddr 0, .retAddr 0, .retAddr 0] [] h102
                                                    else
                                                      (zB (zi 0)).bind fun b106 =>
                                                      some (.inl (some (.int b106), h102))
                                                  else
                                                    zRun zCode kLaw_law 16 [.ref x0, .ref x1, .ref x2, .ref x3, .ref x4, .int (x5 + zi 6), .retAddr 0, .retAddr 0, .retAddr 0] [] h102
                                                else
                                                  (zB (zi 0)).bind fun b107 =>
                                                  some (.inl (some (.int b107), h102)))
                                            else
                                              none)
                                        else
                                          none)
                                    else
                                      if (v3 &&& (zi 31)) = zi 15 then
                                        (zIx h x0 106 (x5 + (zi 1))).bind fun j80 =>
                                        (zVI (zAt h x0 106 j80)).bind fun v81 =>
                                        (zCall zCode kLaw_output [.ref x1, .int v81, .ref x3] h).bind (zRI fun r83 h82 =>
                                          (zIx h82 x0 106 (x5 + (zi 1))).bind fun j84 =>
                                          (zVI (zAt h82 x0 106 j84)).bind fun v85 =>
                                          if (h82.2.2 x2).1 = 10 then
                                            (zCall zCode kModel_output [.ref x2, .int v85] h82).bind (zRL fun r87 h86 =>
                                              if (h86.2.2 x2).1 = 10 then
                                                (zCall zCode kModel_thrown [.ref x2] h86).bind (zRI fun r89 h88 =>
                                                  if r89 = r83 then
                                                    if r83 = 0 then
                                                      (zIx h88 x3 101 (zi 0)).bind fun j90 =>
                                                      (zVL (zAt h88 x3 101 j90)).bind fun v91 =>
                                                      if (lg_cmp v91 r87) = 0 then
                                                        zRun zCode kLaw_law 16 [.ref x0, .ref x1, .ref x2, .ref x3, .ref x4, .int (x5 + zi 6), .retAddr 0, .retAddr 0, .retAddr 0] [] h88
                                                      else
                                                        (zB (zi 0)).bind fun b92 =>
                                                        some (.inl (some (.int b92), h88))
                                                    else
                                                      zRun zCode kLaw_law 16 [.ref x0, .ref x1, .ref x2, .ref x3, .ref x4, .int (x5 + zi 6), .retAddr 0, .retAddr 0, .retAddr 0] [] h88
                                                  else
                                                    (zB (zi 0)).bind fun b93 =>
                                                    some (.inl (some (.int b93), h88)))
                                              else
                                                none)
                                          else
                                            none)
                                      else
                                        if (v3 &&& (zi 31)) = zi 16 then
                                          (zIx h x0 106 (x5 + (zi 1))).bind fun j66 =>
                                          (zVI (zAt h x0 106 j66)).bind fun v67 =>
                                          (zCall zCode kLaw_variable [.ref x1, .int v67, .ref x3] h).bind (zRI fun r69 h68 =>
                                            (zIx h68 x0 106 (x5 + (zi 1))).bind fun j70 =>
                                            (zVI (zAt h68 x0 106 j70)).bind fun v71 =>
                                            if (h68.2.2 x2).1 = 10 then
                                              (zCall zCode kModel_variable2 [.ref x2, .int v71] h68).bind (zRL fun r73 h72 =>
                                                if (h72.2.2 x2).1 = 10 then
                                                  (zCall zCode kModel_thrown [.ref x2] h72).bind (zRI fun r75 h74 =>
                                                    if r75 = r69 then
                                                      if r69 = 0 then
                                                        (zIx h74 x3 101 (zi 0)).bind fun j76 =>
                                                        (zVL (zAt h74 x3 101 j76)).bind fun v77 =>
                                                        if (lg_cmp v77 r73) = 0 then
                                                          zRun zCode kLaw_law 16 [.ref x0, .ref x1, .ref x2, .ref x3, .ref x4, .int (x5 + zi 6), .retAddr 0, .retAddr 0, .retAddr 0] [] h74
                                                        else
                                                          (zB (zi 0)).bind fun b78 =>
                                                          some (.inl (some (.int b78), h74))
                                                      else
                                                        zRun zCode kLaw_law 16 [.ref x0, .ref x1, .ref x2, .ref x3, .ref x4, .int (x5 + zi 6), .retAddr 0, .retAddr 0, .retAddr 0] [] h74
                                                    else
                                                      (zB (zi 0)).bind fun b79 =>
                                                      some (.inl (some (.int b79), h74)))
                                                else
                                                  none)
                                            else
                                              none)
                                        else
                                          if (v3 &&& (zi 31)) = zi 17 then
                                            (zIx h x0 106 (x5 + (zi 1))).bind fun j40 =>
                                            (zVI (zAt h x0 106 j40)).bind fun v41 =>
                                            (zIx h x0 106 (x5 + (zi 2))).bind fun j42 =>
                                            (zVI (zAt h x0 106 j42)).bind fun v43 =>
                                            (zIx h x0 106 (x5 + (zi 3))).bind fun j44 =>
                                            (zVI (zAt h x0 106 j44)).bind fun v45 =>
                                            (zIx h x0 106 (x5 + (zi 4))).bind fun j46 =>
                                            (zVI (zAt h x0 106 j46)).bind fun v47 =>
                                            (zCall zCode kLaw_differ [.ref x1, .int v41, .int v43, .int v45, .int v47, .ref x3] h).bind (zRI fun r49 h48 =>
                                              (zIx h48 x0 106 (x5 + (zi 1))).bind fun j50 =>
                                              (zVI (zAt h48 x0 106 j50)).bind fun v51 =>
                                              (zIx h48 x0 106 (x5 + (zi 2))).bind fun j52 =>
                                              (zVI (zAt h48 x0 106 j52)).bind fun v53 =>
                                              (zIx h48 x0 106 (x5 + (zi 3))).bind fun j54 =>
                                              (zVI (zAt h48 x0 106 j54)).bind fun v55 =>
                                              (zIx h48 x0 106 (x5 + (zi 4))).bind fun j56 =>
                                              (zVI (zAt h48 x0 106 j56)).bind fun v57 =>
                                              if (h48.2.2 x2).1 = 10 then
                                                (zCall zCode kModel_differ [.ref x2, .int v51, .int v53, .int v55, .int v57] h48).bind (zRI fun r59 h58 =>
                                                  if (h58.2.2 x2).1 = 10 then
                                                    (zCall zCode kModel_thrown [.ref x2] h58).bind (zRI fun r61 h60 =>
                                                      if r61 = r49 then
                                                        if r49 = 0 then
                                                          (zIx h60 x3 101 (zi 0)).bind fun j62 =>
                                                          (zVL (zAt h60 x3 101 j62)).bind fun v63 =>
                                                          if (lg_cmp v63 r59.toInt64) = 0 then
                                                            zRun zCode kLaw_law 16 [.ref x0, .ref x1, .ref x2, .ref x3, .ref x4, .int (x5 + zi 6), .retAddr 0, .retAddr 0, .retAddr 0] [] h60
                                                          else
                                                            (zB (zi 0)).bind fun b64 =>
                                                            some (.inl (some (.int b64), h60))
                                                        else
                                                          zRun zCode kLaw_law 16 [.ref x0, .ref x1, .ref x2, .ref x3, .ref x4, .int (x5 + zi 6), .retAddr 0, .retAddr 0, .retAddr 0] [] h60
                                                      else
                                                        (zB (zi 0)).bind fun b65 =>
                                                        some (.inl (some (.int b65), h60)))
                                                  else
                                                    none)
                                              else
                                                none)
                                          else
                                            if (v3 &&& (zi 31)) = zi 18 then
                                              (zIx h x0 106 (x5 + (zi 1))).bind fun j9 =>
                                              (zVI (zAt h x0 106 j9)).bind fun v10 =>
                                              (zIx h x0 106 (x5 + (zi 2))).bind fun j11 =>
                                              (zVI (zAt h x0 106 j11)).bind fun v12 =>
                                              (zIx h x0 106 (x5 + (zi 3))).bind fun j13 =>
                                              (zVI (zAt h x0 106 j13)).bind fun v14 =>
                                              (zIx h x0 106 (x5 + (zi 4))).bind fun j15 =>
                                              (zVI (zAt h x0 106 j15)).bind fun v16 =>
                                              (zCall zCode kLaw_share [.ref x1, .int v10, .int v12, .int v14, .int v16, .ref x4] h).bind (zRI fun r18 h17 =>
                                                (zIx h17 x0 106 (x5 + (zi 1))).bind fun j19 =>
                                                (zVI (zAt h17 x0 106 j19)).bind fun v20 =>
                                                (zIx h17 x0 106 (x5 + (zi 2))).bind fun j21 =>
                                                (zVI (zAt h17 x0 106 j21)).bind fun v22 =>
                                                (zIx h17 x0 106 (x5 + (zi 3))).bind fun j23 =>
                                                (zVI (zAt h17 x0 106 j23)).bind fun v24 =>
                                                (zIx h17 x0 106 (x5 + (zi 4))).bind fun j25 =>
                                                (zVI (zAt h17 x0 106 j25)).bind fun v26 =>
                                                if (h17.2.2 x2).1 = 10 then
                                                  (zCall zCode kModel_share [.ref x2, .int v20, .int v22, .int v24, .int v26] h17).bind (zRD fun r28 h27 =>
                                                    if (h27.2.2 x2).1 = 10 then
                                                      (zCall zCode kModel_thrown [.ref x2] h27).bind (zRI fun r30 h29 =>
                                                        if r30 = r18 then
                                                          if r18 = 0 then
                                                            (zIx h29 x4 105 (zi 0)).bind fun j31 =>
                                                            (zVD (zAt h29 x4 105 j31)).bind fun v32 =>
                                                            if (Op.cmpValue (FP.dcmp v32 r28) .l) = 0 then
                                                              zRun zCode kLaw_law 16 [.ref x0, .ref x1, .ref x2, .ref x3, .ref x4, .int (x5 + zi 6), .retAddr 0, .retAddr 0, .retAddr 0] [] h29
                                                            else
                                                              (zIx h29 x4 105 (zi 0)).bind fun j33 =>
                                                              (zVD (zAt h29 x4 105 j33)).bind fun v34 =>
                                                              (zIx h29 x4 105 (zi 0)).bind fun j35 =>
                                                              (zVD (zAt h29 x4 105 j35)).bind fun v36 =>
                                                              if (Op.cmpValue (FP.dcmp v34 v36) .l) = 0 then
                                                                (zB (zi 0)).bind fun b37 =>
                                                                some (.inl (some (.int b37), h29))
                                                              else
                                                                if (Op.cmpValue (FP.dcmp r28 r28) .l) = 0 then
                                                                  (zB (zi 0)).bind fun b38 =>
                                                                  some (.inl (some (.int b38), h29))
                                                                else
                                                                  zRun zCode kLaw_law 16 [.ref x0, .ref x1, .ref x2, .ref x3, .ref x4, .int (x5 + zi 6), .retAddr 0, .retAddr 0, .retAddr 0] [] h29
                                                          else
                                                            zRun zCode kLaw_law 16 [.ref x0, .ref x1, .ref x2, .ref x3, .ref x4, .int (x5 + zi 6), .retAddr 0, .retAddr 0, .retAddr 0] [] h29
                                                        else
                                                          (zB (zi 0)).bind fun b39 =>
                                                          some (.inl (some (.int b39), h29)))
                                                    else
                                                      none)
                                                else
                                                  none)
                                            else
                                              if (v3 &&& (zi 31)) = zi 19 then
                                                if (h.2.2 x1).1 = 0 then
                                                  (zCall zCode kPassForge_digest [.ref x1] h).bind (zRL fun r5 h4 =>
                                                    if (h4.2.2 x2).1 = 10 then
                                                      (zCall zCode kModel_digest [.ref x2] h4).bind (zRL fun r7 h6 =>
                                                        if (lg_cmp r5 r7) = 0 then
                                                          zRun zCode kLaw_law 16 [.ref x0, .ref x1, .ref x2, .ref x3, .ref x4, .int (x5 + zi 6), .retAddr 0, .retAddr 0, .retAddr 0] [] h6
                                                        else
                                                          (zB (zi 0)).bind fun b8 =>
                                                          some (.inl (some (.int b8), h6)))
                                                    else
                                                      none)
                                                else
                                                  none
                                              else
                                                zRun zCode kLaw_law 16 [.ref x0, .ref x1, .ref x2, .ref x3, .ref x4, .int (x5 + zi 6), .retAddr 0, .retAddr 0, .retAddr 0] [] h
    else
      none
  := (zRun_eb [16, 297, 320] 400 16 _ _ _).trans rfl
set_option maxRecDepth 100000 in
set_option maxHeartbeats 4000000 in
theorem zb_Law_law_297 (x0 : Nat) (x1 : Nat) (x2 : Nat) (x3 : Nat) (x4 : Nat) (x5 : Int32) (y0 : Int32) (y1 : Int32) (y2 : Int32) (y3 : Nat) (h : zH) : zRun zCode kLaw_law 297 [.ref x0, .ref x1, .ref x2, .ref x3, .ref x4, .int x5, .retAddr 0, .retAddr 0, .retAddr 0] [.int y0, .int y1, .int y2, .ref y3] h =
    (zCall zCode kLaw_number [.ref y3, .int y2, .int y1, .int y0, .ref x3] h).bind (zRI fun r2 h1 =>
      (zIx h1 x0 106 (x5 + (zi 1))).bind fun j3 =>
      (zVI (zAt h1 x0 106 j3)).bind fun v4 =>
      (zIx h1 x0 106 (x5 + (zi 2))).bind fun j5 =>
      (zVI (zAt h1 x0 106 j5)).bind fun v6 =>
      (zIx h1 x0 106 (x5 + (zi 3))).bind fun j7 =>
      (zVI (zAt h1 x0 106 j7)).bind fun v8 =>
      if v8 = 0 then
        zRun zCode kLaw_law 320 [.ref x0, .ref x1, .ref x2, .ref x3, .ref x4, .int x5, .int r2, .retAddr 0, .retAddr 0] [.int (zi 0), .int v6, .int v4, .ref x2] h1
      else
        zRun zCode kLaw_law 320 [.ref x0, .ref x1, .ref x2, .ref x3, .ref x4, .int x5, .int r2, .retAddr 0, .retAddr 0] [.int (zi 1), .int v6, .int v4, .ref x2] h1)
  := (zRun_eb [16, 297, 320] 400 297 _ _ _).trans rfl
set_option maxRecDepth 100000 in
set_option maxHeartbeats 4000000 in
theorem zb_Law_law_320 (x0 : Nat) (x1 : Nat) (x2 : Nat) (x3 : Nat) (x4 : Nat) (x5 : Int32) (x6 : Int32) (y0 : Int32) (y1 : Int32) (y2 : Int32) (y3 : Nat) (h : zH) : zRun zCode kLaw_law 320 [.ref x0, .ref x1, .ref x2, .ref x3, .ref x4, .int x5, .int x6, .retAddr 0, .retAddr 0] [.int y0, .int y1, .int y2, .ref y3] h =
    if (h.2.2 y3).1 = 10 then
      (zCall zCode kModel_number2 [.ref y3, .int y2, .int y1, .int y0] h).bind (zRL fun r2 h1 =>
        if (h1.2.2 x2).1 = 10 then
          (zCall zCode kModel_thrown [.ref x2] h1).bind (zRI fun r4 h3 =>
            if r4 = x6 then
              if x6 = 0 then
                (zIx h3 x3 101 (zi 0)).bind fun j5 =>
                (zVL (zAt h3 x3 101 j5)).bind fun v6 =>
                if (lg_cmp v6 r2) = 0 then
                  zRun zCode kLaw_law 16 [.ref x0, .ref x1, .ref x2, .ref x3, .ref x4, .int (x5 + zi 6), .retAddr 0, .retAddr 0, .retAddr 0] [] h3
                else
                  (zB (zi 0)).bind fun b7 =>
                  some (.inl (some (.int b7), h3))
              else
                zRun zCode kLaw_law 16 [.ref x0, .ref x1, .ref x2, .ref x3, .ref x4, .int (x5 + zi 6), .retAddr 0, .retAddr 0, .retAddr 0] [] h3
            else
              (zB (zi 0)).bind fun b8 =>
              some (.inl (some (.int b8), h3)))
        else
          none)
    else
      none
  := (zRun_eb [16, 297, 320] 400 320 _ _ _).trans rfl
end ZB
