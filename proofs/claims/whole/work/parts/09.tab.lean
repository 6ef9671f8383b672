/-! Tables: the methods, the classes, the texts. By program (wip/whole/gen/emit_tab.py). -/
section ZTAB
abbrev zMT : Type := (MethodName × ByteArray × Nat × Option FieldType × List (Nat × Nat × Nat × Nat)) × (Bool × Nat × Nat × Nat) × (Nat × Nat × Nat × Nat)
def zMt_0 : List zMT := [((⟨"PassForge", "<init>", "()V"⟩, prog_1_method_1_code, 2, none, []), (false, 0, 3, 60), (128, 127, 0, 99)),
  ((⟨"PassForge$Program", "<init>", "()V"⟩, prog_7_method_1_code, 1, none, []), (false, 0, 1, 20), (137, 136, 0, 100)),
  ((⟨"PassForge$Tape", "<init>", "()V"⟩, prog_9_method_1_code, 1, none, []), (false, 0, 1, 20), (201, 200, 0, 101)),
  ((⟨"PassForge$Reader", "<init>", "()V"⟩, prog_8_method_1_code, 1, none, []), (false, 0, 2, 40), (214, 213, 0, 102)),
  ((⟨"PassForge$Tokens", "<init>", "()V"⟩, prog_10_method_1_code, 1, none, []), (false, 0, 1, 20), (220, 219, 0, 103)),
  ((⟨"PassForge$Names", "<init>", "()V"⟩, prog_6_method_1_code, 1, none, []), (false, 0, 1, 20), (242, 241, 0, 104)),
  ((⟨"PassForge$Flow", "<init>", "()V"⟩, prog_3_method_1_code, 1, none, []), (false, 0, 1, 20), (301, 300, 0, 105)),
  ((⟨"PassForge$BlockPasses", "<init>", "()V"⟩, prog_2_method_1_code, 1, none, []), (false, 0, 1, 20), (317, 316, 0, 106)),
  ((⟨"PassForge$FlowPasses", "<init>", "()V"⟩, prog_4_method_1_code, 1, none, []), (false, 0, 2, 40), (333, 332, 0, 107)),
  ((⟨"PassForge$Machine", "<init>", "()V"⟩, prog_5_method_1_code, 1, none, []), (false, 0, 1, 20), (345, 344, 0, 108)),
  ((⟨"PassForge", "errorAt", "()I"⟩, prog_1_method_5_code, 1, (some .int), []), (false, 0, 1, 20), (409, 407, 408, 99)),
  ((⟨"PassForge$Reader", "faultPlace", "()I"⟩, prog_8_method_2_code, 1, (some .int), []), (false, 0, 0, 0), (413, 411, 412, 102)),
  ((⟨"PassForge", "programs", "()I"⟩, prog_1_method_6_code, 1, (some .int), []), (false, 0, 0, 0), (417, 415, 416, 99)),
  ((⟨"PassForge", "empty", "()I"⟩, prog_1_method_14_code, 2, (some .int), []), (false, 0, 0, 0), (421, 419, 420, 99)),
  ((⟨"PassForge", "digest", "()J"⟩, prog_1_method_21_code, 4, (some .long), []), (false, 0, 3, 69), (425, 423, 424, 99)),
  ((⟨"PassForge", "mix", "(JJ)J"⟩, prog_1_method_22_code, 4, (some .long), []), (true, 2, 0, 0), (429, 428, 0, 99)),
  ((⟨"PassForge", "mixProgram", "(JLPassForge$Program;)J"⟩, prog_1_method_23_code, 7, (some .long), []), (true, 2, 2, 43), (433, 432, 0, 99)),
  ((⟨"PassForge$Program", "tally", "(I)I"⟩, prog_7_method_13_code, 2, (some .int), []), (false, 1, 0, 0), (437, 435, 436, 100)),
  ((⟨"PassForge$Program", "size", "()I"⟩, prog_7_method_2_code, 1, (some .int), []), (false, 0, 0, 0), (441, 439, 440, 100)),
  ((⟨"PassForge$Program", "part", "(II)I"⟩, prog_7_method_12_code, 3, (some .int), []), (false, 2, 1, 21), (445, 443, 444, 100)),
  ((⟨"PassForge$Program", "sortAt", "(I)I"⟩, prog_7_method_4_code, 2, (some .int), []), (false, 1, 0, 0), (449, 447, 448, 100)),
  ((⟨"PassForge$Program", "targetAt", "(I)I"⟩, prog_7_method_5_code, 2, (some .int), []), (false, 1, 0, 0), (453, 451, 452, 100)),
  ((⟨"PassForge$Program", "opAt", "(I)I"⟩, prog_7_method_6_code, 2, (some .int), []), (false, 1, 0, 0), (457, 455, 456, 100)),
  ((⟨"PassForge$Program", "firstVariableAt", "(I)I"⟩, prog_7_method_7_code, 2, (some .int), []), (false, 1, 0, 0), (461, 459, 460, 100)),
  ((⟨"PassForge$Program", "secondVariableAt", "(I)I"⟩, prog_7_method_8_code, 2, (some .int), []), (false, 1, 0, 0), (465, 463, 464, 100)),
  ((⟨"PassForge$Program", "firstNumberAt", "(I)J"⟩, prog_7_method_9_code, 2, (some .long), []), (false, 1, 0, 0), (469, 467, 468, 100)),
  ((⟨"PassForge$Program", "secondNumberAt", "(I)J"⟩, prog_7_method_10_code, 2, (some .long), []), (false, 1, 0, 0), (473, 471, 472, 100)),
  ((⟨"PassForge$Program", "liveAt", "(I)I"⟩, prog_7_method_11_code, 2, (some .int), []), (false, 1, 0, 0), (477, 475, 476, 100)),
  ((⟨"PassForge$Tape", "size", "()I"⟩, prog_9_method_2_code, 1, (some .int), []), (false, 0, 0, 0), (481, 479, 480, 101)),
  ((⟨"PassForge$Machine", "report", "(I)I"⟩, prog_5_method_6_code, 2, (some .int), []), (false, 1, 0, 0), (485, 483, 484, 108)),
  ((⟨"PassForge$Machine", "kept", "()I"⟩, prog_5_method_3_code, 1, (some .int), []), (false, 0, 1, 21), (489, 487, 488, 108)),
  ((⟨"java/lang/Math", "min", "(II)I"⟩, prog_19_method_69_code, 2, (some .int), []), (true, 2, 0, 0), (492, 491, 0, 115)),
  ((⟨"PassForge$Machine", "keptAt", "(I)J"⟩, prog_5_method_4_code, 2, (some .long), []), (false, 1, 0, 0), (496, 494, 495, 108)),
  ((⟨"PassForge$Machine", "valueOf", "(I)J"⟩, prog_5_method_5_code, 2, (some .long), []), (false, 1, 0, 0), (500, 498, 499, 108)),
  ((⟨"PassForgeLaw", "feed", "(LPassForge;IIIII[J)I"⟩, method_3_code, 8, (some .int), [(0, 16, 19, 13)]), (true, 7, 7, 123), (503, 502, 0, 98)),
  ((⟨"PassForge", "feed", "(IIIII)I"⟩, prog_1_method_2_code, 6, (some .int), []), (false, 5, 6, 98), (508, 506, 507, 99)),
  ((⟨"PassForge$Tape", "room", "()I"⟩, prog_9_method_3_code, 1, (some .int), []), (false, 0, 0, 0), (512, 510, 511, 101)),
  ((⟨"PassForge$Tape", "addFour", "(I)V"⟩, prog_9_method_6_code, 3, none, []), (false, 1, 0, 0), (585, 583, 584, 101)),
  ((⟨"PassForgeLaw", "trim", "(LPassForge;I[J)I"⟩, method_4_code, 4, (some .int), [(0, 9, 12, 19)]), (true, 3, 7, 119), (588, 587, 0, 98)),
  ((⟨"PassForge", "trim", "(I)I"⟩, prog_1_method_3_code, 2, (some .int), []), (false, 1, 6, 98), (593, 591, 592, 99))]
def zMt_1 : List zMT := [((⟨"PassForge$Tape", "shorten", "(I)V"⟩, prog_9_method_5_code, 2, none, []), (false, 1, 0, 0), (613, 611, 612, 101)),
  ((⟨"PassForgeLaw", "compile", "(LPassForge;[J)I"⟩, method_5_code, 3, (some .int), [(0, 8, 11, 13)]), (true, 2, 8, 159), (616, 615, 0, 98)),
  ((⟨"PassForge", "compile", "()I"⟩, prog_1_method_4_code, 3, (some .int), []), (false, 0, 7, 137), (620, 618, 619, 99)),
  ((⟨"PassForge", "freshProgram", "()LPassForge$Program;"⟩, prog_1_method_26_code, 1, (some (.object "PassForge$Program")), []), (false, 0, 6, 98), (624, 623, 1, 99)),
  ((⟨"PassForge$Reader", "read", "(LPassForge$Tape;LPassForge$Program;)I"⟩, prog_8_method_3_code, 5, (some .int), []), (false, 2, 5, 113), (629, 627, 628, 102)),
  ((⟨"PassForge$Names", "clear", "()V"⟩, prog_6_method_3_code, 1, none, []), (false, 0, 0, 0), (633, 631, 632, 104)),
  ((⟨"PassForge$Program", "clear", "()V"⟩, prog_7_method_14_code, 1, none, []), (false, 0, 0, 0), (637, 635, 636, 100)),
  ((⟨"PassForge$Tokens", "cut", "(LPassForge$Tape;)V"⟩, prog_10_method_6_code, 5, none, []), (false, 1, 2, 49), (641, 639, 640, 103)),
  ((⟨"PassForge$Tape", "byteAt", "(I)I"⟩, prog_9_method_4_code, 2, (some .int), []), (false, 1, 0, 0), (646, 644, 645, 101)),
  ((⟨"PassForge$Tokens", "isLetter", "(I)Z"⟩, prog_10_method_10_code, 1, (some .boolean), []), (true, 1, 0, 0), (649, 648, 0, 103)),
  ((⟨"PassForge$Tokens", "cutWord", "(LPassForge$Tape;I)I"⟩, prog_10_method_8_code, 6, (some .int), []), (false, 2, 1, 24), (653, 652, 2, 103)),
  ((⟨"PassForge$Tokens", "isDigit", "(I)Z"⟩, prog_10_method_11_code, 1, (some .boolean), []), (true, 1, 0, 0), (656, 655, 0, 103)),
  ((⟨"PassForge$Tokens", "kindOfWord", "(J)I"⟩, prog_10_method_13_code, 2, (some .int), []), (true, 1, 0, 0), (659, 658, 0, 103)),
  ((⟨"PassForge$Tokens", "add", "(IIJ)V"⟩, prog_10_method_7_code, 5, none, []), (false, 3, 0, 0), (668, 667, 3, 103)),
  ((⟨"PassForge$Tokens", "cutNumber", "(LPassForge$Tape;I)I"⟩, prog_10_method_9_code, 6, (some .int), []), (false, 2, 1, 24), (672, 671, 4, 103)),
  ((⟨"PassForge$Tokens", "isSymbol", "(I)Z"⟩, prog_10_method_12_code, 1, (some .boolean), []), (true, 1, 1, 20), (676, 675, 0, 103)),
  ((⟨"PassForge$Tokens", "opOf", "(I)I"⟩, prog_10_method_14_code, 1, (some .int), []), (true, 1, 0, 0), (679, 678, 0, 103)),
  ((⟨"PassForge$Reader", "readLine", "(LPassForge$Program;)Z"⟩, prog_8_method_5_code, 3, (some .boolean), []), (false, 1, 4, 91), (683, 682, 5, 102)),
  ((⟨"PassForge$Tokens", "kind", "()I"⟩, prog_10_method_2_code, 1, (some .int), []), (false, 0, 0, 0), (687, 685, 686, 103)),
  ((⟨"PassForge$Tokens", "start", "()I"⟩, prog_10_method_3_code, 1, (some .int), []), (false, 0, 0, 0), (691, 689, 690, 103)),
  ((⟨"PassForge$Reader", "fail", "(II)Z"⟩, prog_8_method_4_code, 3, (some .boolean), []), (false, 2, 0, 0), (695, 694, 6, 102)),
  ((⟨"PassForge$Reader", "forgetInstruction", "()V"⟩, prog_8_method_6_code, 1, none, []), (false, 0, 0, 0), (700, 699, 7, 102)),
  ((⟨"PassForge$Reader", "readNamed", "(LPassForge$Program;)Z"⟩, prog_8_method_8_code, 5, (some .boolean), []), (false, 1, 3, 67), (704, 703, 8, 102)),
  ((⟨"PassForge$Tokens", "content", "()J"⟩, prog_10_method_4_code, 1, (some .long), []), (false, 0, 0, 0), (708, 706, 707, 103)),
  ((⟨"PassForge$Tokens", "toNext", "()V"⟩, prog_10_method_5_code, 1, none, []), (false, 0, 0, 0), (712, 710, 711, 103)),
  ((⟨"PassForge$Names", "find", "(JI)I"⟩, prog_6_method_4_code, 5, (some .int), []), (false, 2, 0, 0), (716, 714, 715, 104)),
  ((⟨"PassForge$Names", "setOnce", "(I)Z"⟩, prog_6_method_5_code, 2, (some .boolean), []), (false, 1, 0, 0), (720, 718, 719, 104)),
  ((⟨"PassForge$Reader", "add", "(LPassForge$Program;I)Z"⟩, prog_8_method_7_code, 3, (some .boolean), []), (false, 2, 2, 45), (724, 723, 9, 102)),
  ((⟨"PassForge$Program", "add", "(III)V"⟩, prog_7_method_16_code, 4, none, []), (false, 3, 0, 0), (728, 726, 727, 100)),
  ((⟨"PassForge$Program", "setFirst", "(IIJ)V"⟩, prog_7_method_17_code, 5, none, []), (false, 3, 1, 21), (732, 730, 731, 100)),
  ((⟨"PassForge$Program", "has", "(I)Z"⟩, prog_7_method_3_code, 2, (some .boolean), []), (false, 1, 0, 0), (736, 734, 735, 100)),
  ((⟨"PassForge$Program", "setSecond", "(IIJ)V"⟩, prog_7_method_18_code, 5, none, []), (false, 3, 1, 21), (740, 738, 739, 100)),
  ((⟨"PassForge$Reader", "take", "(I)Z"⟩, prog_8_method_9_code, 2, (some .boolean), []), (false, 1, 1, 22), (744, 743, 10, 102)),
  ((⟨"PassForge$Reader", "readValue", "()Z"⟩, prog_8_method_14_code, 2, (some .boolean), []), (false, 0, 2, 46), (748, 747, 11, 102)),
  ((⟨"PassForge$Reader", "takeName", "(LPassForge$Names;)I"⟩, prog_8_method_11_code, 3, (some .int), []), (false, 1, 1, 24), (752, 751, 12, 102)),
  ((⟨"PassForge$Reader", "keepFirst", "()Z"⟩, prog_8_method_12_code, 1, (some .boolean), []), (false, 0, 0, 0), (756, 755, 13, 102)),
  ((⟨"PassForge$Reader", "keepSecond", "()Z"⟩, prog_8_method_13_code, 1, (some .boolean), []), (false, 0, 0, 0), (761, 760, 14, 102)),
  ((⟨"PassForge$Reader", "readName", "(LPassForge$Names;)Z"⟩, prog_8_method_10_code, 2, (some .boolean), []), (false, 1, 2, 46), (765, 764, 15, 102)),
  ((⟨"PassForge$Names", "firstUnset", "()I"⟩, prog_6_method_6_code, 2, (some .int), []), (false, 0, 0, 0), (769, 767, 768, 104)),
  ((⟨"PassForge$Names", "size", "()I"⟩, prog_6_method_2_code, 1, (some .int), []), (false, 0, 0, 0), (773, 771, 772, 104))]
def zMt_2 : List zMT := [((⟨"PassForge$Program", "setNames", "(II)V"⟩, prog_7_method_21_code, 3, none, []), (false, 2, 0, 0), (777, 775, 776, 100)),
  ((⟨"PassForge", "accept", "(LPassForge$Program;)V"⟩, prog_1_method_27_code, 2, none, []), (false, 1, 5, 116), (781, 780, 16, 99)),
  ((⟨"PassForge$Flow", "measure", "(LPassForge$Program;)V"⟩, prog_3_method_10_code, 6, none, []), (false, 1, 4, 91), (785, 783, 784, 105)),
  ((⟨"PassForge$Flow", "look", "(LPassForge$Program;)V"⟩, prog_3_method_5_code, 4, none, []), (false, 1, 3, 68), (789, 787, 788, 105)),
  ((⟨"PassForge$Program", "link", "()V"⟩, prog_7_method_36_code, 4, none, []), (false, 0, 2, 43), (793, 791, 792, 100)),
  ((⟨"PassForge$Program", "isLabel", "(I)Z"⟩, prog_7_method_33_code, 2, (some .boolean), []), (false, 1, 1, 21), (797, 795, 796, 100)),
  ((⟨"PassForge$Program", "isJump", "(I)Z"⟩, prog_7_method_34_code, 3, (some .boolean), []), (false, 1, 1, 21), (801, 799, 800, 100)),
  ((⟨"PassForge$Flow", "reach", "(LPassForge$Program;I)Z"⟩, prog_3_method_7_code, 3, (some .boolean), []), (false, 2, 1, 21), (805, 804, 17, 105)),
  ((⟨"PassForge$Flow", "goForward", "(LPassForge$Program;)Z"⟩, prog_3_method_6_code, 6, (some .boolean), []), (false, 1, 2, 43), (811, 810, 18, 105)),
  ((⟨"PassForge$Flow", "reaches", "(I)Z"⟩, prog_3_method_2_code, 2, (some .boolean), []), (false, 1, 0, 0), (816, 814, 815, 105)),
  ((⟨"PassForge$Program", "nextOf", "(I)I"⟩, prog_7_method_38_code, 3, (some .int), []), (false, 1, 1, 21), (820, 818, 819, 100)),
  ((⟨"PassForge$Program", "jumpOf", "(I)I"⟩, prog_7_method_37_code, 2, (some .int), []), (false, 1, 0, 0), (824, 822, 823, 100)),
  ((⟨"PassForge$Flow", "goBackward", "(LPassForge$Program;)Z"⟩, prog_3_method_8_code, 6, (some .boolean), []), (false, 1, 2, 43), (828, 827, 19, 105)),
  ((⟨"PassForge$Flow", "aheadOf", "(LPassForge$Program;I)I"⟩, prog_3_method_9_code, 3, (some .int), []), (false, 2, 1, 21), (833, 832, 20, 105)),
  ((⟨"PassForge$Flow", "liveAhead", "(I)I"⟩, prog_3_method_3_code, 2, (some .int), []), (false, 1, 0, 0), (837, 835, 836, 105)),
  ((⟨"PassForge$Program", "readSet", "(I)I"⟩, prog_7_method_30_code, 2, (some .int), []), (false, 1, 1, 21), (841, 839, 840, 100)),
  ((⟨"PassForge$Program", "setOf", "(I)I"⟩, prog_7_method_29_code, 1, (some .int), []), (true, 1, 0, 0), (844, 843, 0, 100)),
  ((⟨"PassForge$Program", "assignedSet", "(I)I"⟩, prog_7_method_32_code, 2, (some .int), []), (false, 1, 1, 21), (848, 846, 847, 100)),
  ((⟨"PassForge$Program", "assigned", "(I)I"⟩, prog_7_method_31_code, 2, (some .int), []), (false, 1, 0, 0), (852, 850, 851, 100)),
  ((⟨"PassForge$Program", "startsBlock", "(I)Z"⟩, prog_7_method_35_code, 2, (some .boolean), []), (false, 1, 2, 43), (856, 854, 855, 100)),
  ((⟨"PassForge$Program", "loopEnd", "(I)I"⟩, prog_7_method_41_code, 4, (some .int), []), (false, 1, 2, 45), (860, 858, 859, 100)),
  ((⟨"PassForge$Program", "jumpsTo", "(I)I"⟩, prog_7_method_39_code, 2, (some .int), []), (false, 1, 0, 0), (864, 862, 863, 100)),
  ((⟨"PassForge$Program", "isEnteredBehind", "(II)Z"⟩, prog_7_method_42_code, 5, (some .boolean), []), (false, 2, 1, 21), (869, 868, 21, 100)),
  ((⟨"PassForge$Flow", "liveBehind", "(I)I"⟩, prog_3_method_4_code, 2, (some .int), []), (false, 1, 0, 0), (873, 871, 872, 105)),
  ((⟨"PassForge$Program", "setLive", "(II)V"⟩, prog_7_method_23_code, 3, none, []), (false, 2, 1, 21), (877, 875, 876, 100)),
  ((⟨"PassForge$Program", "setMeasures", "(III)V"⟩, prog_7_method_22_code, 4, none, []), (false, 3, 0, 0), (881, 879, 880, 100)),
  ((⟨"PassForgeLaw", "count", "(LPassForge;II[J)I"⟩, method_6_code, 5, (some .int), [(0, 10, 13, 29)]), (true, 4, 8, 142), (884, 883, 0, 98)),
  ((⟨"PassForge", "count", "(II)I"⟩, prog_1_method_7_code, 4, (some .int), []), (false, 2, 7, 119), (889, 887, 888, 99)),
  ((⟨"PassForge", "programAt", "(I)LPassForge$Program;"⟩, prog_1_method_24_code, 2, (some (.object "PassForge$Program")), []), (false, 1, 6, 98), (893, 892, 22, 99)),
  ((⟨"PassForgeLaw", "code", "(LPassForge;III[J)I"⟩, method_7_code, 6, (some .int), [(0, 12, 15, 29)]), (true, 5, 9, 166), (913, 912, 0, 98)),
  ((⟨"PassForge", "code", "(III)I"⟩, prog_1_method_8_code, 5, (some .int), []), (false, 3, 8, 142), (917, 915, 916, 99)),
  ((⟨"PassForge", "programWith", "(II)LPassForge$Program;"⟩, prog_1_method_25_code, 4, (some (.object "PassForge$Program")), []), (false, 2, 7, 119), (921, 920, 23, 99)),
  ((⟨"PassForgeLaw", "number", "(LPassForge;IIZ[J)I"⟩, method_8_code, 6, (some .int), [(0, 11, 14, 29)]), (true, 5, 9, 166), (927, 926, 0, 98)),
  ((⟨"PassForge", "number", "(IIZ)J"⟩, prog_1_method_9_code, 5, (some .long), []), (false, 3, 8, 142), (931, 929, 930, 99)),
  ((⟨"PassForgeLaw", "live", "(LPassForge;II[J)I"⟩, method_9_code, 5, (some .int), [(0, 10, 13, 29)]), (true, 4, 9, 164), (934, 933, 0, 98)),
  ((⟨"PassForge", "live", "(II)I"⟩, prog_1_method_10_code, 3, (some .int), []), (false, 2, 8, 142), (938, 936, 937, 99)),
  ((⟨"PassForgeLaw", "pass", "(LPassForge;II[J)I"⟩, method_10_code, 5, (some .int), [(0, 10, 13, 29), (0, 10, 17, 19), (0, 10, 21, 13)]), (true, 4, 8, 170), (941, 940, 0, 98)),
  ((⟨"PassForge", "pass", "(II)I"⟩, prog_1_method_11_code, 6, (some .int), []), (false, 2, 7, 145), (945, 943, 944, 99)),
  ((⟨"PassForge$Program", "become", "(LPassForge$Program;)V"⟩, prog_7_method_15_code, 3, none, []), (false, 1, 1, 23), (950, 948, 949, 100)),
  ((⟨"PassForge$Program", "layDown", "(ILPassForge$Program;I)V"⟩, prog_7_method_24_code, 4, none, []), (false, 3, 0, 0), (954, 953, 24, 100))]
def zMt_3 : List zMT := [((⟨"PassForge", "changeBy", "(LPassForge$Program;I)I"⟩, prog_1_method_28_code, 3, (some .int), []), (false, 2, 5, 123), (958, 957, 25, 99)),
  ((⟨"PassForge$BlockPasses", "fold", "(LPassForge$Program;)I"⟩, prog_2_method_2_code, 4, (some .int), []), (false, 1, 4, 92), (962, 960, 961, 106)),
  ((⟨"PassForge$BlockPasses", "forgetNumbers", "()V"⟩, prog_2_method_3_code, 2, none, []), (false, 0, 0, 0), (968, 967, 26, 106)),
  ((⟨"PassForge$BlockPasses", "putNumbers", "(LPassForge$Program;I)I"⟩, prog_2_method_6_code, 6, (some .int), []), (false, 2, 2, 45), (972, 971, 27, 106)),
  ((⟨"PassForge$BlockPasses", "knows", "(I)Z"⟩, prog_2_method_4_code, 2, (some .boolean), []), (false, 1, 0, 0), (977, 976, 28, 106)),
  ((⟨"PassForge$BlockPasses", "knownOf", "(I)J"⟩, prog_2_method_5_code, 2, (some .long), []), (false, 1, 0, 0), (981, 980, 29, 106)),
  ((⟨"PassForge$BlockPasses", "foldOne", "(LPassForge$Program;I)I"⟩, prog_2_method_7_code, 4, (some .int), []), (false, 2, 3, 69), (988, 987, 30, 106)),
  ((⟨"PassForge", "reckon", "(IJJ)J"⟩, prog_1_method_32_code, 5, (some .long), []), (true, 3, 0, 0), (995, 994, 0, 99)),
  ((⟨"PassForge$Program", "setPlain", "(IIJ)V"⟩, prog_7_method_19_code, 5, none, []), (false, 3, 2, 45), (999, 997, 998, 100)),
  ((⟨"PassForge$Program", "mark", "(I)V"⟩, prog_7_method_27_code, 2, none, []), (false, 1, 1, 21), (1005, 1003, 1004, 100)),
  ((⟨"PassForge$Program", "setGoto", "(I)V"⟩, prog_7_method_20_code, 2, none, []), (false, 1, 2, 45), (1009, 1007, 1008, 100)),
  ((⟨"PassForge$BlockPasses", "learnNumber", "(LPassForge$Program;I)V"⟩, prog_2_method_8_code, 4, none, []), (false, 2, 1, 21), (1013, 1012, 31, 106)),
  ((⟨"PassForge$Program", "removeMarked", "()V"⟩, prog_7_method_28_code, 3, none, []), (false, 0, 1, 23), (1018, 1016, 1017, 100)),
  ((⟨"PassForge$BlockPasses", "lookThroughCopies", "(LPassForge$Program;)I"⟩, prog_2_method_9_code, 4, (some .int), []), (false, 1, 3, 70), (1022, 1020, 1021, 106)),
  ((⟨"PassForge$BlockPasses", "forgetCopies", "()V"⟩, prog_2_method_10_code, 2, none, []), (false, 0, 0, 0), (1026, 1025, 32, 106)),
  ((⟨"PassForge$BlockPasses", "putCopies", "(LPassForge$Program;I)I"⟩, prog_2_method_12_code, 6, (some .int), []), (false, 2, 2, 45), (1030, 1029, 33, 106)),
  ((⟨"PassForge$BlockPasses", "copiedBy", "(I)I"⟩, prog_2_method_11_code, 2, (some .int), []), (false, 1, 0, 0), (1034, 1033, 34, 106)),
  ((⟨"PassForge$BlockPasses", "learnCopy", "(LPassForge$Program;I)V"⟩, prog_2_method_13_code, 5, none, []), (false, 2, 1, 21), (1039, 1038, 35, 106)),
  ((⟨"PassForge$BlockPasses", "takeValues", "(LPassForge$Program;)I"⟩, prog_2_method_14_code, 6, (some .int), []), (false, 1, 4, 91), (1043, 1041, 1042, 106)),
  ((⟨"PassForge$BlockPasses", "sameValue", "(LPassForge$Program;II)I"⟩, prog_2_method_15_code, 6, (some .int), []), (true, 3, 3, 66), (1046, 1045, 0, 106)),
  ((⟨"PassForge$BlockPasses", "reckonsSame", "(LPassForge$Program;II)Z"⟩, prog_2_method_16_code, 5, (some .boolean), []), (true, 3, 1, 21), (1051, 1050, 0, 106)),
  ((⟨"PassForge$BlockPasses", "canTurn", "(I)Z"⟩, prog_2_method_17_code, 1, (some .boolean), []), (true, 1, 0, 0), (1054, 1053, 0, 106)),
  ((⟨"PassForge$BlockPasses", "assignedBetween", "(LPassForge$Program;II)I"⟩, prog_2_method_18_code, 5, (some .int), []), (true, 3, 2, 42), (1057, 1056, 0, 106)),
  ((⟨"PassForge$FlowPasses", "drop", "(LPassForge$Program;)I"⟩, prog_4_method_2_code, 5, (some .int), []), (false, 1, 4, 91), (1061, 1059, 1060, 107)),
  ((⟨"PassForge$FlowPasses", "firstNeedless", "(LPassForge$Program;)I"⟩, prog_4_method_3_code, 3, (some .int), []), (false, 1, 3, 65), (1067, 1066, 36, 107)),
  ((⟨"PassForge$FlowPasses", "isNeedless", "(LPassForge$Program;I)Z"⟩, prog_4_method_4_code, 3, (some .boolean), []), (false, 2, 2, 43), (1072, 1071, 37, 107)),
  ((⟨"PassForge$Program", "pastLabels", "(I)I"⟩, prog_7_method_40_code, 3, (some .int), []), (false, 1, 1, 21), (1083, 1081, 1082, 100)),
  ((⟨"PassForge$Program", "removeAt", "(I)V"⟩, prog_7_method_25_code, 3, none, []), (false, 1, 1, 23), (1087, 1085, 1086, 100)),
  ((⟨"PassForge$FlowPasses", "move", "(LPassForge$Program;)I"⟩, prog_4_method_5_code, 5, (some .int), []), (false, 1, 4, 99), (1091, 1089, 1090, 107)),
  ((⟨"PassForge$FlowPasses", "moveFirst", "(LPassForge$Program;)Z"⟩, prog_4_method_6_code, 5, (some .boolean), []), (false, 1, 3, 75), (1095, 1094, 38, 107)),
  ((⟨"PassForge$FlowPasses", "firstMovable", "(LPassForge$Program;II)I"⟩, prog_4_method_7_code, 10, (some .int), []), (false, 3, 2, 46), (1100, 1099, 39, 107)),
  ((⟨"PassForge$FlowPasses", "outsideAhead", "(LPassForge$Program;III)I"⟩, prog_4_method_8_code, 6, (some .int), []), (false, 4, 1, 21), (1105, 1104, 40, 107)),
  ((⟨"PassForge$Program", "moveUp", "(II)V"⟩, prog_7_method_26_code, 4, none, []), (false, 2, 1, 23), (1112, 1110, 1111, 100)),
  ((⟨"PassForgeLaw", "better", "(LPassForge;I[J)I"⟩, method_11_code, 4, (some .int), [(0, 9, 12, 29), (0, 9, 15, 13)]), (true, 3, 8, 173), (1115, 1114, 0, 98)),
  ((⟨"PassForge", "better", "(I)I"⟩, prog_1_method_12_code, 9, (some .int), []), (false, 1, 7, 145), (1119, 1117, 1118, 99)),
  ((⟨"PassForgeLaw", "put", "(LPassForge;J[J)I"⟩, method_12_code, 5, (some .int), [(0, 9, 12, 13)]), (true, 3, 7, 120), (1122, 1121, 0, 98)),
  ((⟨"PassForge", "put", "(J)I"⟩, prog_1_method_13_code, 3, (some .int), []), (false, 1, 6, 98), (1126, 1124, 1125, 99)),
  ((⟨"PassForgeLaw", "run", "(LPassForge;II[J)I"⟩, method_13_code, 5, (some .int), [(0, 10, 13, 29), (0, 10, 17, 19)]), (true, 4, 8, 142), (1130, 1129, 0, 98)),
  ((⟨"PassForge", "run", "(II)I"⟩, prog_1_method_15_code, 4, (some .int), []), (false, 2, 7, 119), (1134, 1132, 1133, 99)),
  ((⟨"PassForge$Machine", "execute", "(LPassForge$Program;[JII)V"⟩, prog_5_method_8_code, 8, none, []), (false, 4, 3, 70), (1139, 1137, 1138, 108))]
def zMt_4 : List zMT := [((⟨"PassForge$Machine", "setValue", "(IJ)V"⟩, prog_5_method_11_code, 4, none, []), (false, 2, 0, 0), (1147, 1146, 41, 108)),
  ((⟨"PassForge$Machine", "follow", "(LPassForge$Program;I)I"⟩, prog_5_method_9_code, 7, (some .int), []), (false, 2, 2, 44), (1151, 1150, 42, 108)),
  ((⟨"PassForge$Machine", "operand", "(IJ)J"⟩, prog_5_method_10_code, 4, (some .long), []), (false, 2, 1, 21), (1157, 1156, 43, 108)),
  ((⟨"PassForge$Machine", "putOut", "(J)V"⟩, prog_5_method_12_code, 3, none, []), (false, 1, 0, 0), (1166, 1165, 44, 108)),
  ((⟨"PassForge$Machine", "steps", "()I"⟩, prog_5_method_2_code, 1, (some .int), []), (false, 0, 0, 0), (1172, 1170, 1171, 108)),
  ((⟨"PassForgeLaw", "ran", "(LPassForge;I[J)I"⟩, method_14_code, 4, (some .int), [(0, 9, 12, 29)]), (true, 3, 7, 119), (1175, 1174, 0, 98)),
  ((⟨"PassForge", "ran", "(I)I"⟩, prog_1_method_16_code, 2, (some .int), []), (false, 1, 6, 98), (1179, 1177, 1178, 99)),
  ((⟨"PassForgeLaw", "output", "(LPassForge;I[J)I"⟩, method_15_code, 4, (some .int), [(0, 8, 11, 29)]), (true, 3, 7, 119), (1183, 1182, 0, 98)),
  ((⟨"PassForge", "output", "(I)J"⟩, prog_1_method_17_code, 2, (some .long), []), (false, 1, 6, 98), (1187, 1185, 1186, 99)),
  ((⟨"PassForgeLaw", "variable", "(LPassForge;I[J)I"⟩, method_16_code, 4, (some .int), [(0, 8, 11, 29)]), (true, 3, 7, 119), (1191, 1190, 0, 98)),
  ((⟨"PassForge", "variable", "(I)J"⟩, prog_1_method_18_code, 2, (some .long), []), (false, 1, 6, 98), (1195, 1193, 1194, 99)),
  ((⟨"PassForgeLaw", "differ", "(LPassForge;IIII[J)I"⟩, method_17_code, 7, (some .int), [(0, 14, 17, 29), (0, 14, 21, 19)]), (true, 6, 8, 149), (1199, 1198, 0, 98)),
  ((⟨"PassForge", "differ", "(IIII)I"⟩, prog_1_method_19_code, 9, (some .int), []), (false, 4, 7, 121), (1203, 1201, 1202, 99)),
  ((⟨"PassForge", "inputsOf", "(II)I"⟩, prog_1_method_29_code, 4, (some .int), []), (true, 2, 6, 98), (1206, 1205, 0, 99)),
  ((⟨"PassForge", "clearDigits", "()V"⟩, prog_1_method_30_code, 2, none, []), (false, 0, 0, 0), (1212, 1211, 45, 99)),
  ((⟨"PassForge$Machine", "isUnlike", "(LPassForge$Machine;)Z"⟩, prog_5_method_7_code, 3, (some .boolean), []), (false, 1, 2, 41), (1216, 1214, 1215, 108)),
  ((⟨"PassForge", "countUpDigits", "(II)V"⟩, prog_1_method_31_code, 4, none, []), (false, 2, 1, 21), (1222, 1221, 46, 99)),
  ((⟨"PassForgeLaw", "share", "(LPassForge;IIII[D)I"⟩, method_18_code, 7, (some .int), [(0, 13, 16, 29), (0, 13, 20, 19)]), (true, 6, 8, 151), (1226, 1225, 0, 98)),
  ((⟨"PassForge", "share", "(IIII)D"⟩, prog_1_method_20_code, 11, (some .double), []), (false, 4, 7, 121), (1230, 1228, 1229, 99)),
  ((⟨"PassForgeModel", "<init>", "()V"⟩, prog_12_method_1_code, 1, none, []), (false, 0, 1, 20), (1235, 1234, 0, 109)),
  ((⟨"PassForgeModel", "thrown", "()I"⟩, prog_12_method_2_code, 1, (some .int), []), (false, 0, 0, 0), (1339, 1337, 1338, 109)),
  ((⟨"PassForgeModel", "feed", "(IIIII)I"⟩, prog_12_method_9_code, 6, (some .int), []), (false, 5, 1, 22), (1343, 1341, 1342, 109)),
  ((⟨"PassForgeModel", "fail", "(I)I"⟩, prog_12_method_3_code, 2, (some .int), []), (false, 1, 0, 0), (1347, 1346, 47, 109)),
  ((⟨"PassForgeModel", "four", "(I)V"⟩, prog_12_method_10_code, 3, none, []), (false, 1, 0, 0), (1351, 1350, 48, 109)),
  ((⟨"PassForgeModel", "trim", "(I)I"⟩, prog_12_method_11_code, 2, (some .int), []), (false, 1, 1, 25), (1355, 1353, 1354, 109)),
  ((⟨"PassForgeModel", "isIn", "(JJJ)Z"⟩, prog_12_method_4_code, 6, (some .boolean), []), (true, 3, 0, 0), (1358, 1357, 0, 109)),
  ((⟨"PassForgeModel", "compile", "()I"⟩, prog_12_method_29_code, 4, (some .int), [(65, 157, 160, 156)]), (false, 0, 12, 248), (1362, 1360, 1361, 109)),
  ((⟨"PassForgeModel", "next", "()V"⟩, prog_12_method_16_code, 2, none, []), (false, 0, 5, 112), (1367, 1366, 49, 109)),
  ((⟨"PassForgeModel", "byteAt", "(I)I"⟩, prog_12_method_12_code, 2, (some .int), []), (false, 1, 0, 0), (1371, 1370, 50, 109)),
  ((⟨"PassForgeModel", "isLetter", "(I)Z"⟩, prog_12_method_13_code, 1, (some .boolean), []), (true, 1, 1, 25), (1374, 1373, 0, 109)),
  ((⟨"PassForgeModel", "isDigit", "(I)Z"⟩, prog_12_method_14_code, 1, (some .boolean), []), (true, 1, 1, 25), (1379, 1378, 0, 109)),
  ((⟨"PassForgeModel", "keyOf", "(J)I"⟩, prog_12_method_15_code, 8, (some .int), []), (true, 1, 4, 85), (1384, 1383, 0, 109)),
  ((⟨"java/lang/String", "indexOf", "(II)I"⟩, prog_21_method_80_code, 3, (some .int), []), (false, 2, 2, 48), (1389, 1387, 1388, 116)),
  ((⟨"java/lang/String", "isLatin1", "()Z"⟩, prog_21_method_154_code, 1, (some .boolean), []), (false, 0, 0, 0), (1393, 1391, 1392, 116)),
  ((⟨"java/lang/String", "length", "()I"⟩, prog_21_method_54_code, 1, (some .int), []), (false, 0, 1, 20), (1399, 1397, 1398, 116)),
  ((⟨"java/lang/String", "coder", "()B"⟩, prog_21_method_152_code, 1, (some .byte), []), (false, 0, 0, 0), (1403, 1401, 1402, 116)),
  ((⟨"java/lang/StringLatin1", "indexOf", "([BIII)I"⟩, prog_22_method_22_code, 4, (some .int), []), (true, 4, 1, 25), (1406, 1405, 0, 117)),
  ((⟨"java/lang/StringLatin1", "canEncode", "(I)Z"⟩, prog_22_method_4_code, 1, (some .boolean), []), (true, 1, 0, 0), (1409, 1408, 0, 117)),
  ((⟨"java/lang/Math", "max", "(II)I"⟩, prog_19_method_65_code, 2, (some .int), []), (true, 2, 0, 0), (1412, 1411, 0, 115)),
  ((⟨"java/lang/StringLatin1", "indexOfChar", "([BIII)I"⟩, prog_22_method_23_code, 6, (some .int), []), (true, 4, 0, 0), (1416, 1415, 0, 117))]
def zMt_5 : List zMT := [((⟨"java/lang/String", "charAt", "(I)C"⟩, prog_21_method_56_code, 2, (some .char), []), (false, 1, 3, 64), (1469, 1467, 1468, 116)),
  ((⟨"java/lang/StringLatin1", "charAt", "([BI)C"⟩, prog_22_method_2_code, 2, (some .char), []), (true, 2, 2, 43), (1472, 1471, 0, 117)),
  ((⟨"java/lang/String", "checkIndex", "(II)V"⟩, prog_21_method_155_code, 2, none, []), (true, 2, 1, 22), (1475, 1474, 0, 116)),
  ((⟨"jdk/internal/util/Preconditions", "checkIndex", "(IILjava/util/function/BiFunction;)I"⟩, prog_26_method_11_code, 3, (some .int), []), (true, 3, 0, 0), (1478, 1477, 0, 119)),
  ((⟨"java/lang/String", "indexOf", "(I)I"⟩, prog_21_method_79_code, 2, (some .int), []), (false, 1, 3, 70), (1491, 1489, 1490, 116)),
  ((⟨"PassForgeModel", "line", "()V"⟩, prog_12_method_27_code, 3, none, []), (false, 0, 11, 226), (1496, 1495, 51, 109)),
  ((⟨"PassForgeModel", "wrong", "()LPassForgeModel$Wrong;"⟩, prog_12_method_17_code, 1, (some (.object "PassForgeModel$Wrong")), []), (false, 0, 7, 129), (1502, 1501, 52, 109)),
  ((⟨"PassForgeModel$Wrong", "<init>", "(II)V"⟩, prog_13_method_1_code, 3, none, []), (false, 2, 6, 107), (1513, 1512, 0, 121)),
  ((⟨"PassForgeModel", "must", "(ZII)V"⟩, prog_12_method_19_code, 4, none, []), (false, 3, 7, 129), (1535, 1534, 53, 109)),
  ((⟨"PassForgeModel", "many", "([J)I"⟩, prog_12_method_6_code, 1, (some .int), []), (true, 1, 0, 0), (1538, 1537, 0, 109)),
  ((⟨"PassForgeModel", "lay", "(IIII)V"⟩, prog_12_method_22_code, 7, none, []), (false, 4, 1, 26), (1542, 1541, 54, 109)),
  ((⟨"PassForgeModel", "named", "(I)V"⟩, prog_12_method_28_code, 6, none, []), (false, 1, 10, 201), (1550, 1549, 55, 109)),
  ((⟨"PassForgeModel", "number", "(IJI)I"⟩, prog_12_method_21_code, 7, (some .int), []), (false, 3, 8, 152), (1554, 1553, 56, 109)),
  ((⟨"PassForgeModel", "indexOf", "([JJJ)I"⟩, prog_12_method_20_code, 6, (some .int), []), (true, 3, 0, 0), (1557, 1556, 0, 109)),
  ((⟨"PassForgeModel", "value", "(II)V"⟩, prog_12_method_24_code, 4, none, []), (false, 2, 9, 178), (1562, 1561, 57, 109)),
  ((⟨"PassForgeModel", "set", "(IIJ)V"⟩, prog_12_method_23_code, 5, none, []), (false, 3, 0, 0), (1566, 1565, 58, 109)),
  ((⟨"PassForgeModel", "take", "(I)V"⟩, prog_12_method_18_code, 2, none, []), (false, 1, 8, 149), (1571, 1570, 59, 109)),
  ((⟨"PassForgeModel", "jump", "(I)V"⟩, prog_12_method_26_code, 3, none, []), (false, 1, 9, 178), (1575, 1574, 60, 109)),
  ((⟨"PassForgeModel", "variable", "()I"⟩, prog_12_method_25_code, 2, (some .int), []), (false, 0, 9, 178), (1579, 1578, 61, 109)),
  ((⟨"PassForgeModel", "errorAt", "()I"⟩, prog_12_method_30_code, 1, (some .int), []), (false, 0, 0, 0), (1584, 1582, 1583, 109)),
  ((⟨"PassForgeModel", "programs", "()I"⟩, prog_12_method_31_code, 1, (some .int), []), (false, 0, 0, 0), (1588, 1586, 1587, 109)),
  ((⟨"PassForgeModel", "count", "(II)I"⟩, prog_12_method_45_code, 3, (some .int), []), (false, 2, 6, 137), (1592, 1590, 1591, 109)),
  ((⟨"PassForgeModel", "isProgram", "(I)Z"⟩, prog_12_method_5_code, 2, (some .boolean), []), (false, 1, 1, 25), (1596, 1595, 62, 109)),
  ((⟨"PassForgeModel", "counted", "(I)I"⟩, prog_12_method_44_code, 5, (some .int), []), (false, 1, 5, 113), (1601, 1600, 63, 109)),
  ((⟨"PassForgeModel", "findReach", "()V"⟩, prog_12_method_42_code, 6, none, []), (false, 0, 4, 88), (1605, 1604, 64, 109)),
  ((⟨"PassForgeModel", "follows", "(II)Z"⟩, prog_12_method_38_code, 4, (some .boolean), []), (false, 2, 3, 65), (1609, 1608, 65, 109)),
  ((⟨"PassForgeModel", "get", "(II)I"⟩, prog_12_method_8_code, 3, (some .int), []), (false, 2, 1, 22), (1613, 1612, 66, 109)),
  ((⟨"PassForgeModel", "get", "([JII)I"⟩, prog_12_method_7_code, 3, (some .int), []), (true, 3, 0, 0), (1616, 1615, 0, 109)),
  ((⟨"PassForgeModel", "jumps", "(I)Z"⟩, prog_12_method_35_code, 2, (some .boolean), []), (false, 1, 2, 44), (1620, 1619, 67, 109)),
  ((⟨"PassForgeModel", "placeOf", "(I)I"⟩, prog_12_method_37_code, 3, (some .int), []), (false, 1, 2, 44), (1624, 1623, 68, 109)),
  ((⟨"PassForgeModel", "beginsBlock", "(I)Z"⟩, prog_12_method_36_code, 2, (some .boolean), []), (false, 1, 3, 65), (1628, 1627, 69, 109)),
  ((⟨"PassForgeModel", "loopEnd", "(I)I"⟩, prog_12_method_43_code, 6, (some .int), []), (false, 1, 4, 88), (1632, 1631, 70, 109)),
  ((⟨"PassForgeModel", "leadsTo", "(I)I"⟩, prog_12_method_39_code, 4, (some .int), []), (false, 1, 3, 65), (1636, 1635, 71, 109)),
  ((⟨"PassForgeModel", "code", "(III)I"⟩, prog_12_method_47_code, 4, (some .int), []), (false, 3, 3, 68), (1640, 1638, 1639, 109)),
  ((⟨"PassForgeModel", "isInstruction", "(II)Z"⟩, prog_12_method_46_code, 3, (some .boolean), []), (false, 2, 2, 46), (1644, 1643, 72, 109)),
  ((⟨"PassForgeModel", "number", "(IIZ)J"⟩, prog_12_method_49_code, 4, (some .long), []), (false, 3, 3, 68), (1649, 1647, 1648, 109)),
  ((⟨"PassForgeModel", "numberOf", "([JII)J"⟩, prog_12_method_48_code, 3, (some .long), []), (true, 3, 0, 0), (1652, 1651, 0, 109)),
  ((⟨"PassForgeModel", "live", "(II)I"⟩, prog_12_method_50_code, 3, (some .int), []), (false, 2, 5, 112), (1656, 1654, 1655, 109)),
  ((⟨"PassForgeModel", "findLive", "()V"⟩, prog_12_method_41_code, 5, none, []), (false, 0, 4, 88), (1660, 1659, 73, 109)),
  ((⟨"PassForgeModel", "ahead", "(I)I"⟩, prog_12_method_40_code, 3, (some .int), []), (false, 1, 3, 65), (1664, 1663, 74, 109))]
def zMt_6 : List zMT := [((⟨"PassForgeModel", "assigns", "(I)Z"⟩, prog_12_method_32_code, 2, (some .boolean), []), (false, 1, 2, 44), (1668, 1667, 75, 109)),
  ((⟨"PassForgeModel", "pass", "(II)I"⟩, prog_12_method_67_code, 3, (some .int), []), (false, 2, 8, 181), (1672, 1670, 1671, 109)),
  ((⟨"PassForgeModel", "begin", "(I)V"⟩, prog_12_method_66_code, 2, none, []), (false, 1, 1, 26), (1676, 1675, 76, 109)),
  ((⟨"PassForgeModel", "make", "(I)I"⟩, prog_12_method_65_code, 2, (some .int), []), (false, 1, 7, 160), (1680, 1679, 77, 109)),
  ((⟨"PassForgeModel", "fold", "()I"⟩, prog_12_method_54_code, 6, (some .int), []), (false, 0, 3, 66), (1684, 1683, 78, 109)),
  ((⟨"PassForgeModel", "isNumber", "(II)Z"⟩, prog_12_method_52_code, 3, (some .boolean), []), (false, 2, 2, 44), (1688, 1687, 79, 109)),
  ((⟨"PassForgeModel", "two", "(IJJ)J"⟩, prog_12_method_53_code, 5, (some .long), []), (true, 3, 0, 0), (1691, 1690, 0, 109)),
  ((⟨"PassForgeModel", "takeOut", "(I)V"⟩, prog_12_method_51_code, 2, none, []), (false, 1, 1, 26), (1695, 1694, 80, 109)),
  ((⟨"PassForgeModel", "copy", "()I"⟩, prog_12_method_55_code, 7, (some .int), []), (false, 0, 3, 66), (1699, 1698, 81, 109)),
  ((⟨"PassForgeModel", "value", "()I"⟩, prog_12_method_59_code, 5, (some .int), []), (false, 0, 4, 92), (1703, 1702, 82, 109)),
  ((⟨"PassForgeModel", "isSameTwo", "(II)Z"⟩, prog_12_method_57_code, 5, (some .boolean), []), (false, 2, 3, 68), (1707, 1706, 83, 109)),
  ((⟨"PassForgeModel", "isSameValue", "(IIII)Z"⟩, prog_12_method_56_code, 5, (some .boolean), []), (false, 4, 2, 44), (1711, 1710, 84, 109)),
  ((⟨"PassForgeModel", "reads", "(II)Z"⟩, prog_12_method_34_code, 3, (some .boolean), []), (false, 2, 2, 44), (1715, 1714, 85, 109)),
  ((⟨"PassForgeModel", "isKept", "(II)Z"⟩, prog_12_method_58_code, 5, (some .boolean), []), (false, 2, 3, 66), (1719, 1718, 86, 109)),
  ((⟨"PassForgeModel", "drop", "()I"⟩, prog_12_method_61_code, 3, (some .int), []), (false, 0, 5, 113), (1723, 1722, 87, 109)),
  ((⟨"PassForgeModel", "isIdle", "(I)Z"⟩, prog_12_method_60_code, 4, (some .boolean), []), (false, 1, 4, 88), (1727, 1726, 88, 109)),
  ((⟨"PassForgeModel", "move", "()I"⟩, prog_12_method_64_code, 2, (some .int), []), (false, 0, 6, 139), (1731, 1730, 89, 109)),
  ((⟨"PassForgeModel", "moveOne", "()Z"⟩, prog_12_method_63_code, 5, (some .boolean), []), (false, 0, 5, 115), (1735, 1734, 90, 109)),
  ((⟨"PassForgeModel", "canMove", "(III)Z"⟩, prog_12_method_62_code, 8, (some .boolean), []), (false, 3, 4, 88), (1739, 1738, 91, 109)),
  ((⟨"PassForgeModel", "better", "(I)I"⟩, prog_12_method_68_code, 6, (some .int), []), (false, 1, 8, 181), (1743, 1741, 1742, 109)),
  ((⟨"PassForgeModel", "put", "(J)I"⟩, prog_12_method_69_code, 3, (some .int), []), (false, 1, 1, 21), (1747, 1745, 1746, 109)),
  ((⟨"PassForgeModel", "empty", "()I"⟩, prog_12_method_70_code, 2, (some .int), []), (false, 0, 0, 0), (1751, 1749, 1750, 109)),
  ((⟨"PassForgeModel", "run", "(II)I"⟩, prog_12_method_75_code, 5, (some .int), []), (false, 2, 6, 138), (1755, 1753, 1754, 109)),
  ((⟨"PassForgeModel", "runWith", "(II[JI)I"⟩, prog_12_method_74_code, 7, (some .int), []), (false, 4, 5, 112), (1760, 1759, 92, 109)),
  ((⟨"PassForgeModel", "behindLabels", "(I)I"⟩, prog_12_method_73_code, 3, (some .int), []), (false, 1, 2, 44), (1764, 1763, 93, 109)),
  ((⟨"PassForgeModel", "step", "(I[JI)I"⟩, prog_12_method_72_code, 5, (some .int), []), (false, 3, 4, 88), (1768, 1767, 94, 109)),
  ((⟨"PassForgeModel", "valueOf", "(II)J"⟩, prog_12_method_71_code, 3, (some .long), []), (false, 2, 3, 66), (1772, 1771, 95, 109)),
  ((⟨"PassForgeModel", "ran", "(I)I"⟩, prog_12_method_76_code, 2, (some .int), []), (false, 1, 1, 25), (1776, 1774, 1775, 109)),
  ((⟨"PassForgeModel", "output", "(I)J"⟩, prog_12_method_77_code, 2, (some .long), []), (false, 1, 1, 25), (1780, 1778, 1779, 109)),
  ((⟨"PassForgeModel", "variable", "(I)J"⟩, prog_12_method_78_code, 2, (some .long), []), (false, 1, 1, 25), (1784, 1782, 1783, 109)),
  ((⟨"PassForgeModel", "differ", "(IIII)I"⟩, prog_12_method_83_code, 6, (some .int), []), (false, 4, 7, 165), (1789, 1787, 1788, 109)),
  ((⟨"PassForgeModel", "areCases", "(II)Z"⟩, prog_12_method_80_code, 2, (some .boolean), []), (true, 2, 1, 25), (1792, 1791, 0, 109)),
  ((⟨"PassForgeModel", "inputsOf", "(II)I"⟩, prog_12_method_79_code, 4, (some .int), []), (true, 2, 0, 0), (1795, 1794, 0, 109)),
  ((⟨"PassForgeModel", "layCase", "(III)V"⟩, prog_12_method_81_code, 6, none, []), (false, 3, 0, 0), (1799, 1798, 96, 109)),
  ((⟨"PassForgeModel", "isOther", "(III)Z"⟩, prog_12_method_82_code, 8, (some .boolean), []), (false, 3, 6, 138), (1803, 1802, 97, 109)),
  ((⟨"PassForgeModel", "share", "(IIII)D"⟩, prog_12_method_84_code, 8, (some .double), []), (false, 4, 6, 138), (1807, 1805, 1806, 109)),
  ((⟨"PassForgeModel", "digest", "()J"⟩, prog_12_method_85_code, 6, (some .long), []), (false, 0, 6, 137), (1811, 1809, 1810, 109)),
  ((⟨"PassForgeLaw", "law", "([I)Z"⟩, code, 9, (some .boolean), []), (true, 1, 13, 271), (0, 0, 0, 0))]
def zMt : List zMT := zMt_0 ++ (zMt_1 ++ (zMt_2 ++ (zMt_3 ++ (zMt_4 ++ (zMt_5 ++ (zMt_6))))))
def zM (m : Nat) : zMT := zMt.getD m ((⟨"", "", ""⟩, ByteArray.empty, 0, none, []), (false, 0, 0, 0), (0, 0, 0, 0))
def zY (m : Nat) : MethodName := (zM m).1.1
def zBy (m : Nat) : ByteArray := (zM m).1.2.1
def zMl (m : Nat) : Nat := (zM m).1.2.2.1
def zRt (m : Nat) : Option FieldType := (zM m).1.2.2.2.1
def zHh (m : Nat) : List (Nat × Nat × Nat × Nat) := (zM m).1.2.2.2.2
def zSt (m : Nat) : Bool := (zM m).2.1.1
def zNp (m : Nat) : Nat := (zM m).2.1.2.1
def zDep (m : Nat) : Nat := (zM m).2.1.2.2.1
def zLoc (m : Nat) : Nat := (zM m).2.1.2.2.2
def zP1 (m : Nat) : Nat := (zM m).2.2.1
def zP2 (m : Nat) : Nat := (zM m).2.2.2.1
def zP3 (m : Nat) : Nat := (zM m).2.2.2.2.1
def zP4 (m : Nat) : Nat := (zM m).2.2.2.2.2
/-- the classes by their kinds -/
def zCN : Nat → String
  | 0 => "PassForge"
  | 1 => "PassForge$Program"
  | 2 => "PassForge$Tape"
  | 3 => "PassForge$Reader"
  | 4 => "PassForge$Tokens"
  | 5 => "PassForge$Names"
  | 6 => "PassForge$Flow"
  | 7 => "PassForge$BlockPasses"
  | 8 => "PassForge$FlowPasses"
  | 9 => "PassForge$Machine"
  | 10 => "PassForgeModel"
  | 11 => "PassForgeModel$Wrong"
  | 12 => "java/lang/String"
  | 13 => "java/lang/IllegalStateException"
  | 14 => "java/lang/IllegalArgumentException"
  | 15 => "java/lang/IndexOutOfBoundsException"
  | _ => ""
/-- their fields: declarer, name, descriptor, final -/
def zFd_0 : u_T := fun k => match k with
  | 0 => ("PassForge", "row", "[LPassForge$Program;", true)
  | 1 => ("PassForge", "made", "I", false)
  | 2 => ("PassForge", "tape", "LPassForge$Tape;", true)
  | 3 => ("PassForge", "reader", "LPassForge$Reader;", true)
  | 4 => ("PassForge", "flow", "LPassForge$Flow;", true)
  | 5 => ("PassForge", "blockPasses", "LPassForge$BlockPasses;", true)
  | 6 => ("PassForge", "flowPasses", "LPassForge$FlowPasses;", true)
  | 7 => ("PassForge", "input", "[J", true)
  | 8 => ("PassForge", "inputSize", "I", false)
  | 9 => ("PassForge", "latest", "LPassForge$Machine;", true)
  | 10 => ("PassForge", "left", "LPassForge$Machine;", true)
  | 11 => ("PassForge", "right", "LPassForge$Machine;", true)
  | 12 => ("PassForge", "digits", "[J", true)
  | _ => ("", "", "", false)
def zFd_1 : u_T := fun k => match k with
  | 0 => ("PassForge$Program", "sort", "[I", true)
  | 1 => ("PassForge$Program", "target", "[I", true)
  | 2 => ("PassForge$Program", "op", "[I", true)
  | 3 => ("PassForge$Program", "firstVariable", "[I", true)
  | 4 => ("PassForge$Program", "secondVariable", "[I", true)
  | 5 => ("PassForge$Program", "firstNumber", "[J", true)
  | 6 => ("PassForge$Program", "secondNumber", "[J", true)
  | 7 => ("PassForge$Program", "isGone", "[Z", true)
  | 8 => ("PassForge$Program", "liveBehind", "[I", true)
  | 9 => ("PassForge$Program", "place", "[I", true)
  | 10 => ("PassForge$Program", "jumps", "[I", true)
  | 11 => ("PassForge$Program", "jump", "[I", true)
  | 12 => ("PassForge$Program", "size", "I", false)
  | 13 => ("PassForge$Program", "variables", "I", false)
  | 14 => ("PassForge$Program", "labels", "I", false)
  | 15 => ("PassForge$Program", "blocks", "I", false)
  | 16 => ("PassForge$Program", "loops", "I", false)
  | 17 => ("PassForge$Program", "unreached", "I", false)
  | _ => ("", "", "", false)
def zFd_2 : u_T := fun k => match k with
  | 0 => ("PassForge$Tape", "bytes", "[I", true)
  | 1 => ("PassForge$Tape", "size", "I", false)
  | _ => ("", "", "", false)
def zFd_3 : u_T := fun k => match k with
  | 0 => ("PassForge$Reader", "tokens", "LPassForge$Tokens;", true)
  | 1 => ("PassForge$Reader", "variables", "LPassForge$Names;", true)
  | 2 => ("PassForge$Reader", "labels", "LPassForge$Names;", true)
  | 3 => ("PassForge$Reader", "fault", "I", false)
  | 4 => ("PassForge$Reader", "faultPlace", "I", false)
  | 5 => ("PassForge$Reader", "target", "I", false)
  | 6 => ("PassForge$Reader", "op", "I", false)
  | 7 => ("PassForge$Reader", "firstVariable", "I", false)
  | 8 => ("PassForge$Reader", "firstNumber", "J", false)
  | 9 => ("PassForge$Reader", "secondVariable", "I", false)
  | 10 => ("PassForge$Reader", "secondNumber", "J", false)
  | 11 => ("PassForge$Reader", "variable", "I", false)
  | 12 => ("PassForge$Reader", "amount", "J", false)
  | _ => ("", "", "", false)
def zFd_4 : u_T := fun k => match k with
  | 0 => ("PassForge$Tokens", "kinds", "[I", true)
  | 1 => ("PassForge$Tokens", "starts", "[I", true)
  | 2 => ("PassForge$Tokens", "contents", "[J", true)
  | 3 => ("PassForge$Tokens", "size", "I", false)
  | 4 => ("PassForge$Tokens", "current", "I", false)
  | _ => ("", "", "", false)
def zFd_5 : u_T := fun k => match k with
  | 0 => ("PassForge$Names", "words", "[J", true)
  | 1 => ("PassForge$Names", "firstPlace", "[I", true)
  | 2 => ("PassForge$Names", "isSet", "[Z", true)
  | 3 => ("PassForge$Names", "size", "I", false)
  | _ => ("", "", "", false)
def zFd_6 : u_T := fun k => match k with
  | 0 => ("PassForge$Flow", "isReached", "[Z", true)
  | 1 => ("PassForge$Flow", "ahead", "[I", true)
  | 2 => ("PassForge$Flow", "behind", "[I", true)
  | _ => ("", "", "", false)
def zFd_7 : u_T := fun k => match k with
  | 0 => ("PassForge$BlockPasses", "isKnown", "[Z", true)
  | 1 => ("PassForge$BlockPasses", "known", "[J", true)
  | 2 => ("PassForge$BlockPasses", "copied", "[I", true)
  | _ => ("", "", "", false)
def zFd_8 : u_T := fun k => match k with
  | 0 => ("PassForge$FlowPasses", "flow", "LPassForge$Flow;", true)
  | _ => ("", "", "", false)
def zFd_9 : u_T := fun k => match k with
  | 0 => ("PassForge$Machine", "values", "[J", true)
  | 1 => ("PassForge$Machine", "outputs", "[J", true)
  | 2 => ("PassForge$Machine", "outputCount", "I", false)
  | 3 => ("PassForge$Machine", "readCount", "I", false)
  | 4 => ("PassForge$Machine", "steps", "I", false)
  | 5 => ("PassForge$Machine", "isStopped", "Z", false)
  | _ => ("", "", "", false)
def zFd_10 : u_T := fun k => match k with
  | 0 => ("PassForgeModel", "thrown", "I", false)
  | 1 => ("PassForgeModel", "programs", "I", false)
  | 2 => ("PassForgeModel", "table", "[[J", true)
  | 3 => ("PassForgeModel", "now", "[J", false)
  | 4 => ("PassForgeModel", "tape", "[I", true)
  | 5 => ("PassForgeModel", "taped", "I", false)
  | 6 => ("PassForgeModel", "at", "I", false)
  | 7 => ("PassForgeModel", "kind", "I", false)
  | 8 => ("PassForgeModel", "place", "I", false)
  | 9 => ("PassForgeModel", "word", "J", false)
  | 10 => ("PassForgeModel", "variableNames", "[J", true)
  | 11 => ("PassForgeModel", "labelNames", "[J", true)
  | 12 => ("PassForgeModel", "areThere", "[Z", true)
  | 13 => ("PassForgeModel", "wanted", "[I", true)
  | 14 => ("PassForgeModel", "errorAt", "I", false)
  | 15 => ("PassForgeModel", "behind", "[I", true)
  | 16 => ("PassForgeModel", "canCome", "[Z", true)
  | 17 => ("PassForgeModel", "known", "[Z", true)
  | 18 => ("PassForgeModel", "knownAs", "[J", true)
  | 19 => ("PassForgeModel", "copyOf", "[I", true)
  | 20 => ("PassForgeModel", "inputs", "I", false)
  | 21 => ("PassForgeModel", "input", "[J", true)
  | 22 => ("PassForgeModel", "values", "[J", true)
  | 23 => ("PassForgeModel", "outputs", "[J", true)
  | 24 => ("PassForgeModel", "isStopped", "Z", false)
  | 25 => ("PassForgeModel", "put", "I", false)
  | 26 => ("PassForgeModel", "read", "I", false)
  | 27 => ("PassForgeModel", "ranValues", "[J", true)
  | 28 => ("PassForgeModel", "ranOutputs", "[J", true)
  | 29 => ("PassForgeModel", "ran", "[I", true)
  | 30 => ("PassForgeModel", "cases", "[J", true)
  | 31 => ("PassForgeModel", "kept", "[J", true)
  | _ => ("", "", "", false)
def zFd_11 : u_T := fun k => match k with
  | 0 => ("PassForgeModel$Wrong", "error", "I", true)
  | 1 => ("PassForgeModel$Wrong", "place", "I", true)
  | 2 => ("java/lang/Throwable", "backtrace", "Ljava/lang/Object;", false)
  | _ => ("", "", "", false)
def zFd_12 : u_T := fun k => match k with
  | 0 => ("java/lang/String", "value", "[B", true)
  | 1 => ("java/lang/String", "coder", "B", true)
  | _ => ("", "", "", false)
def zFd_13 : u_T := fun k => match k with
  | _ => ("", "", "", false)
def zFd_14 : u_T := fun k => match k with
  | _ => ("", "", "", false)
def zFd_15 : u_T := fun k => match k with
  | _ => ("", "", "", false)
def zFd : Nat → u_T
  | 0 => zFd_0
  | 1 => zFd_1
  | 2 => zFd_2
  | 3 => zFd_3
  | 4 => zFd_4
  | 5 => zFd_5
  | 6 => zFd_6
  | 7 => zFd_7
  | 8 => zFd_8
  | 9 => zFd_9
  | 10 => zFd_10
  | 11 => zFd_11
  | 12 => zFd_12
  | 13 => zFd_13
  | 14 => zFd_14
  | 15 => zFd_15
  | _ => fun _ => ("", "", "", false)
def zFn : Nat → Nat
  | 0 => 13
  | 1 => 18
  | 2 => 2
  | 3 => 13
  | 4 => 5
  | 5 => 4
  | 6 => 3
  | 7 => 3
  | 8 => 1
  | 9 => 6
  | 10 => 32
  | 11 => 3
  | 12 => 2
  | 13 => 0
  | 14 => 0
  | 15 => 0
  | _ => 0
def zFt (d : String) : FieldType := (parseFieldDescriptor d).getD .int
def zIn_ : Nat → Nat
  | 0 => 13
  | 1 => 18
  | 2 => 2
  | 3 => 13
  | 4 => 5
  | 5 => 4
  | 6 => 3
  | 7 => 3
  | 8 => 1
  | 9 => 6
  | 10 => 32
  | 11 => 8
  | 13 => 6
  | 14 => 6
  | 15 => 6
  | _ => 0
/-- the texts: class, entry, text, the small machine's cell (0: none) -/
def zTx : List (String × Nat × String × Nat) := [("PassForge", 77, "the tape is full", 0),
  ("PassForge", 91, "the tape has not so many bytes", 0),
  ("PassForge", 122, "what is not 0 to 5", 0),
  ("PassForge", 133, "what is not 0 to 4", 0),
  ("PassForge", 149, "pass is not 0 to 4", 0),
  ("PassForge", 161, "the input is full", 0),
  ("PassForge", 163, "most is not 1 to 5000", 0),
  ("PassForge", 172, "what is not 0 to 2", 0),
  ("PassForge", 180, "no such number is kept", 0),
  ("PassForge", 185, "variable is not 0 to 11", 0),
  ("PassForge", 217, "no such program", 0),
  ("PassForge", 223, "no such instruction", 0),
  ("PassForge", 225, "there are 12 programs", 0),
  ("PassForge", 246, "n is not 0 to 4, or v is not 1 to 5", 0),
  ("PassForge", 248, "there are more than 64 inputs", 0),
  ("PassForgeModel", 111, "goto if in out halt ", 3),
  ("PassForgeModel", 152, "+-*/%&|^<=", 1)]
/-- places of the words of a class: instantiable, initialized -/
def zKp : Nat → Nat × Nat
  | 0 => (125, 99)
  | 1 => (134, 100)
  | 2 => (198, 101)
  | 3 => (211, 102)
  | 4 => (217, 103)
  | 5 => (239, 104)
  | 6 => (298, 105)
  | 7 => (314, 106)
  | 8 => (330, 107)
  | 9 => (342, 108)
  | 10 => (1232, 109)
  | 11 => (1503, 121)
  | 13 => (514, 113)
  | 14 => (595, 114)
  | 15 => (895, 123)
  | _ => (0, 0)
def zHp (own : String) (ct : Nat) : Nat := ((([("PassForge", 9, 132), ("PassForge", 16, 197), ("PassForge", 23, 210), ("PassForge", 30, 297), ("PassForge", 37, 313), ("PassForge", 44, 329), ("PassForge", 55, 341), ("PassForge", 75, 513), ("PassForge", 89, 594), ("PassForge", 120, 894), ("PassForge$FlowPasses", 9, 335), ("PassForge$Reader", 9, 216), ("PassForge$Reader", 18, 238), ("PassForgeLaw", 8, 124), ("PassForgeLaw", 13, 504), ("PassForgeLaw", 19, 589), ("PassForgeLaw", 29, 885), ("PassForgeLaw", 74, 1231), ("PassForgeModel", 9, 1237), ("PassForgeModel", 156, 1363)] : List (String × Nat × Nat)).find? fun x => decide (x.2.1 = ct) && decide (x.1 = own)).map fun x => x.2.2).getD 0
def zThIc : Nat → Nat
  | 13 => 79
  | 14 => 93
  | 15 => 124
  | _ => 0
def zThPs : Nat → List Nat
  | 13 => [110, 535, 544, 549, 552, 554, 536, 537, 130, 131, 538, 543, 550, 570, 525, 571, 527, 572, 529, 539, 541, 531, 566, 567, 569, 531, 557, 558, 559, 560, 517, 560, 561, 562, 563, 519, 563, 564, 565, 566, 521, 556, 514, 515, 522, 523, 524, 526, 528, 530, 534, 533, 532]
  | 14 => [110, 535, 544, 549, 552, 554, 536, 537, 130, 131, 538, 543, 550, 570, 525, 571, 527, 572, 529, 539, 541, 531, 566, 567, 569, 531, 605, 606, 607, 560, 517, 560, 561, 562, 563, 519, 563, 564, 565, 566, 521, 604, 595, 596, 597, 547, 598, 599, 600, 601, 534, 533, 602]
  | 15 => [110, 535, 544, 549, 552, 554, 536, 537, 130, 131, 538, 543, 550, 570, 525, 571, 527, 572, 529, 539, 541, 531, 566, 567, 569, 531, 905, 906, 907, 560, 517, 560, 561, 562, 563, 519, 563, 564, 565, 566, 521, 904, 895, 896, 897, 548, 898, 899, 900, 901, 534, 533, 902]
  | _ => []
def zWrPs : List Nat := [110, 535, 544, 549, 552, 554, 536, 537, 130, 131, 538, 543, 550, 570, 525, 571, 527, 572, 529, 539, 541, 531, 1515, 1516, 1517, 1518, 518, 1518, 1519, 1520, 536, 520, 1514, 1503, 1504, 1505, 546, 1506, 1507, 1508, 1509, 534, 533, 1510]
end ZTAB
