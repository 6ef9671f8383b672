/-! Tables: the methods, the classes, the texts. By program (wip/whole/gen/emit_tab.py). -/
section ZTAB
abbrev zMT : Type := (MethodName × ByteArray × Nat × Option FieldType × List (Nat × Nat × Nat × Nat)) × (Bool × Nat × Nat × Nat) × (Nat × Nat × Nat × Nat)
def zMt_0 : List zMT := [((⟨"PassForge", "<init>", "()V"⟩, prog_1_method_1_code, 2, none, []), (false, 0, 3, 60), (129, 128, 0, 100)),
  ((⟨"PassForge$Program", "<init>", "()V"⟩, prog_7_method_1_code, 1, none, []), (false, 0, 1, 20), (138, 137, 0, 101)),
  ((⟨"PassForge$Tape", "<init>", "()V"⟩, prog_9_method_1_code, 1, none, []), (false, 0, 1, 20), (202, 201, 0, 102)),
  ((⟨"PassForge$Reader", "<init>", "()V"⟩, prog_8_method_1_code, 1, none, []), (false, 0, 2, 40), (215, 214, 0, 103)),
  ((⟨"PassForge$Tokens", "<init>", "()V"⟩, prog_10_method_1_code, 1, none, []), (false, 0, 1, 20), (221, 220, 0, 104)),
  ((⟨"PassForge$Names", "<init>", "()V"⟩, prog_6_method_1_code, 1, none, []), (false, 0, 1, 20), (243, 242, 0, 105)),
  ((⟨"PassForge$Flow", "<init>", "()V"⟩, prog_3_method_1_code, 1, none, []), (false, 0, 1, 20), (302, 301, 0, 106)),
  ((⟨"PassForge$BlockPasses", "<init>", "()V"⟩, prog_2_method_1_code, 1, none, []), (false, 0, 1, 20), (318, 317, 0, 107)),
  ((⟨"PassForge$FlowPasses", "<init>", "()V"⟩, prog_4_method_1_code, 1, none, []), (false, 0, 2, 40), (334, 333, 0, 108)),
  ((⟨"PassForge$Machine", "<init>", "()V"⟩, prog_5_method_1_code, 1, none, []), (false, 0, 1, 20), (346, 345, 0, 109)),
  ((⟨"PassForge", "errorAt", "()I"⟩, prog_1_method_5_code, 1, (some .int), []), (false, 0, 1, 20), (410, 408, 409, 100)),
  ((⟨"PassForge$Reader", "faultPlace", "()I"⟩, prog_8_method_2_code, 1, (some .int), []), (false, 0, 0, 0), (414, 412, 413, 103)),
  ((⟨"PassForge", "programs", "()I"⟩, prog_1_method_6_code, 1, (some .int), []), (false, 0, 0, 0), (418, 416, 417, 100)),
  ((⟨"PassForge", "empty", "()I"⟩, prog_1_method_14_code, 2, (some .int), []), (false, 0, 0, 0), (422, 420, 421, 100)),
  ((⟨"PassForge", "digest", "()J"⟩, prog_1_method_21_code, 4, (some .long), []), (false, 0, 3, 69), (426, 424, 425, 100)),
  ((⟨"PassForge", "mix", "(JJ)J"⟩, prog_1_method_22_code, 4, (some .long), []), (true, 2, 0, 0), (430, 429, 0, 100)),
  ((⟨"PassForge", "mixProgram", "(JLPassForge$Program;)J"⟩, prog_1_method_23_code, 7, (some .long), []), (true, 2, 2, 43), (434, 433, 0, 100)),
  ((⟨"PassForge$Program", "tally", "(I)I"⟩, prog_7_method_13_code, 2, (some .int), []), (false, 1, 0, 0), (438, 436, 437, 101)),
  ((⟨"PassForge$Program", "size", "()I"⟩, prog_7_method_2_code, 1, (some .int), []), (false, 0, 0, 0), (442, 440, 441, 101)),
  ((⟨"PassForge$Program", "part", "(II)I"⟩, prog_7_method_12_code, 3, (some .int), []), (false, 2, 1, 21), (446, 444, 445, 101)),
  ((⟨"PassForge$Program", "sortAt", "(I)I"⟩, prog_7_method_4_code, 2, (some .int), []), (false, 1, 0, 0), (450, 448, 449, 101)),
  ((⟨"PassForge$Program", "targetAt", "(I)I"⟩, prog_7_method_5_code, 2, (some .int), []), (false, 1, 0, 0), (454, 452, 453, 101)),
  ((⟨"PassForge$Program", "opAt", "(I)I"⟩, prog_7_method_6_code, 2, (some .int), []), (false, 1, 0, 0), (458, 456, 457, 101)),
  ((⟨"PassForge$Program", "firstVariableAt", "(I)I"⟩, prog_7_method_7_code, 2, (some .int), []), (false, 1, 0, 0), (462, 460, 461, 101)),
  ((⟨"PassForge$Program", "secondVariableAt", "(I)I"⟩, prog_7_method_8_code, 2, (some .int), []), (false, 1, 0, 0), (466, 464, 465, 101)),
  ((⟨"PassForge$Program", "firstNumberAt", "(I)J"⟩, prog_7_method_9_code, 2, (some .long), []), (false, 1, 0, 0), (470, 468, 469, 101)),
  ((⟨"PassForge$Program", "secondNumberAt", "(I)J"⟩, prog_7_method_10_code, 2, (some .long), []), (false, 1, 0, 0), (474, 472, 473, 101)),
  ((⟨"PassForge$Program", "liveAt", "(I)I"⟩, prog_7_method_11_code, 2, (some .int), []), (false, 1, 0, 0), (478, 476, 477, 101)),
  ((⟨"PassForge$Tape", "size", "()I"⟩, prog_9_method_2_code, 1, (some .int), []), (false, 0, 0, 0), (482, 480, 481, 102)),
  ((⟨"PassForge$Machine", "report", "(I)I"⟩, prog_5_method_6_code, 2, (some .int), []), (false, 1, 0, 0), (486, 484, 485, 109)),
  ((⟨"PassForge$Machine", "kept", "()I"⟩, prog_5_method_3_code, 1, (some .int), []), (false, 0, 1, 21), (490, 488, 489, 109)),
  ((⟨"java/lang/Math", "min", "(II)I"⟩, prog_19_method_69_code, 2, (some .int), []), (true, 2, 0, 0), (493, 492, 0, 116)),
  ((⟨"PassForge$Machine", "keptAt", "(I)J"⟩, prog_5_method_4_code, 2, (some .long), []), (false, 1, 0, 0), (497, 495, 496, 109)),
  ((⟨"PassForge$Machine", "valueOf", "(I)J"⟩, prog_5_method_5_code, 2, (some .long), []), (false, 1, 0, 0), (501, 499, 500, 109)),
  ((⟨"PassForgeLaw", "feed", "(LPassForge;IIIII[J)I"⟩, method_3_code, 8, (some .int), [(0, 16, 19, 13)]), (true, 7, 7, 123), (504, 503, 0, 99)),
  ((⟨"PassForge", "feed", "(IIIII)I"⟩, prog_1_method_2_code, 6, (some .int), []), (false, 5, 6, 98), (509, 507, 508, 100)),
  ((⟨"PassForge$Tape", "room", "()I"⟩, prog_9_method_3_code, 1, (some .int), []), (false, 0, 0, 0), (513, 511, 512, 102)),
  ((⟨"PassForge$Tape", "addFour", "(I)V"⟩, prog_9_method_6_code, 3, none, []), (false, 1, 0, 0), (586, 584, 585, 102)),
  ((⟨"PassForgeLaw", "trim", "(LPassForge;I[J)I"⟩, method_4_code, 4, (some .int), [(0, 9, 12, 19)]), (true, 3, 7, 119), (589, 588, 0, 99)),
  ((⟨"PassForge", "trim", "(I)I"⟩, prog_1_method_3_code, 2, (some .int), []), (false, 1, 6, 98), (594, 592, 593, 100))]
def zMt_1 : List zMT := [((⟨"PassForge$Tape", "shorten", "(I)V"⟩, prog_9_method_5_code, 2, none, []), (false, 1, 0, 0), (614, 612, 613, 102)),
  ((⟨"PassForgeLaw", "compile", "(LPassForge;[J)I"⟩, method_5_code, 3, (some .int), [(0, 8, 11, 13)]), (true, 2, 8, 159), (617, 616, 0, 99)),
  ((⟨"PassForge", "compile", "()I"⟩, prog_1_method_4_code, 3, (some .int), []), (false, 0, 7, 137), (621, 619, 620, 100)),
  ((⟨"PassForge", "freshProgram", "()LPassForge$Program;"⟩, prog_1_method_26_code, 1, (some (.object "PassForge$Program")), []), (false, 0, 6, 98), (625, 624, 1, 100)),
  ((⟨"PassForge$Reader", "read", "(LPassForge$Tape;LPassForge$Program;)I"⟩, prog_8_method_3_code, 5, (some .int), []), (false, 2, 5, 113), (630, 628, 629, 103)),
  ((⟨"PassForge$Names", "clear", "()V"⟩, prog_6_method_3_code, 1, none, []), (false, 0, 0, 0), (634, 632, 633, 105)),
  ((⟨"PassForge$Program", "clear", "()V"⟩, prog_7_method_14_code, 1, none, []), (false, 0, 0, 0), (638, 636, 637, 101)),
  ((⟨"PassForge$Tokens", "cut", "(LPassForge$Tape;)V"⟩, prog_10_method_6_code, 3, none, []), (false, 1, 3, 72), (642, 640, 641, 104)),
  ((⟨"PassForge$Tokens", "cutOne", "(LPassForge$Tape;I)I"⟩, prog_10_method_7_code, 4, (some .int), []), (false, 2, 2, 49), (647, 646, 2, 104)),
  ((⟨"PassForge$Tape", "byteAt", "(I)I"⟩, prog_9_method_4_code, 2, (some .int), []), (false, 1, 0, 0), (651, 649, 650, 102)),
  ((⟨"PassForge$Tokens", "isLetter", "(I)Z"⟩, prog_10_method_11_code, 1, (some .boolean), []), (true, 1, 0, 0), (654, 653, 0, 104)),
  ((⟨"PassForge$Tokens", "cutWord", "(LPassForge$Tape;I)I"⟩, prog_10_method_9_code, 6, (some .int), []), (false, 2, 1, 24), (658, 657, 3, 104)),
  ((⟨"PassForge$Tokens", "isDigit", "(I)Z"⟩, prog_10_method_12_code, 1, (some .boolean), []), (true, 1, 0, 0), (661, 660, 0, 104)),
  ((⟨"PassForge$Tokens", "kindOfWord", "(J)I"⟩, prog_10_method_14_code, 2, (some .int), []), (true, 1, 0, 0), (664, 663, 0, 104)),
  ((⟨"PassForge$Tokens", "add", "(IIJ)V"⟩, prog_10_method_8_code, 5, none, []), (false, 3, 0, 0), (673, 672, 4, 104)),
  ((⟨"PassForge$Tokens", "cutNumber", "(LPassForge$Tape;I)I"⟩, prog_10_method_10_code, 6, (some .int), []), (false, 2, 1, 24), (677, 676, 5, 104)),
  ((⟨"PassForge$Tokens", "isSymbol", "(I)Z"⟩, prog_10_method_13_code, 1, (some .boolean), []), (true, 1, 1, 20), (681, 680, 0, 104)),
  ((⟨"PassForge$Tokens", "opOf", "(I)I"⟩, prog_10_method_15_code, 1, (some .int), []), (true, 1, 0, 0), (684, 683, 0, 104)),
  ((⟨"java/lang/Math", "max", "(II)I"⟩, prog_19_method_65_code, 2, (some .int), []), (true, 2, 0, 0), (687, 686, 0, 116)),
  ((⟨"PassForge$Reader", "readLine", "(LPassForge$Program;)Z"⟩, prog_8_method_5_code, 3, (some .boolean), []), (false, 1, 4, 91), (691, 690, 6, 103)),
  ((⟨"PassForge$Tokens", "kind", "()I"⟩, prog_10_method_2_code, 1, (some .int), []), (false, 0, 0, 0), (695, 693, 694, 104)),
  ((⟨"PassForge$Tokens", "start", "()I"⟩, prog_10_method_3_code, 1, (some .int), []), (false, 0, 0, 0), (699, 697, 698, 104)),
  ((⟨"PassForge$Reader", "fail", "(II)Z"⟩, prog_8_method_4_code, 3, (some .boolean), []), (false, 2, 0, 0), (703, 702, 7, 103)),
  ((⟨"PassForge$Reader", "forgetInstruction", "()V"⟩, prog_8_method_6_code, 1, none, []), (false, 0, 0, 0), (708, 707, 8, 103)),
  ((⟨"PassForge$Reader", "readNamed", "(LPassForge$Program;)Z"⟩, prog_8_method_8_code, 5, (some .boolean), []), (false, 1, 3, 67), (712, 711, 9, 103)),
  ((⟨"PassForge$Tokens", "content", "()J"⟩, prog_10_method_4_code, 1, (some .long), []), (false, 0, 0, 0), (716, 714, 715, 104)),
  ((⟨"PassForge$Tokens", "toNext", "()V"⟩, prog_10_method_5_code, 1, none, []), (false, 0, 0, 0), (720, 718, 719, 104)),
  ((⟨"PassForge$Names", "find", "(JI)I"⟩, prog_6_method_4_code, 5, (some .int), []), (false, 2, 0, 0), (724, 722, 723, 105)),
  ((⟨"PassForge$Names", "setOnce", "(I)Z"⟩, prog_6_method_5_code, 2, (some .boolean), []), (false, 1, 0, 0), (728, 726, 727, 105)),
  ((⟨"PassForge$Reader", "add", "(LPassForge$Program;I)Z"⟩, prog_8_method_7_code, 3, (some .boolean), []), (false, 2, 2, 45), (732, 731, 10, 103)),
  ((⟨"PassForge$Program", "add", "(III)V"⟩, prog_7_method_16_code, 4, none, []), (false, 3, 0, 0), (736, 734, 735, 101)),
  ((⟨"PassForge$Program", "setFirst", "(IIJ)V"⟩, prog_7_method_17_code, 5, none, []), (false, 3, 1, 21), (740, 738, 739, 101)),
  ((⟨"PassForge$Program", "has", "(I)Z"⟩, prog_7_method_3_code, 2, (some .boolean), []), (false, 1, 0, 0), (744, 742, 743, 101)),
  ((⟨"PassForge$Program", "setSecond", "(IIJ)V"⟩, prog_7_method_18_code, 5, none, []), (false, 3, 1, 21), (748, 746, 747, 101)),
  ((⟨"PassForge$Reader", "take", "(I)Z"⟩, prog_8_method_9_code, 2, (some .boolean), []), (false, 1, 1, 22), (752, 751, 11, 103)),
  ((⟨"PassForge$Reader", "readValue", "()Z"⟩, prog_8_method_14_code, 2, (some .boolean), []), (false, 0, 2, 46), (756, 755, 12, 103)),
  ((⟨"PassForge$Reader", "takeName", "(LPassForge$Names;)I"⟩, prog_8_method_11_code, 3, (some .int), []), (false, 1, 1, 24), (760, 759, 13, 103)),
  ((⟨"PassForge$Reader", "keepFirst", "()Z"⟩, prog_8_method_12_code, 1, (some .boolean), []), (false, 0, 0, 0), (764, 763, 14, 103)),
  ((⟨"PassForge$Reader", "keepSecond", "()Z"⟩, prog_8_method_13_code, 1, (some .boolean), []), (false, 0, 0, 0), (769, 768, 15, 103)),
  ((⟨"PassForge$Reader", "readName", "(LPassForge$Names;)Z"⟩, prog_8_method_10_code, 2, (some .boolean), []), (false, 1, 2, 46), (773, 772, 16, 103))]
def zMt_2 : List zMT := [((⟨"PassForge$Names", "firstUnset", "()I"⟩, prog_6_method_6_code, 2, (some .int), []), (false, 0, 0, 0), (777, 775, 776, 105)),
  ((⟨"PassForge$Names", "size", "()I"⟩, prog_6_method_2_code, 1, (some .int), []), (false, 0, 0, 0), (781, 779, 780, 105)),
  ((⟨"PassForge$Program", "setNames", "(II)V"⟩, prog_7_method_21_code, 3, none, []), (false, 2, 0, 0), (785, 783, 784, 101)),
  ((⟨"PassForge", "accept", "(LPassForge$Program;)V"⟩, prog_1_method_27_code, 2, none, []), (false, 1, 5, 116), (789, 788, 17, 100)),
  ((⟨"PassForge$Flow", "measure", "(LPassForge$Program;)V"⟩, prog_3_method_10_code, 6, none, []), (false, 1, 4, 91), (793, 791, 792, 106)),
  ((⟨"PassForge$Flow", "look", "(LPassForge$Program;)V"⟩, prog_3_method_5_code, 4, none, []), (false, 1, 3, 68), (797, 795, 796, 106)),
  ((⟨"PassForge$Program", "link", "()V"⟩, prog_7_method_36_code, 4, none, []), (false, 0, 2, 43), (801, 799, 800, 101)),
  ((⟨"PassForge$Program", "isLabel", "(I)Z"⟩, prog_7_method_33_code, 2, (some .boolean), []), (false, 1, 1, 21), (805, 803, 804, 101)),
  ((⟨"PassForge$Program", "isJump", "(I)Z"⟩, prog_7_method_34_code, 3, (some .boolean), []), (false, 1, 1, 21), (809, 807, 808, 101)),
  ((⟨"PassForge$Flow", "reach", "(LPassForge$Program;I)Z"⟩, prog_3_method_7_code, 3, (some .boolean), []), (false, 2, 1, 21), (813, 812, 18, 106)),
  ((⟨"PassForge$Flow", "goForward", "(LPassForge$Program;)Z"⟩, prog_3_method_6_code, 6, (some .boolean), []), (false, 1, 2, 43), (819, 818, 19, 106)),
  ((⟨"PassForge$Flow", "reaches", "(I)Z"⟩, prog_3_method_2_code, 2, (some .boolean), []), (false, 1, 0, 0), (824, 822, 823, 106)),
  ((⟨"PassForge$Program", "nextOf", "(I)I"⟩, prog_7_method_38_code, 3, (some .int), []), (false, 1, 1, 21), (828, 826, 827, 101)),
  ((⟨"PassForge$Program", "jumpOf", "(I)I"⟩, prog_7_method_37_code, 2, (some .int), []), (false, 1, 0, 0), (832, 830, 831, 101)),
  ((⟨"PassForge$Flow", "goBackward", "(LPassForge$Program;)Z"⟩, prog_3_method_8_code, 6, (some .boolean), []), (false, 1, 2, 43), (836, 835, 20, 106)),
  ((⟨"PassForge$Flow", "aheadOf", "(LPassForge$Program;I)I"⟩, prog_3_method_9_code, 3, (some .int), []), (false, 2, 1, 21), (841, 840, 21, 106)),
  ((⟨"PassForge$Flow", "liveAhead", "(I)I"⟩, prog_3_method_3_code, 2, (some .int), []), (false, 1, 0, 0), (845, 843, 844, 106)),
  ((⟨"PassForge$Program", "readSet", "(I)I"⟩, prog_7_method_30_code, 2, (some .int), []), (false, 1, 1, 21), (849, 847, 848, 101)),
  ((⟨"PassForge$Program", "setOf", "(I)I"⟩, prog_7_method_29_code, 1, (some .int), []), (true, 1, 0, 0), (852, 851, 0, 101)),
  ((⟨"PassForge$Program", "assignedSet", "(I)I"⟩, prog_7_method_32_code, 2, (some .int), []), (false, 1, 1, 21), (856, 854, 855, 101)),
  ((⟨"PassForge$Program", "assigned", "(I)I"⟩, prog_7_method_31_code, 2, (some .int), []), (false, 1, 0, 0), (860, 858, 859, 101)),
  ((⟨"PassForge$Program", "startsBlock", "(I)Z"⟩, prog_7_method_35_code, 2, (some .boolean), []), (false, 1, 2, 43), (864, 862, 863, 101)),
  ((⟨"PassForge$Program", "loopEnd", "(I)I"⟩, prog_7_method_41_code, 4, (some .int), []), (false, 1, 2, 45), (868, 866, 867, 101)),
  ((⟨"PassForge$Program", "jumpsTo", "(I)I"⟩, prog_7_method_39_code, 2, (some .int), []), (false, 1, 0, 0), (872, 870, 871, 101)),
  ((⟨"PassForge$Program", "isEnteredBehind", "(II)Z"⟩, prog_7_method_42_code, 5, (some .boolean), []), (false, 2, 1, 21), (877, 876, 22, 101)),
  ((⟨"PassForge$Flow", "liveBehind", "(I)I"⟩, prog_3_method_4_code, 2, (some .int), []), (false, 1, 0, 0), (881, 879, 880, 106)),
  ((⟨"PassForge$Program", "setLive", "(II)V"⟩, prog_7_method_23_code, 3, none, []), (false, 2, 1, 21), (885, 883, 884, 101)),
  ((⟨"PassForge$Program", "setMeasures", "(III)V"⟩, prog_7_method_22_code, 4, none, []), (false, 3, 0, 0), (889, 887, 888, 101)),
  ((⟨"PassForgeLaw", "count", "(LPassForge;II[J)I"⟩, method_6_code, 5, (some .int), [(0, 10, 13, 29)]), (true, 4, 8, 142), (892, 891, 0, 99)),
  ((⟨"PassForge", "count", "(II)I"⟩, prog_1_method_7_code, 4, (some .int), []), (false, 2, 7, 119), (897, 895, 896, 100)),
  ((⟨"PassForge", "programAt", "(I)LPassForge$Program;"⟩, prog_1_method_24_code, 2, (some (.object "PassForge$Program")), []), (false, 1, 6, 98), (901, 900, 23, 100)),
  ((⟨"PassForgeLaw", "code", "(LPassForge;III[J)I"⟩, method_7_code, 6, (some .int), [(0, 12, 15, 29)]), (true, 5, 9, 166), (921, 920, 0, 99)),
  ((⟨"PassForge", "code", "(III)I"⟩, prog_1_method_8_code, 5, (some .int), []), (false, 3, 8, 142), (925, 923, 924, 100)),
  ((⟨"PassForge", "programWith", "(II)LPassForge$Program;"⟩, prog_1_method_25_code, 4, (some (.object "PassForge$Program")), []), (false, 2, 7, 119), (929, 928, 24, 100)),
  ((⟨"PassForgeLaw", "number", "(LPassForge;IIZ[J)I"⟩, method_8_code, 6, (some .int), [(0, 11, 14, 29)]), (true, 5, 9, 166), (935, 934, 0, 99)),
  ((⟨"PassForge", "number", "(IIZ)J"⟩, prog_1_method_9_code, 5, (some .long), []), (false, 3, 8, 142), (939, 937, 938, 100)),
  ((⟨"PassForgeLaw", "live", "(LPassForge;II[J)I"⟩, method_9_code, 5, (some .int), [(0, 10, 13, 29)]), (true, 4, 9, 164), (942, 941, 0, 99)),
  ((⟨"PassForge", "live", "(II)I"⟩, prog_1_method_10_code, 3, (some .int), []), (false, 2, 8, 142), (946, 944, 945, 100)),
  ((⟨"PassForgeLaw", "pass", "(LPassForge;II[J)I"⟩, method_10_code, 5, (some .int), [(0, 10, 13, 29), (0, 10, 17, 19), (0, 10, 21, 13)]), (true, 4, 8, 170), (949, 948, 0, 99)),
  ((⟨"PassForge", "pass", "(II)I"⟩, prog_1_method_11_code, 6, (some .int), []), (false, 2, 7, 145), (953, 951, 952, 100))]
def zMt_3 : List zMT := [((⟨"PassForge$Program", "become", "(LPassForge$Program;)V"⟩, prog_7_method_15_code, 3, none, []), (false, 1, 1, 23), (958, 956, 957, 101)),
  ((⟨"PassForge$Program", "layDown", "(ILPassForge$Program;I)V"⟩, prog_7_method_24_code, 4, none, []), (false, 3, 0, 0), (962, 961, 25, 101)),
  ((⟨"PassForge", "changeBy", "(LPassForge$Program;I)I"⟩, prog_1_method_28_code, 3, (some .int), []), (false, 2, 5, 123), (966, 965, 26, 100)),
  ((⟨"PassForge$BlockPasses", "fold", "(LPassForge$Program;)I"⟩, prog_2_method_2_code, 4, (some .int), []), (false, 1, 4, 92), (970, 968, 969, 107)),
  ((⟨"PassForge$BlockPasses", "forgetNumbers", "()V"⟩, prog_2_method_3_code, 2, none, []), (false, 0, 0, 0), (976, 975, 27, 107)),
  ((⟨"PassForge$BlockPasses", "putNumbers", "(LPassForge$Program;I)I"⟩, prog_2_method_6_code, 6, (some .int), []), (false, 2, 2, 45), (980, 979, 28, 107)),
  ((⟨"PassForge$BlockPasses", "knows", "(I)Z"⟩, prog_2_method_4_code, 2, (some .boolean), []), (false, 1, 0, 0), (985, 984, 29, 107)),
  ((⟨"PassForge$BlockPasses", "knownOf", "(I)J"⟩, prog_2_method_5_code, 2, (some .long), []), (false, 1, 0, 0), (989, 988, 30, 107)),
  ((⟨"PassForge$BlockPasses", "foldOne", "(LPassForge$Program;I)I"⟩, prog_2_method_7_code, 4, (some .int), []), (false, 2, 3, 69), (996, 995, 31, 107)),
  ((⟨"PassForge", "reckon", "(IJJ)J"⟩, prog_1_method_32_code, 5, (some .long), []), (true, 3, 0, 0), (1003, 1002, 0, 100)),
  ((⟨"PassForge$Program", "setPlain", "(IIJ)V"⟩, prog_7_method_19_code, 5, none, []), (false, 3, 2, 45), (1007, 1005, 1006, 101)),
  ((⟨"PassForge$Program", "mark", "(I)V"⟩, prog_7_method_27_code, 2, none, []), (false, 1, 1, 21), (1013, 1011, 1012, 101)),
  ((⟨"PassForge$Program", "setGoto", "(I)V"⟩, prog_7_method_20_code, 2, none, []), (false, 1, 2, 45), (1017, 1015, 1016, 101)),
  ((⟨"PassForge$BlockPasses", "learnNumber", "(LPassForge$Program;I)V"⟩, prog_2_method_8_code, 4, none, []), (false, 2, 1, 21), (1021, 1020, 32, 107)),
  ((⟨"PassForge$Program", "removeMarked", "()V"⟩, prog_7_method_28_code, 3, none, []), (false, 0, 1, 23), (1026, 1024, 1025, 101)),
  ((⟨"PassForge$BlockPasses", "lookThroughCopies", "(LPassForge$Program;)I"⟩, prog_2_method_9_code, 4, (some .int), []), (false, 1, 3, 70), (1030, 1028, 1029, 107)),
  ((⟨"PassForge$BlockPasses", "forgetCopies", "()V"⟩, prog_2_method_10_code, 2, none, []), (false, 0, 0, 0), (1034, 1033, 33, 107)),
  ((⟨"PassForge$BlockPasses", "putCopies", "(LPassForge$Program;I)I"⟩, prog_2_method_12_code, 6, (some .int), []), (false, 2, 2, 45), (1038, 1037, 34, 107)),
  ((⟨"PassForge$BlockPasses", "copiedBy", "(I)I"⟩, prog_2_method_11_code, 2, (some .int), []), (false, 1, 0, 0), (1042, 1041, 35, 107)),
  ((⟨"PassForge$BlockPasses", "learnCopy", "(LPassForge$Program;I)V"⟩, prog_2_method_13_code, 5, none, []), (false, 2, 1, 21), (1047, 1046, 36, 107)),
  ((⟨"PassForge$BlockPasses", "takeValues", "(LPassForge$Program;)I"⟩, prog_2_method_14_code, 6, (some .int), []), (false, 1, 4, 91), (1051, 1049, 1050, 107)),
  ((⟨"PassForge$BlockPasses", "sameValue", "(LPassForge$Program;II)I"⟩, prog_2_method_15_code, 6, (some .int), []), (true, 3, 3, 66), (1054, 1053, 0, 107)),
  ((⟨"PassForge$BlockPasses", "reckonsSame", "(LPassForge$Program;II)Z"⟩, prog_2_method_16_code, 5, (some .boolean), []), (true, 3, 1, 21), (1059, 1058, 0, 107)),
  ((⟨"PassForge$BlockPasses", "canTurn", "(I)Z"⟩, prog_2_method_17_code, 1, (some .boolean), []), (true, 1, 0, 0), (1062, 1061, 0, 107)),
  ((⟨"PassForge$BlockPasses", "assignedBetween", "(LPassForge$Program;II)I"⟩, prog_2_method_18_code, 5, (some .int), []), (true, 3, 2, 42), (1065, 1064, 0, 107)),
  ((⟨"PassForge$FlowPasses", "drop", "(LPassForge$Program;)I"⟩, prog_4_method_2_code, 5, (some .int), []), (false, 1, 4, 91), (1069, 1067, 1068, 108)),
  ((⟨"PassForge$FlowPasses", "firstNeedless", "(LPassForge$Program;)I"⟩, prog_4_method_3_code, 3, (some .int), []), (false, 1, 3, 65), (1075, 1074, 37, 108)),
  ((⟨"PassForge$FlowPasses", "isNeedless", "(LPassForge$Program;I)Z"⟩, prog_4_method_4_code, 3, (some .boolean), []), (false, 2, 2, 43), (1080, 1079, 38, 108)),
  ((⟨"PassForge$Program", "pastLabels", "(I)I"⟩, prog_7_method_40_code, 3, (some .int), []), (false, 1, 1, 21), (1091, 1089, 1090, 101)),
  ((⟨"PassForge$Program", "removeAt", "(I)V"⟩, prog_7_method_25_code, 3, none, []), (false, 1, 1, 23), (1095, 1093, 1094, 101)),
  ((⟨"PassForge$FlowPasses", "move", "(LPassForge$Program;)I"⟩, prog_4_method_5_code, 5, (some .int), []), (false, 1, 4, 99), (1099, 1097, 1098, 108)),
  ((⟨"PassForge$FlowPasses", "moveFirst", "(LPassForge$Program;)Z"⟩, prog_4_method_6_code, 5, (some .boolean), []), (false, 1, 3, 75), (1103, 1102, 39, 108)),
  ((⟨"PassForge$FlowPasses", "firstMovable", "(LPassForge$Program;II)I"⟩, prog_4_method_7_code, 10, (some .int), []), (false, 3, 2, 46), (1108, 1107, 40, 108)),
  ((⟨"PassForge$FlowPasses", "outsideAhead", "(LPassForge$Program;III)I"⟩, prog_4_method_8_code, 6, (some .int), []), (false, 4, 1, 21), (1113, 1112, 41, 108)),
  ((⟨"PassForge$Program", "moveUp", "(II)V"⟩, prog_7_method_26_code, 4, none, []), (false, 2, 1, 23), (1120, 1118, 1119, 101)),
  ((⟨"PassForgeLaw", "better", "(LPassForge;I[J)I"⟩, method_11_code, 4, (some .int), [(0, 9, 12, 29), (0, 9, 15, 13)]), (true, 3, 8, 173), (1123, 1122, 0, 99)),
  ((⟨"PassForge", "better", "(I)I"⟩, prog_1_method_12_code, 9, (some .int), []), (false, 1, 7, 145), (1127, 1125, 1126, 100)),
  ((⟨"PassForgeLaw", "put", "(LPassForge;J[J)I"⟩, method_12_code, 5, (some .int), [(0, 9, 12, 13)]), (true, 3, 7, 120), (1130, 1129, 0, 99)),
  ((⟨"PassForge", "put", "(J)I"⟩, prog_1_method_13_code, 3, (some .int), []), (false, 1, 6, 98), (1134, 1132, 1133, 100)),
  ((⟨"PassForgeLaw", "run", "(LPassForge;II[J)I"⟩, method_13_code, 5, (some .int), [(0, 10, 13, 29), (0, 10, 17, 19)]), (true, 4, 8, 142), (1138, 1137, 0, 99))]
def zMt_4 : List zMT := [((⟨"PassForge", "run", "(II)I"⟩, prog_1_method_15_code, 4, (some .int), []), (false, 2, 7, 119), (1142, 1140, 1141, 100)),
  ((⟨"PassForge$Machine", "execute", "(LPassForge$Program;[JII)V"⟩, prog_5_method_8_code, 8, none, []), (false, 4, 3, 70), (1147, 1145, 1146, 109)),
  ((⟨"PassForge$Machine", "setValue", "(IJ)V"⟩, prog_5_method_11_code, 4, none, []), (false, 2, 0, 0), (1155, 1154, 42, 109)),
  ((⟨"PassForge$Machine", "follow", "(LPassForge$Program;I)I"⟩, prog_5_method_9_code, 7, (some .int), []), (false, 2, 2, 44), (1159, 1158, 43, 109)),
  ((⟨"PassForge$Machine", "operand", "(IJ)J"⟩, prog_5_method_10_code, 4, (some .long), []), (false, 2, 1, 21), (1165, 1164, 44, 109)),
  ((⟨"PassForge$Machine", "putOut", "(J)V"⟩, prog_5_method_12_code, 3, none, []), (false, 1, 0, 0), (1174, 1173, 45, 109)),
  ((⟨"PassForge$Machine", "steps", "()I"⟩, prog_5_method_2_code, 1, (some .int), []), (false, 0, 0, 0), (1180, 1178, 1179, 109)),
  ((⟨"PassForgeLaw", "ran", "(LPassForge;I[J)I"⟩, method_14_code, 4, (some .int), [(0, 9, 12, 29)]), (true, 3, 7, 119), (1183, 1182, 0, 99)),
  ((⟨"PassForge", "ran", "(I)I"⟩, prog_1_method_16_code, 2, (some .int), []), (false, 1, 6, 98), (1187, 1185, 1186, 100)),
  ((⟨"PassForgeLaw", "output", "(LPassForge;I[J)I"⟩, method_15_code, 4, (some .int), [(0, 8, 11, 29)]), (true, 3, 7, 119), (1191, 1190, 0, 99)),
  ((⟨"PassForge", "output", "(I)J"⟩, prog_1_method_17_code, 2, (some .long), []), (false, 1, 6, 98), (1195, 1193, 1194, 100)),
  ((⟨"PassForgeLaw", "variable", "(LPassForge;I[J)I"⟩, method_16_code, 4, (some .int), [(0, 8, 11, 29)]), (true, 3, 7, 119), (1199, 1198, 0, 99)),
  ((⟨"PassForge", "variable", "(I)J"⟩, prog_1_method_18_code, 2, (some .long), []), (false, 1, 6, 98), (1203, 1201, 1202, 100)),
  ((⟨"PassForgeLaw", "differ", "(LPassForge;IIII[J)I"⟩, method_17_code, 7, (some .int), [(0, 14, 17, 29), (0, 14, 21, 19)]), (true, 6, 8, 149), (1207, 1206, 0, 99)),
  ((⟨"PassForge", "differ", "(IIII)I"⟩, prog_1_method_19_code, 9, (some .int), []), (false, 4, 7, 121), (1211, 1209, 1210, 100)),
  ((⟨"PassForge", "inputsOf", "(II)I"⟩, prog_1_method_29_code, 4, (some .int), []), (true, 2, 6, 98), (1214, 1213, 0, 100)),
  ((⟨"PassForge", "clearDigits", "()V"⟩, prog_1_method_30_code, 2, none, []), (false, 0, 0, 0), (1220, 1219, 46, 100)),
  ((⟨"PassForge$Machine", "isUnlike", "(LPassForge$Machine;)Z"⟩, prog_5_method_7_code, 3, (some .boolean), []), (false, 1, 2, 41), (1224, 1222, 1223, 109)),
  ((⟨"PassForge", "countUpDigits", "(II)V"⟩, prog_1_method_31_code, 4, none, []), (false, 2, 1, 21), (1230, 1229, 47, 100)),
  ((⟨"PassForgeLaw", "share", "(LPassForge;IIII[D)I"⟩, method_18_code, 7, (some .int), [(0, 13, 16, 29), (0, 13, 20, 19)]), (true, 6, 8, 151), (1234, 1233, 0, 99)),
  ((⟨"PassForge", "share", "(IIII)D"⟩, prog_1_method_20_code, 11, (some .double), []), (false, 4, 7, 121), (1238, 1236, 1237, 100)),
  ((⟨"PassForgeModel", "<init>", "()V"⟩, prog_12_method_1_code, 1, none, []), (false, 0, 1, 20), (1243, 1242, 0, 110)),
  ((⟨"PassForgeModel", "thrown", "()I"⟩, prog_12_method_2_code, 1, (some .int), []), (false, 0, 0, 0), (1347, 1345, 1346, 110)),
  ((⟨"PassForgeModel", "feed", "(IIIII)I"⟩, prog_12_method_9_code, 6, (some .int), []), (false, 5, 1, 22), (1351, 1349, 1350, 110)),
  ((⟨"PassForgeModel", "fail", "(I)I"⟩, prog_12_method_3_code, 2, (some .int), []), (false, 1, 0, 0), (1355, 1354, 48, 110)),
  ((⟨"PassForgeModel", "four", "(I)V"⟩, prog_12_method_10_code, 3, none, []), (false, 1, 0, 0), (1359, 1358, 49, 110)),
  ((⟨"PassForgeModel", "trim", "(I)I"⟩, prog_12_method_11_code, 2, (some .int), []), (false, 1, 1, 25), (1363, 1361, 1362, 110)),
  ((⟨"PassForgeModel", "isIn", "(JJJ)Z"⟩, prog_12_method_4_code, 6, (some .boolean), []), (true, 3, 0, 0), (1366, 1365, 0, 110)),
  ((⟨"PassForgeModel", "compile", "()I"⟩, prog_12_method_29_code, 4, (some .int), [(65, 157, 160, 156)]), (false, 0, 12, 248), (1370, 1368, 1369, 110)),
  ((⟨"PassForgeModel", "next", "()V"⟩, prog_12_method_16_code, 2, none, []), (false, 0, 5, 112), (1375, 1374, 50, 110)),
  ((⟨"PassForgeModel", "byteAt", "(I)I"⟩, prog_12_method_12_code, 2, (some .int), []), (false, 1, 0, 0), (1379, 1378, 51, 110)),
  ((⟨"PassForgeModel", "isLetter", "(I)Z"⟩, prog_12_method_13_code, 1, (some .boolean), []), (true, 1, 1, 25), (1382, 1381, 0, 110)),
  ((⟨"PassForgeModel", "isDigit", "(I)Z"⟩, prog_12_method_14_code, 1, (some .boolean), []), (true, 1, 1, 25), (1387, 1386, 0, 110)),
  ((⟨"PassForgeModel", "keyOf", "(J)I"⟩, prog_12_method_15_code, 8, (some .int), []), (true, 1, 4, 85), (1392, 1391, 0, 110)),
  ((⟨"java/lang/String", "indexOf", "(II)I"⟩, prog_21_method_80_code, 3, (some .int), []), (false, 2, 2, 48), (1397, 1395, 1396, 117)),
  ((⟨"java/lang/String", "isLatin1", "()Z"⟩, prog_21_method_154_code, 1, (some .boolean), []), (false, 0, 0, 0), (1401, 1399, 1400, 117)),
  ((⟨"java/lang/String", "length", "()I"⟩, prog_21_method_54_code, 1, (some .int), []), (false, 0, 1, 20), (1407, 1405, 1406, 117)),
  ((⟨"java/lang/String", "coder", "()B"⟩, prog_21_method_152_code, 1, (some .byte), []), (false, 0, 0, 0), (1411, 1409, 1410, 117)),
  ((⟨"java/lang/StringLatin1", "indexOf", "([BIII)I"⟩, prog_22_method_22_code, 4, (some .int), []), (true, 4, 1, 25), (1414, 1413, 0, 118)),
  ((⟨"java/lang/StringLatin1", "canEncode", "(I)Z"⟩, prog_22_method_4_code, 1, (some .boolean), []), (true, 1, 0, 0), (1417, 1416, 0, 118))]
def zMt_5 : List zMT := [((⟨"java/lang/StringLatin1", "indexOfChar", "([BIII)I"⟩, prog_22_method_23_code, 6, (some .int), []), (true, 4, 0, 0), (1422, 1421, 0, 118)),
  ((⟨"java/lang/String", "charAt", "(I)C"⟩, prog_21_method_56_code, 2, (some .char), []), (false, 1, 3, 64), (1475, 1473, 1474, 117)),
  ((⟨"java/lang/StringLatin1", "charAt", "([BI)C"⟩, prog_22_method_2_code, 2, (some .char), []), (true, 2, 2, 43), (1478, 1477, 0, 118)),
  ((⟨"java/lang/String", "checkIndex", "(II)V"⟩, prog_21_method_155_code, 2, none, []), (true, 2, 1, 22), (1481, 1480, 0, 117)),
  ((⟨"jdk/internal/util/Preconditions", "checkIndex", "(IILjava/util/function/BiFunction;)I"⟩, prog_26_method_11_code, 3, (some .int), []), (true, 3, 0, 0), (1484, 1483, 0, 120)),
  ((⟨"java/lang/String", "indexOf", "(I)I"⟩, prog_21_method_79_code, 2, (some .int), []), (false, 1, 3, 70), (1497, 1495, 1496, 117)),
  ((⟨"PassForgeModel", "line", "()V"⟩, prog_12_method_27_code, 3, none, []), (false, 0, 11, 226), (1502, 1501, 52, 110)),
  ((⟨"PassForgeModel", "wrong", "()LPassForgeModel$Wrong;"⟩, prog_12_method_17_code, 1, (some (.object "PassForgeModel$Wrong")), []), (false, 0, 7, 129), (1508, 1507, 53, 110)),
  ((⟨"PassForgeModel$Wrong", "<init>", "(II)V"⟩, prog_13_method_1_code, 3, none, []), (false, 2, 6, 107), (1519, 1518, 0, 122)),
  ((⟨"PassForgeModel", "must", "(ZII)V"⟩, prog_12_method_19_code, 4, none, []), (false, 3, 7, 129), (1541, 1540, 54, 110)),
  ((⟨"PassForgeModel", "many", "([J)I"⟩, prog_12_method_6_code, 1, (some .int), []), (true, 1, 0, 0), (1544, 1543, 0, 110)),
  ((⟨"PassForgeModel", "lay", "(IIII)V"⟩, prog_12_method_22_code, 7, none, []), (false, 4, 1, 26), (1548, 1547, 55, 110)),
  ((⟨"PassForgeModel", "named", "(I)V"⟩, prog_12_method_28_code, 6, none, []), (false, 1, 10, 201), (1556, 1555, 56, 110)),
  ((⟨"PassForgeModel", "number", "(IJI)I"⟩, prog_12_method_21_code, 7, (some .int), []), (false, 3, 8, 152), (1560, 1559, 57, 110)),
  ((⟨"PassForgeModel", "indexOf", "([JJJ)I"⟩, prog_12_method_20_code, 6, (some .int), []), (true, 3, 0, 0), (1563, 1562, 0, 110)),
  ((⟨"PassForgeModel", "value", "(II)V"⟩, prog_12_method_24_code, 4, none, []), (false, 2, 9, 178), (1568, 1567, 58, 110)),
  ((⟨"PassForgeModel", "set", "(IIJ)V"⟩, prog_12_method_23_code, 5, none, []), (false, 3, 0, 0), (1572, 1571, 59, 110)),
  ((⟨"PassForgeModel", "take", "(I)V"⟩, prog_12_method_18_code, 2, none, []), (false, 1, 8, 149), (1577, 1576, 60, 110)),
  ((⟨"PassForgeModel", "jump", "(I)V"⟩, prog_12_method_26_code, 3, none, []), (false, 1, 9, 178), (1581, 1580, 61, 110)),
  ((⟨"PassForgeModel", "variable", "()I"⟩, prog_12_method_25_code, 2, (some .int), []), (false, 0, 9, 178), (1585, 1584, 62, 110)),
  ((⟨"PassForgeModel", "errorAt", "()I"⟩, prog_12_method_30_code, 1, (some .int), []), (false, 0, 0, 0), (1590, 1588, 1589, 110)),
  ((⟨"PassForgeModel", "programs", "()I"⟩, prog_12_method_31_code, 1, (some .int), []), (false, 0, 0, 0), (1594, 1592, 1593, 110)),
  ((⟨"PassForgeModel", "count", "(II)I"⟩, prog_12_method_45_code, 3, (some .int), []), (false, 2, 6, 137), (1598, 1596, 1597, 110)),
  ((⟨"PassForgeModel", "isProgram", "(I)Z"⟩, prog_12_method_5_code, 2, (some .boolean), []), (false, 1, 1, 25), (1602, 1601, 63, 110)),
  ((⟨"PassForgeModel", "counted", "(I)I"⟩, prog_12_method_44_code, 5, (some .int), []), (false, 1, 5, 113), (1607, 1606, 64, 110)),
  ((⟨"PassForgeModel", "findReach", "()V"⟩, prog_12_method_42_code, 6, none, []), (false, 0, 4, 88), (1611, 1610, 65, 110)),
  ((⟨"PassForgeModel", "follows", "(II)Z"⟩, prog_12_method_38_code, 4, (some .boolean), []), (false, 2, 3, 65), (1615, 1614, 66, 110)),
  ((⟨"PassForgeModel", "get", "(II)I"⟩, prog_12_method_8_code, 3, (some .int), []), (false, 2, 1, 22), (1619, 1618, 67, 110)),
  ((⟨"PassForgeModel", "get", "([JII)I"⟩, prog_12_method_7_code, 3, (some .int), []), (true, 3, 0, 0), (1622, 1621, 0, 110)),
  ((⟨"PassForgeModel", "jumps", "(I)Z"⟩, prog_12_method_35_code, 2, (some .boolean), []), (false, 1, 2, 44), (1626, 1625, 68, 110)),
  ((⟨"PassForgeModel", "placeOf", "(I)I"⟩, prog_12_method_37_code, 3, (some .int), []), (false, 1, 2, 44), (1630, 1629, 69, 110)),
  ((⟨"PassForgeModel", "beginsBlock", "(I)Z"⟩, prog_12_method_36_code, 2, (some .boolean), []), (false, 1, 3, 65), (1634, 1633, 70, 110)),
  ((⟨"PassForgeModel", "loopEnd", "(I)I"⟩, prog_12_method_43_code, 6, (some .int), []), (false, 1, 4, 88), (1638, 1637, 71, 110)),
  ((⟨"PassForgeModel", "leadsTo", "(I)I"⟩, prog_12_method_39_code, 4, (some .int), []), (false, 1, 3, 65), (1642, 1641, 72, 110)),
  ((⟨"PassForgeModel", "code", "(III)I"⟩, prog_12_method_47_code, 4, (some .int), []), (false, 3, 3, 68), (1646, 1644, 1645, 110)),
  ((⟨"PassForgeModel", "isInstruction", "(II)Z"⟩, prog_12_method_46_code, 3, (some .boolean), []), (false, 2, 2, 46), (1650, 1649, 73, 110)),
  ((⟨"PassForgeModel", "number", "(IIZ)J"⟩, prog_12_method_49_code, 4, (some .long), []), (false, 3, 3, 68), (1655, 1653, 1654, 110)),
  ((⟨"PassForgeModel", "numberOf", "([JII)J"⟩, prog_12_method_48_code, 3, (some .long), []), (true, 3, 0, 0), (1658, 1657, 0, 110)),
  ((⟨"PassForgeModel", "live", "(II)I"⟩, prog_12_method_50_code, 3, (some .int), []), (false, 2, 5, 112), (1662, 1660, 1661, 110)),
  ((⟨"PassForgeModel", "findLive", "()V"⟩, prog_12_method_41_code, 5, none, []), (false, 0, 4, 88), (1666, 1665, 74, 110))]
def zMt_6 : List zMT := [((⟨"PassForgeModel", "ahead", "(I)I"⟩, prog_12_method_40_code, 3, (some .int), []), (false, 1, 3, 65), (1670, 1669, 75, 110)),
  ((⟨"PassForgeModel", "assigns", "(I)Z"⟩, prog_12_method_32_code, 2, (some .boolean), []), (false, 1, 2, 44), (1674, 1673, 76, 110)),
  ((⟨"PassForgeModel", "pass", "(II)I"⟩, prog_12_method_67_code, 3, (some .int), []), (false, 2, 8, 181), (1678, 1676, 1677, 110)),
  ((⟨"PassForgeModel", "begin", "(I)V"⟩, prog_12_method_66_code, 2, none, []), (false, 1, 1, 26), (1682, 1681, 77, 110)),
  ((⟨"PassForgeModel", "make", "(I)I"⟩, prog_12_method_65_code, 2, (some .int), []), (false, 1, 7, 160), (1686, 1685, 78, 110)),
  ((⟨"PassForgeModel", "fold", "()I"⟩, prog_12_method_54_code, 6, (some .int), []), (false, 0, 3, 66), (1690, 1689, 79, 110)),
  ((⟨"PassForgeModel", "isNumber", "(II)Z"⟩, prog_12_method_52_code, 3, (some .boolean), []), (false, 2, 2, 44), (1694, 1693, 80, 110)),
  ((⟨"PassForgeModel", "two", "(IJJ)J"⟩, prog_12_method_53_code, 5, (some .long), []), (true, 3, 0, 0), (1697, 1696, 0, 110)),
  ((⟨"PassForgeModel", "takeOut", "(I)V"⟩, prog_12_method_51_code, 2, none, []), (false, 1, 1, 26), (1701, 1700, 81, 110)),
  ((⟨"PassForgeModel", "copy", "()I"⟩, prog_12_method_55_code, 7, (some .int), []), (false, 0, 3, 66), (1705, 1704, 82, 110)),
  ((⟨"PassForgeModel", "value", "()I"⟩, prog_12_method_59_code, 5, (some .int), []), (false, 0, 4, 92), (1709, 1708, 83, 110)),
  ((⟨"PassForgeModel", "isSameTwo", "(II)Z"⟩, prog_12_method_57_code, 5, (some .boolean), []), (false, 2, 3, 68), (1713, 1712, 84, 110)),
  ((⟨"PassForgeModel", "isSameValue", "(IIII)Z"⟩, prog_12_method_56_code, 5, (some .boolean), []), (false, 4, 2, 44), (1717, 1716, 85, 110)),
  ((⟨"PassForgeModel", "reads", "(II)Z"⟩, prog_12_method_34_code, 3, (some .boolean), []), (false, 2, 2, 44), (1721, 1720, 86, 110)),
  ((⟨"PassForgeModel", "isKept", "(II)Z"⟩, prog_12_method_58_code, 5, (some .boolean), []), (false, 2, 3, 66), (1725, 1724, 87, 110)),
  ((⟨"PassForgeModel", "drop", "()I"⟩, prog_12_method_61_code, 3, (some .int), []), (false, 0, 5, 113), (1729, 1728, 88, 110)),
  ((⟨"PassForgeModel", "isIdle", "(I)Z"⟩, prog_12_method_60_code, 4, (some .boolean), []), (false, 1, 4, 88), (1733, 1732, 89, 110)),
  ((⟨"PassForgeModel", "move", "()I"⟩, prog_12_method_64_code, 2, (some .int), []), (false, 0, 6, 139), (1737, 1736, 90, 110)),
  ((⟨"PassForgeModel", "moveOne", "()Z"⟩, prog_12_method_63_code, 5, (some .boolean), []), (false, 0, 5, 115), (1741, 1740, 91, 110)),
  ((⟨"PassForgeModel", "canMove", "(III)Z"⟩, prog_12_method_62_code, 8, (some .boolean), []), (false, 3, 4, 88), (1745, 1744, 92, 110)),
  ((⟨"PassForgeModel", "better", "(I)I"⟩, prog_12_method_68_code, 6, (some .int), []), (false, 1, 8, 181), (1749, 1747, 1748, 110)),
  ((⟨"PassForgeModel", "put", "(J)I"⟩, prog_12_method_69_code, 3, (some .int), []), (false, 1, 1, 21), (1753, 1751, 1752, 110)),
  ((⟨"PassForgeModel", "empty", "()I"⟩, prog_12_method_70_code, 2, (some .int), []), (false, 0, 0, 0), (1757, 1755, 1756, 110)),
  ((⟨"PassForgeModel", "run", "(II)I"⟩, prog_12_method_75_code, 5, (some .int), []), (false, 2, 6, 138), (1761, 1759, 1760, 110)),
  ((⟨"PassForgeModel", "runWith", "(II[JI)I"⟩, prog_12_method_74_code, 7, (some .int), []), (false, 4, 5, 112), (1766, 1765, 93, 110)),
  ((⟨"PassForgeModel", "behindLabels", "(I)I"⟩, prog_12_method_73_code, 3, (some .int), []), (false, 1, 2, 44), (1770, 1769, 94, 110)),
  ((⟨"PassForgeModel", "step", "(I[JI)I"⟩, prog_12_method_72_code, 5, (some .int), []), (false, 3, 4, 88), (1774, 1773, 95, 110)),
  ((⟨"PassForgeModel", "valueOf", "(II)J"⟩, prog_12_method_71_code, 3, (some .long), []), (false, 2, 3, 66), (1778, 1777, 96, 110)),
  ((⟨"PassForgeModel", "ran", "(I)I"⟩, prog_12_method_76_code, 2, (some .int), []), (false, 1, 1, 25), (1782, 1780, 1781, 110)),
  ((⟨"PassForgeModel", "output", "(I)J"⟩, prog_12_method_77_code, 2, (some .long), []), (false, 1, 1, 25), (1786, 1784, 1785, 110)),
  ((⟨"PassForgeModel", "variable", "(I)J"⟩, prog_12_method_78_code, 2, (some .long), []), (false, 1, 1, 25), (1790, 1788, 1789, 110)),
  ((⟨"PassForgeModel", "differ", "(IIII)I"⟩, prog_12_method_83_code, 6, (some .int), []), (false, 4, 7, 165), (1795, 1793, 1794, 110)),
  ((⟨"PassForgeModel", "areCases", "(II)Z"⟩, prog_12_method_80_code, 2, (some .boolean), []), (true, 2, 1, 25), (1798, 1797, 0, 110)),
  ((⟨"PassForgeModel", "inputsOf", "(II)I"⟩, prog_12_method_79_code, 4, (some .int), []), (true, 2, 0, 0), (1801, 1800, 0, 110)),
  ((⟨"PassForgeModel", "layCase", "(III)V"⟩, prog_12_method_81_code, 6, none, []), (false, 3, 0, 0), (1805, 1804, 97, 110)),
  ((⟨"PassForgeModel", "isOther", "(III)Z"⟩, prog_12_method_82_code, 8, (some .boolean), []), (false, 3, 6, 138), (1809, 1808, 98, 110)),
  ((⟨"PassForgeModel", "share", "(IIII)D"⟩, prog_12_method_84_code, 8, (some .double), []), (false, 4, 6, 138), (1813, 1811, 1812, 110)),
  ((⟨"PassForgeModel", "digest", "()J"⟩, prog_12_method_85_code, 6, (some .long), []), (false, 0, 6, 137), (1817, 1815, 1816, 110)),
  ((⟨"PassForgeLaw", "law", "([I)Z"⟩, code, 9, (some .boolean), []), (true, 1, 13, 271), (0, 0, 0, 0))]
def zMt : List zMT := zMt_0 ++ (zMt_1 ++ (zMt_2 ++ (zMt_3 ++ (zMt_4 ++ (zMt_5 ++ (zMt_6))))))
def zM (m : Nat) : zMT := zMt.getD m ((⟨"", "", ""⟩, ByteArray.empty, 0, none, []), (false, 0, 0, 0), (0, 0, 0, 0))
def zY (m : Nat) : MethodName := (zM m).1.1
def zBy (m : Nat) : ByteArray := (zM m).1.2.1
def zMl (m : Nat) : Nat := (zM m).1.2.2.1
def zRt (m : Nat) : Option FieldType := (zM m).1.2.2.2.1
def zHh (m : Nat) : List (Nat × Nat × Nat × Nat) := (zM m).1.2.2.2.2
def zSt (m : Nat) : Bool := (zM m).2.1.1
def zNp (m : Nat) : Nat := (zM m).2.1.2.1
def zDep (m : Nat) : Nat := (zM m).2.1.2.2.1
def zLoc (m : Nat) : Nat := (zM m).2.1.2.2.2
def zP1 (m : Nat) : Nat := (zM m).2.2.1
def zP2 (m : Nat) : Nat := (zM m).2.2.2.1
def zP3 (m : Nat) : Nat := (zM m).2.2.2.2.1
def zP4 (m : Nat) : Nat := (zM m).2.2.2.2.2
/-- the classes by their kinds -/
def zCN : Nat → String
  | 0 => "PassForge"
  | 1 => "PassForge$Program"
  | 2 => "PassForge$Tape"
  | 3 => "PassForge$Reader"
  | 4 => "PassForge$Tokens"
  | 5 => "PassForge$Names"
  | 6 => "PassForge$Flow"
  | 7 => "PassForge$BlockPasses"
  | 8 => "PassForge$FlowPasses"
  | 9 => "PassForge$Machine"
  | 10 => "PassForgeModel"
  | 11 => "PassForgeModel$Wrong"
  | 12 => "java/lang/String"
  | 13 => "java/lang/IllegalStateException"
  | 14 => "java/lang/IllegalArgumentException"
  | 15 => "java/lang/IndexOutOfBoundsException"
  | _ => ""
/-- their fields: declarer, name, descriptor, final -/
def zFd_0 : u_T := fun k => match k with
  | 0 => ("PassForge", "row", "[LPassForge$Program;", true)
  | 1 => ("PassForge", "made", "I", false)
  | 2 => ("PassForge", "tape", "LPassForge$Tape;", true)
  | 3 => ("PassForge", "reader", "LPassForge$Reader;", true)
  | 4 => ("PassForge", "flow", "LPassForge$Flow;", true)
  | 5 => ("PassForge", "blockPasses", "LPassForge$BlockPasses;", true)
  | 6 => ("PassForge", "flowPasses", "LPassForge$FlowPasses;", true)
  | 7 => ("PassForge", "input", "[J", true)
  | 8 => ("PassForge", "inputSize", "I", false)
  | 9 => ("PassForge", "latest", "LPassForge$Machine;", true)
  | 10 => ("PassForge", "left", "LPassForge$Machine;", true)
  | 11 => ("PassForge", "right", "LPassForge$Machine;", true)
  | 12 => ("PassForge", "digits", "[J", true)
  | _ => ("", "", "", false)
def zFd_1 : u_T := fun k => match k with
  | 0 => ("PassForge$Program", "sort", "[I", true)
  | 1 => ("PassForge$Program", "target", "[I", true)
  | 2 => ("PassForge$Program", "op", "[I", true)
  | 3 => ("PassForge$Program", "firstVariable", "[I", true)
  | 4 => ("PassForge$Program", "secondVariable", "[I", true)
  | 5 => ("PassForge$Program", "firstNumber", "[J", true)
  | 6 => ("PassForge$Program", "secondNumber", "[J", true)
  | 7 => ("PassForge$Program", "isGone", "[Z", true)
  | 8 => ("PassForge$Program", "liveBehind", "[I", true)
  | 9 => ("PassForge$Program", "place", "[I", true)
  | 10 => ("PassForge$Program", "jumps", "[I", true)
  | 11 => ("PassForge$Program", "jump", "[I", true)
  | 12 => ("PassForge$Program", "size", "I", false)
  | 13 => ("PassForge$Program", "variables", "I", false)
  | 14 => ("PassForge$Program", "labels", "I", false)
  | 15 => ("PassForge$Program", "blocks", "I", false)
  | 16 => ("PassForge$Program", "loops", "I", false)
  | 17 => ("PassForge$Program", "unreached", "I", false)
  | _ => ("", "", "", false)
def zFd_2 : u_T := fun k => match k with
  | 0 => ("PassForge$Tape", "bytes", "[I", true)
  | 1 => ("PassForge$Tape", "size", "I", false)
  | _ => ("", "", "", false)
def zFd_3 : u_T := fun k => match k with
  | 0 => ("PassForge$Reader", "tokens", "LPassForge$Tokens;", true)
  | 1 => ("PassForge$Reader", "variables", "LPassForge$Names;", true)
  | 2 => ("PassForge$Reader", "labels", "LPassForge$Names;", true)
  | 3 => ("PassForge$Reader", "fault", "I", false)
  | 4 => ("PassForge$Reader", "faultPlace", "I", false)
  | 5 => ("PassForge$Reader", "target", "I", false)
  | 6 => ("PassForge$Reader", "op", "I", false)
  | 7 => ("PassForge$Reader", "firstVariable", "I", false)
  | 8 => ("PassForge$Reader", "firstNumber", "J", false)
  | 9 => ("PassForge$Reader", "secondVariable", "I", false)
  | 10 => ("PassForge$Reader", "secondNumber", "J", false)
  | 11 => ("PassForge$Reader", "variable", "I", false)
  | 12 => ("PassForge$Reader", "amount", "J", false)
  | _ => ("", "", "", false)
def zFd_4 : u_T := fun k => match k with
  | 0 => ("PassForge$Tokens", "kinds", "[I", true)
  | 1 => ("PassForge$Tokens", "starts", "[I", true)
  | 2 => ("PassForge$Tokens", "contents", "[J", true)
  | 3 => ("PassForge$Tokens", "size", "I", false)
  | 4 => ("PassForge$Tokens", "current", "I", false)
  | _ => ("", "", "", false)
def zFd_5 : u_T := fun k => match k with
  | 0 => ("PassForge$Names", "words", "[J", true)
  | 1 => ("PassForge$Names", "firstPlace", "[I", true)
  | 2 => ("PassForge$Names", "isSet", "[Z", true)
  | 3 => ("PassForge$Names", "size", "I", false)
  | _ => ("", "", "", false)
def zFd_6 : u_T := fun k => match k with
  | 0 => ("PassForge$Flow", "isReached", "[Z", true)
  | 1 => ("PassForge$Flow", "ahead", "[I", true)
  | 2 => ("PassForge$Flow", "behind", "[I", true)
  | _ => ("", "", "", false)
def zFd_7 : u_T := fun k => match k with
  | 0 => ("PassForge$BlockPasses", "isKnown", "[Z", true)
  | 1 => ("PassForge$BlockPasses", "known", "[J", true)
  | 2 => ("PassForge$BlockPasses", "copied", "[I", true)
  | _ => ("", "", "", false)
def zFd_8 : u_T := fun k => match k with
  | 0 => ("PassForge$FlowPasses", "flow", "LPassForge$Flow;", true)
  | _ => ("", "", "", false)
def zFd_9 : u_T := fun k => match k with
  | 0 => ("PassForge$Machine", "values", "[J", true)
  | 1 => ("PassForge$Machine", "outputs", "[J", true)
  | 2 => ("PassForge$Machine", "outputCount", "I", false)
  | 3 => ("PassForge$Machine", "readCount", "I", false)
  | 4 => ("PassForge$Machine", "steps", "I", false)
  | 5 => ("PassForge$Machine", "isStopped", "Z", false)
  | _ => ("", "", "", false)
def zFd_10 : u_T := fun k => match k with
  | 0 => ("PassForgeModel", "thrown", "I", false)
  | 1 => ("PassForgeModel", "programs", "I", false)
  | 2 => ("PassForgeModel", "table", "[[J", true)
  | 3 => ("PassForgeModel", "now", "[J", false)
  | 4 => ("PassForgeModel", "tape", "[I", true)
  | 5 => ("PassForgeModel", "taped", "I", false)
  | 6 => ("PassForgeModel", "at", "I", false)
  | 7 => ("PassForgeModel", "kind", "I", false)
  | 8 => ("PassForgeModel", "place", "I", false)
  | 9 => ("PassForgeModel", "word", "J", false)
  | 10 => ("PassForgeModel", "variableNames", "[J", true)
  | 11 => ("PassForgeModel", "labelNames", "[J", true)
  | 12 => ("PassForgeModel", "areThere", "[Z", true)
  | 13 => ("PassForgeModel", "wanted", "[I", true)
  | 14 => ("PassForgeModel", "errorAt", "I", false)
  | 15 => ("PassForgeModel", "behind", "[I", true)
  | 16 => ("PassForgeModel", "canCome", "[Z", true)
  | 17 => ("PassForgeModel", "known", "[Z", true)
  | 18 => ("PassForgeModel", "knownAs", "[J", true)
  | 19 => ("PassForgeModel", "copyOf", "[I", true)
  | 20 => ("PassForgeModel", "inputs", "I", false)
  | 21 => ("PassForgeModel", "input", "[J", true)
  | 22 => ("PassForgeModel", "values", "[J", true)
  | 23 => ("PassForgeModel", "outputs", "[J", true)
  | 24 => ("PassForgeModel", "isStopped", "Z", false)
  | 25 => ("PassForgeModel", "put", "I", false)
  | 26 => ("PassForgeModel", "read", "I", false)
  | 27 => ("PassForgeModel", "ranValues", "[J", true)
  | 28 => ("PassForgeModel", "ranOutputs", "[J", true)
  | 29 => ("PassForgeModel", "ran", "[I", true)
  | 30 => ("PassForgeModel", "cases", "[J", true)
  | 31 => ("PassForgeModel", "kept", "[J", true)
  | _ => ("", "", "", false)
def zFd_11 : u_T := fun k => match k with
  | 0 => ("PassForgeModel$Wrong", "error", "I", true)
  | 1 => ("PassForgeModel$Wrong", "place", "I", true)
  | 2 => ("java/lang/Throwable", "backtrace", "Ljava/lang/Object;", false)
  | _ => ("", "", "", false)
def zFd_12 : u_T := fun k => match k with
  | 0 => ("java/lang/String", "value", "[B", true)
  | 1 => ("java/lang/String", "coder", "B", true)
  | _ => ("", "", "", false)
def zFd_13 : u_T := fun k => match k with
  | _ => ("", "", "", false)
def zFd_14 : u_T := fun k => match k with
  | _ => ("", "", "", false)
def zFd_15 : u_T := fun k => match k with
  | _ => ("", "", "", false)
def zFd : Nat → u_T
  | 0 => zFd_0
  | 1 => zFd_1
  | 2 => zFd_2
  | 3 => zFd_3
  | 4 => zFd_4
  | 5 => zFd_5
  | 6 => zFd_6
  | 7 => zFd_7
  | 8 => zFd_8
  | 9 => zFd_9
  | 10 => zFd_10
  | 11 => zFd_11
  | 12 => zFd_12
  | 13 => zFd_13
  | 14 => zFd_14
  | 15 => zFd_15
  | _ => fun _ => ("", "", "", false)
def zFn : Nat → Nat
  | 0 => 13
  | 1 => 18
  | 2 => 2
  | 3 => 13
  | 4 => 5
  | 5 => 4
  | 6 => 3
  | 7 => 3
  | 8 => 1
  | 9 => 6
  | 10 => 32
  | 11 => 3
  | 12 => 2
  | 13 => 0
  | 14 => 0
  | 15 => 0
  | _ => 0
def zFt (d : String) : FieldType := (parseFieldDescriptor d).getD .int
def zIn_ : Nat → Nat
  | 0 => 13
  | 1 => 18
  | 2 => 2
  | 3 => 13
  | 4 => 5
  | 5 => 4
  | 6 => 3
  | 7 => 3
  | 8 => 1
  | 9 => 6
  | 10 => 32
  | 11 => 8
  | 13 => 6
  | 14 => 6
  | 15 => 6
  | _ => 0
/-- the texts: class, entry, text, the small machine's cell (0: none) -/
def zTx : List (String × Nat × String × Nat) := [("PassForge", 77, "the tape is full", 0),
  ("PassForge", 91, "the tape has not so many bytes", 0),
  ("PassForge", 122, "what is not 0 to 5", 0),
  ("PassForge", 133, "what is not 0 to 4", 0),
  ("PassForge", 149, "pass is not 0 to 4", 0),
  ("PassForge", 161, "the input is full", 0),
  ("PassForge", 163, "most is not 1 to 5000", 0),
  ("PassForge", 172, "what is not 0 to 2", 0),
  ("PassForge", 180, "no such number is kept", 0),
  ("PassForge", 185, "variable is not 0 to 11", 0),
  ("PassForge", 217, "no such program", 0),
  ("PassForge", 223, "no such instruction", 0),
  ("PassForge", 225, "there are 12 programs", 0),
  ("PassForge", 246, "n is not 0 to 4, or v is not 1 to 5", 0),
  ("PassForge", 248, "there are more than 64 inputs", 0),
  ("PassForgeModel", 111, "goto if in out halt ", 3),
  ("PassForgeModel", 152, "+-*/%&|^<=", 1)]
/-- places of the words of a class: instantiable, initialized -/
def zKp : Nat → Nat × Nat
  | 0 => (126, 100)
  | 1 => (135, 101)
  | 2 => (199, 102)
  | 3 => (212, 103)
  | 4 => (218, 104)
  | 5 => (240, 105)
  | 6 => (299, 106)
  | 7 => (315, 107)
  | 8 => (331, 108)
  | 9 => (343, 109)
  | 10 => (1240, 110)
  | 11 => (1509, 122)
  | 13 => (515, 114)
  | 14 => (596, 115)
  | 15 => (903, 124)
  | _ => (0, 0)
def zHp (own : String) (ct : Nat) : Nat := ((([("PassForge", 9, 133), ("PassForge", 16, 198), ("PassForge", 23, 211), ("PassForge", 30, 298), ("PassForge", 37, 314), ("PassForge", 44, 330), ("PassForge", 55, 342), ("PassForge", 75, 514), ("PassForge", 89, 595), ("PassForge", 120, 902), ("PassForge$FlowPasses", 9, 336), ("PassForge$Reader", 9, 217), ("PassForge$Reader", 18, 239), ("PassForgeLaw", 8, 125), ("PassForgeLaw", 13, 505), ("PassForgeLaw", 19, 590), ("PassForgeLaw", 29, 893), ("PassForgeLaw", 74, 1239), ("PassForgeModel", 9, 1245), ("PassForgeModel", 156, 1371)] : List (String × Nat × Nat)).find? fun x => decide (x.2.1 = ct) && decide (x.1 = own)).map fun x => x.2.2).getD 0
def zThIc : Nat → Nat
  | 13 => 79
  | 14 => 93
  | 15 => 124
  | _ => 0
def zThPs : Nat → List Nat
  | 13 => [111, 536, 545, 550, 553, 555, 537, 538, 131, 132, 539, 544, 551, 571, 526, 572, 528, 573, 530, 540, 542, 532, 567, 568, 570, 532, 558, 559, 560, 561, 518, 561, 562, 563, 564, 520, 564, 565, 566, 567, 522, 557, 515, 516, 523, 524, 525, 527, 529, 531, 535, 534, 533]
  | 14 => [111, 536, 545, 550, 553, 555, 537, 538, 131, 132, 539, 544, 551, 571, 526, 572, 528, 573, 530, 540, 542, 532, 567, 568, 570, 532, 606, 607, 608, 561, 518, 561, 562, 563, 564, 520, 564, 565, 566, 567, 522, 605, 596, 597, 598, 548, 599, 600, 601, 602, 535, 534, 603]
  | 15 => [111, 536, 545, 550, 553, 555, 537, 538, 131, 132, 539, 544, 551, 571, 526, 572, 528, 573, 530, 540, 542, 532, 567, 568, 570, 532, 913, 914, 915, 561, 518, 561, 562, 563, 564, 520, 564, 565, 566, 567, 522, 912, 903, 904, 905, 549, 906, 907, 908, 909, 535, 534, 910]
  | _ => []
def zWrPs : List Nat := [111, 536, 545, 550, 553, 555, 537, 538, 131, 132, 539, 544, 551, 571, 526, 572, 528, 573, 530, 540, 542, 532, 1521, 1522, 1523, 1524, 519, 1524, 1525, 1526, 537, 521, 1520, 1509, 1510, 1511, 547, 1512, 1513, 1514, 1515, 535, 534, 1516]
end ZTAB
