/-! the tables of the small machine: classes, fields, methods, links (printed by wip/p29/gen01.py out of the claim) -/
abbrev CN : Nat → String := fun k => match k with
  | 0 => "DependentReplay"
  | 1 => "DependentReplay$State"
  | 2 => "DependentReplay$Log"
  | 3 => "DependentReplay$Replay"
  | 4 => "DependentReplay$Tree"
  | 5 => "DependentReplay$History"
  | 6 => "DependentReplay$Reader"
  | 7 => "DependentReplay$Pad"
  | 8 => "DependentReplay$Slot"
  | 9 => "java/util/Arrays"
  | 10 => "java/lang/Math"
  | 11 => "java/lang/Long"
  | _ => "DependentReplayLaw"
def T_0 : u_T := fun k => match k with
  | 0 => ("DependentReplay", "now", "LDependentReplay$State;", true)
  | 1 => ("DependentReplay", "history", "LDependentReplay$History;", true)
  | 2 => ("DependentReplay", "slots", "[LDependentReplay$Slot;", true)
  | 3 => ("DependentReplay", "reader", "LDependentReplay$Reader;", true)
  | 4 => ("DependentReplay", "trial", "LDependentReplay$Replay;", true)
  | _ => ("DependentReplay", "treeOfWriting", "LDependentReplay$Tree;", true)
def t_0 : Nat → FieldType := fun k => match k with
  | 0 => .object "DependentReplay$State"
  | 1 => .object "DependentReplay$History"
  | 2 => .array (.object "DependentReplay$Slot")
  | 3 => .object "DependentReplay$Reader"
  | 4 => .object "DependentReplay$Replay"
  | _ => .object "DependentReplay$Tree"
def T_1 : u_T := fun k => match k with
  | 0 => ("DependentReplay$State", "log", "LDependentReplay$Log;", true)
  | _ => ("DependentReplay$State", "replay", "LDependentReplay$Replay;", true)
def t_1 : Nat → FieldType := fun k => match k with
  | 0 => .object "DependentReplay$Log"
  | _ => .object "DependentReplay$Replay"
def T_2 : u_T := fun k => match k with
  | 0 => ("DependentReplay$Log", "size", "I", false)
  | 1 => ("DependentReplay$Log", "lost", "J", false)
  | 2 => ("DependentReplay$Log", "kinds", "[I", true)
  | 3 => ("DependentReplay$Log", "files", "[I", true)
  | 4 => ("DependentReplay$Log", "arguments", "[I", true)
  | 5 => ("DependentReplay$Log", "needs", "[J", true)
  | _ => ("DependentReplay$Log", "leansOn", "[J", true)
def t_2 : Nat → FieldType := fun k => match k with
  | 0 => .int
  | 1 => .long
  | 2 => .array (.int)
  | 3 => .array (.int)
  | 4 => .array (.int)
  | 5 => .array (.long)
  | _ => .array (.long)
def T_3 : u_T := fun k => match k with
  | 0 => ("DependentReplay$Replay", "replayed", "J", false)
  | 1 => ("DependentReplay$Replay", "refused", "J", false)
  | 2 => ("DependentReplay$Replay", "rounds", "I", false)
  | 3 => ("DependentReplay$Replay", "widest", "I", false)
  | 4 => ("DependentReplay$Replay", "roundOf", "[I", true)
  | 5 => ("DependentReplay$Replay", "reasonOf", "[I", true)
  | _ => ("DependentReplay$Replay", "tree", "LDependentReplay$Tree;", true)
def t_3 : Nat → FieldType := fun k => match k with
  | 0 => .long
  | 1 => .long
  | 2 => .int
  | 3 => .int
  | 4 => .array (.int)
  | 5 => .array (.int)
  | _ => .object "DependentReplay$Tree"
def T_4 : u_T := fun k => match k with
  | 0 => ("DependentReplay$Tree", "directories", "[I", true)
  | _ => ("DependentReplay$Tree", "values", "[I", true)
def t_4 : Nat → FieldType := fun k => match k with
  | 0 => .array (.int)
  | _ => .array (.int)
def T_5 : u_T := fun k => match k with
  | 0 => ("DependentReplay$History", "states", "[LDependentReplay$State;", true)
  | 1 => ("DependentReplay$History", "next", "I", false)
  | _ => ("DependentReplay$History", "kept", "I", false)
def t_5 : Nat → FieldType := fun k => match k with
  | 0 => .array (.object "DependentReplay$State")
  | 1 => .int
  | _ => .int
def T_6 : u_T := fun k => match k with
  | 0 => ("DependentReplay$Reader", "pad", "LDependentReplay$Pad;", true)
  | 1 => ("DependentReplay$Reader", "at", "I", false)
  | 2 => ("DependentReplay$Reader", "letter", "I", false)
  | 3 => ("DependentReplay$Reader", "first", "I", false)
  | _ => ("DependentReplay$Reader", "second", "I", false)
def t_6 : Nat → FieldType := fun k => match k with
  | 0 => .object "DependentReplay$Pad"
  | 1 => .int
  | 2 => .int
  | 3 => .int
  | _ => .int
def T_7 : u_T := fun k => match k with
  | 0 => ("DependentReplay$Pad", "codes", "[I", true)
  | _ => ("DependentReplay$Pad", "length", "I", false)
def t_7 : Nat → FieldType := fun k => match k with
  | 0 => .array (.int)
  | _ => .int
def T_8 : u_T := fun k => match k with
  | 0 => ("DependentReplay$Slot", "state", "LDependentReplay$State;", true)
  | _ => ("DependentReplay$Slot", "isUsed", "Z", false)
def t_8 : Nat → FieldType := fun k => match k with
  | 0 => .object "DependentReplay$State"
  | _ => .boolean
def TT : Nat → u_T := fun c => match c with
  | 0 => T_0
  | 1 => T_1
  | 2 => T_2
  | 3 => T_3
  | 4 => T_4
  | 5 => T_5
  | 6 => T_6
  | 7 => T_7
  | _ => T_8
def tT : Nat → Nat → FieldType := fun c => match c with
  | 0 => t_0
  | 1 => t_1
  | 2 => t_2
  | 3 => t_3
  | 4 => t_4
  | 5 => t_5
  | 6 => t_6
  | 7 => t_7
  | _ => t_8
def NN : Nat → Nat := fun c => match c with
  | 0 => 6
  | 1 => 2
  | 2 => 7
  | 3 => 7
  | 4 => 2
  | 5 => 3
  | 6 => 5
  | 7 => 2
  | _ => 2
def nCl : Nat := 9
/-- 0 an int, 1 a long, 2 a reference, 3 a boolean -/
def fT (ci k : Nat) : Nat := match tT ci k with | .int => 0 | .long => 1 | .boolean => 3 | _ => 2
abbrev classes : List vw_C := [("DependentReplay", T_0, 6), ("DependentReplay$State", T_1, 2), ("DependentReplay$Log", T_2, 7), ("DependentReplay$Replay", T_3, 7), ("DependentReplay$Tree", T_4, 2), ("DependentReplay$History", T_5, 3), ("DependentReplay$Reader", T_6, 5), ("DependentReplay$Pad", T_7, 2), ("DependentReplay$Slot", T_8, 2)]
abbrev MT : Type := MethodName × ByteArray × Nat × Option FieldType × Nat × Nat × Nat × Nat × Nat × Bool
def mt_0 : MT := (⟨"DependentReplay", "<init>", "()V"⟩, prog_1_method_1_code, 2, none, 0, 6, 28, 27, 0, false)
def mt_1 : MT := (⟨"DependentReplay$State", "<init>", "()V"⟩, prog_8_method_1_code, 1, none, 1, 4, 36, 35, 0, false)
def mt_2 : MT := (⟨"DependentReplay$Log", "<init>", "()V"⟩, prog_3_method_1_code, 1, none, 2, 1, 42, 41, 0, false)
def mt_3 : MT := (⟨"DependentReplay$Replay", "<init>", "()V"⟩, prog_6_method_1_code, 1, none, 3, 3, 87, 86, 0, false)
def mt_4 : MT := (⟨"DependentReplay$Tree", "<init>", "()V"⟩, prog_9_method_1_code, 1, none, 4, 2, 93, 92, 0, false)
def mt_5 : MT := (⟨"DependentReplay$Tree", "clear", "()V"⟩, prog_9_method_2_code, 1, none, 4, 1, 98, 96, 97, false)
def mt_6 : MT := (⟨"java/util/Arrays", "fill", "([II)V"⟩, prog_15_method_103_code, 4, none, 9, 0, 101, 100, 0, true)
def mt_7 : MT := (⟨"DependentReplay$Replay", "clear", "()V"⟩, prog_6_method_2_code, 1, none, 3, 2, 114, 112, 113, false)
def mt_8 : MT := (⟨"DependentReplay$History", "<init>", "()V"⟩, prog_2_method_1_code, 2, none, 5, 5, 159, 158, 0, false)
def mt_9 : MT := (⟨"DependentReplay$Reader", "<init>", "()V"⟩, prog_5_method_1_code, 1, none, 6, 2, 181, 180, 0, false)
def mt_10 : MT := (⟨"DependentReplay$Pad", "<init>", "()V"⟩, prog_4_method_1_code, 1, none, 7, 1, 187, 186, 0, false)
def mt_11 : MT := (⟨"DependentReplay$Slot", "<init>", "()V"⟩, prog_7_method_1_code, 1, none, 8, 5, 216, 215, 0, false)
def mt_12 : MT := (⟨"DependentReplay", "make", "(II)I"⟩, prog_1_method_2_code, 3, (some .int), 0, 5, 248, 246, 247, false)
def mt_13 : MT := (⟨"DependentReplay$History", "prepare", "(LDependentReplay$State;)V"⟩, prog_2_method_2_code, 2, none, 5, 4, 252, 250, 251, false)
def mt_14 : MT := (⟨"DependentReplay$State", "copyFrom", "(LDependentReplay$State;)V"⟩, prog_8_method_2_code, 2, none, 1, 3, 256, 254, 255, false)
def mt_15 : MT := (⟨"DependentReplay$Log", "copyFrom", "(LDependentReplay$Log;)V"⟩, prog_3_method_2_code, 2, none, 2, 1, 260, 258, 259, false)
def mt_16 : MT := (⟨"DependentReplay$Replay", "copyFrom", "(LDependentReplay$Replay;)V"⟩, prog_6_method_3_code, 2, none, 3, 2, 267, 265, 266, false)
def mt_17 : MT := (⟨"DependentReplay$Tree", "copyFrom", "(LDependentReplay$Tree;)V"⟩, prog_9_method_3_code, 2, none, 4, 1, 272, 270, 271, false)
def mt_18 : MT := (⟨"DependentReplay$State", "writeEntry", "(III)I"⟩, prog_8_method_3_code, 4, (some .int), 1, 4, 277, 275, 276, false)
def mt_19 : MT := (⟨"DependentReplay", "isFile", "(I)Z"⟩, prog_1_method_31_code, 1, (some .boolean), 0, 0, 280, 279, 0, true)
def mt_20 : MT := (⟨"DependentReplay", "hasDirectory", "(I)Z"⟩, prog_1_method_33_code, 1, (some .boolean), 0, 0, 283, 282, 0, true)
def mt_21 : MT := (⟨"DependentReplay$Log", "append", "(III)I"⟩, prog_3_method_4_code, 5, (some .int), 2, 3, 287, 285, 286, false)
def mt_22 : MT := (⟨"DependentReplay$Log", "firstNeeds", "(III)J"⟩, prog_3_method_5_code, 6, (some .long), 2, 2, 291, 290, 0, false)
def mt_23 : MT := (⟨"DependentReplay$Log", "latestOfFile", "(I)J"⟩, prog_3_method_6_code, 3, (some .long), 2, 1, 295, 294, 1, false)
def mt_24 : MT := (⟨"DependentReplay", "bit", "(I)J"⟩, prog_1_method_34_code, 1, (some .long), 0, 0, 298, 297, 0, true)
def mt_25 : MT := (⟨"DependentReplay$Log", "latestInDirectory", "(I)J"⟩, prog_3_method_7_code, 3, (some .long), 2, 1, 303, 302, 2, false)
def mt_26 : MT := (⟨"DependentReplay$Log", "lean", "(I)V"⟩, prog_3_method_8_code, 6, none, 2, 2, 307, 305, 306, false)
def mt_27 : MT := (⟨"DependentReplay", "holds", "(JI)Z"⟩, prog_1_method_35_code, 3, (some .boolean), 0, 1, 310, 309, 0, true)
def mt_28 : MT := (⟨"DependentReplay", "recorded", "(I)I"⟩, prog_1_method_28_code, 2, (some .int), 0, 2, 315, 314, 3, false)
def mt_29 : MT := (⟨"DependentReplay$History", "keepPrepared", "()V"⟩, prog_2_method_3_code, 1, none, 5, 1, 319, 317, 318, false)
def mt_30 : MT := (⟨"java/lang/Math", "min", "(II)I"⟩, prog_13_method_69_code, 2, (some .int), 10, 0, 322, 321, 0, true)
def mt_31 : MT := (⟨"DependentReplay", "write", "(II)I"⟩, prog_1_method_3_code, 3, (some .int), 0, 5, 326, 324, 325, false)
def mt_32 : MT := (⟨"DependentReplay", "move", "(II)I"⟩, prog_1_method_4_code, 3, (some .int), 0, 5, 330, 328, 329, false)
def mt_33 : MT := (⟨"DependentReplay", "drop", "(I)I"⟩, prog_1_method_5_code, 2, (some .int), 0, 5, 334, 332, 333, false)
def mt_34 : MT := (⟨"DependentReplay", "need", "(II)I"⟩, prog_1_method_6_code, 3, (some .int), 0, 5, 338, 336, 337, false)
def mt_35 : MT := (⟨"DependentReplay$State", "tellNeed", "(II)I"⟩, prog_8_method_4_code, 3, (some .int), 1, 3, 342, 340, 341, false)
def mt_36 : MT := (⟨"DependentReplay$Log", "has", "(I)Z"⟩, prog_3_method_3_code, 2, (some .boolean), 2, 0, 346, 344, 345, false)
def mt_37 : MT := (⟨"java/lang/Long", "bitCount", "(J)I"⟩, prog_12_method_50_code, 2, (some .int), 11, 0, 352, 351, 0, true)
def mt_38 : MT := (⟨"DependentReplay", "lose", "(I)I"⟩, prog_1_method_7_code, 2, (some .int), 0, 5, 359, 357, 358, false)
def mt_39 : MT := (⟨"DependentReplay$State", "loseEntry", "(I)I"⟩, prog_8_method_5_code, 2, (some .int), 1, 4, 363, 361, 362, false)
def mt_40 : MT := (⟨"DependentReplay$State", "turnLost", "(IZ)I"⟩, prog_8_method_7_code, 3, (some .int), 1, 3, 367, 366, 4, false)
def mt_41 : MT := (⟨"DependentReplay$Log", "orphans", "()J"⟩, prog_3_method_10_code, 1, (some .long), 2, 2, 372, 370, 371, false)
def mt_42 : MT := (⟨"DependentReplay$Log", "orphansOf", "(J)J"⟩, prog_3_method_11_code, 6, (some .long), 2, 1, 376, 374, 375, false)
def mt_43 : MT := (⟨"DependentReplay", "find", "(I)I"⟩, prog_1_method_8_code, 2, (some .int), 0, 5, 381, 379, 380, false)
def mt_44 : MT := (⟨"DependentReplay$State", "findEntry", "(I)I"⟩, prog_8_method_6_code, 2, (some .int), 1, 4, 385, 383, 384, false)
def mt_45 : MT := (⟨"DependentReplay", "beginAnew", "()I"⟩, prog_1_method_9_code, 2, (some .int), 0, 5, 389, 387, 388, false)
def mt_46 : MT := (⟨"DependentReplay", "round", "()I"⟩, prog_1_method_10_code, 1, (some .int), 0, 6, 395, 393, 394, false)
def mt_47 : MT := (⟨"DependentReplay$Replay", "makeRound", "(LDependentReplay$Log;)I"⟩, prog_6_method_5_code, 2, (some .int), 3, 5, 399, 397, 398, false)
def mt_48 : MT := (⟨"DependentReplay$Replay", "ready", "(LDependentReplay$Log;)J"⟩, prog_6_method_4_code, 7, (some .long), 3, 2, 403, 401, 402, false)
def mt_49 : MT := (⟨"DependentReplay$Replay", "replayReady", "(LDependentReplay$Log;J)I"⟩, prog_6_method_7_code, 5, (some .int), 3, 4, 410, 409, 5, false)
def mt_50 : MT := (⟨"DependentReplay$Tree", "apply", "(III)I"⟩, prog_9_method_6_code, 5, (some .int), 4, 3, 414, 412, 413, false)
def mt_51 : MT := (⟨"DependentReplay$Tree", "refusal", "(III)I"⟩, prog_9_method_7_code, 4, (some .int), 4, 2, 418, 417, 6, false)
def mt_52 : MT := (⟨"DependentReplay$Tree", "has", "(I)Z"⟩, prog_9_method_4_code, 2, (some .boolean), 4, 0, 422, 420, 421, false)
def mt_53 : MT := (⟨"DependentReplay$Tree", "isOrLiesIn", "(II)Z"⟩, prog_9_method_9_code, 5, (some .boolean), 4, 1, 427, 426, 7, false)
def mt_54 : MT := (⟨"DependentReplay$Tree", "filesIn", "(I)I"⟩, prog_9_method_10_code, 4, (some .int), 4, 0, 432, 430, 431, false)
def mt_55 : MT := (⟨"DependentReplay$Tree", "carry", "(III)V"⟩, prog_9_method_8_code, 4, none, 4, 1, 436, 435, 8, false)
def mt_56 : MT := (⟨"java/lang/Math", "max", "(II)I"⟩, prog_13_method_65_code, 2, (some .int), 10, 0, 440, 439, 0, true)
def mt_57 : MT := (⟨"DependentReplay", "replay", "()I"⟩, prog_1_method_11_code, 1, (some .int), 0, 6, 444, 442, 443, false)
def mt_58 : MT := (⟨"DependentReplay$Replay", "makeRounds", "(LDependentReplay$Log;)I"⟩, prog_6_method_6_code, 5, (some .int), 3, 5, 448, 446, 447, false)
def mt_59 : MT := (⟨"DependentReplayLaw", "cell", "([II)I"⟩, method_2_code, 2, (some .int), 12, 0, 451, 450, 0, true)
def mt_60 : MT := (⟨"DependentReplayLaw", "low", "(II)I"⟩, method_3_code, 2, (some .int), 12, 0, 456, 455, 0, true)
def mt_61 : MT := (⟨"DependentReplayLaw", "orphans", "(I[I[I)I"⟩, method_5_code, 5, (some .int), 12, 1, 460, 459, 0, true)
def mt_62 : MT := (⟨"DependentReplayLaw", "leans", "(I[I)I"⟩, method_4_code, 4, (some .int), 12, 0, 463, 462, 0, true)
def mt_63 : MT := (⟨"DependentReplayLaw", "bits", "(I)I"⟩, method_6_code, 3, (some .int), 12, 0, 466, 465, 0, true)
def mt_64 : MT := (⟨"DependentReplayLaw", "root", "([I)V"⟩, method_7_code, 2, none, 12, 0, 469, 468, 0, true)
def mt_65 : MT := (⟨"DependentReplayLaw", "ready", "([I[I[I)I"⟩, method_9_code, 6, (some .int), 12, 0, 472, 471, 0, true)
def mt_66 : MT := (⟨"DependentReplayLaw", "round", "([I[I[I[I)I"⟩, method_10_code, 6, (some .int), 12, 1, 475, 474, 0, true)
def mt_67 : MT := (⟨"DependentReplayLaw", "play", "(I[I[I)I"⟩, method_8_code, 8, (some .int), 12, 0, 478, 477, 0, true)
def mt_68 : MT := (⟨"DependentReplayLaw", "anew", "([I[I[I)V"⟩, method_11_code, 4, none, 12, 1, 481, 480, 0, true)
def mt_69 : MT := (⟨"DependentReplayLaw", "same", "(LDependentReplay;[I[I[I[I[I[I[I)Z"⟩, method_14_code, 24, (some .boolean), 12, 8, 484, 483, 0, true)
def mt_70 : MT := (⟨"DependentReplay", "ofEntry", "(II)I"⟩, prog_1_method_12_code, 4, (some .int), 0, 3, 488, 486, 487, false)
def mt_71 : MT := (⟨"DependentReplay$Log", "leaningOn", "(I)I"⟩, prog_3_method_9_code, 4, (some .int), 2, 2, 495, 493, 494, false)
def mt_72 : MT := (⟨"DependentReplay", "dependsOn", "(I)J"⟩, prog_1_method_13_code, 2, (some .long), 0, 1, 499, 497, 498, false)
def mt_73 : MT := (⟨"DependentReplay", "depth", "(I)I"⟩, prog_1_method_17_code, 2, (some .int), 0, 7, 504, 502, 503, false)
def mt_74 : MT := (⟨"DependentReplay", "tryReplay", "()V"⟩, prog_1_method_29_code, 1, none, 0, 6, 508, 507, 9, false)
def mt_75 : MT := (⟨"DependentReplayLaw", "depth", "(I[I)I"⟩, method_12_code, 4, (some .int), 12, 1, 511, 510, 0, true)
def mt_76 : MT := (⟨"DependentReplayLaw", "beyond", "(I[I)I"⟩, method_13_code, 4, (some .int), 12, 0, 514, 513, 0, true)
def mt_77 : MT := (⟨"DependentReplay", "wants", "(I)J"⟩, prog_1_method_18_code, 2, (some .long), 0, 1, 518, 516, 517, false)
def mt_78 : MT := (⟨"DependentReplay", "ofFile", "(II)I"⟩, prog_1_method_14_code, 4, (some .int), 0, 3, 522, 520, 521, false)
def mt_79 : MT := (⟨"DependentReplay$Tree", "directoriesAbove", "(I)I"⟩, prog_9_method_11_code, 4, (some .int), 4, 1, 529, 527, 528, false)
def mt_80 : MT := (⟨"DependentReplay$Tree", "filesBelow", "(I)I"⟩, prog_9_method_12_code, 4, (some .int), 4, 2, 533, 531, 532, false)
def mt_81 : MT := (⟨"DependentReplay", "unlike", "()I"⟩, prog_1_method_20_code, 3, (some .int), 0, 7, 537, 535, 536, false)
def mt_82 : MT := (⟨"DependentReplay$Tree", "otherwiseThan", "(LDependentReplay$Tree;)I"⟩, prog_9_method_13_code, 4, (some .int), 4, 0, 543, 541, 542, false)
def mt_83 : MT := (⟨"DependentReplay", "worst", "(I)I"⟩, prog_1_method_19_code, 6, (some .int), 0, 2, 547, 545, 546, false)
def mt_84 : MT := (⟨"DependentReplay", "count", "(I)I"⟩, prog_1_method_15_code, 2, (some .int), 0, 3, 552, 550, 551, false)
def mt_85 : MT := (⟨"DependentReplay$Tree", "size", "()I"⟩, prog_9_method_5_code, 3, (some .int), 4, 1, 556, 554, 555, false)
def mt_86 : MT := (⟨"DependentReplay", "set", "(I)J"⟩, prog_1_method_16_code, 2, (some .long), 0, 3, 560, 558, 559, false)
def mt_87 : MT := (⟨"DependentReplayLaw", "law", "([I)Z"⟩, code, 22, (some .boolean), 12, 9, 0, 0, 0, true)
def mtab : List MT := [mt_0, mt_1, mt_2, mt_3, mt_4, mt_5, mt_6, mt_7, mt_8, mt_9, mt_10, mt_11, mt_12, mt_13, mt_14, mt_15, mt_16, mt_17, mt_18, mt_19, mt_20, mt_21, mt_22, mt_23, mt_24, mt_25, mt_26, mt_27, mt_28, mt_29, mt_30, mt_31, mt_32, mt_33, mt_34, mt_35, mt_36, mt_37, mt_38, mt_39, mt_40, mt_41, mt_42, mt_43, mt_44, mt_45, mt_46, mt_47, mt_48, mt_49, mt_50, mt_51, mt_52, mt_53, mt_54, mt_55, mt_56, mt_57, mt_58, mt_59, mt_60, mt_61, mt_62, mt_63, mt_64, mt_65, mt_66, mt_67, mt_68, mt_69, mt_70, mt_71, mt_72, mt_73, mt_74, mt_75, mt_76, mt_77, mt_78, mt_79, mt_80, mt_81, mt_82, mt_83, mt_84, mt_85, mt_86, mt_87]
def mt (q : Nat) : MT := mtab.getD q mt_0
def yN (q : Nat) : MethodName := (mt q).1
def mB (q : Nat) : ByteArray := (mt q).2.1
def mL (q : Nat) : Nat := (mt q).2.2.1
def mRt (q : Nat) : Option FieldType := (mt q).2.2.2.1
def ow (q : Nat) : Nat := (mt q).2.2.2.2.1
def dp (q : Nat) : Nat := (mt q).2.2.2.2.2.1
def wpM (q : Nat) : Nat := (mt q).2.2.2.2.2.2.1
def ipM (q : Nat) : Nat := (mt q).2.2.2.2.2.2.2.1
def spM (q : Nat) : Nat := (mt q).2.2.2.2.2.2.2.2.1
def stM (q : Nat) : Bool := (mt q).2.2.2.2.2.2.2.2.2

def iniM : List Nat := [0, 1, 2, 3, 4, 8, 9, 10, 11]
/-- a constructor -/
def isI (q : Nat) : Bool := iniM.contains q
def nM : Nat := 88
def calT : List (Nat × Nat × Nat × Nat × Nat) := [(0, 9, 1, 5, 34), (0, 18, 8, 4, 157), (0, 31, 9, 5, 179), (0, 38, 3, 4, 210), (0, 45, 4, 4, 212), (0, 50, 11, 5, 214), (0, 51, 13, 0, 249), (0, 55, 18, 0, 274), (0, 59, 28, 0, 312), (0, 63, 35, 0, 339), (0, 67, 39, 0, 360), (0, 70, 44, 0, 382), (0, 80, 37, 2, 390), (0, 86, 7, 0, 391), (0, 93, 47, 0, 396), (0, 97, 58, 0, 445), (0, 100, 36, 0, 489), (0, 119, 27, 2, 490), (0, 123, 41, 0, 491), (0, 137, 71, 0, 492), (0, 145, 19, 2, 523), (0, 148, 52, 0, 524), (0, 155, 54, 0, 525), (0, 158, 79, 0, 526), (0, 161, 80, 0, 530), (0, 174, 85, 0, 553), (0, 192, 48, 0, 561), (0, 198, 74, 0, 505), (0, 204, 24, 2, 311), (0, 208, 42, 0, 548), (0, 212, 5, 0, 538), (0, 213, 50, 0, 539), (0, 216, 82, 0, 540), (0, 258, 29, 0, 316), (1, 11, 2, 5, 40), (1, 20, 3, 4, 85), (1, 25, 15, 0, 257), (1, 29, 16, 0, 264), (1, 32, 19, 3, 278), (1, 36, 20, 3, 281), (1, 39, 21, 0, 284), (1, 43, 36, 0, 343), (1, 50, 24, 3, 347), (1, 54, 26, 0, 348), (1, 58, 7, 0, 349), (1, 61, 37, 2, 350), (1, 67, 40, 0, 364), (1, 75, 27, 3, 368), (1, 79, 41, 0, 369), (2, 42, 22, 0, 288), (2, 46, 26, 0, 304), (2, 50, 23, 0, 292), (2, 54, 20, 3, 299), (2, 58, 25, 0, 300), (2, 61, 24, 3, 296), (2, 64, 27, 3, 308), (2, 68, 42, 0, 373), (3, 20, 4, 4, 91), (3, 25, 7, 0, 111), (3, 42, 6, 2, 115), (3, 48, 5, 0, 116), (3, 55, 17, 0, 269), (3, 67, 27, 3, 404), (3, 77, 24, 3, 406), (3, 81, 48, 0, 400), (3, 85, 49, 0, 407), (3, 98, 50, 0, 411), (3, 102, 37, 2, 437), (3, 108, 56, 2, 438), (4, 18, 5, 0, 95), (4, 21, 6, 2, 99), (4, 33, 52, 0, 419), (4, 37, 51, 0, 415), (4, 41, 19, 3, 428), (4, 44, 55, 0, 433), (4, 48, 20, 3, 423), (4, 51, 53, 0, 424), (4, 55, 54, 0, 429), (5, 17, 1, 5, 163), (5, 22, 14, 0, 253), (5, 29, 30, 2, 320), (6, 11, 10, 5, 185), (8, 9, 1, 5, 219), (12, 10, 62, 2, 461), (12, 16, 65, 2, 470), (12, 20, 67, 2, 476), (12, 24, 63, 2, 464), (12, 28, 64, 2, 467), (12, 32, 76, 2, 512), (12, 35, 61, 2, 458), (12, 38, 70, 0, 485), (12, 44, 72, 0, 496), (12, 48, 73, 0, 501), (12, 51, 75, 2, 509), (12, 53, 77, 0, 515), (12, 56, 78, 0, 519), (12, 59, 68, 2, 479), (12, 63, 66, 2, 473), (12, 67, 81, 0, 534), (12, 71, 83, 0, 544), (12, 74, 84, 0, 549), (12, 77, 86, 0, 557), (12, 80, 0, 4, 26), (12, 81, 59, 2, 449), (12, 85, 60, 2, 454), (12, 88, 12, 0, 245), (12, 91, 31, 0, 323), (12, 94, 32, 0, 327), (12, 97, 33, 0, 331), (12, 100, 38, 0, 356), (12, 103, 43, 0, 378), (12, 106, 34, 0, 335), (12, 109, 46, 0, 392), (12, 111, 45, 0, 386), (12, 114, 57, 0, 441), (12, 117, 69, 2, 482)]
def objT : List (Nat × Nat × Nat) := [(0, 1, 29), (1, 3, 37), (2, 3, 43), (3, 3, 88), (4, 3, 94), (5, 3, 160), (6, 3, 182), (7, 3, 188), (8, 1, 217)]
def cpyT : List (Nat × Nat × Nat) := [(2, 36, 261), (3, 49, 268), (4, 27, 273)]
def fldT : List (Nat × Nat × Nat × Nat × Nat) := [(0, 10, 0, 0, 226), (0, 19, 0, 1, 227), (0, 25, 0, 2, 228), (0, 32, 0, 3, 229), (0, 39, 0, 4, 230), (0, 46, 0, 5, 231), (0, 73, 1, 1, 149), (0, 76, 3, 0, 118), (0, 89, 1, 0, 147), (0, 106, 2, 2, 53), (0, 110, 2, 3, 56), (0, 113, 2, 4, 59), (0, 116, 2, 1, 50), (0, 127, 3, 4, 126), (0, 130, 3, 5, 128), (0, 133, 2, 5, 63), (0, 142, 3, 6, 130), (0, 149, 4, 0, 103), (0, 152, 4, 1, 105), (0, 164, 2, 0, 46), (0, 168, 3, 1, 120), (0, 171, 3, 2, 122), (0, 177, 3, 3, 124), (0, 180, 6, 0, 197), (0, 184, 7, 1, 190), (0, 189, 5, 2, 167), (0, 201, 2, 6, 65), (1, 12, 1, 0, 146), (1, 21, 1, 1, 148), (1, 46, 2, 5, 62), (1, 71, 2, 1, 49), (2, 9, 2, 2, 51), (2, 15, 2, 3, 54), (2, 18, 2, 4, 57), (2, 21, 2, 5, 60), (2, 25, 2, 6, 64), (2, 28, 2, 0, 44), (2, 32, 2, 1, 47), (3, 9, 3, 4, 125), (3, 15, 3, 5, 127), (3, 21, 3, 6, 129), (3, 28, 3, 0, 117), (3, 32, 3, 1, 119), (3, 35, 3, 2, 121), (3, 39, 3, 3, 123), (3, 59, 2, 1, 48), (3, 64, 2, 0, 45), (3, 71, 2, 5, 61), (3, 89, 2, 2, 52), (3, 92, 2, 3, 55), (3, 95, 2, 4, 58), (4, 9, 4, 0, 102), (4, 15, 4, 1, 104), (5, 13, 5, 0, 164), (5, 18, 5, 1, 165), (5, 26, 5, 2, 166), (6, 12, 6, 0, 196), (7, 9, 7, 0, 189), (8, 10, 8, 0, 220)]
def cstT : List (Nat × Nat × Int64 × Nat) := [(0, 140, -1, 500), (0, 196, -2, 562), (2, 72, -1, 377), (3, 75, -1, 405), (11, 314, 6148914691236517205, 353), (11, 316, 3689348814741910323, 354), (11, 318, 1085102592571150095, 355)]
def cniT : List (Nat × Nat × Int32 × Nat) := [(12, 7, 791501339, 452), (12, 8, 1248562189, 453), (12, 9, 2147483647, 457)]
def nclT : List (Nat × Nat × Nat × Nat) := [(0, 7, 1, 32), (0, 16, 5, 155), (0, 23, 8, 175), (0, 29, 6, 177), (0, 36, 3, 209), (0, 43, 4, 211), (1, 9, 2, 38), (1, 18, 3, 83), (3, 18, 4, 89), (5, 11, 1, 161), (6, 9, 7, 183), (8, 7, 1, 218), (12, 39, 0, 24)]
def iniT : List Nat := [11, 12, 13, 14, 15, 17, 18, 19, 20, 16, 22, 23, 10]
def insT : List Nat := [25, 33, 39, 84, 90, 156, 178, 184, 213]
def layT : List (List Nat) := [[232, 234, 236, 238, 240, 242], [150, 152], [66, 68, 70, 72, 74, 76, 78], [131, 133, 135, 137, 139, 141, 143], [106, 108], [168, 170, 172], [198, 200, 202, 204, 206], [191, 193], [221, 223]]
def arcI : Nat := 81
def arcJ : Nat := 82
def AON : Nat → String := fun k => match k with | 3 => "DependentReplay$State" | _ => "DependentReplay$Slot"
def aovT : List Nat := [162, 176]
def sysW : Nat × Nat × Nat := (21, 262, 263)
def objW : Nat × Nat := (30, 31)
