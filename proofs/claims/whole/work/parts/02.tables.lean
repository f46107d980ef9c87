/-! the program's tables: methods, classes, links, constants, as the Statement's own words have them; every row is checked against the words -/
def mT_0 : u_T := fun k => match k with
  | 0 => ("HillLeavers", "tape", "LHillLeavers$Tape;", true)
  | 1 => ("HillLeavers", "reader", "LHillLeavers$Reader;", true)
  | 2 => ("HillLeavers", "town", "LHillLeavers$Town;", false)
  | 3 => ("HillLeavers", "state", "LHillLeavers$State;", true)
  | 4 => ("HillLeavers", "trial", "LHillLeavers$State;", true)
  | 5 => ("HillLeavers", "acts", "LHillLeavers$Acts;", true)
  | 6 => ("HillLeavers", "boxes", "[LHillLeavers$State;", true)
  | 7 => ("HillLeavers", "filled", "[Z", true)
  | 8 => ("HillLeavers", "outlook", "LHillLeavers$Outlook;", true)
  | 9 => ("HillLeavers", "pick", "LHillLeavers$Pick;", true)
  | _ => ("HillLeavers", "sights", "LHillLeavers$Sights;", true)
def mT_1 : u_T := fun k => match k with
  | 0 => ("HillLeavers$Acts", "ring", "[LHillLeavers$State;", true)
  | 1 => ("HillLeavers$Acts", "oldest", "I", false)
  | 2 => ("HillLeavers$Acts", "behind", "I", false)
  | _ => ("HillLeavers$Acts", "ahead", "I", false)
def mT_2 : u_T := fun k => match k with
  | 0 => ("HillLeavers$Formula", "code", "[I", true)
  | 1 => ("HillLeavers$Formula", "length", "I", false)
  | 2 => ("HillLeavers$Formula", "units", "I", false)
  | 3 => ("HillLeavers$Formula", "stack", "[I", true)
  | _ => ("HillLeavers$Formula", "height", "I", false)
def mT_3 : u_T := fun k => match k with
  | 0 => ("HillLeavers$Outlook", "ahead", "LHillLeavers$State;", true)
  | 1 => ("HillLeavers$Outlook", "out", "[I", true)
  | 2 => ("HillLeavers$Outlook", "hungry", "[I", true)
  | _ => ("HillLeavers$Outlook", "lost", "[I", true)
def mT_4 : u_T := fun k => match k with
  | 0 => ("HillLeavers$Pick", "found", "Z", false)
  | 1 => ("HillLeavers$Pick", "worth", "I", false)
  | 2 => ("HillLeavers$Pick", "cost", "I", false)
  | _ => ("HillLeavers$Pick", "set", "I", false)
def mT_5 : u_T := fun k => match k with
  | 0 => ("HillLeavers$Reader", "tape", "LHillLeavers$Tape;", true)
  | 1 => ("HillLeavers$Reader", "draft", "LHillLeavers$Town;", false)
  | 2 => ("HillLeavers$Reader", "fault", "I", false)
  | 3 => ("HillLeavers$Reader", "place", "I", false)
  | 4 => ("HillLeavers$Reader", "craftNames", "[J", true)
  | 5 => ("HillLeavers$Reader", "manNames", "[J", true)
  | 6 => ("HillLeavers$Reader", "demandNames", "[J", true)
  | 7 => ("HillLeavers$Reader", "backTold", "Z", false)
  | 8 => ("HillLeavers$Reader", "foesTold", "Z", false)
  | _ => ("HillLeavers$Reader", "drawTold", "Z", false)
def mT_6 : u_T := fun k => match k with
  | 0 => ("HillLeavers$Sights", "kind", "[I", true)
  | 1 => ("HillLeavers$Sights", "which", "[I", true)
  | 2 => ("HillLeavers$Sights", "was", "[Z", true)
  | 3 => ("HillLeavers$Sights", "toldAt", "[I", true)
  | 4 => ("HillLeavers$Sights", "untoldAt", "[I", true)
  | 5 => ("HillLeavers$Sights", "count", "I", false)
  | 6 => ("HillLeavers$Sights", "time", "I", false)
  | 7 => ("HillLeavers$Sights", "fit", "I", false)
  | _ => ("HillLeavers$Sights", "fitOut", "[I", true)
def mT_7 : u_T := fun k => match k with
  | 0 => ("HillLeavers$State", "out", "I", false)
  | 1 => ("HillLeavers$State", "days", "[I", true)
  | 2 => ("HillLeavers$State", "loaves", "[I", true)
  | 3 => ("HillLeavers$State", "lost", "I", false)
  | 4 => ("HillLeavers$State", "foes", "I", false)
  | 5 => ("HillLeavers$State", "granted", "I", false)
  | 6 => ("HillLeavers$State", "day", "I", false)
  | _ => ("HillLeavers$State", "seed", "I", false)
def mT_8 : u_T := fun k => match k with
  | 0 => ("HillLeavers$Tape", "text", "[I", true)
  | 1 => ("HillLeavers$Tape", "length", "I", false)
  | 2 => ("HillLeavers$Tape", "kind", "I", false)
  | 3 => ("HillLeavers$Tape", "start", "I", false)
  | 4 => ("HillLeavers$Tape", "next", "I", false)
  | 5 => ("HillLeavers$Tape", "word", "J", false)
  | _ => ("HillLeavers$Tape", "number", "I", false)
def mT_9 : u_T := fun k => match k with
  | 0 => ("HillLeavers$Town", "crafts", "I", false)
  | 1 => ("HillLeavers$Town", "needs", "[I", true)
  | 2 => ("HillLeavers$Town", "harm", "[I", true)
  | 3 => ("HillLeavers$Town", "members", "[I", true)
  | 4 => ("HillLeavers$Town", "men", "I", false)
  | 5 => ("HillLeavers$Town", "skills", "[I", true)
  | 6 => ("HillLeavers$Town", "loavesAtFirst", "[I", true)
  | 7 => ("HillLeavers$Town", "debt", "[I", true)
  | 8 => ("HillLeavers$Town", "others", "[I", true)
  | 9 => ("HillLeavers$Town", "outAtFirst", "I", false)
  | 10 => ("HillLeavers$Town", "demands", "I", false)
  | 11 => ("HillLeavers$Town", "cost", "[I", true)
  | 12 => ("HillLeavers$Town", "worth", "[I", true)
  | 13 => ("HillLeavers$Town", "formula", "LHillLeavers$Formula;", true)
  | 14 => ("HillLeavers$Town", "foes", "I", false)
  | 15 => ("HillLeavers$Town", "raid", "I", false)
  | 16 => ("HillLeavers$Town", "draw", "I", false)
  | 17 => ("HillLeavers$Town", "shortCrafts", "[I", true)
  | _ => ("HillLeavers$Town", "losses", "[I", true)
def mT_10 : u_T := fun k => match k with
  | 0 => ("HillLeaversModel", "tape", "[B", true)
  | 1 => ("HillLeaversModel", "text", "[B", true)
  | 2 => ("HillLeaversModel", "taped", "I", false)
  | 3 => ("HillLeaversModel", "size", "I", false)
  | 4 => ("HillLeaversModel", "faultKind", "I", false)
  | 5 => ("HillLeaversModel", "faultPlace", "I", false)
  | 6 => ("HillLeaversModel", "at", "I", false)
  | 7 => ("HillLeaversModel", "end", "I", false)
  | 8 => ("HillLeaversModel", "token", "I", false)
  | 9 => ("HillLeaversModel", "number", "I", false)
  | 10 => ("HillLeaversModel", "name", "J", false)
  | 11 => ("HillLeaversModel", "crafts", "[I", true)
  | 12 => ("HillLeaversModel", "men", "[I", true)
  | 13 => ("HillLeaversModel", "demands", "[I", true)
  | 14 => ("HillLeaversModel", "units", "[I", true)
  | 15 => ("HillLeaversModel", "foes", "[I", true)
  | 16 => ("HillLeaversModel", "raid", "[I", true)
  | 17 => ("HillLeaversModel", "draw", "[I", true)
  | 18 => ("HillLeaversModel", "outTold", "[I", true)
  | 19 => ("HillLeaversModel", "needs", "[I", true)
  | 20 => ("HillLeaversModel", "lossOf", "[I", true)
  | 21 => ("HillLeaversModel", "craftsOf", "[I", true)
  | 22 => ("HillLeaversModel", "loafTold", "[I", true)
  | 23 => ("HillLeaversModel", "debt", "[I", true)
  | 24 => ("HillLeaversModel", "others", "[I", true)
  | 25 => ("HillLeaversModel", "cost", "[I", true)
  | 26 => ("HillLeaversModel", "worth", "[I", true)
  | 27 => ("HillLeaversModel", "ruleFrom", "[I", true)
  | 28 => ("HillLeaversModel", "ruleTo", "[I", true)
  | 29 => ("HillLeaversModel", "hasBack", "[Z", true)
  | 30 => ("HillLeaversModel", "hasFoes", "[Z", true)
  | 31 => ("HillLeaversModel", "isDraw", "[Z", true)
  | 32 => ("HillLeaversModel", "cName", "[J", true)
  | 33 => ("HillLeaversModel", "mName", "[J", true)
  | 34 => ("HillLeaversModel", "dName", "[J", true)
  | 35 => ("HillLeaversModel", "code", "[I", true)
  | 36 => ("HillLeaversModel", "codeNumber", "[I", true)
  | 37 => ("HillLeaversModel", "eWhat", "[I", true)
  | 38 => ("HillLeaversModel", "eSign", "[I", true)
  | 39 => ("HillLeaversModel", "pile", "[I", true)
  | 40 => ("HillLeaversModel", "bank", "I", false)
  | 41 => ("HillLeaversModel", "rb", "I", false)
  | 42 => ("HillLeaversModel", "codes", "I", false)
  | 43 => ("HillLeaversModel", "within", "I", false)
  | 44 => ("HillLeaversModel", "piled", "I", false)
  | 45 => ("HillLeaversModel", "unitsInRule", "I", false)
  | 46 => ("HillLeaversModel", "askMan", "I", false)
  | 47 => ("HillLeaversModel", "all", "[I", true)
  | 48 => ("HillLeaversModel", "oddsOfDay", "I", false)
  | 49 => ("HillLeaversModel", "was", "[I", true)
  | 50 => ("HillLeaversModel", "acts", "I", false)
  | 51 => ("HillLeaversModel", "undone", "I", false)
  | 52 => ("HillLeaversModel", "kept", "[I", true)
  | 53 => ("HillLeaversModel", "offerWorth", "I", false)
  | 54 => ("HillLeaversModel", "offerCost", "I", false)
  | 55 => ("HillLeaversModel", "offerSet", "I", false)
  | 56 => ("HillLeaversModel", "sSort", "[I", true)
  | 57 => ("HillLeaversModel", "sOf", "[I", true)
  | 58 => ("HillLeaversModel", "sIs", "[I", true)
  | 59 => ("HillLeaversModel", "sTold", "[I", true)
  | 60 => ("HillLeaversModel", "sUntold", "[I", true)
  | 61 => ("HillLeaversModel", "outIn", "[I", true)
  | 62 => ("HillLeaversModel", "seens", "I", false)
  | 63 => ("HillLeaversModel", "time", "I", false)
  | 64 => ("HillLeaversModel", "fitting", "I", false)
  | 65 => ("HillLeaversModel", "boxAll", "[I", true)
  | _ => ("HillLeaversModel", "isBoxed", "[Z", true)
def mT (c : Nat) : u_T := match c with
  | 0 => mT_0
  | 1 => mT_1
  | 2 => mT_2
  | 3 => mT_3
  | 4 => mT_4
  | 5 => mT_5
  | 6 => mT_6
  | 7 => mT_7
  | 8 => mT_8
  | 9 => mT_9
  | _ => mT_10
def m_NN : List Nat := [11, 4, 5, 4, 4, 10, 9, 8, 7, 19, 67]
def m_cls : List String := ["HillLeavers", "HillLeavers$Acts", "HillLeavers$Formula", "HillLeavers$Outlook", "HillLeavers$Pick", "HillLeavers$Reader", "HillLeavers$Sights", "HillLeavers$State", "HillLeavers$Tape", "HillLeavers$Town", "HillLeaversModel", "HillLeaversLaw", "java/lang/Object", "java/lang/Character", "java/lang/Integer", "java/lang/Math", "java/lang/String", "java/lang/StringLatin1", "java/lang/StringUTF16", "jdk/internal/util/Preconditions"]
def m_cn (c : Nat) : String := m_cls.getD c ""
def m_classes : List vw_C := [("HillLeavers", mT_0, 11), ("HillLeavers$Acts", mT_1, 4), ("HillLeavers$Formula", mT_2, 5), ("HillLeavers$Outlook", mT_3, 4), ("HillLeavers$Pick", mT_4, 4), ("HillLeavers$Reader", mT_5, 10), ("HillLeavers$Sights", mT_6, 9), ("HillLeavers$State", mT_7, 8), ("HillLeavers$Tape", mT_8, 7), ("HillLeavers$Town", mT_9, 19), ("HillLeaversModel", mT_10, 67)]
/-- name, code, locals, what it returns, its class -/
def m_tab : List (MethodName × ByteArray × Nat × Option FieldType × Nat) := [
  (⟨"HillLeavers", "<init>", "()V"⟩, prog_1_method_1_code, 2, none, 0),
  (⟨"java/lang/Object", "<init>", "()V"⟩, object_method_1_code, 1, none, 12),
  (⟨"HillLeavers$Tape", "<init>", "()V"⟩, prog_9_method_1_code, 1, none, 8),
  (⟨"HillLeavers$Reader", "<init>", "(LHillLeavers$Tape;)V"⟩, prog_6_method_1_code, 2, none, 5),
  (⟨"HillLeavers$Town", "<init>", "()V"⟩, prog_10_method_1_code, 1, none, 9),
  (⟨"HillLeavers$Formula", "<init>", "()V"⟩, prog_3_method_1_code, 1, none, 2),
  (⟨"HillLeavers$State", "<init>", "()V"⟩, prog_8_method_1_code, 1, none, 7),
  (⟨"HillLeavers$Acts", "<init>", "()V"⟩, prog_2_method_1_code, 2, none, 1),
  (⟨"HillLeavers$Outlook", "<init>", "()V"⟩, prog_4_method_1_code, 1, none, 3),
  (⟨"HillLeavers$Pick", "<init>", "()V"⟩, prog_5_method_1_code, 1, none, 4),
  (⟨"HillLeavers$Sights", "<init>", "()V"⟩, prog_7_method_1_code, 1, none, 6),
  (⟨"HillLeavers", "feed", "(IIIII)I"⟩, prog_1_method_2_code, 6, some (Jvm.ClassFile.FieldType.int), 0),
  (⟨"HillLeavers$Tape", "put", "(I)V"⟩, prog_9_method_2_code, 3, none, 8),
  (⟨"HillLeavers", "end", "(I)I"⟩, prog_1_method_3_code, 2, some (Jvm.ClassFile.FieldType.int), 0),
  (⟨"HillLeavers", "city", "()I"⟩, prog_1_method_4_code, 3, some (Jvm.ClassFile.FieldType.int), 0),
  (⟨"HillLeavers$Reader", "read", "()Z"⟩, prog_6_method_2_code, 2, some (Jvm.ClassFile.FieldType.boolean), 5),
  (⟨"HillLeavers$Town", "clear", "()V"⟩, prog_10_method_2_code, 1, none, 9),
  (⟨"HillLeavers$Formula", "clear", "()V"⟩, prog_3_method_2_code, 1, none, 2),
  (⟨"HillLeavers$Tape", "rewind", "()V"⟩, prog_9_method_3_code, 1, none, 8),
  (⟨"HillLeavers$Tape", "advance", "()V"⟩, prog_9_method_4_code, 2, none, 8),
  (⟨"HillLeavers$Tape", "byteAt", "(I)I"⟩, prog_9_method_9_code, 2, some (Jvm.ClassFile.FieldType.int), 8),
  (⟨"HillLeavers$Tape", "isLetter", "(I)Z"⟩, prog_9_method_11_code, 1, some (Jvm.ClassFile.FieldType.boolean), 8),
  (⟨"HillLeavers$Tape", "withLetter", "(JI)J"⟩, prog_9_method_10_code, 3, some (Jvm.ClassFile.FieldType.long), 8),
  (⟨"HillLeavers$Tape", "isDigit", "(I)Z"⟩, prog_9_method_12_code, 1, some (Jvm.ClassFile.FieldType.boolean), 8),
  (⟨"java/lang/String", "indexOf", "(I)I"⟩, prog_16_method_79_code, 2, some (Jvm.ClassFile.FieldType.int), 16),
  (⟨"java/lang/String", "indexOf", "(II)I"⟩, prog_16_method_80_code, 3, some (Jvm.ClassFile.FieldType.int), 16),
  (⟨"java/lang/String", "isLatin1", "()Z"⟩, prog_16_method_154_code, 1, some (Jvm.ClassFile.FieldType.boolean), 16),
  (⟨"java/lang/String", "length", "()I"⟩, prog_16_method_54_code, 1, some (Jvm.ClassFile.FieldType.int), 16),
  (⟨"java/lang/String", "coder", "()B"⟩, prog_16_method_152_code, 1, some (Jvm.ClassFile.FieldType.byte), 16),
  (⟨"java/lang/StringLatin1", "indexOf", "([BIII)I"⟩, prog_17_method_22_code, 4, some (Jvm.ClassFile.FieldType.int), 17),
  (⟨"java/lang/StringLatin1", "canEncode", "(I)Z"⟩, prog_17_method_4_code, 1, some (Jvm.ClassFile.FieldType.boolean), 17),
  (⟨"java/lang/Math", "max", "(II)I"⟩, prog_15_method_65_code, 2, some (Jvm.ClassFile.FieldType.int), 15),
  (⟨"java/lang/Math", "min", "(II)I"⟩, prog_15_method_69_code, 2, some (Jvm.ClassFile.FieldType.int), 15),
  (⟨"java/lang/StringLatin1", "indexOfChar", "([BIII)I"⟩, prog_17_method_23_code, 6, some (Jvm.ClassFile.FieldType.int), 17),
  (⟨"java/lang/StringUTF16", "indexOf", "([BIII)I"⟩, prog_18_method_40_code, 4, some (Jvm.ClassFile.FieldType.int), 18),
  (⟨"java/lang/StringUTF16", "indexOfChar", "([BIII)I"⟩, prog_18_method_47_code, 4, some (Jvm.ClassFile.FieldType.int), 18),
  (⟨"java/lang/StringUTF16", "checkBoundsBeginEnd", "(II[B)V"⟩, prog_18_method_93_code, 3, none, 18),
  (⟨"java/lang/StringUTF16", "length", "([B)I"⟩, prog_18_method_6_code, 1, some (Jvm.ClassFile.FieldType.int), 18),
  (⟨"java/lang/String", "checkBoundsBeginEnd", "(III)V"⟩, prog_16_method_158_code, 3, none, 16),
  (⟨"jdk/internal/util/Preconditions", "checkFromToIndex", "(IIILjava/util/function/BiFunction;)I"⟩, prog_19_method_12_code, 4, some (Jvm.ClassFile.FieldType.int), 19),
  (⟨"java/lang/StringUTF16", "indexOfCharUnsafe", "([BIII)I"⟩, prog_18_method_48_code, 5, some (Jvm.ClassFile.FieldType.int), 18),
  (⟨"java/lang/StringUTF16", "getChar", "([BI)C"⟩, prog_18_method_5_code, 2, some (Jvm.ClassFile.FieldType.char), 18),
  (⟨"java/lang/StringUTF16", "indexOfSupplementary", "([BIII)I"⟩, prog_18_method_49_code, 7, some (Jvm.ClassFile.FieldType.int), 18),
  (⟨"java/lang/Character", "isValidCodePoint", "(I)Z"⟩, prog_13_method_11_code, 2, some (Jvm.ClassFile.FieldType.boolean), 13),
  (⟨"java/lang/Character", "highSurrogate", "(I)C"⟩, prog_13_method_28_code, 1, some (Jvm.ClassFile.FieldType.char), 13),
  (⟨"java/lang/Character", "lowSurrogate", "(I)C"⟩, prog_13_method_29_code, 1, some (Jvm.ClassFile.FieldType.char), 13),
  (⟨"HillLeavers$Tape", "wordIs", "(Ljava/lang/String;)Z"⟩, prog_9_method_5_code, 5, some (Jvm.ClassFile.FieldType.boolean), 8),
  (⟨"java/lang/String", "charAt", "(I)C"⟩, prog_16_method_56_code, 2, some (Jvm.ClassFile.FieldType.char), 16),
  (⟨"java/lang/StringLatin1", "charAt", "([BI)C"⟩, prog_17_method_2_code, 2, some (Jvm.ClassFile.FieldType.char), 17),
  (⟨"java/lang/String", "checkIndex", "(II)V"⟩, prog_16_method_155_code, 2, none, 16),
  (⟨"jdk/internal/util/Preconditions", "checkIndex", "(IILjava/util/function/BiFunction;)I"⟩, prog_19_method_11_code, 3, some (Jvm.ClassFile.FieldType.int), 19),
  (⟨"java/lang/StringUTF16", "charAt", "([BI)C"⟩, prog_18_method_83_code, 2, some (Jvm.ClassFile.FieldType.char), 18),
  (⟨"java/lang/StringUTF16", "checkIndex", "(I[B)V"⟩, prog_18_method_91_code, 2, none, 18),
  (⟨"HillLeavers$Reader", "readCraft", "()V"⟩, prog_6_method_4_code, 2, none, 5),
  (⟨"HillLeavers$Reader", "refuse", "(I)V"⟩, prog_6_method_13_code, 2, none, 5),
  (⟨"HillLeavers$Reader", "newName", "([JI)J"⟩, prog_6_method_8_code, 5, some (Jvm.ClassFile.FieldType.long), 5),
  (⟨"HillLeavers$Tape", "isName", "()Z"⟩, prog_9_method_6_code, 6, some (Jvm.ClassFile.FieldType.boolean), 8),
  (⟨"HillLeavers$Reader", "placeOf", "(J[JI)I"⟩, prog_6_method_9_code, 5, some (Jvm.ClassFile.FieldType.int), 5),
  (⟨"HillLeavers$Reader", "numberBehind", "(Ljava/lang/String;I)I"⟩, prog_6_method_10_code, 4, some (Jvm.ClassFile.FieldType.int), 5),
  (⟨"HillLeavers$Reader", "expectWord", "(Ljava/lang/String;)V"⟩, prog_6_method_11_code, 2, none, 5),
  (⟨"HillLeavers$Reader", "readMan", "()V"⟩, prog_6_method_5_code, 4, none, 5),
  (⟨"HillLeavers$Reader", "craftName", "(I)I"⟩, prog_6_method_7_code, 3, some (Jvm.ClassFile.FieldType.int), 5),
  (⟨"HillLeavers$Reader", "readDemand", "()V"⟩, prog_6_method_6_code, 2, none, 5),
  (⟨"HillLeavers$Reader", "readLevel", "(II)V"⟩, prog_6_method_14_code, 6, none, 5),
  (⟨"HillLeavers$Reader", "readUnit", "(I)V"⟩, prog_6_method_17_code, 4, none, 5),
  (⟨"HillLeavers$Tape", "signIs", "(C)Z"⟩, prog_9_method_7_code, 2, some (Jvm.ClassFile.FieldType.boolean), 8),
  (⟨"HillLeavers$Reader", "knownUnit", "()I"⟩, prog_6_method_18_code, 1, some (Jvm.ClassFile.FieldType.int), 5),
  (⟨"HillLeavers$Reader", "expectSign", "(C)V"⟩, prog_6_method_12_code, 2, none, 5),
  (⟨"HillLeavers$Formula", "add", "(I)V"⟩, prog_3_method_4_code, 2, none, 2),
  (⟨"HillLeavers$Reader", "readNot", "(I)V"⟩, prog_6_method_15_code, 2, none, 5),
  (⟨"HillLeavers$Reader", "opHere", "(I)I"⟩, prog_6_method_16_code, 2, some (Jvm.ClassFile.FieldType.int), 5),
  (⟨"HillLeavers$Tape", "signOneOf", "(Ljava/lang/String;)I"⟩, prog_9_method_8_code, 3, some (Jvm.ClassFile.FieldType.int), 8),
  (⟨"HillLeavers$Town", "settle", "()V"⟩, prog_10_method_3_code, 3, none, 9),
  (⟨"HillLeavers$Town", "handsOf", "(II)I"⟩, prog_10_method_5_code, 3, some (Jvm.ClassFile.FieldType.int), 9),
  (⟨"java/lang/Integer", "bitCount", "(I)I"⟩, prog_14_method_49_code, 1, some (Jvm.ClassFile.FieldType.int), 14),
  (⟨"HillLeavers", "sumOf", "([II)I"⟩, prog_1_method_67_code, 4, some (Jvm.ClassFile.FieldType.int), 0),
  (⟨"HillLeavers$Reader", "swap", "(LHillLeavers$Town;)LHillLeavers$Town;"⟩, prog_6_method_3_code, 3, some ((Jvm.ClassFile.FieldType.object "HillLeavers$Town")), 5),
  (⟨"HillLeavers$State", "begin", "(LHillLeavers$Town;)V"⟩, prog_8_method_2_code, 3, none, 7),
  (⟨"HillLeavers$Acts", "clear", "()V"⟩, prog_2_method_2_code, 1, none, 1),
  (⟨"HillLeavers$Sights", "clear", "()V"⟩, prog_7_method_2_code, 1, none, 6),
  (⟨"HillLeavers", "fault", "(I)I"⟩, prog_1_method_5_code, 2, some (Jvm.ClassFile.FieldType.int), 0),
  (⟨"HillLeavers", "man", "(II)I"⟩, prog_1_method_6_code, 4, some (Jvm.ClassFile.FieldType.int), 0),
  (⟨"HillLeavers", "isMan", "(I)Z"⟩, prog_1_method_56_code, 2, some (Jvm.ClassFile.FieldType.boolean), 0),
  (⟨"HillLeavers$State", "isOut", "(I)Z"⟩, prog_8_method_4_code, 2, some (Jvm.ClassFile.FieldType.boolean), 7),
  (⟨"HillLeavers$Town", "goesBack", "(LHillLeavers$State;I)Z"⟩, prog_10_method_12_code, 6, some (Jvm.ClassFile.FieldType.boolean), 9),
  (⟨"HillLeavers$Formula", "isTold", "()Z"⟩, prog_3_method_3_code, 1, some (Jvm.ClassFile.FieldType.boolean), 2),
  (⟨"HillLeavers$Town", "shortBy", "(I)I"⟩, prog_10_method_6_code, 2, some (Jvm.ClassFile.FieldType.int), 9),
  (⟨"HillLeavers$Formula", "valueOf", "(IIIIII)I"⟩, prog_3_method_5_code, 10, some (Jvm.ClassFile.FieldType.int), 2),
  (⟨"HillLeavers$Formula", "push", "(I)V"⟩, prog_3_method_7_code, 2, none, 2),
  (⟨"HillLeavers$Formula", "pop", "()I"⟩, prog_3_method_8_code, 1, some (Jvm.ClassFile.FieldType.int), 2),
  (⟨"HillLeavers$Formula", "joined", "(III)I"⟩, prog_3_method_6_code, 3, some (Jvm.ClassFile.FieldType.int), 2),
  (⟨"HillLeavers", "craft", "(II)I"⟩, prog_1_method_7_code, 3, some (Jvm.ClassFile.FieldType.int), 0),
  (⟨"HillLeavers", "isCraft", "(I)Z"⟩, prog_1_method_57_code, 2, some (Jvm.ClassFile.FieldType.boolean), 0),
  (⟨"HillLeavers", "demand", "(II)I"⟩, prog_1_method_8_code, 4, some (Jvm.ClassFile.FieldType.int), 0),
  (⟨"HillLeavers", "isDemand", "(I)Z"⟩, prog_1_method_58_code, 2, some (Jvm.ClassFile.FieldType.boolean), 0),
  (⟨"HillLeavers$Town", "canKeep", "(I)Z"⟩, prog_10_method_9_code, 2, some (Jvm.ClassFile.FieldType.boolean), 9),
  (⟨"HillLeavers$Town", "everyone", "()I"⟩, prog_10_method_4_code, 1, some (Jvm.ClassFile.FieldType.int), 9),
  (⟨"HillLeavers$Town", "lossBy", "(I)I"⟩, prog_10_method_7_code, 2, some (Jvm.ClassFile.FieldType.int), 9),
  (⟨"HillLeavers", "out", "()I"⟩, prog_1_method_9_code, 1, some (Jvm.ClassFile.FieldType.int), 0),
  (⟨"HillLeavers", "loss", "(I)I"⟩, prog_1_method_10_code, 2, some (Jvm.ClassFile.FieldType.int), 0),
  (⟨"HillLeavers", "broken", "()I"⟩, prog_1_method_11_code, 3, some (Jvm.ClassFile.FieldType.int), 0),
  (⟨"HillLeavers", "longest", "()I"⟩, prog_1_method_12_code, 4, some (Jvm.ClassFile.FieldType.int), 0),
  (⟨"HillLeavers", "hands", "(II)I"⟩, prog_1_method_13_code, 3, some (Jvm.ClassFile.FieldType.int), 0),
  (⟨"HillLeavers", "isAhead", "(I)Z"⟩, prog_1_method_60_code, 1, some (Jvm.ClassFile.FieldType.boolean), 0),
  (⟨"HillLeavers$Outlook", "look", "(LHillLeavers$Town;LHillLeavers$State;I)V"⟩, prog_4_method_2_code, 6, none, 3),
  (⟨"HillLeavers$State", "copy", "(LHillLeavers$State;)V"⟩, prog_8_method_3_code, 3, none, 7),
  (⟨"HillLeavers$Outlook", "note", "(II)V"⟩, prog_4_method_3_code, 4, none, 3),
  (⟨"HillLeavers$Town", "passDay", "(LHillLeavers$State;)I"⟩, prog_10_method_13_code, 3, some (Jvm.ClassFile.FieldType.int), 9),
  (⟨"HillLeavers$Town", "followersOf", "(I)I"⟩, prog_10_method_10_code, 5, some (Jvm.ClassFile.FieldType.int), 9),
  (⟨"HillLeavers$State", "walkOut", "(I)V"⟩, prog_8_method_5_code, 3, none, 7),
  (⟨"HillLeavers$Town", "eat", "(LHillLeavers$State;)V"⟩, prog_10_method_14_code, 3, none, 9),
  (⟨"HillLeavers$Town", "foeOdds", "(I)I"⟩, prog_10_method_8_code, 2, some (Jvm.ClassFile.FieldType.int), 9),
  (⟨"HillLeavers$Town", "endDay", "(LHillLeavers$State;)V"⟩, prog_10_method_15_code, 4, none, 9),
  (⟨"HillLeavers$State", "goHome", "(I)V"⟩, prog_8_method_6_code, 2, none, 7),
  (⟨"HillLeavers$Outlook", "outBehind", "(I)I"⟩, prog_4_method_4_code, 2, some (Jvm.ClassFile.FieldType.int), 3),
  (⟨"HillLeavers", "about", "(I)I"⟩, prog_1_method_14_code, 2, some (Jvm.ClassFile.FieldType.int), 0),
  (⟨"HillLeavers", "leave", "(I)I"⟩, prog_1_method_15_code, 2, some (Jvm.ClassFile.FieldType.int), 0),
  (⟨"HillLeavers$Acts", "keep", "(LHillLeavers$State;)V"⟩, prog_2_method_3_code, 2, none, 1),
  (⟨"HillLeavers$Acts", "here", "()LHillLeavers$State;"⟩, prog_2_method_6_code, 1, some ((Jvm.ClassFile.FieldType.object "HillLeavers$State")), 1),
  (⟨"java/lang/Math", "floorMod", "(II)I"⟩, prog_15_method_50_code, 3, some (Jvm.ClassFile.FieldType.int), 15),
  (⟨"HillLeavers", "home", "(I)I"⟩, prog_1_method_16_code, 3, some (Jvm.ClassFile.FieldType.int), 0),
  (⟨"HillLeavers", "give", "(II)I"⟩, prog_1_method_17_code, 3, some (Jvm.ClassFile.FieldType.int), 0),
  (⟨"HillLeavers$State", "getLoaves", "(II)V"⟩, prog_8_method_7_code, 3, none, 7),
  (⟨"HillLeavers", "grant", "(I)I"⟩, prog_1_method_18_code, 2, some (Jvm.ClassFile.FieldType.int), 0),
  (⟨"HillLeavers", "day", "()I"⟩, prog_1_method_19_code, 1, some (Jvm.ClassFile.FieldType.int), 0),
  (⟨"HillLeavers", "undo", "()Z"⟩, prog_1_method_20_code, 1, some (Jvm.ClassFile.FieldType.boolean), 0),
  (⟨"HillLeavers$Acts", "takeBack", "(LHillLeavers$State;)Z"⟩, prog_2_method_4_code, 2, some (Jvm.ClassFile.FieldType.boolean), 1),
  (⟨"HillLeavers", "redo", "()Z"⟩, prog_1_method_21_code, 1, some (Jvm.ClassFile.FieldType.boolean), 0),
  (⟨"HillLeavers$Acts", "doAgain", "(LHillLeavers$State;)Z"⟩, prog_2_method_5_code, 2, some (Jvm.ClassFile.FieldType.boolean), 1),
  (⟨"HillLeavers", "spread", "(I)I"⟩, prog_1_method_22_code, 2, some (Jvm.ClassFile.FieldType.int), 0),
  (⟨"HillLeavers", "isSetOfMen", "(I)Z"⟩, prog_1_method_59_code, 2, some (Jvm.ClassFile.FieldType.boolean), 0),
  (⟨"HillLeavers$Town", "spreadOf", "(I)I"⟩, prog_10_method_11_code, 4, some (Jvm.ClassFile.FieldType.int), 9),
  (⟨"HillLeavers", "spark", "(I)I"⟩, prog_1_method_23_code, 4, some (Jvm.ClassFile.FieldType.int), 0),
  (⟨"HillLeavers$Pick", "clear", "()V"⟩, prog_5_method_2_code, 1, none, 4),
  (⟨"HillLeavers", "inCity", "()I"⟩, prog_1_method_62_code, 1, some (Jvm.ClassFile.FieldType.int), 0),
  (⟨"HillLeavers$Pick", "take", "(III)V"⟩, prog_5_method_4_code, 4, none, 4),
  (⟨"HillLeavers$Pick", "wants", "(II)Z"⟩, prog_5_method_3_code, 3, some (Jvm.ClassFile.FieldType.boolean), 4),
  (⟨"HillLeavers", "stop", "(II)I"⟩, prog_1_method_24_code, 6, some (Jvm.ClassFile.FieldType.int), 0),
  (⟨"HillLeavers", "pillars", "()I"⟩, prog_1_method_25_code, 5, some (Jvm.ClassFile.FieldType.int), 0),
  (⟨"HillLeavers", "idle", "()I"⟩, prog_1_method_26_code, 6, some (Jvm.ClassFile.FieldType.int), 0),
  (⟨"HillLeavers", "dearest", "()I"⟩, prog_1_method_27_code, 6, some (Jvm.ClassFile.FieldType.int), 0),
  (⟨"HillLeavers", "twins", "()I"⟩, prog_1_method_28_code, 4, some (Jvm.ClassFile.FieldType.int), 0),
  (⟨"HillLeavers", "press", "(II)I"⟩, prog_1_method_29_code, 6, some (Jvm.ClassFile.FieldType.int), 0),
  (⟨"HillLeavers", "pays", "(I)I"⟩, prog_1_method_30_code, 4, some (Jvm.ClassFile.FieldType.int), 0),
  (⟨"HillLeavers", "weight", "(II)I"⟩, prog_1_method_31_code, 4, some (Jvm.ClassFile.FieldType.int), 0),
  (⟨"HillLeavers", "sumOverOrders", "(I)I"⟩, prog_1_method_68_code, 8, some (Jvm.ClassFile.FieldType.int), 0),
  (⟨"HillLeavers", "inLowestTerms", "(III)I"⟩, prog_1_method_69_code, 4, some (Jvm.ClassFile.FieldType.int), 0),
  (⟨"HillLeavers", "commonDivisor", "(II)I"⟩, prog_1_method_70_code, 6, some (Jvm.ClassFile.FieldType.int), 0),
  (⟨"HillLeavers", "stock", "()I"⟩, prog_1_method_32_code, 4, some (Jvm.ClassFile.FieldType.int), 0),
  (⟨"HillLeavers", "hungry", "(I)I"⟩, prog_1_method_33_code, 2, some (Jvm.ClassFile.FieldType.int), 0),
  (⟨"HillLeavers$Outlook", "hungryBehind", "(I)I"⟩, prog_4_method_5_code, 2, some (Jvm.ClassFile.FieldType.int), 3),
  (⟨"HillLeavers", "feeds", "(II)I"⟩, prog_1_method_34_code, 4, some (Jvm.ClassFile.FieldType.int), 0),
  (⟨"HillLeavers", "isCountOfDays", "(I)Z"⟩, prog_1_method_61_code, 1, some (Jvm.ClassFile.FieldType.boolean), 0),
  (⟨"HillLeavers", "staysOut", "(III)Z"⟩, prog_1_method_65_code, 5, some (Jvm.ClassFile.FieldType.boolean), 0),
  (⟨"HillLeavers", "will", "(I)I"⟩, prog_1_method_35_code, 2, some (Jvm.ClassFile.FieldType.int), 0),
  (⟨"HillLeavers", "lasts", "()I"⟩, prog_1_method_36_code, 1, some (Jvm.ClassFile.FieldType.int), 0),
  (⟨"HillLeavers$Outlook", "emptyBehind", "()I"⟩, prog_4_method_7_code, 2, some (Jvm.ClassFile.FieldType.int), 3),
  (⟨"HillLeavers", "costs", "(I)I"⟩, prog_1_method_37_code, 2, some (Jvm.ClassFile.FieldType.int), 0),
  (⟨"HillLeavers$Outlook", "lostBetween", "(II)I"⟩, prog_4_method_6_code, 3, some (Jvm.ClassFile.FieldType.int), 3),
  (⟨"HillLeavers", "ever", "(I)I"⟩, prog_1_method_38_code, 4, some (Jvm.ClassFile.FieldType.int), 0),
  (⟨"HillLeavers", "returns", "(I)I"⟩, prog_1_method_39_code, 3, some (Jvm.ClassFile.FieldType.int), 0),
  (⟨"HillLeavers", "weakest", "()I"⟩, prog_1_method_40_code, 4, some (Jvm.ClassFile.FieldType.int), 0),
  (⟨"HillLeavers", "plan", "(II)I"⟩, prog_1_method_41_code, 6, some (Jvm.ClassFile.FieldType.int), 0),
  (⟨"HillLeavers", "lostIfLeft", "(II)I"⟩, prog_1_method_63_code, 5, some (Jvm.ClassFile.FieldType.int), 0),
  (⟨"HillLeavers", "bribe", "(II)I"⟩, prog_1_method_42_code, 5, some (Jvm.ClassFile.FieldType.int), 0),
  (⟨"HillLeavers", "endsIfHome", "(II)Z"⟩, prog_1_method_64_code, 4, some (Jvm.ClassFile.FieldType.boolean), 0),
  (⟨"HillLeavers", "offer", "(II)I"⟩, prog_1_method_43_code, 3, some (Jvm.ClassFile.FieldType.int), 0),
  (⟨"HillLeavers$Outlook", "lostFrom", "(I)I"⟩, prog_4_method_8_code, 3, some (Jvm.ClassFile.FieldType.int), 3),
  (⟨"HillLeavers", "pickOffer", "(I)V"⟩, prog_1_method_66_code, 5, none, 0),
  (⟨"HillLeavers", "until", "(I)I"⟩, prog_1_method_44_code, 3, some (Jvm.ClassFile.FieldType.int), 0),
  (⟨"HillLeavers", "odds", "(II)I"⟩, prog_1_method_45_code, 7, some (Jvm.ClassFile.FieldType.int), 0),
  (⟨"HillLeavers", "seen", "(IZ)I"⟩, prog_1_method_46_code, 3, some (Jvm.ClassFile.FieldType.int), 0),
  (⟨"HillLeavers$Sights", "tell", "(IIZ)I"⟩, prog_7_method_3_code, 4, some (Jvm.ClassFile.FieldType.int), 6),
  (⟨"HillLeavers", "lacked", "(IZ)I"⟩, prog_1_method_47_code, 3, some (Jvm.ClassFile.FieldType.int), 0),
  (⟨"HillLeavers", "counted", "(IZ)I"⟩, prog_1_method_48_code, 3, some (Jvm.ClassFile.FieldType.int), 0),
  (⟨"HillLeavers", "untell", "(I)Z"⟩, prog_1_method_49_code, 2, some (Jvm.ClassFile.FieldType.boolean), 0),
  (⟨"HillLeavers$Sights", "takeBack", "(I)Z"⟩, prog_7_method_4_code, 2, some (Jvm.ClassFile.FieldType.boolean), 6),
  (⟨"HillLeavers", "later", "(I)I"⟩, prog_1_method_50_code, 2, some (Jvm.ClassFile.FieldType.int), 0),
  (⟨"HillLeavers", "fits", "(I)I"⟩, prog_1_method_51_code, 2, some (Jvm.ClassFile.FieldType.int), 0),
  (⟨"HillLeavers$Sights", "countFits", "(LHillLeavers$Town;I)V"⟩, prog_7_method_5_code, 5, none, 6),
  (⟨"HillLeavers$Sights", "canHaveBeen", "(LHillLeavers$Town;II)Z"⟩, prog_7_method_6_code, 6, some (Jvm.ClassFile.FieldType.boolean), 6),
  (⟨"HillLeavers$Sights", "holds", "(LHillLeavers$Town;II)Z"⟩, prog_7_method_7_code, 4, some (Jvm.ClassFile.FieldType.boolean), 6),
  (⟨"HillLeavers", "sure", "(II)I"⟩, prog_1_method_52_code, 3, some (Jvm.ClassFile.FieldType.int), 0),
  (⟨"HillLeavers", "ask", "(II)I"⟩, prog_1_method_53_code, 5, some (Jvm.ClassFile.FieldType.int), 0),
  (⟨"HillLeavers", "image", "(I)I"⟩, prog_1_method_54_code, 2, some (Jvm.ClassFile.FieldType.int), 0),
  (⟨"HillLeavers", "back", "(I)I"⟩, prog_1_method_55_code, 2, some (Jvm.ClassFile.FieldType.int), 0),
  (⟨"HillLeaversModel", "<init>", "()V"⟩, prog_12_method_1_code, 1, none, 10),
  (⟨"HillLeaversModel", "clearBank", "()V"⟩, prog_12_method_16_code, 1, none, 10),
  (⟨"HillLeaversModel", "startAnew", "()V"⟩, prog_12_method_55_code, 2, none, 10),
  (⟨"HillLeaversModel", "many", "()I"⟩, prog_12_method_45_code, 1, some (Jvm.ClassFile.FieldType.int), 10),
  (⟨"HillLeaversModel", "city", "()I"⟩, prog_12_method_17_code, 2, some (Jvm.ClassFile.FieldType.int), 10),
  (⟨"HillLeaversModel", "goOn", "()V"⟩, prog_12_method_9_code, 3, none, 10),
  (⟨"HillLeaversModel", "sign", "(I)I"⟩, prog_12_method_2_code, 2, some (Jvm.ClassFile.FieldType.int), 10),
  (⟨"HillLeaversModel", "isLetter", "(I)Z"⟩, prog_12_method_3_code, 1, some (Jvm.ClassFile.FieldType.boolean), 10),
  (⟨"HillLeaversModel", "isKept", "(J)Z"⟩, prog_12_method_7_code, 3, some (Jvm.ClassFile.FieldType.boolean), 10),
  (⟨"HillLeaversModel", "isDigit", "(I)Z"⟩, prog_12_method_4_code, 1, some (Jvm.ClassFile.FieldType.boolean), 10),
  (⟨"HillLeaversModel", "isSign", "(I)Z"⟩, prog_12_method_8_code, 1, some (Jvm.ClassFile.FieldType.boolean), 10),
  (⟨"HillLeaversModel", "isGood", "()Z"⟩, prog_12_method_6_code, 1, some (Jvm.ClassFile.FieldType.boolean), 10),
  (⟨"HillLeaversModel", "readLine", "()V"⟩, prog_12_method_19_code, 3, none, 10),
  (⟨"HillLeaversModel", "isFull", "()Z"⟩, prog_12_method_18_code, 1, some (Jvm.ClassFile.FieldType.boolean), 10),
  (⟨"HillLeaversModel", "isWord", "(J)Z"⟩, prog_12_method_11_code, 3, some (Jvm.ClassFile.FieldType.boolean), 10),
  (⟨"HillLeaversModel", "misplaced", "()V"⟩, prog_12_method_12_code, 1, none, 10),
  (⟨"HillLeaversModel", "fails", "(II)V"⟩, prog_12_method_5_code, 3, none, 10),
  (⟨"HillLeaversModel", "readCraft", "()V"⟩, prog_12_method_24_code, 2, none, 10),
  (⟨"HillLeaversModel", "craftHere", "()I"⟩, prog_12_method_21_code, 1, some (Jvm.ClassFile.FieldType.int), 10),
  (⟨"HillLeaversModel", "here", "([JII)I"⟩, prog_12_method_20_code, 5, some (Jvm.ClassFile.FieldType.int), 10),
  (⟨"HillLeaversModel", "fresh", "(I)J"⟩, prog_12_method_22_code, 4, some (Jvm.ClassFile.FieldType.long), 10),
  (⟨"HillLeaversModel", "after", "(JII)I"⟩, prog_12_method_15_code, 5, some (Jvm.ClassFile.FieldType.int), 10),
  (⟨"HillLeaversModel", "must", "(Z)V"⟩, prog_12_method_13_code, 2, none, 10),
  (⟨"HillLeaversModel", "numeral", "(II)I"⟩, prog_12_method_14_code, 4, some (Jvm.ClassFile.FieldType.int), 10),
  (⟨"HillLeaversModel", "readMan", "()V"⟩, prog_12_method_25_code, 4, none, 10),
  (⟨"HillLeaversModel", "known", "(I)I"⟩, prog_12_method_23_code, 2, some (Jvm.ClassFile.FieldType.int), 10),
  (⟨"HillLeaversModel", "readDemand", "()V"⟩, prog_12_method_26_code, 2, none, 10),
  (⟨"HillLeaversModel", "readRule", "(I)V"⟩, prog_12_method_27_code, 2, none, 10),
  (⟨"HillLeaversModel", "e", "()V"⟩, prog_12_method_30_code, 2, none, 10),
  (⟨"HillLeaversModel", "pushE", "(II)V"⟩, prog_12_method_29_code, 3, none, 10),
  (⟨"HillLeaversModel", "unit", "()Z"⟩, prog_12_method_32_code, 7, some (Jvm.ClassFile.FieldType.boolean), 10),
  (⟨"HillLeaversModel", "isSignHere", "(I)Z"⟩, prog_12_method_10_code, 2, some (Jvm.ClassFile.FieldType.boolean), 10),
  (⟨"HillLeaversModel", "wordHere", "()I"⟩, prog_12_method_31_code, 1, some (Jvm.ClassFile.FieldType.int), 10),
  (⟨"HillLeaversModel", "emit", "(II)V"⟩, prog_12_method_28_code, 3, none, 10),
  (⟨"HillLeaversModel", "behindUnit", "()Z"⟩, prog_12_method_35_code, 2, some (Jvm.ClassFile.FieldType.boolean), 10),
  (⟨"HillLeaversModel", "rankHere", "()I"⟩, prog_12_method_33_code, 1, some (Jvm.ClassFile.FieldType.int), 10),
  (⟨"HillLeaversModel", "isCompared", "()Z"⟩, prog_12_method_34_code, 2, some (Jvm.ClassFile.FieldType.boolean), 10),
  (⟨"HillLeaversModel", "fault", "(I)I"⟩, prog_12_method_39_code, 2, some (Jvm.ClassFile.FieldType.int), 10),
  (⟨"HillLeaversModel", "man", "(II)I"⟩, prog_12_method_60_code, 3, some (Jvm.ClassFile.FieldType.int), 10),
  (⟨"HillLeaversModel", "isMan", "(I)Z"⟩, prog_12_method_47_code, 2, some (Jvm.ClassFile.FieldType.boolean), 10),
  (⟨"HillLeaversModel", "isIn", "(III)Z"⟩, prog_12_method_40_code, 3, some (Jvm.ClassFile.FieldType.boolean), 10),
  (⟨"HillLeaversModel", "has", "(II)Z"⟩, prog_12_method_41_code, 2, some (Jvm.ClassFile.FieldType.boolean), 10),
  (⟨"HillLeaversModel", "doesGoBack", "(I)Z"⟩, prog_12_method_54_code, 2, some (Jvm.ClassFile.FieldType.boolean), 10),
  (⟨"HillLeaversModel", "goneFor", "(I)I"⟩, prog_12_method_53_code, 2, some (Jvm.ClassFile.FieldType.int), 10),
  (⟨"HillLeaversModel", "bitsOf", "(I)I"⟩, prog_12_method_42_code, 3, some (Jvm.ClassFile.FieldType.int), 10),
  (⟨"HillLeaversModel", "comes", "()I"⟩, prog_12_method_38_code, 4, some (Jvm.ClassFile.FieldType.int), 10),
  (⟨"HillLeaversModel", "asked", "(II)I"⟩, prog_12_method_37_code, 3, some (Jvm.ClassFile.FieldType.int), 10),
  (⟨"HillLeaversModel", "shortBy", "(I)I"⟩, prog_12_method_51_code, 4, some (Jvm.ClassFile.FieldType.int), 10),
  (⟨"HillLeaversModel", "menOf", "(I)I"⟩, prog_12_method_50_code, 4, some (Jvm.ClassFile.FieldType.int), 10),
  (⟨"HillLeaversModel", "two", "(III)I"⟩, prog_12_method_36_code, 3, some (Jvm.ClassFile.FieldType.int), 10),
  (⟨"HillLeaversModel", "craft", "(II)I"⟩, prog_12_method_61_code, 3, some (Jvm.ClassFile.FieldType.int), 10),
  (⟨"HillLeaversModel", "isCraft", "(I)Z"⟩, prog_12_method_48_code, 2, some (Jvm.ClassFile.FieldType.boolean), 10),
  (⟨"HillLeaversModel", "demand", "(II)I"⟩, prog_12_method_63_code, 3, some (Jvm.ClassFile.FieldType.int), 10),
  (⟨"HillLeaversModel", "isDemand", "(I)Z"⟩, prog_12_method_49_code, 2, some (Jvm.ClassFile.FieldType.boolean), 10),
  (⟨"HillLeaversModel", "isKeptOne", "(I)Z"⟩, prog_12_method_62_code, 2, some (Jvm.ClassFile.FieldType.boolean), 10),
  (⟨"HillLeaversModel", "everybody", "()I"⟩, prog_12_method_46_code, 1, some (Jvm.ClassFile.FieldType.int), 10),
  (⟨"HillLeaversModel", "lossBy", "(I)I"⟩, prog_12_method_52_code, 5, some (Jvm.ClassFile.FieldType.int), 10),
  (⟨"HillLeaversModel", "out", "()I"⟩, prog_12_method_64_code, 1, some (Jvm.ClassFile.FieldType.int), 10),
  (⟨"HillLeaversModel", "loss", "(I)I"⟩, prog_12_method_65_code, 2, some (Jvm.ClassFile.FieldType.int), 10),
  (⟨"HillLeaversModel", "broken", "()I"⟩, prog_12_method_66_code, 3, some (Jvm.ClassFile.FieldType.int), 10),
  (⟨"HillLeaversModel", "longest", "()I"⟩, prog_12_method_67_code, 3, some (Jvm.ClassFile.FieldType.int), 10),
  (⟨"HillLeaversModel", "pillars", "()I"⟩, prog_12_method_68_code, 3, some (Jvm.ClassFile.FieldType.int), 10),
  (⟨"HillLeaversModel", "idle", "()I"⟩, prog_12_method_69_code, 3, some (Jvm.ClassFile.FieldType.int), 10),
  (⟨"HillLeaversModel", "dearest", "()I"⟩, prog_12_method_70_code, 3, some (Jvm.ClassFile.FieldType.int), 10),
  (⟨"HillLeaversModel", "twins", "()I"⟩, prog_12_method_71_code, 5, some (Jvm.ClassFile.FieldType.int), 10),
  (⟨"HillLeaversModel", "stock", "()I"⟩, prog_12_method_72_code, 3, some (Jvm.ClassFile.FieldType.int), 10),
  (⟨"HillLeaversModel", "leave", "(I)I"⟩, prog_12_method_75_code, 2, some (Jvm.ClassFile.FieldType.int), 10),
  (⟨"HillLeaversModel", "keepAct", "()V"⟩, prog_12_method_73_code, 2, none, 10),
  (⟨"HillLeaversModel", "home", "(I)I"⟩, prog_12_method_76_code, 3, some (Jvm.ClassFile.FieldType.int), 10),
  (⟨"HillLeaversModel", "goHome", "(I)V"⟩, prog_12_method_59_code, 3, none, 10),
  (⟨"HillLeaversModel", "give", "(II)I"⟩, prog_12_method_77_code, 3, some (Jvm.ClassFile.FieldType.int), 10),
  (⟨"HillLeaversModel", "lesser", "(II)I"⟩, prog_12_method_43_code, 2, some (Jvm.ClassFile.FieldType.int), 10),
  (⟨"HillLeaversModel", "grant", "(I)I"⟩, prog_12_method_78_code, 2, some (Jvm.ClassFile.FieldType.int), 10),
  (⟨"HillLeaversModel", "day", "()I"⟩, prog_12_method_79_code, 2, some (Jvm.ClassFile.FieldType.int), 10),
  (⟨"HillLeaversModel", "goDay", "()V"⟩, prog_12_method_58_code, 3, none, 10),
  (⟨"HillLeaversModel", "followers", "(I)I"⟩, prog_12_method_56_code, 4, some (Jvm.ClassFile.FieldType.int), 10),
  (⟨"HillLeaversModel", "odd", "()I"⟩, prog_12_method_57_code, 1, some (Jvm.ClassFile.FieldType.int), 10),
  (⟨"HillLeaversModel", "undo", "()Z"⟩, prog_12_method_80_code, 1, some (Jvm.ClassFile.FieldType.boolean), 10),
  (⟨"HillLeaversModel", "exchange", "()V"⟩, prog_12_method_74_code, 3, none, 10),
  (⟨"HillLeaversModel", "redo", "()Z"⟩, prog_12_method_81_code, 1, some (Jvm.ClassFile.FieldType.boolean), 10),
  (⟨"HillLeaversModel", "spread", "(I)I"⟩, prog_12_method_84_code, 2, some (Jvm.ClassFile.FieldType.int), 10),
  (⟨"HillLeaversModel", "isSet", "(I)Z"⟩, prog_12_method_83_code, 2, some (Jvm.ClassFile.FieldType.boolean), 10),
  (⟨"HillLeaversModel", "spreadOf", "(I)I"⟩, prog_12_method_82_code, 3, some (Jvm.ClassFile.FieldType.int), 10),
  (⟨"HillLeaversModel", "spark", "(I)I"⟩, prog_12_method_85_code, 4, some (Jvm.ClassFile.FieldType.int), 10),
  (⟨"HillLeaversModel", "stop", "(II)I"⟩, prog_12_method_86_code, 5, some (Jvm.ClassFile.FieldType.int), 10),
  (⟨"HillLeaversModel", "will", "(I)I"⟩, prog_12_method_91_code, 3, some (Jvm.ClassFile.FieldType.int), 10),
  (⟨"HillLeaversModel", "isAhead", "(I)Z"⟩, prog_12_method_90_code, 1, some (Jvm.ClassFile.FieldType.boolean), 10),
  (⟨"HillLeaversModel", "goDays", "(I)V"⟩, prog_12_method_89_code, 3, none, 10),
  (⟨"HillLeaversModel", "keepNow", "()V"⟩, prog_12_method_87_code, 2, none, 10),
  (⟨"HillLeaversModel", "bringBack", "()V"⟩, prog_12_method_88_code, 2, none, 10),
  (⟨"HillLeaversModel", "hands", "(II)I"⟩, prog_12_method_92_code, 4, some (Jvm.ClassFile.FieldType.int), 10),
  (⟨"HillLeaversModel", "hungry", "(I)I"⟩, prog_12_method_93_code, 4, some (Jvm.ClassFile.FieldType.int), 10),
  (⟨"HillLeaversModel", "lasts", "()I"⟩, prog_12_method_94_code, 3, some (Jvm.ClassFile.FieldType.int), 10),
  (⟨"HillLeaversModel", "costs", "(I)I"⟩, prog_12_method_96_code, 2, some (Jvm.ClassFile.FieldType.int), 10),
  (⟨"HillLeaversModel", "costsIn", "(I)I"⟩, prog_12_method_95_code, 3, some (Jvm.ClassFile.FieldType.int), 10),
  (⟨"HillLeaversModel", "returns", "(I)I"⟩, prog_12_method_98_code, 2, some (Jvm.ClassFile.FieldType.int), 10),
  (⟨"HillLeaversModel", "returnsOf", "(I)I"⟩, prog_12_method_97_code, 4, some (Jvm.ClassFile.FieldType.int), 10),
  (⟨"HillLeaversModel", "weakest", "()I"⟩, prog_12_method_99_code, 5, some (Jvm.ClassFile.FieldType.int), 10),
  (⟨"HillLeaversModel", "feeds", "(II)I"⟩, prog_12_method_100_code, 6, some (Jvm.ClassFile.FieldType.int), 10),
  (⟨"HillLeaversModel", "plan", "(II)I"⟩, prog_12_method_101_code, 8, some (Jvm.ClassFile.FieldType.int), 10),
  (⟨"HillLeaversModel", "bribe", "(II)I"⟩, prog_12_method_102_code, 6, some (Jvm.ClassFile.FieldType.int), 10),
  (⟨"HillLeaversModel", "ever", "(I)I"⟩, prog_12_method_103_code, 4, some (Jvm.ClassFile.FieldType.int), 10),
  (⟨"HillLeaversModel", "press", "(II)I"⟩, prog_12_method_104_code, 7, some (Jvm.ClassFile.FieldType.int), 10),
  (⟨"HillLeaversModel", "pays", "(I)I"⟩, prog_12_method_105_code, 4, some (Jvm.ClassFile.FieldType.int), 10),
  (⟨"HillLeaversModel", "offer", "(II)I"⟩, prog_12_method_108_code, 3, some (Jvm.ClassFile.FieldType.int), 10),
  (⟨"HillLeaversModel", "layOffer", "(I)V"⟩, prog_12_method_107_code, 7, none, 10),
  (⟨"HillLeaversModel", "sumOf", "([II)I"⟩, prog_12_method_106_code, 5, some (Jvm.ClassFile.FieldType.int), 10),
  (⟨"HillLeaversModel", "until", "(I)I"⟩, prog_12_method_109_code, 3, some (Jvm.ClassFile.FieldType.int), 10),
  (⟨"HillLeaversModel", "weight", "(II)I"⟩, prog_12_method_111_code, 6, some (Jvm.ClassFile.FieldType.int), 10),
  (⟨"HillLeaversModel", "factorial", "(I)I"⟩, prog_12_method_110_code, 3, some (Jvm.ClassFile.FieldType.int), 10),
  (⟨"HillLeaversModel", "divisor", "(II)I"⟩, prog_12_method_44_code, 5, some (Jvm.ClassFile.FieldType.int), 10),
  (⟨"HillLeaversModel", "odds", "(II)I"⟩, prog_12_method_112_code, 6, some (Jvm.ClassFile.FieldType.int), 10),
  (⟨"HillLeaversModel", "seen", "(IZ)I"⟩, prog_12_method_114_code, 3, some (Jvm.ClassFile.FieldType.int), 10),
  (⟨"HillLeaversModel", "tell", "(IIZ)I"⟩, prog_12_method_113_code, 4, some (Jvm.ClassFile.FieldType.int), 10),
  (⟨"HillLeaversModel", "lacked", "(IZ)I"⟩, prog_12_method_115_code, 3, some (Jvm.ClassFile.FieldType.int), 10),
  (⟨"HillLeaversModel", "counted", "(IZ)I"⟩, prog_12_method_116_code, 3, some (Jvm.ClassFile.FieldType.int), 10),
  (⟨"HillLeaversModel", "untell", "(I)Z"⟩, prog_12_method_117_code, 2, some (Jvm.ClassFile.FieldType.boolean), 10),
  (⟨"HillLeaversModel", "later", "(I)I"⟩, prog_12_method_118_code, 2, some (Jvm.ClassFile.FieldType.int), 10),
  (⟨"HillLeaversModel", "fits", "(I)I"⟩, prog_12_method_122_code, 2, some (Jvm.ClassFile.FieldType.int), 10),
  (⟨"HillLeaversModel", "layFits", "(I)V"⟩, prog_12_method_121_code, 4, none, 10),
  (⟨"HillLeaversModel", "doesFit", "(II)Z"⟩, prog_12_method_120_code, 5, some (Jvm.ClassFile.FieldType.boolean), 10),
  (⟨"HillLeaversModel", "isSo", "(II)Z"⟩, prog_12_method_119_code, 3, some (Jvm.ClassFile.FieldType.boolean), 10),
  (⟨"HillLeaversModel", "sure", "(II)I"⟩, prog_12_method_123_code, 3, some (Jvm.ClassFile.FieldType.int), 10),
  (⟨"HillLeaversModel", "ask", "(II)I"⟩, prog_12_method_124_code, 7, some (Jvm.ClassFile.FieldType.int), 10),
  (⟨"HillLeaversModel", "image", "(I)I"⟩, prog_12_method_125_code, 3, some (Jvm.ClassFile.FieldType.int), 10),
  (⟨"HillLeaversModel", "back", "(I)I"⟩, prog_12_method_126_code, 3, some (Jvm.ClassFile.FieldType.int), 10),
  (⟨"HillLeaversModel", "about", "(I)I"⟩, prog_12_method_127_code, 2, some (Jvm.ClassFile.FieldType.int), 10),
  (⟨"HillLeaversModel", "feed", "(IIIII)I"⟩, prog_12_method_128_code, 8, some (Jvm.ClassFile.FieldType.int), 10),
  (⟨"HillLeaversModel", "end", "(I)I"⟩, prog_12_method_129_code, 2, some (Jvm.ClassFile.FieldType.int), 10)]
/-- by class: index, (kind, callee, its arguments beside the receiver, the place of the link among the words) -/
def m_lnk : List (List (Nat × Nat × Nat × Nat × Nat)) := [
  [(1, 5, 1, 0, 119), (9, 3, 2, 0, 124), (18, 2, 3, 1, 158), (27, 3, 4, 0, 316), (34, 3, 6, 0, 319), (44, 2, 7, 0, 367), (59, 3, 8, 0, 391), (66, 3, 9, 0, 413), (73, 3, 10, 0, 436), (82, 0, 12, 1, 510), (86, 0, 15, 0, 522), (90, 0, 76, 1, 788), (94, 0, 77, 1, 792), (98, 0, 78, 0, 796), (101, 0, 79, 0, 800), (111, 0, 82, 1, 813), (115, 0, 83, 1, 817), (134, 0, 84, 2, 821), (138, 0, 92, 1, 852), (147, 0, 73, 2, 856), (151, 0, 86, 1, 857), (161, 0, 94, 1, 862), (173, 0, 95, 1, 866), (176, 0, 97, 1, 886), (179, 0, 96, 0, 887), (183, 1, 103, 1, 900), (186, 0, 104, 3, 903), (190, 0, 114, 1, 946), (232, 0, 117, 1, 958), (236, 0, 109, 1, 970), (239, 1, 74, 1, 971), (244, 0, 113, 1, 976), (247, 0, 122, 2, 981), (251, 0, 107, 1, 994), (255, 0, 126, 1, 999), (259, 0, 128, 1, 1007), (262, 0, 130, 1, 1015), (265, 0, 131, 1, 1019), (268, 0, 133, 0, 1027), (269, 0, 134, 0, 1031), (272, 0, 135, 3, 1035), (290, 0, 145, 1, 1077), (293, 1, 146, 3, 1081), (367, 1, 147, 2, 1084), (297, 0, 150, 1, 1095), (300, 1, 152, 1, 1103), (303, 0, 153, 3, 1106), (329, 0, 105, 1, 1110), (307, 0, 156, 0, 1119), (310, 0, 158, 2, 1127), (313, 0, 163, 2, 1147), (316, 0, 136, 2, 1155), (320, 0, 165, 2, 1156), (323, 0, 167, 1, 1164), (326, 0, 168, 1, 1170), (363, 1, 75, 2, 1174), (332, 0, 108, 1, 1183), (335, 0, 111, 1, 1184), (338, 1, 32, 2, 1185), (343, 0, 172, 3, 1190), (347, 0, 176, 1, 1206), (350, 0, 179, 2, 1219), (360, 1, 31, 2, 1242)],
  [(3, 5, 1, 0, 370), (17, 3, 6, 0, 373), (25, 0, 118, 0, 962), (36, 1, 119, 2, 966), (29, 0, 105, 1, 969)],
  [(3, 5, 1, 0, 173), (28, 0, 88, 1, 837), (32, 0, 89, 0, 841), (36, 1, 90, 3, 845)],
  [(3, 5, 1, 0, 394), (11, 3, 6, 0, 396), (28, 0, 105, 1, 907), (32, 0, 106, 2, 911), (45, 0, 83, 1, 915), (36, 0, 107, 1, 916), (52, 0, 156, 0, 1168), (56, 0, 158, 2, 1169)],
  [(1, 5, 1, 0, 416), (23, 0, 136, 2, 1039)],
  [(3, 5, 1, 0, 161), (11, 3, 4, 0, 164), (36, 0, 16, 0, 526), (52, 0, 18, 0, 534), (62, 0, 46, 1, 645), (66, 0, 53, 0, 670), (104, 0, 54, 1, 674), (81, 0, 19, 0, 678), (118, 0, 55, 2, 679), (145, 0, 56, 0, 683), (185, 1, 57, 3, 688), (90, 0, 58, 2, 692), (137, 0, 59, 1, 696), (71, 0, 60, 0, 702), (141, 0, 61, 1, 707), (76, 0, 62, 0, 716), (84, 0, 63, 2, 723), (199, 0, 64, 1, 727), (192, 0, 65, 1, 731), (233, 0, 66, 0, 735), (108, 0, 67, 1, 742), (214, 0, 68, 1, 746), (204, 0, 69, 1, 751), (207, 0, 70, 1, 755), (225, 0, 71, 1, 762), (112, 0, 72, 0, 771)],
  [(3, 5, 1, 0, 439), (41, 0, 96, 0, 1223), (47, 0, 180, 3, 1224), (51, 0, 181, 3, 1228), (54, 0, 86, 1, 1232), (58, 1, 74, 1, 1233)],
  [(3, 5, 1, 0, 322), (48, 1, 32, 2, 985)],
  [(3, 5, 1, 0, 127), (22, 0, 19, 0, 538), (25, 0, 20, 1, 542), (35, 1, 21, 1, 546), (43, 1, 22, 2, 549), (47, 1, 23, 1, 554), (55, 0, 24, 1, 558), (60, 0, 27, 0, 649), (63, 0, 47, 1, 650)],
  [(3, 5, 1, 0, 167), (41, 3, 5, 0, 170), (65, 0, 17, 0, 530), (77, 0, 73, 2, 775), (85, 1, 74, 1, 779), (81, 4, 75, 2, 785), (112, 0, 85, 0, 825), (91, 0, 86, 1, 829), (119, 0, 87, 6, 833), (94, 0, 96, 0, 870), (98, 0, 97, 1, 874), (101, 0, 108, 1, 920), (123, 0, 109, 1, 924), (127, 0, 110, 1, 928), (144, 0, 83, 1, 932), (134, 0, 111, 1, 933), (141, 0, 112, 1, 937), (148, 0, 84, 2, 941), (152, 0, 113, 1, 942)],
  [(1, 5, 1, 0, 1256), (143, 0, 187, 0, 1257), (146, 0, 188, 0, 1261), (363, 0, 189, 0, 1265), (241, 0, 191, 0, 1475), (205, 0, 192, 1, 1479), (212, 1, 193, 1, 1483), (220, 1, 194, 1, 1486), (224, 1, 195, 1, 1511), (230, 1, 196, 1, 1514), (237, 0, 197, 0, 1517), (270, 0, 198, 0, 1521), (273, 0, 199, 0, 1525), (247, 0, 200, 1, 1529), (244, 0, 201, 0, 1533), (233, 0, 202, 2, 1537), (276, 0, 203, 0, 1541), (300, 0, 204, 0, 1545), (296, 0, 205, 3, 1549), (304, 0, 206, 1, 1553), (289, 0, 207, 3, 1557), (250, 0, 208, 1, 1561), (254, 0, 209, 2, 1565), (279, 0, 210, 0, 1569), (308, 0, 211, 1, 1573), (282, 0, 212, 0, 1577), (285, 0, 213, 1, 1581), (314, 0, 214, 0, 1585), (323, 0, 215, 2, 1589), (326, 0, 216, 0, 1593), (293, 0, 217, 1, 1597), (332, 0, 218, 0, 1601), (335, 0, 219, 2, 1605), (329, 0, 220, 0, 1609), (338, 0, 221, 0, 1613), (341, 0, 222, 0, 1617), (410, 0, 225, 1, 1629), (366, 1, 226, 3, 1633), (370, 1, 227, 2, 1636), (404, 0, 228, 1, 1639), (347, 0, 229, 1, 1643), (353, 1, 230, 1, 1647), (377, 0, 231, 0, 1650), (356, 0, 232, 2, 1654), (350, 0, 233, 1, 1658), (374, 0, 234, 1, 1662), (359, 1, 235, 3, 1666), (413, 0, 237, 1, 1673), (419, 0, 239, 1, 1681), (422, 0, 240, 1, 1685), (416, 0, 241, 0, 1689), (395, 0, 242, 1, 1693), (425, 0, 253, 0, 1737), (407, 0, 255, 1, 1745), (389, 1, 257, 2, 1753), (428, 0, 260, 0, 1764), (392, 0, 261, 1, 1768), (398, 0, 262, 0, 1772), (431, 0, 264, 0, 1780), (434, 0, 267, 1, 1792), (437, 0, 268, 1, 1796), (443, 1, 272, 1, 1812), (446, 0, 273, 1, 1815), (440, 0, 274, 0, 1819), (449, 0, 275, 0, 1823), (452, 0, 280, 1, 1843), (455, 0, 282, 1, 1851), (471, 0, 291, 1, 1887), (461, 0, 292, 2, 1891), (474, 1, 295, 1, 1903), (477, 1, 296, 2, 1906), (483, 0, 299, 3, 1917), (497, 0, 305, 1, 1942), (494, 0, 306, 2, 1946), (488, 0, 307, 2, 1950)],
  [(9, 2, 0, 0, 116), (13, 0, 11, 5, 506), (18, 0, 13, 1, 514), (23, 0, 14, 0, 518), (28, 0, 80, 1, 805), (32, 0, 81, 2, 809), (37, 0, 91, 2, 848), (41, 0, 93, 2, 858), (45, 0, 98, 0, 878), (49, 0, 99, 1, 882), (53, 0, 100, 0, 888), (57, 0, 101, 0, 892), (61, 0, 102, 2, 896), (232, 0, 115, 1, 950), (65, 0, 116, 1, 954), (69, 0, 120, 1, 972), (73, 0, 121, 2, 977), (77, 0, 123, 1, 986), (81, 0, 124, 0, 990), (85, 0, 125, 0, 995), (90, 0, 127, 0, 1003), (94, 0, 129, 1, 1011), (98, 0, 132, 1, 1023), (102, 0, 137, 2, 1043), (106, 0, 138, 0, 1047), (110, 0, 139, 0, 1051), (114, 0, 140, 0, 1055), (118, 0, 141, 0, 1059), (146, 0, 142, 2, 1063), (150, 0, 143, 1, 1067), (154, 0, 144, 2, 1071), (122, 0, 148, 0, 1087), (126, 0, 149, 1, 1091), (182, 0, 151, 2, 1099), (158, 0, 154, 1, 1111), (162, 0, 155, 0, 1115), (166, 0, 157, 1, 1123), (142, 0, 159, 1, 1131), (130, 0, 160, 1, 1135), (170, 0, 161, 0, 1139), (134, 0, 162, 2, 1143), (138, 0, 164, 2, 1151), (174, 0, 166, 2, 1160), (178, 0, 169, 1, 1175), (186, 0, 170, 2, 1179), (190, 0, 171, 2, 1186), (195, 0, 173, 2, 1194), (199, 0, 174, 2, 1198), (203, 0, 175, 1, 1202), (208, 0, 177, 1, 1210), (212, 0, 178, 1, 1215), (216, 0, 182, 2, 1234), (220, 0, 183, 2, 1238), (224, 0, 184, 1, 1243), (228, 0, 185, 1, 1247), (12, 2, 186, 0, 1253), (27, 0, 190, 0, 1471), (31, 0, 223, 1, 1621), (36, 0, 224, 2, 1625), (40, 0, 236, 2, 1669), (44, 0, 238, 2, 1677), (48, 0, 243, 0, 1697), (52, 0, 244, 1, 1701), (56, 0, 245, 0, 1705), (60, 0, 246, 0, 1709), (109, 0, 247, 0, 1713), (113, 0, 248, 0, 1717), (117, 0, 249, 0, 1721), (121, 0, 250, 0, 1725), (125, 0, 251, 0, 1729), (68, 0, 252, 1, 1733), (72, 0, 254, 1, 1741), (76, 0, 256, 2, 1749), (80, 0, 258, 1, 1756), (84, 0, 259, 0, 1760), (89, 0, 263, 0, 1776), (93, 0, 265, 0, 1784), (97, 0, 266, 1, 1788), (101, 0, 269, 1, 1800), (105, 0, 270, 2, 1804), (161, 0, 271, 1, 1808), (64, 0, 276, 2, 1827), (129, 0, 277, 1, 1831), (165, 0, 278, 0, 1835), (169, 0, 279, 1, 1839), (133, 0, 281, 1, 1847), (173, 0, 283, 0, 1855), (185, 0, 284, 2, 1859), (137, 0, 285, 2, 1863), (141, 0, 286, 2, 1867), (145, 0, 287, 1, 1871), (149, 0, 288, 2, 1875), (153, 0, 289, 1, 1879), (177, 0, 290, 2, 1883), (181, 0, 293, 1, 1895), (157, 0, 294, 2, 1899), (189, 0, 297, 2, 1909), (194, 0, 298, 2, 1913), (198, 0, 300, 2, 1921), (202, 0, 301, 2, 1925), (207, 0, 302, 1, 1929), (211, 0, 303, 1, 1933), (215, 0, 304, 1, 1938), (219, 0, 308, 2, 1954), (223, 0, 309, 2, 1958), (227, 0, 310, 1, 1962), (231, 0, 311, 1, 1966), (235, 0, 312, 1, 1970), (17, 0, 313, 5, 1974), (22, 0, 314, 1, 1978)],
  [],
  [],
  [],
  [],
  [(633, 0, 25, 2, 562), (492, 0, 26, 0, 566), (505, 0, 27, 0, 572), (335, 0, 28, 0, 576), (637, 1, 29, 4, 580), (640, 1, 34, 4, 595), (1062, 1, 39, 4, 615), (495, 1, 48, 2, 654), (1059, 1, 50, 3, 660), (498, 1, 51, 2, 663)],
  [(88, 1, 30, 1, 583), (92, 1, 31, 2, 586), (38, 1, 32, 2, 589), (95, 1, 33, 4, 592), (9, 1, 49, 2, 657)],
  [(224, 1, 31, 2, 598), (183, 1, 32, 2, 599), (228, 1, 35, 4, 601), (96, 1, 36, 3, 604), (48, 1, 37, 1, 607), (241, 1, 38, 3, 610), (244, 1, 40, 4, 618), (71, 1, 41, 2, 621), (232, 1, 42, 4, 630), (164, 1, 43, 1, 633), (157, 1, 44, 1, 636), (161, 1, 45, 1, 640), (67, 1, 52, 2, 666), (414, 1, 49, 2, 669)],
  []]
/-- by class: index, (class, place, sort of the field, the word) -/
def m_fld : List (List (Nat × Nat × Nat × Nat × Nat)) := [
  [(78, 8, 1, 0, 129), (227, 2, 2, 0, 177), (193, 9, 0, 0, 194), (141, 9, 1, 2, 197), (155, 9, 2, 2, 200), (158, 9, 3, 2, 202), (102, 9, 4, 0, 204), (131, 9, 5, 2, 208), (125, 9, 7, 2, 214), (128, 9, 8, 2, 217), (196, 9, 10, 0, 223), (167, 9, 11, 2, 226), (170, 9, 12, 2, 229), (223, 9, 13, 2, 232), (105, 5, 2, 0, 284), (108, 5, 3, 0, 286), (144, 7, 0, 0, 325), (122, 7, 1, 2, 328), (118, 7, 2, 2, 332), (205, 7, 3, 0, 336), (208, 7, 4, 0, 339), (164, 7, 5, 0, 341), (199, 7, 6, 0, 343), (202, 7, 7, 0, 347), (211, 1, 2, 0, 377), (214, 1, 3, 0, 379), (281, 4, 0, 3, 418), (285, 4, 1, 0, 420), (276, 4, 2, 0, 422), (278, 4, 3, 0, 424), (217, 6, 5, 0, 446), (220, 6, 6, 0, 448), (354, 6, 7, 0, 450), (357, 6, 8, 2, 452), (10, 0, 0, 2, 472), (21, 0, 1, 2, 473), (28, 0, 2, 2, 474), (35, 0, 3, 2, 475), (39, 0, 4, 2, 476), (45, 0, 5, 2, 477), (49, 0, 6, 2, 478), (53, 0, 7, 2, 479), (60, 0, 8, 2, 480), (67, 0, 9, 2, 481), (74, 0, 10, 2, 482)],
  [(11, 1, 0, 2, 374), (33, 1, 1, 0, 375), (18, 1, 2, 0, 376), (22, 1, 3, 0, 378)],
  [(9, 2, 0, 2, 174), (18, 2, 1, 0, 175), (22, 2, 2, 0, 176), (15, 2, 3, 2, 179), (25, 2, 4, 0, 180)],
  [(42, 7, 0, 0, 324), (49, 7, 2, 2, 331), (12, 3, 0, 2, 397), (18, 3, 1, 2, 398), (22, 3, 2, 2, 399), (25, 3, 3, 2, 400)],
  [(7, 4, 0, 3, 417), (13, 4, 1, 0, 419), (17, 4, 2, 0, 421), (20, 4, 3, 0, 423)],
  [(57, 8, 2, 0, 131), (196, 8, 3, 0, 134), (181, 8, 5, 1, 137), (189, 8, 6, 0, 139), (237, 2, 2, 0, 178), (115, 9, 0, 0, 193), (122, 9, 1, 2, 196), (127, 9, 2, 2, 199), (132, 9, 4, 0, 205), (149, 9, 5, 2, 207), (152, 9, 6, 2, 211), (157, 9, 7, 2, 213), (161, 9, 8, 2, 216), (167, 9, 9, 0, 220), (170, 9, 10, 0, 222), (173, 9, 11, 2, 225), (177, 9, 12, 2, 228), (210, 9, 13, 2, 231), (94, 9, 14, 0, 234), (98, 9, 15, 0, 236), (102, 9, 16, 0, 239), (32, 5, 0, 2, 281), (12, 5, 1, 2, 282), (39, 5, 2, 0, 283), (18, 5, 3, 0, 285), (22, 5, 4, 2, 287), (26, 5, 5, 2, 288), (29, 5, 6, 2, 289), (42, 5, 7, 3, 290), (46, 5, 8, 3, 291), (49, 5, 9, 3, 292)],
  [(9, 6, 0, 2, 440), (15, 6, 1, 2, 441), (18, 6, 2, 2, 442), (22, 6, 3, 2, 443), (25, 6, 4, 2, 444), (31, 6, 5, 0, 445), (35, 6, 6, 0, 447), (38, 6, 7, 0, 449), (28, 6, 8, 2, 451)],
  [(27, 9, 6, 2, 210), (18, 9, 9, 0, 218), (42, 9, 16, 0, 238), (24, 7, 0, 0, 323), (9, 7, 1, 2, 327), (15, 7, 2, 2, 330), (30, 7, 3, 0, 334), (33, 7, 4, 0, 337), (36, 7, 5, 0, 340), (39, 7, 6, 0, 342), (45, 7, 7, 0, 345)],
  [(9, 8, 0, 2, 128), (15, 8, 1, 0, 130), (32, 8, 2, 0, 132), (29, 8, 3, 0, 133), (19, 8, 4, 0, 135), (39, 8, 5, 1, 136), (50, 8, 6, 0, 138)],
  [(52, 9, 0, 0, 192), (9, 9, 1, 2, 195), (15, 9, 2, 2, 198), (18, 9, 3, 2, 201), (56, 9, 4, 0, 203), (21, 9, 5, 2, 206), (24, 9, 6, 2, 209), (27, 9, 7, 2, 212), (30, 9, 8, 2, 215), (59, 9, 9, 0, 219), (62, 9, 10, 0, 221), (33, 9, 11, 2, 224), (36, 9, 12, 2, 227), (42, 9, 13, 2, 230), (68, 9, 14, 0, 233), (71, 9, 15, 0, 235), (74, 9, 16, 0, 237), (46, 9, 17, 2, 240), (49, 9, 18, 2, 241), (104, 7, 0, 0, 326), (116, 7, 1, 2, 329), (109, 7, 2, 2, 333), (138, 7, 3, 0, 335), (137, 7, 4, 0, 338), (155, 7, 6, 0, 344), (131, 7, 7, 0, 346)],
  [(7, 10, 0, 2, 1269), (13, 10, 1, 2, 1270), (264, 10, 2, 0, 1271), (149, 10, 3, 0, 1272), (152, 10, 4, 0, 1273), (16, 10, 5, 0, 1274), (202, 10, 6, 0, 1275), (199, 10, 7, 0, 1276), (209, 10, 8, 0, 1277), (227, 10, 9, 0, 1278), (216, 10, 10, 1, 1279), (20, 10, 11, 2, 1280), (24, 10, 12, 2, 1281), (27, 10, 13, 2, 1282), (30, 10, 14, 2, 1283), (33, 10, 15, 2, 1284), (36, 10, 16, 2, 1285), (39, 10, 17, 2, 1286), (42, 10, 18, 2, 1287), (45, 10, 19, 2, 1288), (48, 10, 20, 2, 1289), (51, 10, 21, 2, 1290), (54, 10, 22, 2, 1291), (57, 10, 23, 2, 1292), (60, 10, 24, 2, 1293), (63, 10, 25, 2, 1294), (66, 10, 26, 2, 1295), (69, 10, 27, 2, 1296), (72, 10, 28, 2, 1297), (75, 10, 29, 2, 1298), (79, 10, 30, 2, 1299), (82, 10, 31, 2, 1300), (85, 10, 32, 2, 1301), (89, 10, 33, 2, 1302), (92, 10, 34, 2, 1303), (95, 10, 35, 2, 1304), (98, 10, 36, 2, 1305), (101, 10, 37, 2, 1306), (104, 10, 38, 2, 1307), (107, 10, 39, 2, 1308), (267, 10, 40, 0, 1309), (258, 10, 41, 0, 1310), (261, 10, 42, 0, 1311), (320, 10, 43, 0, 1312), (317, 10, 44, 0, 1313), (311, 10, 45, 0, 1314), (344, 10, 46, 0, 1315), (110, 10, 47, 2, 1316), (401, 10, 48, 0, 1317), (113, 10, 49, 2, 1318), (380, 10, 50, 0, 1319), (383, 10, 51, 0, 1320), (116, 10, 52, 2, 1321), (458, 10, 53, 0, 1322), (465, 10, 54, 0, 1323), (468, 10, 55, 0, 1324), (119, 10, 56, 2, 1325), (122, 10, 57, 2, 1326), (125, 10, 58, 2, 1327), (128, 10, 59, 2, 1328), (131, 10, 60, 2, 1329), (134, 10, 61, 2, 1330), (386, 10, 62, 0, 1331), (480, 10, 63, 0, 1332), (491, 10, 64, 0, 1333), (137, 10, 65, 2, 1334), (140, 10, 66, 2, 1335)],
  [],
  [],
  [],
  [],
  [],
  [],
  [],
  [],
  []]
def m_con : List (List (Nat × Int32 × Nat)) := [
  [(349, 100000, 1214)],
  [],
  [],
  [],
  [],
  [],
  [],
  [],
  [],
  [],
  [(487, 100000, 1937)],
  [],
  [],
  [(110, 55232, 639), (76, 56320, 643)],
  [(265, 1431655765, 782), (266, 858993459, 783), (267, 252645135, 784)],
  [],
  [],
  [],
  [(227, 65536, 600)],
  []]
def m_lcon : List (List (Nat × Int64 × Nat)) := [
  [],
  [],
  [],
  [],
  [],
  [],
  [],
  [],
  [(69, 32, 552), (71, 97, 553)],
  [],
  [(155, 427120748148, 1489), (157, 474147546227, 1490), (159, 1819243379, 1491), (161, 7168366, 1492), (163, 28518, 1493), (165, 119225632318835, 1494), (167, 1684365940, 1495), (169, 122545758368371, 1496), (171, 7304564, 1497), (173, 110386789576292, 1498), (175, 1668248436, 1499), (177, 512970880104, 1500), (179, 1650549611, 1501), (181, 1718576499, 1502), (183, 1918986596, 1503), (185, 1685217655, 1504), (187, 1735356005, 1505), (189, 1684109683, 1506), (191, 495673373300, 1507), (193, 28530, 1508), (195, 6385252, 1509), (197, 7237492, 1510)],
  [],
  [],
  [],
  [],
  [],
  [],
  [],
  [],
  []]
def m_str : List (List (Nat × Nat)) := [
  [],
  [],
  [],
  [],
  [],
  [(60, 1), (126, 3), (130, 4), (69, 5), (135, 6), (155, 7), (160, 8), (164, 9), (165, 10), (74, 11), (176, 12), (180, 13), (79, 14), (240, 15), (242, 16), (244, 17), (202, 18), (219, 19), (221, 20), (223, 21), (229, 22), (231, 23), (88, 24), (96, 25), (100, 26)],
  [],
  [],
  [(53, 0), (67, 2)],
  [],
  [],
  [],
  [],
  [],
  [],
  [],
  [],
  [],
  [],
  []]
def m_cll : List (List (Nat × Nat × Nat)) := [
  [(7, 8, 122), (16, 5, 156), (25, 9, 315), (32, 7, 317), (42, 1, 365), (57, 3, 389), (64, 4, 411), (71, 6, 434)],
  [(9, 7, 371)],
  [],
  [(9, 7, 395)],
  [],
  [(9, 9, 162)],
  [],
  [],
  [],
  [(39, 2, 168)],
  [],
  [(7, 0, 114), (10, 10, 1251)],
  [],
  [],
  [],
  [],
  [],
  [],
  [],
  []]
