/-! tables of the abstract machine: printed by wip/gen/gen.py out of the Statement's words and javap's listing -/
def dm_T : List Cond := lw_tbl.filter goodWord
def dm_cl : List vw_C := [(RX0, TX0, 3), (RX1, TX1, 14), (RX2, TX2, 3), (RX3, TX3, 3), (RX4, TX4, 9), (RX5, TX5, 3), (RX6, TX6, 6), (RX7, TX7, 7), (RX8, TX8, 4), (RX9, TX9, 13)]
def dm_ow : List String := ["BlindGuides$Book", "BlindGuides$City", "BlindGuides$Heard", "BlindGuides$Images", "BlindGuides$Matching", "BlindGuides$Past", "BlindGuides$Reader", "BlindGuides$State", "BlindGuides$TurnSearch", "BlindGuides", "java/lang/Integer", "java/lang/Math", "java/lang/Object", "BlindGuidesLaw"]
def dm_tyf : Nat → Nat → FieldType := fun c => match c with
  | 0 => tyX0
  | 1 => tyX1
  | 2 => tyX2
  | 3 => tyX3
  | 4 => tyX4
  | 5 => tyX5
  | 6 => tyX6
  | 7 => tyX7
  | 8 => tyX8
  | _ => tyX9
abbrev dm_MT : Type := MethodName × ByteArray × Nat × Option FieldType × Nat × Nat × Nat × Nat × List Nat
def dm_mt0 : List dm_MT := [
  (⟨"BlindGuides$Book", "<init>", "()V"⟩, prog_2_method_1_code, 1, (Option.none : Option Jvm.ClassFile.FieldType), 1, 12, 0, 0, []),
  (⟨"BlindGuides$Book", "clear", "()V"⟩, prog_2_method_2_code, 1, (Option.none : Option Jvm.ClassFile.FieldType), 0, 0, 0, 0, []),
  (⟨"BlindGuides$Book", "add", "(II)V"⟩, prog_2_method_3_code, 3, (Option.none : Option Jvm.ClassFile.FieldType), 1, 22, 0, 2, []),
  (⟨"BlindGuides$Book", "firstWrong", "(LBlindGuides$State;)I"⟩, prog_2_method_4_code, 3, (Option.some Jvm.ClassFile.FieldType.int), 1, 21, 0, 1, []),
  (⟨"BlindGuides$City", "<init>", "()V"⟩, prog_3_method_1_code, 1, (Option.none : Option Jvm.ClassFile.FieldType), 1, 12, 1, 0, []),
  (⟨"BlindGuides$City", "startWith", "(I)V"⟩, prog_3_method_2_code, 3, (Option.none : Option Jvm.ClassFile.FieldType), 2, 47, 1, 1, []),
  (⟨"BlindGuides$City", "addCrossing", "(IIII)V"⟩, prog_3_method_3_code, 5, (Option.none : Option Jvm.ClassFile.FieldType), 2, 47, 1, 4, []),
  (⟨"BlindGuides$City", "setCrossing", "(IIIII)V"⟩, prog_3_method_4_code, 6, (Option.none : Option Jvm.ClassFile.FieldType), 1, 22, 1, 5, []),
  (⟨"BlindGuides$City", "addGuide", "(III)V"⟩, prog_3_method_5_code, 4, (Option.none : Option Jvm.ClassFile.FieldType), 1, 22, 1, 3, []),
  (⟨"BlindGuides$City", "addClient", "(II)V"⟩, prog_3_method_6_code, 3, (Option.none : Option Jvm.ClassFile.FieldType), 1, 22, 1, 2, []),
  (⟨"BlindGuides$City", "addMoon", "(I)V"⟩, prog_3_method_7_code, 2, (Option.none : Option Jvm.ClassFile.FieldType), 1, 22, 1, 1, []),
  (⟨"BlindGuides$City", "hasCrossing", "(I)Z"⟩, prog_3_method_8_code, 2, (Option.some Jvm.ClassFile.FieldType.boolean), 0, 0, 1, 1, []),
  (⟨"BlindGuides$City", "hasGuide", "(I)Z"⟩, prog_3_method_9_code, 2, (Option.some Jvm.ClassFile.FieldType.boolean), 0, 0, 1, 1, []),
  (⟨"BlindGuides$City", "hasClient", "(I)Z"⟩, prog_3_method_10_code, 2, (Option.some Jvm.ClassFile.FieldType.boolean), 0, 0, 1, 1, []),
  (⟨"BlindGuides$City", "hasAll", "(I)Z"⟩, prog_3_method_11_code, 2, (Option.some Jvm.ClassFile.FieldType.boolean), 0, 0, 1, 1, []),
  (⟨"BlindGuides$City", "moonOf", "(I)I"⟩, prog_3_method_12_code, 2, (Option.some Jvm.ClassFile.FieldType.int), 1, 21, 1, 1, [])]
def dm_mt1 : List dm_MT := [
  (⟨"BlindGuides$City", "endOf", "(II)I"⟩, prog_3_method_13_code, 3, (Option.some Jvm.ClassFile.FieldType.int), 1, 21, 1, 2, []),
  (⟨"BlindGuides$City", "endsOf", "(II)I"⟩, prog_3_method_14_code, 5, (Option.some Jvm.ClassFile.FieldType.int), 2, 43, 1, 2, []),
  (⟨"BlindGuides$City", "ledFrom", "(II)I"⟩, prog_3_method_15_code, 5, (Option.some Jvm.ClassFile.FieldType.int), 1, 21, 1, 2, []),
  (⟨"BlindGuides$City", "reachFrom", "(II)I"⟩, prog_3_method_16_code, 5, (Option.some Jvm.ClassFile.FieldType.int), 2, 45, 1, 2, []),
  (⟨"BlindGuides$City", "streetsBetween", "(III)I"⟩, prog_3_method_17_code, 6, (Option.some Jvm.ClassFile.FieldType.int), 2, 45, 1, 3, []),
  (⟨"BlindGuides$City", "firstTurnBetween", "(III)I"⟩, prog_3_method_18_code, 7, (Option.some Jvm.ClassFile.FieldType.int), 3, 70, 1, 3, []),
  (⟨"BlindGuides$City", "streetsBackTo", "(II)I"⟩, prog_3_method_19_code, 5, (Option.some Jvm.ClassFile.FieldType.int), 2, 45, 1, 2, []),
  (⟨"BlindGuides$Heard", "<init>", "()V"⟩, prog_4_method_1_code, 1, (Option.none : Option Jvm.ClassFile.FieldType), 1, 12, 2, 0, []),
  (⟨"BlindGuides$Heard", "clear", "()V"⟩, prog_4_method_2_code, 1, (Option.none : Option Jvm.ClassFile.FieldType), 0, 0, 2, 0, []),
  (⟨"BlindGuides$Heard", "startWith", "(LBlindGuides$City;I)V"⟩, prog_4_method_3_code, 4, (Option.none : Option Jvm.ClassFile.FieldType), 1, 22, 2, 2, []),
  (⟨"BlindGuides$Heard", "add", "(LBlindGuides$City;II)V"⟩, prog_4_method_4_code, 6, (Option.none : Option Jvm.ClassFile.FieldType), 2, 43, 2, 3, []),
  (⟨"BlindGuides$Heard", "here", "()I"⟩, prog_4_method_5_code, 3, (Option.some Jvm.ClassFile.FieldType.int), 1, 21, 2, 0, []),
  (⟨"BlindGuides$Heard", "bestTurn", "(LBlindGuides$City;)I"⟩, prog_4_method_6_code, 7, (Option.some Jvm.ClassFile.FieldType.int), 3, 69, 2, 1, []),
  (⟨"BlindGuides$Heard", "greatestPart", "(LBlindGuides$City;II)I"⟩, prog_4_method_7_code, 7, (Option.some Jvm.ClassFile.FieldType.int), 2, 43, 2, 3, []),
  (⟨"BlindGuides$Images", "<init>", "()V"⟩, prog_5_method_1_code, 1, (Option.none : Option Jvm.ClassFile.FieldType), 3, 54, 3, 0, []),
  (⟨"BlindGuides$Images", "clear", "()V"⟩, prog_5_method_2_code, 1, (Option.none : Option Jvm.ClassFile.FieldType), 0, 0, 3, 0, [])]
def dm_mt2 : List dm_MT := [
  (⟨"BlindGuides$Images", "has", "(I)Z"⟩, prog_5_method_3_code, 2, (Option.some Jvm.ClassFile.FieldType.boolean), 0, 0, 3, 1, []),
  (⟨"BlindGuides$Images", "take", "(ILBlindGuides$State;I)V"⟩, prog_5_method_4_code, 5, (Option.none : Option Jvm.ClassFile.FieldType), 2, 44, 3, 3, []),
  (⟨"BlindGuides$Images", "bringBack", "(ILBlindGuides$State;)V"⟩, prog_5_method_5_code, 4, (Option.none : Option Jvm.ClassFile.FieldType), 2, 44, 3, 2, []),
  (⟨"BlindGuides$Images", "drawnOf", "(I)I"⟩, prog_5_method_6_code, 2, (Option.some Jvm.ClassFile.FieldType.int), 1, 21, 3, 1, []),
  (⟨"BlindGuides$Matching", "<init>", "()V"⟩, prog_6_method_1_code, 1, (Option.none : Option Jvm.ClassFile.FieldType), 1, 12, 4, 0, []),
  (⟨"BlindGuides$Matching", "startWith", "(II)V"⟩, prog_6_method_2_code, 3, (Option.none : Option Jvm.ClassFile.FieldType), 0, 0, 4, 2, []),
  (⟨"BlindGuides$Matching", "allow", "(IIII)V"⟩, prog_6_method_3_code, 5, (Option.none : Option Jvm.ClassFile.FieldType), 1, 22, 4, 4, []),
  (⟨"BlindGuides$Matching", "solve", "()V"⟩, prog_6_method_4_code, 2, (Option.none : Option Jvm.ClassFile.FieldType), 4, 92, 4, 0, []),
  (⟨"BlindGuides$Matching", "clientsIn", "(I)I"⟩, prog_6_method_5_code, 1, (Option.some Jvm.ClassFile.FieldType.int), 0, 0, 4, 1, []),
  (⟨"BlindGuides$Matching", "fillWorths", "()V"⟩, prog_6_method_6_code, 6, (Option.none : Option Jvm.ClassFile.FieldType), 3, 67, 4, 0, []),
  (⟨"BlindGuides$Matching", "worthOf", "(II)I"⟩, prog_6_method_7_code, 3, (Option.some Jvm.ClassFile.FieldType.int), 1, 21, 4, 2, []),
  (⟨"BlindGuides$Matching", "worthWith", "(III)I"⟩, prog_6_method_8_code, 5, (Option.some Jvm.ClassFile.FieldType.int), 2, 43, 4, 3, []),
  (⟨"BlindGuides$Matching", "guideOf", "(I)I"⟩, prog_6_method_9_code, 5, (Option.some Jvm.ClassFile.FieldType.int), 4, 90, 4, 1, []),
  (⟨"BlindGuides$Matching", "chosenFor", "(II)I"⟩, prog_6_method_10_code, 4, (Option.some Jvm.ClassFile.FieldType.int), 3, 67, 4, 2, []),
  (⟨"BlindGuides$Past", "<init>", "()V"⟩, prog_7_method_1_code, 1, (Option.none : Option Jvm.ClassFile.FieldType), 3, 54, 5, 0, []),
  (⟨"BlindGuides$Past", "clear", "()V"⟩, prog_7_method_2_code, 1, (Option.none : Option Jvm.ClassFile.FieldType), 0, 0, 5, 0, [])]
def dm_mt3 : List dm_MT := [
  (⟨"BlindGuides$Past", "keepAhead", "(LBlindGuides$State;)V"⟩, prog_7_method_3_code, 3, (Option.none : Option Jvm.ClassFile.FieldType), 2, 44, 5, 1, []),
  (⟨"BlindGuides$Past", "bringBack", "(LBlindGuides$State;)V"⟩, prog_7_method_4_code, 3, (Option.none : Option Jvm.ClassFile.FieldType), 2, 44, 5, 1, []),
  (⟨"BlindGuides$Reader", "<init>", "()V"⟩, prog_8_method_1_code, 1, (Option.none : Option Jvm.ClassFile.FieldType), 2, 32, 6, 0, []),
  (⟨"BlindGuides$Reader", "read", "([II)I"⟩, prog_8_method_2_code, 4, (Option.some Jvm.ClassFile.FieldType.int), 5, 116, 6, 2, []),
  (⟨"BlindGuides$Reader", "giveFor", "(LBlindGuides$City;)LBlindGuides$City;"⟩, prog_8_method_3_code, 3, (Option.some (Jvm.ClassFile.FieldType.object "BlindGuides$City")), 0, 0, 6, 1, []),
  (⟨"BlindGuides$Reader", "readClause", "()V"⟩, prog_8_method_4_code, 2, (Option.none : Option Jvm.ClassFile.FieldType), 4, 95, 6, 0, []),
  (⟨"BlindGuides$Reader", "readCount", "()V"⟩, prog_8_method_5_code, 2, (Option.none : Option Jvm.ClassFile.FieldType), 3, 69, 6, 0, []),
  (⟨"BlindGuides$Reader", "readCrossing", "()V"⟩, prog_8_method_6_code, 5, (Option.none : Option Jvm.ClassFile.FieldType), 3, 71, 6, 0, []),
  (⟨"BlindGuides$Reader", "readGuide", "()V"⟩, prog_8_method_7_code, 4, (Option.none : Option Jvm.ClassFile.FieldType), 3, 66, 6, 0, []),
  (⟨"BlindGuides$Reader", "readClient", "()V"⟩, prog_8_method_8_code, 3, (Option.none : Option Jvm.ClassFile.FieldType), 3, 66, 6, 0, []),
  (⟨"BlindGuides$Reader", "readMoons", "()V"⟩, prog_8_method_9_code, 3, (Option.none : Option Jvm.ClassFile.FieldType), 3, 66, 6, 0, []),
  (⟨"BlindGuides$Reader", "takeWord", "(Z)V"⟩, prog_8_method_10_code, 2, (Option.none : Option Jvm.ClassFile.FieldType), 1, 22, 6, 1, []),
  (⟨"BlindGuides$Reader", "takeSign", "(I)V"⟩, prog_8_method_11_code, 2, (Option.none : Option Jvm.ClassFile.FieldType), 2, 41, 6, 1, []),
  (⟨"BlindGuides$Reader", "number", "(II)I"⟩, prog_8_method_12_code, 6, (Option.some Jvm.ClassFile.FieldType.int), 2, 41, 6, 2, []),
  (⟨"BlindGuides$Reader", "isFigure", "(I)Z"⟩, prog_8_method_13_code, 1, (Option.some Jvm.ClassFile.FieldType.boolean), 0, 0, 6, 1, []),
  (⟨"BlindGuides$Reader", "skipBlanks", "()V"⟩, prog_8_method_14_code, 2, (Option.none : Option Jvm.ClassFile.FieldType), 1, 20, 6, 0, [])]
def dm_mt4 : List dm_MT := [
  (⟨"BlindGuides$Reader", "letter", "()I"⟩, prog_8_method_15_code, 1, (Option.some Jvm.ClassFile.FieldType.int), 0, 0, 6, 0, []),
  (⟨"BlindGuides$Reader", "fail", "(II)V"⟩, prog_8_method_16_code, 3, (Option.none : Option Jvm.ClassFile.FieldType), 0, 0, 6, 2, []),
  (⟨"BlindGuides$State", "<init>", "()V"⟩, prog_9_method_1_code, 1, (Option.none : Option Jvm.ClassFile.FieldType), 1, 12, 7, 0, []),
  (⟨"BlindGuides$State", "startIn", "(LBlindGuides$City;)V"⟩, prog_9_method_2_code, 3, (Option.none : Option Jvm.ClassFile.FieldType), 1, 22, 7, 1, []),
  (⟨"BlindGuides$State", "become", "(LBlindGuides$State;)V"⟩, prog_9_method_3_code, 3, (Option.none : Option Jvm.ClassFile.FieldType), 1, 22, 7, 1, []),
  (⟨"BlindGuides$State", "passNights", "(I)V"⟩, prog_9_method_4_code, 2, (Option.none : Option Jvm.ClassFile.FieldType), 0, 0, 7, 1, []),
  (⟨"BlindGuides$State", "openTo", "(I)I"⟩, prog_9_method_5_code, 2, (Option.some Jvm.ClassFile.FieldType.int), 1, 21, 7, 1, []),
  (⟨"BlindGuides$TurnSearch", "<init>", "()V"⟩, prog_10_method_1_code, 1, (Option.none : Option Jvm.ClassFile.FieldType), 1, 12, 8, 0, []),
  (⟨"BlindGuides$TurnSearch", "find", "(LBlindGuides$City;IIZ)I"⟩, prog_10_method_2_code, 7, (Option.some Jvm.ClassFile.FieldType.int), 4, 91, 8, 4, []),
  (⟨"BlindGuides$TurnSearch", "reachFrom", "(LBlindGuides$City;I)V"⟩, prog_10_method_3_code, 5, (Option.none : Option Jvm.ClassFile.FieldType), 3, 67, 8, 2, []),
  (⟨"BlindGuides$TurnSearch", "reach", "(III)V"⟩, prog_10_method_4_code, 4, (Option.none : Option Jvm.ClassFile.FieldType), 1, 22, 8, 3, []),
  (⟨"BlindGuides$TurnSearch", "isFound", "(II)Z"⟩, prog_10_method_5_code, 2, (Option.some Jvm.ClassFile.FieldType.boolean), 1, 20, 8, 2, []),
  (⟨"BlindGuides", "<init>", "()V"⟩, prog_1_method_1_code, 1, (Option.none : Option Jvm.ClassFile.FieldType), 4, 74, 9, 0, []),
  (⟨"BlindGuides", "feed", "(I)I"⟩, prog_1_method_2_code, 2, (Option.some Jvm.ClassFile.FieldType.int), 1, 22, 9, 1, []),
  (⟨"BlindGuides", "city", "()I"⟩, prog_1_method_3_code, 2, (Option.some Jvm.ClassFile.FieldType.int), 6, 139, 9, 0, []),
  (⟨"BlindGuides", "fault", "()I"⟩, prog_1_method_4_code, 1, (Option.some Jvm.ClassFile.FieldType.int), 0, 0, 9, 0, [])]
def dm_mt5 : List dm_MT := [
  (⟨"BlindGuides", "told", "(I)I"⟩, prog_1_method_5_code, 2, (Option.some Jvm.ClassFile.FieldType.int), 3, 67, 9, 1, []),
  (⟨"BlindGuides", "crossing", "(II)I"⟩, prog_1_method_6_code, 3, (Option.some Jvm.ClassFile.FieldType.int), 2, 43, 9, 2, []),
  (⟨"BlindGuides", "guide", "(II)I"⟩, prog_1_method_7_code, 3, (Option.some Jvm.ClassFile.FieldType.int), 3, 69, 9, 2, []),
  (⟨"BlindGuides", "client", "(II)I"⟩, prog_1_method_8_code, 3, (Option.some Jvm.ClassFile.FieldType.int), 1, 21, 9, 2, []),
  (⟨"BlindGuides", "whoMustTalk", "()I"⟩, prog_1_method_9_code, 4, (Option.some Jvm.ClassFile.FieldType.int), 2, 44, 9, 0, []),
  (⟨"BlindGuides", "headsOf", "(I)I"⟩, prog_1_method_10_code, 4, (Option.some Jvm.ClassFile.FieldType.int), 1, 21, 9, 1, []),
  (⟨"BlindGuides", "night", "(I)I"⟩, prog_1_method_11_code, 3, (Option.some Jvm.ClassFile.FieldType.int), 3, 66, 9, 1, []),
  (⟨"BlindGuides", "hire", "(II)I"⟩, prog_1_method_12_code, 4, (Option.some Jvm.ClassFile.FieldType.int), 4, 92, 9, 2, []),
  (⟨"BlindGuides", "nowhere", "(II)I"⟩, prog_1_method_13_code, 6, (Option.some Jvm.ClassFile.FieldType.int), 3, 66, 9, 2, []),
  (⟨"BlindGuides", "wall", "(IZ)I"⟩, prog_1_method_14_code, 4, (Option.some Jvm.ClassFile.FieldType.int), 3, 66, 9, 2, []),
  (⟨"BlindGuides", "learn", "(II)I"⟩, prog_1_method_15_code, 4, (Option.some Jvm.ClassFile.FieldType.int), 3, 66, 9, 2, []),
  (⟨"BlindGuides", "forget", "(I)I"⟩, prog_1_method_16_code, 3, (Option.some Jvm.ClassFile.FieldType.int), 3, 66, 9, 1, []),
  (⟨"BlindGuides", "drift", "(I)I"⟩, prog_1_method_17_code, 4, (Option.some Jvm.ClassFile.FieldType.int), 5, 116, 9, 1, []),
  (⟨"BlindGuides", "undo", "()I"⟩, prog_1_method_18_code, 1, (Option.some Jvm.ClassFile.FieldType.int), 3, 66, 9, 0, []),
  (⟨"BlindGuides", "refusalOfNights", "(I)I"⟩, prog_1_method_19_code, 2, (Option.some Jvm.ClassFile.FieldType.int), 0, 0, 9, 1, []),
  (⟨"BlindGuides", "streetsFor", "(II)I"⟩, prog_1_method_20_code, 3, (Option.some Jvm.ClassFile.FieldType.int), 3, 70, 9, 2, [])]
def dm_mt6 : List dm_MT := [
  (⟨"BlindGuides", "priceOf", "(II)I"⟩, prog_1_method_21_code, 4, (Option.some Jvm.ClassFile.FieldType.int), 2, 42, 9, 2, []),
  (⟨"BlindGuides", "leadHome", "(III)I"⟩, prog_1_method_22_code, 5, (Option.some Jvm.ClassFile.FieldType.int), 3, 65, 9, 3, []),
  (⟨"BlindGuides", "passNightByDraws", "()V"⟩, prog_1_method_23_code, 5, (Option.none : Option Jvm.ClassFile.FieldType), 4, 92, 9, 0, []),
  (⟨"BlindGuides", "draw", "(I)I"⟩, prog_1_method_24_code, 2, (Option.some Jvm.ClassFile.FieldType.int), 1, 21, 9, 1, []),
  (⟨"BlindGuides", "leads", "(III)I"⟩, prog_1_method_25_code, 5, (Option.some Jvm.ClassFile.FieldType.int), 4, 96, 9, 3, []),
  (⟨"BlindGuides", "way", "(III)I"⟩, prog_1_method_26_code, 4, (Option.some Jvm.ClassFile.FieldType.int), 3, 70, 9, 3, []),
  (⟨"BlindGuides", "match", "(I)I"⟩, prog_1_method_27_code, 5, (Option.some Jvm.ClassFile.FieldType.int), 5, 114, 9, 1, []),
  (⟨"BlindGuides", "fromWherever", "(III)I"⟩, prog_1_method_28_code, 4, (Option.some Jvm.ClassFile.FieldType.int), 5, 117, 9, 3, []),
  (⟨"BlindGuides", "meet", "(II)I"⟩, prog_1_method_29_code, 3, (Option.some Jvm.ClassFile.FieldType.int), 5, 117, 9, 2, []),
  (⟨"BlindGuides", "ring", "(I)I"⟩, prog_1_method_30_code, 2, (Option.some Jvm.ClassFile.FieldType.int), 3, 69, 9, 1, []),
  (⟨"BlindGuides", "allGoBy", "(III)I"⟩, prog_1_method_31_code, 7, (Option.some Jvm.ClassFile.FieldType.int), 3, 70, 9, 3, []),
  (⟨"BlindGuides", "pose", "(II)I"⟩, prog_1_method_32_code, 8, (Option.some Jvm.ClassFile.FieldType.int), 4, 96, 9, 2, []),
  (⟨"BlindGuides", "clouds", "(II)I"⟩, prog_1_method_33_code, 6, (Option.some Jvm.ClassFile.FieldType.int), 0, 0, 9, 2, [3]),
  (⟨"BlindGuides", "isBetrayed", "(IIII)Z"⟩, prog_1_method_34_code, 7, (Option.some Jvm.ClassFile.FieldType.boolean), 3, 70, 9, 4, []),
  (⟨"BlindGuides", "begin", "(I)I"⟩, prog_1_method_35_code, 2, (Option.some Jvm.ClassFile.FieldType.int), 2, 45, 9, 1, []),
  (⟨"BlindGuides", "hear", "(II)I"⟩, prog_1_method_36_code, 3, (Option.some Jvm.ClassFile.FieldType.int), 3, 68, 9, 2, [])]
def dm_mt7 : List dm_MT := [
  (⟨"BlindGuides", "began", "()I"⟩, prog_1_method_37_code, 1, (Option.some Jvm.ClassFile.FieldType.int), 0, 0, 9, 0, []),
  (⟨"BlindGuides", "listen", "()I"⟩, prog_1_method_38_code, 1, (Option.some Jvm.ClassFile.FieldType.int), 4, 95, 9, 0, []),
  (⟨"BlindGuides", "write", "(II)I"⟩, prog_1_method_39_code, 3, (Option.some Jvm.ClassFile.FieldType.int), 2, 44, 9, 2, []),
  (⟨"BlindGuides", "tear", "()I"⟩, prog_1_method_40_code, 2, (Option.some Jvm.ClassFile.FieldType.int), 1, 20, 9, 0, []),
  (⟨"BlindGuides", "judge", "()I"⟩, prog_1_method_41_code, 1, (Option.some Jvm.ClassFile.FieldType.int), 2, 43, 9, 0, []),
  (⟨"BlindGuides", "seed", "(I)I"⟩, prog_1_method_42_code, 3, (Option.some Jvm.ClassFile.FieldType.int), 0, 0, 9, 1, []),
  (⟨"BlindGuides", "keep", "(I)I"⟩, prog_1_method_43_code, 2, (Option.some Jvm.ClassFile.FieldType.int), 3, 68, 9, 1, []),
  (⟨"BlindGuides", "goBack", "(I)I"⟩, prog_1_method_44_code, 2, (Option.some Jvm.ClassFile.FieldType.int), 3, 67, 9, 1, []),
  (⟨"BlindGuides", "at", "([II)I"⟩, prog_1_method_45_code, 2, (Option.some Jvm.ClassFile.FieldType.int), 0, 0, 9, 2, []),
  (⟨"BlindGuides", "put", "([III)V"⟩, prog_1_method_46_code, 3, (Option.none : Option Jvm.ClassFile.FieldType), 0, 0, 9, 3, []),
  (⟨"BlindGuides", "stateAt", "([LBlindGuides$State;I)LBlindGuides$State;"⟩, prog_1_method_47_code, 2, (Option.some (Jvm.ClassFile.FieldType.object "BlindGuides$State")), 0, 0, 9, 2, []),
  (⟨"BlindGuides", "newStates", "(I)[LBlindGuides$State;"⟩, prog_1_method_48_code, 3, (Option.some (Jvm.ClassFile.FieldType.array (Jvm.ClassFile.FieldType.object "BlindGuides$State"))), 2, 32, 9, 1, []),
  (⟨"BlindGuidesLaw", "part", "(II)I"⟩, method_2_code, 2, (Option.some Jvm.ClassFile.FieldType.int), 0, 0, 13, 2, []),
  (⟨"BlindGuidesLaw", "cell", "([II)I"⟩, method_3_code, 2, (Option.some Jvm.ClassFile.FieldType.int), 0, 0, 13, 2, []),
  (⟨"BlindGuidesLaw", "number", "(LBlindGuides;I)V"⟩, method_4_code, 2, (Option.none : Option Jvm.ClassFile.FieldType), 2, 43, 13, 2, []),
  (⟨"BlindGuidesLaw", "tells", "(LBlindGuides;[I[I[I[IIII)Z"⟩, method_5_code, 12, (Option.some Jvm.ClassFile.FieldType.boolean), 7, 160, 13, 8, [])]
def dm_mt8 : List dm_MT := [
  (⟨"BlindGuidesLaw", "many", "(I)I"⟩, method_11_code, 3, (Option.some Jvm.ClassFile.FieldType.int), 0, 0, 13, 1, []),
  (⟨"java/lang/Object", "<init>", "()V"⟩, object_method_1_code, 1, (Option.none : Option Jvm.ClassFile.FieldType), 0, 0, 12, 0, []),
  (⟨"java/lang/Integer", "bitCount", "(I)I"⟩, prog_13_method_49_code, 1, (Option.some Jvm.ClassFile.FieldType.int), 0, 0, 10, 1, []),
  (⟨"java/lang/Math", "max", "(II)I"⟩, prog_14_method_65_code, 2, (Option.some Jvm.ClassFile.FieldType.int), 0, 0, 11, 2, []),
  (⟨"java/lang/Math", "min", "(II)I"⟩, prog_14_method_69_code, 2, (Option.some Jvm.ClassFile.FieldType.int), 0, 0, 11, 2, []),
  (⟨"BlindGuidesLaw", "law", "([I)Z"⟩, code, maxLocals, ret, 8, 191, 13, 1, [])]
def dm_mtc : Nat → List dm_MT := fun k => match k with
  | 0 => dm_mt0
  | 1 => dm_mt1
  | 2 => dm_mt2
  | 3 => dm_mt3
  | 4 => dm_mt4
  | 5 => dm_mt5
  | 6 => dm_mt6
  | 7 => dm_mt7
  | _ => dm_mt8
def dm_m0 : dm_MT := (⟨"", "", ""⟩, ⟨#[]⟩, 0, none, 0, 0, 0, 0, [])
def dm_M (m : Nat) : dm_MT := (dm_mtc (m / 16)).getD (m % 16) dm_m0
def mY (m : Nat) : MethodName := (dm_M m).1
def mB (m : Nat) : ByteArray := (dm_M m).2.1
def mX (m : Nat) : Nat := (dm_M m).2.2.1
def mR (m : Nat) : Option FieldType := (dm_M m).2.2.2.1
def mF (m : Nat) : Nat := (dm_M m).2.2.2.2.1
def mL (m : Nat) : Nat := (dm_M m).2.2.2.2.2.1
def mO (m : Nat) : Nat := (dm_M m).2.2.2.2.2.2.1
def mN (m : Nat) : Nat := (dm_M m).2.2.2.2.2.2.2.1
def mG (m : Nat) : List Nat := (dm_M m).2.2.2.2.2.2.2.2
def dm_own (m : Nat) : String := dm_ow.getD (mO m) ""
def dm_cw (m : Nat) : Jvm.Cond := Cond.code (mY m) (mB m) (mX m) (mR m)
def dm_Ts (m : Nat) : List Cond := Cond.code (mY m) (mB m) (mX m) (mR m) :: dm_T
def dm_fl : Nat → List (Nat × Nat × Nat × Bool) := fun o => match o with
  | 0 => [(9, 0, 1, false), (15, 0, 2, false), (18, 0, 0, false), (26, 7, 0, true)]
  | 1 => [(9, 1, 5, false), (15, 1, 6, false), (18, 1, 7, false), (21, 1, 8, false), (24, 1, 9, false), (27, 1, 10, false), (30, 1, 11, false), (33, 1, 12, false), (36, 1, 13, false), (39, 1, 0, false), (43, 1, 1, false), (46, 1, 2, false), (49, 1, 3, false), (52, 1, 4, false)]
  | 2 => [(9, 2, 0, false), (15, 2, 2, false), (19, 2, 1, false), (22, 1, 0, true), (31, 1, 5, true)]
  | 3 => [(13, 3, 0, false), (19, 3, 1, false), (23, 3, 2, false)]
  | 4 => [(9, 4, 2, false), (15, 4, 3, false), (18, 4, 4, false), (21, 4, 0, false), (25, 4, 1, false), (32, 4, 5, false), (46, 4, 6, false), (49, 4, 7, false), (52, 4, 8, false)]
  | 5 => [(13, 5, 0, false), (19, 5, 2, false), (23, 5, 1, false)]
  | 6 => [(9, 6, 0, false), (15, 6, 4, false), (22, 6, 5, false), (26, 6, 1, false), (29, 6, 2, false), (32, 6, 3, false), (49, 1, 0, true), (82, 1, 1, true), (89, 1, 2, true), (96, 1, 3, true), (102, 1, 4, true)]
  | 7 => [(9, 7, 0, false), (15, 7, 1, false), (18, 7, 2, false), (21, 1, 8, true), (32, 1, 10, true), (33, 7, 3, false), (37, 7, 4, false), (40, 7, 5, false), (43, 7, 6, false)]
  | 8 => [(11, 8, 0, false), (15, 8, 1, false), (18, 8, 2, false), (25, 8, 3, false)]
  | 9 => [(9, 9, 0, false), (13, 9, 1, false), (17, 9, 2, false), (23, 9, 3, false), (30, 9, 4, false), (37, 9, 5, false), (44, 9, 6, false), (51, 9, 7, false), (58, 9, 8, false), (65, 9, 9, false), (72, 9, 10, false), (79, 9, 11, false), (83, 9, 12, false), (96, 6, 4, true), (111, 1, 0, true), (114, 1, 2, true), (117, 1, 3, true), (120, 7, 5, true), (127, 7, 3, true), (130, 7, 4, true), (133, 7, 6, true), (140, 2, 0, true), (146, 0, 0, true), (149, 5, 2, true), (157, 1, 5, true), (170, 7, 0, true), (173, 1, 9, true), (176, 7, 1, true), (179, 7, 2, true), (191, 1, 11, true), (194, 1, 12, true), (269, 4, 6, true), (272, 4, 7, true), (275, 4, 8, true), (306, 2, 1, true)]
  | _ => []
def dm_ml : Nat → List (Nat × Nat × Nat) := fun o => match o with
  | 0 => [(3, 129, 7), (22, 121, 3), (31, 120, 3)]
  | 1 => [(3, 129, 7), (55, 121, 3), (59, 7, 0), (63, 131, 8), (69, 120, 3), (73, 16, 0), (76, 18, 0), (79, 20, 0)]
  | 2 => [(3, 129, 7), (27, 121, 3), (34, 120, 3), (38, 16, 1), (42, 27, 0), (46, 130, 2), (52, 29, 2), (56, 131, 8)]
  | 3 => [(3, 129, 7), (9, 123, 3), (27, 122, 3), (31, 68, 1), (37, 121, 3), (41, 120, 3)]
  | 4 => [(3, 129, 7), (28, 121, 3), (35, 41, 0), (38, 42, 0), (42, 40, 2), (55, 43, 0), (59, 131, 8), (64, 120, 3), (68, 45, 0)]
  | 5 => [(3, 129, 7), (9, 123, 3), (26, 122, 3), (30, 68, 1), (36, 132, 9), (42, 131, 8)]
  | 6 => [(3, 129, 7), (21, 4, 6), (35, 5, 1), (39, 63, 0), (42, 53, 0), (45, 64, 0), (52, 65, 0), (56, 54, 0), (59, 55, 0), (62, 56, 0), (65, 57, 0), (68, 58, 0), (71, 59, 0), (75, 61, 0), (79, 60, 0), (85, 6, 1), (92, 8, 1), (99, 9, 1), (105, 10, 1), (108, 62, 2), (112, 132, 9)]
  | 7 => [(3, 129, 7), (24, 120, 3), (28, 121, 3)]
  | 8 => [(3, 129, 7), (21, 121, 3), (29, 74, 0), (33, 120, 3), (37, 75, 2), (41, 73, 0), (45, 17, 1), (51, 130, 2)]
  | 9 => [(1, 129, 7), (22, 50, 6), (29, 4, 6), (36, 66, 6), (43, 46, 6), (50, 30, 6), (57, 23, 6), (64, 0, 6), (71, 71, 6), (78, 36, 6), (88, 121, 2), (92, 51, 1), (97, 52, 1), (101, 67, 1), (105, 47, 1), (108, 31, 1), (109, 24, 1), (110, 1, 1), (123, 15, 1), (136, 84, 0), (143, 27, 1), (152, 11, 1), (160, 120, 2), (163, 16, 1), (167, 12, 1), (182, 70, 1), (185, 19, 1), (188, 13, 1), (197, 85, 0), (200, 130, 2), (205, 94, 0), (208, 48, 1), (212, 69, 1), (216, 95, 0), (220, 97, 0), (224, 98, 0), (227, 49, 1), (230, 20, 1), (233, 96, 0), (237, 132, 9), (242, 99, 0), (252, 131, 8), (255, 21, 1), (258, 37, 1), (262, 38, 1), (266, 39, 1), (278, 44, 1), (281, 14, 1), (284, 72, 1), (288, 22, 1), (291, 109, 0), (299, 25, 1), (302, 26, 1), (309, 28, 1), (313, 2, 1), (315, 3, 1), (319, 33, 1), (323, 32, 1), (326, 34, 1), (329, 35, 1)]
  | 13 => [(9, 77, 0), (15, 125, 2), (21, 124, 2), (25, 126, 2), (29, 78, 0), (33, 79, 0), (36, 80, 0), (56, 86, 0), (59, 89, 0), (63, 87, 0), (66, 88, 0), (69, 90, 0), (72, 91, 0), (83, 76, 5), (84, 127, 2), (88, 118, 0), (91, 82, 0), (94, 100, 0), (98, 83, 0), (101, 92, 0), (105, 93, 0), (108, 101, 0), (110, 106, 0), (113, 128, 2), (116, 81, 0), (119, 105, 0), (122, 107, 0), (125, 102, 0), (128, 103, 0), (131, 104, 0), (134, 113, 0), (137, 110, 0), (140, 111, 0), (143, 112, 0), (147, 114, 0), (150, 116, 0), (153, 115, 0), (157, 108, 0), (161, 117, 0), (164, 119, 0)]
  | _ => []
def dm_cn : Nat → List (Nat × Int32) := fun o => match o with
  | 9 => [(86, (-1000000002 : Int32)), (87, (-1000000004 : Int32)), (156, (-1000000001 : Int32)), (219, (-1000000003 : Int32)), (236, (999999 : Int32)), (251, (65536 : Int32))]
  | 10 => [(265, (1431655765 : Int32)), (266, (858993459 : Int32)), (267, (252645135 : Int32))]
  | 13 => [(7, (2147483647 : Int32)), (8, (2654435 : Int32)), (50, (-1000000003 : Int32)), (55, (999999 : Int32)), (75, (-1000000001 : Int32)), (104, (-1000000002 : Int32)), (146, (-1000000004 : Int32)), (156, (1000000000 : Int32)), (160, (99999 : Int32))]
  | _ => []
def dm_ln : Nat → List (Nat × Int64) := fun o => match o with
  | 9 => [(245, (1103515245 : Int64)), (247, (12345 : Int64)), (249, (2147483647 : Int64)), (295, (1000000000 : Int64)), (297, (100 : Int64))]
  | _ => []
def dm_nw : Nat → List (Nat × Nat) := fun o => match o with
  | 6 => [(19, 1)]
  | 9 => [(20, 6), (27, 1), (34, 7), (41, 5), (48, 3), (55, 2), (62, 0), (69, 8), (76, 4)]
  | 13 => [(10, 9)]
  | _ => []
def dm_nO : Nat := 14
def rF (o i : Nat) : Option (Nat × Nat × Bool) := if dm_nO ≤ o then none else ((dm_fl o).find? (fun e => e.1 == i)).map (fun e => e.2)
def rM (o i : Nat) : Option (Nat × Nat) := if dm_nO ≤ o then none else ((dm_ml o).find? (fun e => e.1 == i)).map (fun e => e.2)
def rC (o i : Nat) : Option Int32 := if dm_nO ≤ o then none else ((dm_cn o).find? (fun e => e.1 == i)).map (fun e => e.2)
def rL (o i : Nat) : Option Int64 := if dm_nO ≤ o then none else ((dm_ln o).find? (fun e => e.1 == i)).map (fun e => e.2)
def rN (o i : Nat) : Option Nat := if dm_nO ≤ o then none else ((dm_nw o).find? (fun e => e.1 == i)).map (fun e => e.2)
