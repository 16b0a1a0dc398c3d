/-! ===== the methods: name, bytes, locals, return type, rank ===== -/
def zy0 : MethodName := ⟨"HummingSet$Answers", "<init>", "()V"⟩
def zy1 : MethodName := ⟨"HummingSet$Answers", "add", "(IIII)V"⟩
def zy2 : MethodName := ⟨"HummingSet$Answers", "copyFrom", "(LHummingSet$Answers;)V"⟩
def zy3 : MethodName := ⟨"HummingSet$Bench", "<init>", "()V"⟩
def zy4 : MethodName := ⟨"HummingSet$Bench", "play", "(LHummingSet$Wireless;IIII)V"⟩
def zy5 : MethodName := ⟨"HummingSet$Bench", "comeIn", "(LHummingSet$Wireless;II)V"⟩
def zy6 : MethodName := ⟨"HummingSet$Bench", "tonesHeard", "(LHummingSet$Wireless;)I"⟩
def zy7 : MethodName := ⟨"HummingSet$Bench", "loudness", "()I"⟩
def zy8 : MethodName := ⟨"HummingSet$Bench", "magnitude", "([I)I"⟩
def zy9 : MethodName := ⟨"HummingSet$Bench", "reply", "(LHummingSet$Wireless;IIII)I"⟩
def zy10 : MethodName := ⟨"HummingSet$Bench", "acrossState", "(LHummingSet$Wireless;II)I"⟩
def zy11 : MethodName := ⟨"HummingSet$Cases", "<init>", "()V"⟩
def zy12 : MethodName := ⟨"HummingSet$Cases", "fill", "(LHummingSet$Wireless;)V"⟩
def zy13 : MethodName := ⟨"HummingSet$Cases", "add", "(IJ)V"⟩
def zy14 : MethodName := ⟨"HummingSet$Cases", "narrow", "(LHummingSet$Wireless;LHummingSet$Bench;LHummingSet$Answers;I)V"⟩
def zy15 : MethodName := ⟨"HummingSet$Cases", "weightWith", "(I)J"⟩
def zy16 : MethodName := ⟨"HummingSet$Cases", "heaviest", "()I"⟩
def zy17 : MethodName := ⟨"HummingSet$Part", "<init>", "()V"⟩
def zy18 : MethodName := ⟨"HummingSet$Part", "voltsLess", "(I)I"⟩
def zy19 : MethodName := ⟨"HummingSet$Part", "voltsAfter", "(I)I"⟩
def zy20 : MethodName := ⟨"HummingSet$Part", "minuteBelowShock", "()I"⟩
def zy21 : MethodName := ⟨"HummingSet$Plan", "<init>", "()V"⟩
def zy22 : MethodName := ⟨"HummingSet$Plan", "learn", "(LHummingSet$Wireless;LHummingSet$Bench;)V"⟩
def zy23 : MethodName := ⟨"HummingSet$Plan", "noisyWeight", "(LHummingSet$Cases;I)J"⟩
def zy24 : MethodName := ⟨"HummingSet$Plan", "cheapest", "(LHummingSet$Wireless;LHummingSet$Cases;I)I"⟩
def zy25 : MethodName := ⟨"HummingSet$Plan", "row", "(LHummingSet$Wireless;LHummingSet$Cases;)V"⟩
def zy26 : MethodName := ⟨"HummingSet$Plan", "goOn", "(LHummingSet$Wireless;IJ)V"⟩
def zy27 : MethodName := ⟨"HummingSet$Reader", "<init>", "()V"⟩
def zy28 : MethodName := ⟨"HummingSet$Reader", "read", "(LHummingSet$Text;LHummingSet$Wireless;)I"⟩
def zy29 : MethodName := ⟨"HummingSet$Reader", "readItem", "(LHummingSet$Text;LHummingSet$Wireless;)Z"⟩
def zy30 : MethodName := ⟨"HummingSet$Reader", "numbersOf", "(I)I"⟩
def zy31 : MethodName := ⟨"HummingSet$Reader", "readNumber", "(LHummingSet$Text;I)Z"⟩
def zy32 : MethodName := ⟨"HummingSet$Reader", "takeItem", "(ILHummingSet$Wireless;)Z"⟩
def zy33 : MethodName := ⟨"HummingSet$Search", "<init>", "()V"⟩
def zy34 : MethodName := ⟨"HummingSet$Search", "find", "(LHummingSet$Wireless;LHummingSet$Bench;LHummingSet$Cases;I)V"⟩
def zy35 : MethodName := ⟨"HummingSet$Search", "isBetter", "(IJI)Z"⟩
def zy36 : MethodName := ⟨"HummingSet$Search", "minutesOf", "(I)I"⟩
def zy37 : MethodName := ⟨"HummingSet$Search", "worstOf", "(LHummingSet$Wireless;LHummingSet$Bench;LHummingSet$Cases;III)J"⟩
def zy38 : MethodName := ⟨"HummingSet$Stage", "<init>", "()V"⟩
def zy39 : MethodName := ⟨"HummingSet$Text", "<init>", "()V"⟩
def zy40 : MethodName := ⟨"HummingSet$Text", "hasRoom", "(I)Z"⟩
def zy41 : MethodName := ⟨"HummingSet$Text", "append", "(IJ)V"⟩
def zy42 : MethodName := ⟨"HummingSet$Text", "at", "(I)I"⟩
def zy43 : MethodName := ⟨"HummingSet$Way", "<init>", "()V"⟩
def zy44 : MethodName := ⟨"HummingSet$Wireless", "<init>", "()V"⟩
def zy45 : MethodName := ⟨"HummingSet$Wireless", "clear", "()V"⟩
def zy46 : MethodName := ⟨"HummingSet$Wireless", "hasStage", "(I)Z"⟩
def zy47 : MethodName := ⟨"HummingSet$Wireless", "hasPart", "(I)Z"⟩
def zy48 : MethodName := ⟨"HummingSet$Wireless", "hasState", "(I)Z"⟩
def zy49 : MethodName := ⟨"HummingSet$Wireless", "hasAsk", "(II)Z"⟩
def zy50 : MethodName := ⟨"HummingSet$Wireless", "asksOf", "(I)I"⟩
def zy51 : MethodName := ⟨"HummingSet$Wireless", "takeStage", "(II)Z"⟩
def zy52 : MethodName := ⟨"HummingSet$Wireless", "takePart", "(IIIII)Z"⟩
def zy53 : MethodName := ⟨"HummingSet$Wireless", "takeLet", "(III)Z"⟩
def zy54 : MethodName := ⟨"HummingSet$Wireless", "takeMains", "(III)Z"⟩
def zy55 : MethodName := ⟨"HummingSet$Wireless", "takeCost", "(II)Z"⟩
def zy56 : MethodName := ⟨"HummingSet$Wireless", "takeWay", "(III)Z"⟩
def zy57 : MethodName := ⟨"HummingSet$Wireless", "takeEar", "(II)Z"⟩
def zy58 : MethodName := ⟨"HummingSet$Wireless", "takeYearly", "(II)Z"⟩
def zy59 : MethodName := ⟨"HummingSet$Wireless", "takeVolts", "(III)Z"⟩
def zy60 : MethodName := ⟨"HummingSet$Wireless", "riskOf", "(II)I"⟩
def zy61 : MethodName := ⟨"HummingSet$Wireless", "someBearsTooMuch", "(I)Z"⟩
def zy62 : MethodName := ⟨"HummingSet$Wireless", "someHoldsMuch", "(I)Z"⟩
def zy63 : MethodName := ⟨"HummingSet$Wireless", "minuteOfNoShock", "()I"⟩
def zy64 : MethodName := ⟨"HummingSet$Wireless", "weightOf", "(I)J"⟩
def zy65 : MethodName := ⟨"HummingSet$Wireless", "costOf", "(I)I"⟩
def zy66 : MethodName := ⟨"HummingSet$Wireless", "tonesHowling", "()I"⟩
def zy67 : MethodName := ⟨"HummingSet$Wireless", "bringsItsOwn", "(LHummingSet$Way;)Z"⟩
def zy68 : MethodName := ⟨"HummingSet$Wireless", "goneOf", "(II)I"⟩
def zy69 : MethodName := ⟨"HummingSet", "<init>", "()V"⟩
def zy70 : MethodName := ⟨"HummingSet", "write", "(IJ)I"⟩
def zy71 : MethodName := ⟨"HummingSet", "wipe", "()I"⟩
def zy72 : MethodName := ⟨"HummingSet", "fault", "()I"⟩
def zy73 : MethodName := ⟨"HummingSet", "lay", "()I"⟩
def zy74 : MethodName := ⟨"HummingSet", "part", "(II)I"⟩
def zy75 : MethodName := ⟨"HummingSet", "hum", "(III)I"⟩
def zy76 : MethodName := ⟨"HummingSet", "in", "(IIII)I"⟩
def zy77 : MethodName := ⟨"HummingSet", "heard", "(III)I"⟩
def zy78 : MethodName := ⟨"HummingSet", "ask", "(IIII)I"⟩
def zy79 : MethodName := ⟨"HummingSet", "risk", "(II)I"⟩
def zy80 : MethodName := ⟨"HummingSet", "volts", "(II)I"⟩
def zy81 : MethodName := ⟨"HummingSet", "safe", "()I"⟩
def zy82 : MethodName := ⟨"HummingSet", "answer", "(IIII)I"⟩
def zy83 : MethodName := ⟨"HummingSet", "forget", "()I"⟩
def zy84 : MethodName := ⟨"HummingSet", "possible", "(I)J"⟩
def zy85 : MethodName := ⟨"HummingSet", "odds", "(II)J"⟩
def zy86 : MethodName := ⟨"HummingSet", "likeliest", "()I"⟩
def zy87 : MethodName := ⟨"HummingSet", "next", "(II)J"⟩
def zy88 : MethodName := ⟨"HummingSet", "change", "(II)I"⟩
def zy89 : MethodName := ⟨"HummingSet", "oneByOne", "(I)J"⟩
def zy90 : MethodName := ⟨"HummingSet", "louder", "(I)I"⟩
def zy91 : MethodName := ⟨"HummingSet", "howls", "()I"⟩
def zy92 : MethodName := ⟨"HummingSet", "goes", "(II)I"⟩
def zy93 : MethodName := ⟨"HummingSet", "nextToGo", "(I)I"⟩
def zy94 : MethodName := ⟨"HummingSet", "set", "(I)I"⟩
def zy95 : MethodName := ⟨"HummingSet", "keep", "()I"⟩
def zy96 : MethodName := ⟨"HummingSet", "back", "()I"⟩
def zy97 : MethodName := ⟨"HummingSet", "count", "(I)I"⟩
def zy98 : MethodName := ⟨"HummingSet", "weighAnew", "()V"⟩
def zy99 : MethodName := ⟨"HummingSet", "loudWarm", "(I)I"⟩
def zy100 : MethodName := ⟨"HummingSet", "within", "(III)Z"⟩
def zy101 : MethodName := ⟨"HummingSet", "isTone", "(I)Z"⟩
def zy102 : MethodName := ⟨"HummingSet", "isMinute", "(I)Z"⟩
def zy103 : MethodName := ⟨"HummingSet", "commonDivisor", "(JJ)J"⟩
def zy104 : MethodName := ⟨"HummingSetModel", "<init>", "()V"⟩
def zy105 : MethodName := ⟨"HummingSetModel", "isIn", "(JJJ)Z"⟩
def zy106 : MethodName := ⟨"HummingSetModel", "has", "(II)Z"⟩
def zy107 : MethodName := ⟨"HummingSetModel", "up", "(I)I"⟩
def zy108 : MethodName := ⟨"HummingSetModel", "noPart", "(I)V"⟩
def zy109 : MethodName := ⟨"HummingSetModel", "noSet", "(I)V"⟩
def zy110 : MethodName := ⟨"HummingSetModel", "write", "(IJ)I"⟩
def zy111 : MethodName := ⟨"HummingSetModel", "wipe", "()I"⟩
def zy112 : MethodName := ⟨"HummingSetModel", "byteAt", "(I)I"⟩
def zy113 : MethodName := ⟨"HummingSetModel", "figures", "(I)Z"⟩
def zy114 : MethodName := ⟨"HummingSetModel", "isPartTold", "()Z"⟩
def zy115 : MethodName := ⟨"HummingSetModel", "isStageTold", "()Z"⟩
def zy116 : MethodName := ⟨"HummingSetModel", "stageItem", "()Z"⟩
def zy117 : MethodName := ⟨"HummingSetModel", "partItem", "()Z"⟩
def zy118 : MethodName := ⟨"HummingSetModel", "letItem", "()Z"⟩
def zy119 : MethodName := ⟨"HummingSetModel", "comeItem", "()Z"⟩
def zy120 : MethodName := ⟨"HummingSetModel", "wayItem", "()Z"⟩
def zy121 : MethodName := ⟨"HummingSetModel", "item", "()Z"⟩
def zy122 : MethodName := ⟨"HummingSetModel", "readAll", "()I"⟩
def zy123 : MethodName := ⟨"HummingSetModel", "fault", "()I"⟩
def zy124 : MethodName := ⟨"HummingSetModel", "lay", "()I"⟩
def zy125 : MethodName := ⟨"HummingSetModel", "isStage", "(I)Z"⟩
def zy126 : MethodName := ⟨"HummingSetModel", "isPart", "(I)Z"⟩
def zy127 : MethodName := ⟨"HummingSetModel", "isState", "(I)Z"⟩
def zy128 : MethodName := ⟨"HummingSetModel", "isTime", "(I)Z"⟩
def zy129 : MethodName := ⟨"HummingSetModel", "part", "(II)I"⟩
def zy130 : MethodName := ⟨"HummingSetModel", "inOf", "(IIIIII)I"⟩
def zy131 : MethodName := ⟨"HummingSetModel", "endOf", "(IIIII)I"⟩
def zy132 : MethodName := ⟨"HummingSetModel", "heardOf", "(IIII)I"⟩
def zy133 : MethodName := ⟨"HummingSetModel", "loudOf", "(I)I"⟩
def zy134 : MethodName := ⟨"HummingSetModel", "hum", "(III)I"⟩
def zy135 : MethodName := ⟨"HummingSetModel", "in", "(IIII)I"⟩
def zy136 : MethodName := ⟨"HummingSetModel", "heard", "(III)I"⟩
def zy137 : MethodName := ⟨"HummingSetModel", "isAsk", "(II)Z"⟩
def zy138 : MethodName := ⟨"HummingSetModel", "askOf0", "(IIII)I"⟩
def zy139 : MethodName := ⟨"HummingSetModel", "ask", "(IIII)I"⟩
def zy140 : MethodName := ⟨"HummingSetModel", "riskOf", "(II)I"⟩
def zy141 : MethodName := ⟨"HummingSetModel", "risk", "(II)I"⟩
def zy142 : MethodName := ⟨"HummingSetModel", "voltsOf", "(II)I"⟩
def zy143 : MethodName := ⟨"HummingSetModel", "volts", "(II)I"⟩
def zy144 : MethodName := ⟨"HummingSetModel", "safe", "()I"⟩
def zy145 : MethodName := ⟨"HummingSetModel", "bits", "(I)I"⟩
def zy146 : MethodName := ⟨"HummingSetModel", "weightOf", "(I)J"⟩
def zy147 : MethodName := ⟨"HummingSetModel", "fits", "(I)Z"⟩
def zy148 : MethodName := ⟨"HummingSetModel", "layStates", "()V"⟩
def zy149 : MethodName := ⟨"HummingSetModel", "weightOfAll", "()J"⟩
def zy150 : MethodName := ⟨"HummingSetModel", "answer", "(IIII)I"⟩
def zy151 : MethodName := ⟨"HummingSetModel", "forget", "()I"⟩
def zy152 : MethodName := ⟨"HummingSetModel", "possible", "(I)J"⟩
def zy153 : MethodName := ⟨"HummingSetModel", "common", "(JJ)J"⟩
def zy154 : MethodName := ⟨"HummingSetModel", "odds", "(II)J"⟩
def zy155 : MethodName := ⟨"HummingSetModel", "likeliest", "()I"⟩
def zy156 : MethodName := ⟨"HummingSetModel", "worstOf", "(III)J"⟩
def zy157 : MethodName := ⟨"HummingSetModel", "minutesOf", "(I)I"⟩
def zy158 : MethodName := ⟨"HummingSetModel", "next", "(II)J"⟩
def zy159 : MethodName := ⟨"HummingSetModel", "isQuiet", "(I)Z"⟩
def zy160 : MethodName := ⟨"HummingSetModel", "costOf", "(I)I"⟩
def zy161 : MethodName := ⟨"HummingSetModel", "change", "(II)I"⟩
def zy162 : MethodName := ⟨"HummingSetModel", "hums", "(I)J"⟩
def zy163 : MethodName := ⟨"HummingSetModel", "layRows", "()V"⟩
def zy164 : MethodName := ⟨"HummingSetModel", "oneByOne", "(I)J"⟩
def zy165 : MethodName := ⟨"HummingSetModel", "louder", "(I)I"⟩
def zy166 : MethodName := ⟨"HummingSetModel", "howls", "()I"⟩
def zy167 : MethodName := ⟨"HummingSetModel", "goesOf", "(II)I"⟩
def zy168 : MethodName := ⟨"HummingSetModel", "goes", "(II)I"⟩
def zy169 : MethodName := ⟨"HummingSetModel", "nextToGo", "(I)I"⟩
def zy170 : MethodName := ⟨"HummingSetModel", "set", "(I)I"⟩
def zy171 : MethodName := ⟨"HummingSetModel", "copy", "(II)V"⟩
def zy172 : MethodName := ⟨"HummingSetModel", "keep", "()I"⟩
def zy173 : MethodName := ⟨"HummingSetModel", "back", "()I"⟩
def zy174 : MethodName := ⟨"HummingSetModel", "count", "(I)I"⟩
def zy175 : MethodName := ⟨"java/lang/Integer", "bitCount", "(I)I"⟩
def zy176 : MethodName := ⟨"HummingSetLaw", "law", "([I)Z"⟩
def zMs : List (MethodName × ByteArray × Nat × Option FieldType × Nat) := [
  (zy0, prog_2_method_1_code, 1, none, 1),
  (zy1, prog_2_method_2_code, 5, none, 1),
  (zy2, prog_2_method_3_code, 3, none, 2),
  (zy3, prog_3_method_1_code, 1, none, 1),
  (zy4, prog_3_method_2_code, 9, none, 3),
  (zy5, prog_3_method_3_code, 7, none, 2),
  (zy6, prog_3_method_4_code, 4, (some .int), 1),
  (zy7, prog_3_method_5_code, 1, (some .int), 2),
  (zy8, prog_3_method_6_code, 3, (some .int), 1),
  (zy9, prog_3_method_7_code, 7, (some .int), 4),
  (zy10, prog_3_method_8_code, 3, (some .int), 2),
  (zy11, prog_4_method_1_code, 1, none, 1),
  (zy12, prog_4_method_2_code, 3, none, 2),
  (zy13, prog_4_method_3_code, 4, none, 1),
  (zy14, prog_4_method_4_code, 8, none, 5),
  (zy15, prog_4_method_5_code, 5, (some .long), 1),
  (zy16, prog_4_method_6_code, 5, (some .int), 1),
  (zy17, prog_5_method_1_code, 1, none, 1),
  (zy18, prog_5_method_2_code, 2, (some .int), 1),
  (zy19, prog_5_method_3_code, 4, (some .int), 2),
  (zy20, prog_5_method_4_code, 3, (some .int), 2),
  (zy21, prog_6_method_1_code, 1, none, 1),
  (zy22, prog_6_method_2_code, 4, none, 4),
  (zy23, prog_6_method_3_code, 7, (some .long), 1),
  (zy24, prog_6_method_4_code, 8, (some .int), 2),
  (zy25, prog_6_method_5_code, 7, none, 2),
  (zy26, prog_6_method_6_code, 9, none, 1),
  (zy27, prog_7_method_1_code, 1, none, 1),
  (zy28, prog_7_method_2_code, 5, (some .int), 6),
  (zy29, prog_7_method_3_code, 6, (some .boolean), 5),
  (zy30, prog_7_method_4_code, 1, (some .int), 1),
  (zy31, prog_7_method_5_code, 6, (some .boolean), 2),
  (zy32, prog_7_method_6_code, 6, (some .boolean), 4),
  (zy33, prog_8_method_1_code, 1, none, 1),
  (zy34, prog_8_method_2_code, 10, none, 6),
  (zy35, prog_8_method_3_code, 5, (some .boolean), 2),
  (zy36, prog_8_method_4_code, 1, (some .int), 1),
  (zy37, prog_8_method_5_code, 11, (some .long), 5),
  (zy38, prog_9_method_1_code, 1, none, 1),
  (zy39, prog_10_method_1_code, 1, none, 1),
  (zy40, prog_10_method_2_code, 2, (some .boolean), 1),
  (zy41, prog_10_method_3_code, 5, none, 1),
  (zy42, prog_10_method_4_code, 2, (some .int), 1),
  (zy43, prog_11_method_1_code, 1, none, 1),
  (zy44, prog_12_method_1_code, 2, none, 2),
  (zy45, prog_12_method_2_code, 2, none, 1),
  (zy46, prog_12_method_3_code, 2, (some .boolean), 1),
  (zy47, prog_12_method_4_code, 2, (some .boolean), 1),
  (zy48, prog_12_method_5_code, 2, (some .boolean), 1),
  (zy49, prog_12_method_6_code, 3, (some .boolean), 2),
  (zy50, prog_12_method_7_code, 2, (some .int), 1),
  (zy51, prog_12_method_8_code, 5, (some .boolean), 2),
  (zy52, prog_12_method_9_code, 8, (some .boolean), 2),
  (zy53, prog_12_method_10_code, 4, (some .boolean), 3),
  (zy54, prog_12_method_11_code, 4, (some .boolean), 3),
  (zy55, prog_12_method_12_code, 3, (some .boolean), 2),
  (zy56, prog_12_method_13_code, 5, (some .boolean), 3),
  (zy57, prog_12_method_14_code, 3, (some .boolean), 3),
  (zy58, prog_12_method_15_code, 3, (some .boolean), 2),
  (zy59, prog_12_method_16_code, 4, (some .boolean), 2),
  (zy60, prog_12_method_17_code, 3, (some .int), 3),
  (zy61, prog_12_method_18_code, 5, (some .boolean), 2),
  (zy62, prog_12_method_19_code, 3, (some .boolean), 1),
  (zy63, prog_12_method_20_code, 3, (some .int), 3),
  (zy64, prog_12_method_21_code, 6, (some .long), 1),
  (zy65, prog_12_method_22_code, 4, (some .int), 1),
  (zy66, prog_12_method_23_code, 3, (some .int), 2),
  (zy67, prog_12_method_24_code, 7, (some .boolean), 1),
  (zy68, prog_12_method_25_code, 7, (some .int), 2),
  (zy69, prog_1_method_1_code, 1, none, 7),
  (zy70, prog_1_method_2_code, 4, (some .int), 2),
  (zy71, prog_1_method_3_code, 2, (some .int), 1),
  (zy72, prog_1_method_4_code, 1, (some .int), 7),
  (zy73, prog_1_method_5_code, 2, (some .int), 7),
  (zy74, prog_1_method_6_code, 4, (some .int), 2),
  (zy75, prog_1_method_7_code, 4, (some .int), 4),
  (zy76, prog_1_method_8_code, 5, (some .int), 4),
  (zy77, prog_1_method_9_code, 4, (some .int), 4),
  (zy78, prog_1_method_10_code, 5, (some .int), 5),
  (zy79, prog_1_method_11_code, 3, (some .int), 4),
  (zy80, prog_1_method_12_code, 3, (some .int), 3),
  (zy81, prog_1_method_13_code, 1, (some .int), 4),
  (zy82, prog_1_method_14_code, 5, (some .int), 6),
  (zy83, prog_1_method_15_code, 2, (some .int), 7),
  (zy84, prog_1_method_16_code, 2, (some .long), 2),
  (zy85, prog_1_method_17_code, 9, (some .long), 2),
  (zy86, prog_1_method_18_code, 1, (some .int), 2),
  (zy87, prog_1_method_19_code, 3, (some .long), 7),
  (zy88, prog_1_method_20_code, 4, (some .int), 3),
  (zy89, prog_1_method_21_code, 2, (some .long), 3),
  (zy90, prog_1_method_22_code, 6, (some .int), 5),
  (zy91, prog_1_method_23_code, 1, (some .int), 3),
  (zy92, prog_1_method_24_code, 3, (some .int), 3),
  (zy93, prog_1_method_25_code, 6, (some .int), 3),
  (zy94, prog_1_method_26_code, 6, (some .int), 2),
  (zy95, prog_1_method_27_code, 1, (some .int), 3),
  (zy96, prog_1_method_28_code, 1, (some .int), 7),
  (zy97, prog_1_method_29_code, 2, (some .int), 1),
  (zy98, prog_1_method_30_code, 2, none, 6),
  (zy99, prog_1_method_31_code, 2, (some .int), 4),
  (zy100, prog_1_method_32_code, 3, (some .boolean), 1),
  (zy101, prog_1_method_33_code, 1, (some .boolean), 2),
  (zy102, prog_1_method_34_code, 1, (some .boolean), 2),
  (zy103, prog_1_method_35_code, 11, (some .long), 1),
  (zy104, prog_14_method_1_code, 1, none, 2),
  (zy105, prog_14_method_2_code, 6, (some .boolean), 1),
  (zy106, prog_14_method_3_code, 2, (some .boolean), 1),
  (zy107, prog_14_method_4_code, 1, (some .int), 1),
  (zy108, prog_14_method_5_code, 3, none, 1),
  (zy109, prog_14_method_6_code, 3, none, 1),
  (zy110, prog_14_method_7_code, 5, (some .int), 2),
  (zy111, prog_14_method_8_code, 2, (some .int), 1),
  (zy112, prog_14_method_9_code, 2, (some .int), 1),
  (zy113, prog_14_method_10_code, 6, (some .boolean), 2),
  (zy114, prog_14_method_11_code, 1, (some .boolean), 2),
  (zy115, prog_14_method_12_code, 1, (some .boolean), 2),
  (zy116, prog_14_method_13_code, 2, (some .boolean), 3),
  (zy117, prog_14_method_14_code, 2, (some .boolean), 3),
  (zy118, prog_14_method_15_code, 1, (some .boolean), 3),
  (zy119, prog_14_method_16_code, 1, (some .boolean), 3),
  (zy120, prog_14_method_17_code, 2, (some .boolean), 3),
  (zy121, prog_14_method_18_code, 2, (some .boolean), 4),
  (zy122, prog_14_method_19_code, 2, (some .int), 5),
  (zy123, prog_14_method_20_code, 1, (some .int), 6),
  (zy124, prog_14_method_21_code, 2, (some .int), 6),
  (zy125, prog_14_method_22_code, 2, (some .boolean), 2),
  (zy126, prog_14_method_23_code, 2, (some .boolean), 2),
  (zy127, prog_14_method_24_code, 2, (some .boolean), 2),
  (zy128, prog_14_method_25_code, 1, (some .boolean), 2),
  (zy129, prog_14_method_26_code, 3, (some .int), 3),
  (zy130, prog_14_method_27_code, 11, (some .int), 2),
  (zy131, prog_14_method_28_code, 7, (some .int), 3),
  (zy132, prog_14_method_29_code, 7, (some .int), 4),
  (zy133, prog_14_method_30_code, 4, (some .int), 4),
  (zy134, prog_14_method_31_code, 4, (some .int), 4),
  (zy135, prog_14_method_32_code, 5, (some .int), 3),
  (zy136, prog_14_method_33_code, 6, (some .int), 5),
  (zy137, prog_14_method_34_code, 3, (some .boolean), 3),
  (zy138, prog_14_method_35_code, 7, (some .int), 5),
  (zy139, prog_14_method_36_code, 5, (some .int), 6),
  (zy140, prog_14_method_37_code, 5, (some .int), 1),
  (zy141, prog_14_method_38_code, 3, (some .int), 4),
  (zy142, prog_14_method_39_code, 5, (some .int), 1),
  (zy143, prog_14_method_40_code, 3, (some .int), 3),
  (zy144, prog_14_method_41_code, 4, (some .int), 2),
  (zy145, prog_14_method_42_code, 3, (some .int), 1),
  (zy146, prog_14_method_43_code, 5, (some .long), 2),
  (zy147, prog_14_method_44_code, 4, (some .boolean), 6),
  (zy148, prog_14_method_45_code, 2, none, 7),
  (zy149, prog_14_method_46_code, 4, (some .long), 1),
  (zy150, prog_14_method_47_code, 6, (some .int), 4),
  (zy151, prog_14_method_48_code, 2, (some .int), 1),
  (zy152, prog_14_method_49_code, 2, (some .long), 8),
  (zy153, prog_14_method_50_code, 10, (some .long), 1),
  (zy154, prog_14_method_51_code, 7, (some .long), 8),
  (zy155, prog_14_method_52_code, 3, (some .int), 8),
  (zy156, prog_14_method_53_code, 7, (some .long), 6),
  (zy157, prog_14_method_54_code, 1, (some .int), 1),
  (zy158, prog_14_method_55_code, 12, (some .long), 8),
  (zy159, prog_14_method_56_code, 2, (some .boolean), 5),
  (zy160, prog_14_method_57_code, 4, (some .int), 2),
  (zy161, prog_14_method_58_code, 8, (some .int), 8),
  (zy162, prog_14_method_59_code, 5, (some .long), 6),
  (zy163, prog_14_method_60_code, 8, none, 7),
  (zy164, prog_14_method_61_code, 2, (some .long), 8),
  (zy165, prog_14_method_62_code, 4, (some .int), 5),
  (zy166, prog_14_method_63_code, 8, (some .int), 1),
  (zy167, prog_14_method_64_code, 6, (some .int), 1),
  (zy168, prog_14_method_65_code, 3, (some .int), 3),
  (zy169, prog_14_method_66_code, 4, (some .int), 2),
  (zy170, prog_14_method_67_code, 6, (some .int), 2),
  (zy171, prog_14_method_68_code, 4, none, 1),
  (zy172, prog_14_method_69_code, 1, (some .int), 2),
  (zy173, prog_14_method_70_code, 1, (some .int), 2),
  (zy174, prog_14_method_71_code, 2, (some .int), 1),
  (zy175, prog_15_method_49_code, 1, (some .int), 1),
  (zy176, code, 4, (some .boolean), 9)]
def zM (k : Nat) : MethodName × ByteArray × Nat × Option FieldType × Nat := match zMs[k]? with
  | some q => q
  | none => (zy0, ⟨#[]⟩, 0, none, 0)
def zy (k : Nat) : MethodName := (zM k).1
def zb (k : Nat) : ByteArray := (zM k).2.1
def zml (k : Nat) : Nat := (zM k).2.2.1
def zrt (k : Nat) : Option FieldType := (zM k).2.2.2.1
def zrk (k : Nat) : Nat := (zM k).2.2.2.2
set_option maxRecDepth 100000 in
theorem zcw0 : Cond.code (zy 0) (zb 0) (zml 0) (zrt 0) ∈ zWS := zmW 75 rfl rfl
set_option maxRecDepth 100000 in
theorem zcw1 : Cond.code (zy 1) (zb 1) (zml 1) (zrt 1) ∈ zWS := zmW 611 rfl rfl
set_option maxRecDepth 100000 in
theorem zcw2 : Cond.code (zy 2) (zb 2) (zml 2) (zrt 2) ∈ zWS := zmW 751 rfl rfl
set_option maxRecDepth 100000 in
theorem zcw3 : Cond.code (zy 3) (zb 3) (zml 3) (zrt 3) ∈ zWS := zmW 58 rfl rfl
set_option maxRecDepth 100000 in
theorem zcw4 : Cond.code (zy 4) (zb 4) (zml 4) (zrt 4) ∈ zWS := zmW 353 rfl rfl
set_option maxRecDepth 100000 in
theorem zcw5 : Cond.code (zy 5) (zb 5) (zml 5) (zrt 5) ∈ zWS := zmW 357 rfl rfl
set_option maxRecDepth 100000 in
theorem zcw6 : Cond.code (zy 6) (zb 6) (zml 6) (zrt 6) ∈ zWS := zmW 362 rfl rfl
set_option maxRecDepth 100000 in
theorem zcw7 : Cond.code (zy 7) (zb 7) (zml 7) (zrt 7) ∈ zWS := zmW 546 rfl rfl
set_option maxRecDepth 100000 in
theorem zcw8 : Cond.code (zy 8) (zb 8) (zml 8) (zrt 8) ∈ zWS := zmW 399 rfl rfl
set_option maxRecDepth 100000 in
theorem zcw9 : Cond.code (zy 9) (zb 9) (zml 9) (zrt 9) ∈ zWS := zmW 391 rfl rfl
set_option maxRecDepth 100000 in
theorem zcw10 : Cond.code (zy 10) (zb 10) (zml 10) (zrt 10) ∈ zWS := zmW 394 rfl rfl
set_option maxRecDepth 100000 in
theorem zcw11 : Cond.code (zy 11) (zb 11) (zml 11) (zrt 11) ∈ zWS := zmW 103 rfl rfl
set_option maxRecDepth 100000 in
theorem zcw12 : Cond.code (zy 12) (zb 12) (zml 12) (zrt 12) ∈ zWS := zmW 373 rfl rfl
set_option maxRecDepth 100000 in
theorem zcw13 : Cond.code (zy 13) (zb 13) (zml 13) (zrt 13) ∈ zWS := zmW 383 rfl rfl
set_option maxRecDepth 100000 in
theorem zcw14 : Cond.code (zy 14) (zb 14) (zml 14) (zrt 14) ∈ zWS := zmW 387 rfl rfl
set_option maxRecDepth 100000 in
theorem zcw15 : Cond.code (zy 15) (zb 15) (zml 15) (zrt 15) ∈ zWS := zmW 629 rfl rfl
set_option maxRecDepth 100000 in
theorem zcw16 : Cond.code (zy 16) (zb 16) (zml 16) (zrt 16) ∈ zWS := zmW 640 rfl rfl
set_option maxRecDepth 100000 in
theorem zcw17 : Cond.code (zy 17) (zb 17) (zml 17) (zrt 17) ∈ zWS := zmW 205 rfl rfl
set_option maxRecDepth 100000 in
theorem zcw18 : Cond.code (zy 18) (zb 18) (zml 18) (zrt 18) ∈ zWS := zmW 587 rfl rfl
set_option maxRecDepth 100000 in
theorem zcw19 : Cond.code (zy 19) (zb 19) (zml 19) (zrt 19) ∈ zWS := zmW 583 rfl rfl
set_option maxRecDepth 100000 in
theorem zcw20 : Cond.code (zy 20) (zb 20) (zml 20) (zrt 20) ∈ zWS := zmW 602 rfl rfl
set_option maxRecDepth 100000 in
theorem zcw21 : Cond.code (zy 21) (zb 21) (zml 21) (zrt 21) ∈ zWS := zmW 157 rfl rfl
set_option maxRecDepth 100000 in
theorem zcw22 : Cond.code (zy 22) (zb 22) (zml 22) (zrt 22) ∈ zWS := zmW 339 rfl rfl
set_option maxRecDepth 100000 in
theorem zcw23 : Cond.code (zy 23) (zb 23) (zml 23) (zrt 23) ∈ zWS := zmW 685 rfl rfl
set_option maxRecDepth 100000 in
theorem zcw24 : Cond.code (zy 24) (zb 24) (zml 24) (zrt 24) ∈ zWS := zmW 676 rfl rfl
set_option maxRecDepth 100000 in
theorem zcw25 : Cond.code (zy 25) (zb 25) (zml 25) (zrt 25) ∈ zWS := zmW 694 rfl rfl
set_option maxRecDepth 100000 in
theorem zcw26 : Cond.code (zy 26) (zb 26) (zml 26) (zrt 26) ∈ zWS := zmW 699 rfl rfl
set_option maxRecDepth 100000 in
theorem zcw27 : Cond.code (zy 27) (zb 27) (zml 27) (zrt 27) ∈ zWS := zmW 44 rfl rfl
set_option maxRecDepth 100000 in
theorem zcw28 : Cond.code (zy 28) (zb 28) (zml 28) (zrt 28) ∈ zWS := zmW 464 rfl rfl
set_option maxRecDepth 100000 in
theorem zcw29 : Cond.code (zy 29) (zb 29) (zml 29) (zrt 29) ∈ zWS := zmW 469 rfl rfl
set_option maxRecDepth 100000 in
theorem zcw30 : Cond.code (zy 30) (zb 30) (zml 30) (zrt 30) ∈ zWS := zmW 476 rfl rfl
set_option maxRecDepth 100000 in
theorem zcw31 : Cond.code (zy 31) (zb 31) (zml 31) (zrt 31) ∈ zWS := zmW 480 rfl rfl
set_option maxRecDepth 100000 in
theorem zcw32 : Cond.code (zy 32) (zb 32) (zml 32) (zrt 32) ∈ zWS := zmW 485 rfl rfl
set_option maxRecDepth 100000 in
theorem zcw33 : Cond.code (zy 33) (zb 33) (zml 33) (zrt 33) ∈ zWS := zmW 132 rfl rfl
set_option maxRecDepth 100000 in
theorem zcw34 : Cond.code (zy 34) (zb 34) (zml 34) (zrt 34) ∈ zWS := zmW 648 rfl rfl
set_option maxRecDepth 100000 in
theorem zcw35 : Cond.code (zy 35) (zb 35) (zml 35) (zrt 35) ∈ zWS := zmW 663 rfl rfl
set_option maxRecDepth 100000 in
theorem zcw36 : Cond.code (zy 36) (zb 36) (zml 36) (zrt 36) ∈ zWS := zmW 666 rfl rfl
set_option maxRecDepth 100000 in
theorem zcw37 : Cond.code (zy 37) (zb 37) (zml 37) (zrt 37) ∈ zWS := zmW 653 rfl rfl
set_option maxRecDepth 100000 in
theorem zcw38 : Cond.code (zy 38) (zb 38) (zml 38) (zrt 38) ∈ zWS := zmW 187 rfl rfl
set_option maxRecDepth 100000 in
theorem zcw39 : Cond.code (zy 39) (zb 39) (zml 39) (zrt 39) ∈ zWS := zmW 28 rfl rfl
set_option maxRecDepth 100000 in
theorem zcw40 : Cond.code (zy 40) (zb 40) (zml 40) (zrt 40) ∈ zWS := zmW 448 rfl rfl
set_option maxRecDepth 100000 in
theorem zcw41 : Cond.code (zy 41) (zb 41) (zml 41) (zrt 41) ∈ zWS := zmW 452 rfl rfl
set_option maxRecDepth 100000 in
theorem zcw42 : Cond.code (zy 42) (zb 42) (zml 42) (zrt 42) ∈ zWS := zmW 473 rfl rfl
set_option maxRecDepth 100000 in
theorem zcw43 : Cond.code (zy 43) (zb 43) (zml 43) (zrt 43) ∈ zWS := zmW 252 rfl rfl
set_option maxRecDepth 100000 in
theorem zcw44 : Cond.code (zy 44) (zb 44) (zml 44) (zrt 44) ∈ zWS := zmW 176 rfl rfl
set_option maxRecDepth 100000 in
theorem zcw45 : Cond.code (zy 45) (zb 45) (zml 45) (zrt 45) ∈ zWS := zmW 267 rfl rfl
set_option maxRecDepth 100000 in
theorem zcw46 : Cond.code (zy 46) (zb 46) (zml 46) (zrt 46) ∈ zWS := zmW 323 rfl rfl
set_option maxRecDepth 100000 in
theorem zcw47 : Cond.code (zy 47) (zb 47) (zml 47) (zrt 47) ∈ zWS := zmW 331 rfl rfl
set_option maxRecDepth 100000 in
theorem zcw48 : Cond.code (zy 48) (zb 48) (zml 48) (zrt 48) ∈ zWS := zmW 343 rfl rfl
set_option maxRecDepth 100000 in
theorem zcw49 : Cond.code (zy 49) (zb 49) (zml 49) (zrt 49) ∈ zWS := zmW 554 rfl rfl
set_option maxRecDepth 100000 in
theorem zcw50 : Cond.code (zy 50) (zb 50) (zml 50) (zrt 50) ∈ zWS := zmW 558 rfl rfl
set_option maxRecDepth 100000 in
theorem zcw51 : Cond.code (zy 51) (zb 51) (zml 51) (zrt 51) ∈ zWS := zmW 312 rfl rfl
set_option maxRecDepth 100000 in
theorem zcw52 : Cond.code (zy 52) (zb 52) (zml 52) (zrt 52) ∈ zWS := zmW 319 rfl rfl
set_option maxRecDepth 100000 in
theorem zcw53 : Cond.code (zy 53) (zb 53) (zml 53) (zrt 53) ∈ zWS := zmW 327 rfl rfl
set_option maxRecDepth 100000 in
theorem zcw54 : Cond.code (zy 54) (zb 54) (zml 54) (zrt 54) ∈ zWS := zmW 492 rfl rfl
set_option maxRecDepth 100000 in
theorem zcw55 : Cond.code (zy 55) (zb 55) (zml 55) (zrt 55) ∈ zWS := zmW 496 rfl rfl
set_option maxRecDepth 100000 in
theorem zcw56 : Cond.code (zy 56) (zb 56) (zml 56) (zrt 56) ∈ zWS := zmW 500 rfl rfl
set_option maxRecDepth 100000 in
theorem zcw57 : Cond.code (zy 57) (zb 57) (zml 57) (zrt 57) ∈ zWS := zmW 504 rfl rfl
set_option maxRecDepth 100000 in
theorem zcw58 : Cond.code (zy 58) (zb 58) (zml 58) (zrt 58) ∈ zWS := zmW 508 rfl rfl
set_option maxRecDepth 100000 in
theorem zcw59 : Cond.code (zy 59) (zb 59) (zml 59) (zrt 59) ∈ zWS := zmW 512 rfl rfl
set_option maxRecDepth 100000 in
theorem zcw60 : Cond.code (zy 60) (zb 60) (zml 60) (zrt 60) ∈ zWS := zmW 567 rfl rfl
set_option maxRecDepth 100000 in
theorem zcw61 : Cond.code (zy 61) (zb 61) (zml 61) (zrt 61) ∈ zWS := zmW 571 rfl rfl
set_option maxRecDepth 100000 in
theorem zcw62 : Cond.code (zy 62) (zb 62) (zml 62) (zrt 62) ∈ zWS := zmW 575 rfl rfl
set_option maxRecDepth 100000 in
theorem zcw63 : Cond.code (zy 63) (zb 63) (zml 63) (zrt 63) ∈ zWS := zmW 598 rfl rfl
set_option maxRecDepth 100000 in
theorem zcw64 : Cond.code (zy 64) (zb 64) (zml 64) (zrt 64) ∈ zWS := zmW 379 rfl rfl
set_option maxRecDepth 100000 in
theorem zcw65 : Cond.code (zy 65) (zb 65) (zml 65) (zrt 65) ∈ zWS := zmW 680 rfl rfl
set_option maxRecDepth 100000 in
theorem zcw66 : Cond.code (zy 66) (zb 66) (zml 66) (zrt 66) ∈ zWS := zmW 715 rfl rfl
set_option maxRecDepth 100000 in
theorem zcw67 : Cond.code (zy 67) (zb 67) (zml 67) (zrt 67) ∈ zWS := zmW 719 rfl rfl
set_option maxRecDepth 100000 in
theorem zcw68 : Cond.code (zy 68) (zb 68) (zml 68) (zrt 68) ∈ zWS := zmW 729 rfl rfl
set_option maxRecDepth 100000 in
theorem zcw69 : Cond.code (zy 69) (zb 69) (zml 69) (zrt 69) ∈ zWS := zmW 20 rfl rfl
set_option maxRecDepth 100000 in
theorem zcw70 : Cond.code (zy 70) (zb 70) (zml 70) (zrt 70) ∈ zWS := zmW 444 rfl rfl
set_option maxRecDepth 100000 in
theorem zcw71 : Cond.code (zy 71) (zb 71) (zml 71) (zrt 71) ∈ zWS := zmW 456 rfl rfl
set_option maxRecDepth 100000 in
theorem zcw72 : Cond.code (zy 72) (zb 72) (zml 72) (zrt 72) ∈ zWS := zmW 460 rfl rfl
set_option maxRecDepth 100000 in
theorem zcw73 : Cond.code (zy 73) (zb 73) (zml 73) (zrt 73) ∈ zWS := zmW 516 rfl rfl
set_option maxRecDepth 100000 in
theorem zcw74 : Cond.code (zy 74) (zb 74) (zml 74) (zrt 74) ∈ zWS := zmW 520 rfl rfl
set_option maxRecDepth 100000 in
theorem zcw75 : Cond.code (zy 75) (zb 75) (zml 75) (zrt 75) ∈ zWS := zmW 525 rfl rfl
set_option maxRecDepth 100000 in
theorem zcw76 : Cond.code (zy 76) (zb 76) (zml 76) (zrt 76) ∈ zWS := zmW 536 rfl rfl
set_option maxRecDepth 100000 in
theorem zcw77 : Cond.code (zy 77) (zb 77) (zml 77) (zrt 77) ∈ zWS := zmW 541 rfl rfl
set_option maxRecDepth 100000 in
theorem zcw78 : Cond.code (zy 78) (zb 78) (zml 78) (zrt 78) ∈ zWS := zmW 550 rfl rfl
set_option maxRecDepth 100000 in
theorem zcw79 : Cond.code (zy 79) (zb 79) (zml 79) (zrt 79) ∈ zWS := zmW 563 rfl rfl
set_option maxRecDepth 100000 in
theorem zcw80 : Cond.code (zy 80) (zb 80) (zml 80) (zrt 80) ∈ zWS := zmW 579 rfl rfl
set_option maxRecDepth 100000 in
theorem zcw81 : Cond.code (zy 81) (zb 81) (zml 81) (zrt 81) ∈ zWS := zmW 594 rfl rfl
set_option maxRecDepth 100000 in
theorem zcw82 : Cond.code (zy 82) (zb 82) (zml 82) (zrt 82) ∈ zWS := zmW 607 rfl rfl
set_option maxRecDepth 100000 in
theorem zcw83 : Cond.code (zy 83) (zb 83) (zml 83) (zrt 83) ∈ zWS := zmW 615 rfl rfl
set_option maxRecDepth 100000 in
theorem zcw84 : Cond.code (zy 84) (zb 84) (zml 84) (zrt 84) ∈ zWS := zmW 619 rfl rfl
set_option maxRecDepth 100000 in
theorem zcw85 : Cond.code (zy 85) (zb 85) (zml 85) (zrt 85) ∈ zWS := zmW 624 rfl rfl
set_option maxRecDepth 100000 in
theorem zcw86 : Cond.code (zy 86) (zb 86) (zml 86) (zrt 86) ∈ zWS := zmW 636 rfl rfl
set_option maxRecDepth 100000 in
theorem zcw87 : Cond.code (zy 87) (zb 87) (zml 87) (zrt 87) ∈ zWS := zmW 644 rfl rfl
set_option maxRecDepth 100000 in
theorem zcw88 : Cond.code (zy 88) (zb 88) (zml 88) (zrt 88) ∈ zWS := zmW 672 rfl rfl
set_option maxRecDepth 100000 in
theorem zcw89 : Cond.code (zy 89) (zb 89) (zml 89) (zrt 89) ∈ zWS := zmW 690 rfl rfl
set_option maxRecDepth 100000 in
theorem zcw90 : Cond.code (zy 90) (zb 90) (zml 90) (zrt 90) ∈ zWS := zmW 703 rfl rfl
set_option maxRecDepth 100000 in
theorem zcw91 : Cond.code (zy 91) (zb 91) (zml 91) (zrt 91) ∈ zWS := zmW 711 rfl rfl
set_option maxRecDepth 100000 in
theorem zcw92 : Cond.code (zy 92) (zb 92) (zml 92) (zrt 92) ∈ zWS := zmW 725 rfl rfl
set_option maxRecDepth 100000 in
theorem zcw93 : Cond.code (zy 93) (zb 93) (zml 93) (zrt 93) ∈ zWS := zmW 735 rfl rfl
set_option maxRecDepth 100000 in
theorem zcw94 : Cond.code (zy 94) (zb 94) (zml 94) (zrt 94) ∈ zWS := zmW 739 rfl rfl
set_option maxRecDepth 100000 in
theorem zcw95 : Cond.code (zy 95) (zb 95) (zml 95) (zrt 95) ∈ zWS := zmW 747 rfl rfl
set_option maxRecDepth 100000 in
theorem zcw96 : Cond.code (zy 96) (zb 96) (zml 96) (zrt 96) ∈ zWS := zmW 756 rfl rfl
set_option maxRecDepth 100000 in
theorem zcw97 : Cond.code (zy 97) (zb 97) (zml 97) (zrt 97) ∈ zWS := zmW 760 rfl rfl
set_option maxRecDepth 100000 in
theorem zcw98 : Cond.code (zy 98) (zb 98) (zml 98) (zrt 98) ∈ zWS := zmW 369 rfl rfl
set_option maxRecDepth 100000 in
theorem zcw99 : Cond.code (zy 99) (zb 99) (zml 99) (zrt 99) ∈ zWS := zmW 707 rfl rfl
set_option maxRecDepth 100000 in
theorem zcw100 : Cond.code (zy 100) (zb 100) (zml 100) (zrt 100) ∈ zWS := zmW 315 rfl rfl
set_option maxRecDepth 100000 in
theorem zcw101 : Cond.code (zy 101) (zb 101) (zml 101) (zrt 101) ∈ zWS := zmW 334 rfl rfl
set_option maxRecDepth 100000 in
theorem zcw102 : Cond.code (zy 102) (zb 102) (zml 102) (zrt 102) ∈ zWS := zmW 530 rfl rfl
set_option maxRecDepth 100000 in
theorem zcw103 : Cond.code (zy 103) (zb 103) (zml 103) (zrt 103) ∈ zWS := zmW 632 rfl rfl
set_option maxRecDepth 100000 in
theorem zcw104 : Cond.code (zy 104) (zb 104) (zml 104) (zrt 104) ∈ zWS := zmW 765 rfl rfl
set_option maxRecDepth 100000 in
theorem zcw105 : Cond.code (zy 105) (zb 105) (zml 105) (zrt 105) ∈ zWS := zmW 897 rfl rfl
set_option maxRecDepth 100000 in
theorem zcw106 : Cond.code (zy 106) (zb 106) (zml 106) (zrt 106) ∈ zWS := zmW 999 rfl rfl
set_option maxRecDepth 100000 in
theorem zcw107 : Cond.code (zy 107) (zb 107) (zml 107) (zrt 107) ∈ zWS := zmW 1019 rfl rfl
set_option maxRecDepth 100000 in
theorem zcw108 : Cond.code (zy 108) (zb 108) (zml 108) (zrt 108) ∈ zWS := zmW 774 rfl rfl
set_option maxRecDepth 100000 in
theorem zcw109 : Cond.code (zy 109) (zb 109) (zml 109) (zrt 109) ∈ zWS := zmW 770 rfl rfl
set_option maxRecDepth 100000 in
theorem zcw110 : Cond.code (zy 110) (zb 110) (zml 110) (zrt 110) ∈ zWS := zmW 893 rfl rfl
set_option maxRecDepth 100000 in
theorem zcw111 : Cond.code (zy 111) (zb 111) (zml 111) (zrt 111) ∈ zWS := zmW 902 rfl rfl
set_option maxRecDepth 100000 in
theorem zcw112 : Cond.code (zy 112) (zb 112) (zml 112) (zrt 112) ∈ zWS := zmW 918 rfl rfl
set_option maxRecDepth 100000 in
theorem zcw113 : Cond.code (zy 113) (zb 113) (zml 113) (zrt 113) ∈ zWS := zmW 926 rfl rfl
set_option maxRecDepth 100000 in
theorem zcw114 : Cond.code (zy 114) (zb 114) (zml 114) (zrt 114) ∈ zWS := zmW 950 rfl rfl
set_option maxRecDepth 100000 in
theorem zcw115 : Cond.code (zy 115) (zb 115) (zml 115) (zrt 115) ∈ zWS := zmW 939 rfl rfl
set_option maxRecDepth 100000 in
theorem zcw116 : Cond.code (zy 116) (zb 116) (zml 116) (zrt 116) ∈ zWS := zmW 922 rfl rfl
set_option maxRecDepth 100000 in
theorem zcw117 : Cond.code (zy 117) (zb 117) (zml 117) (zrt 117) ∈ zWS := zmW 935 rfl rfl
set_option maxRecDepth 100000 in
theorem zcw118 : Cond.code (zy 118) (zb 118) (zml 118) (zrt 118) ∈ zWS := zmW 946 rfl rfl
set_option maxRecDepth 100000 in
theorem zcw119 : Cond.code (zy 119) (zb 119) (zml 119) (zrt 119) ∈ zWS := zmW 956 rfl rfl
set_option maxRecDepth 100000 in
theorem zcw120 : Cond.code (zy 120) (zb 120) (zml 120) (zrt 120) ∈ zWS := zmW 960 rfl rfl
set_option maxRecDepth 100000 in
theorem zcw121 : Cond.code (zy 121) (zb 121) (zml 121) (zrt 121) ∈ zWS := zmW 914 rfl rfl
set_option maxRecDepth 100000 in
theorem zcw122 : Cond.code (zy 122) (zb 122) (zml 122) (zrt 122) ∈ zWS := zmW 910 rfl rfl
set_option maxRecDepth 100000 in
theorem zcw123 : Cond.code (zy 123) (zb 123) (zml 123) (zrt 123) ∈ zWS := zmW 906 rfl rfl
set_option maxRecDepth 100000 in
theorem zcw124 : Cond.code (zy 124) (zb 124) (zml 124) (zrt 124) ∈ zWS := zmW 968 rfl rfl
set_option maxRecDepth 100000 in
theorem zcw125 : Cond.code (zy 125) (zb 125) (zml 125) (zrt 125) ∈ zWS := zmW 1008 rfl rfl
set_option maxRecDepth 100000 in
theorem zcw126 : Cond.code (zy 126) (zb 126) (zml 126) (zrt 126) ∈ zWS := zmW 976 rfl rfl
set_option maxRecDepth 100000 in
theorem zcw127 : Cond.code (zy 127) (zb 127) (zml 127) (zrt 127) ∈ zWS := zmW 985 rfl rfl
set_option maxRecDepth 100000 in
theorem zcw128 : Cond.code (zy 128) (zb 128) (zml 128) (zrt 128) ∈ zWS := zmW 988 rfl rfl
set_option maxRecDepth 100000 in
theorem zcw129 : Cond.code (zy 129) (zb 129) (zml 129) (zrt 129) ∈ zWS := zmW 972 rfl rfl
set_option maxRecDepth 100000 in
theorem zcw130 : Cond.code (zy 130) (zb 130) (zml 130) (zrt 130) ∈ zWS := zmW 996 rfl rfl
set_option maxRecDepth 100000 in
theorem zcw131 : Cond.code (zy 131) (zb 131) (zml 131) (zrt 131) ∈ zWS := zmW 992 rfl rfl
set_option maxRecDepth 100000 in
theorem zcw132 : Cond.code (zy 132) (zb 132) (zml 132) (zrt 132) ∈ zWS := zmW 1016 rfl rfl
set_option maxRecDepth 100000 in
theorem zcw133 : Cond.code (zy 133) (zb 133) (zml 133) (zrt 133) ∈ zWS := zmW 1139 rfl rfl
set_option maxRecDepth 100000 in
theorem zcw134 : Cond.code (zy 134) (zb 134) (zml 134) (zrt 134) ∈ zWS := zmW 981 rfl rfl
set_option maxRecDepth 100000 in
theorem zcw135 : Cond.code (zy 135) (zb 135) (zml 135) (zrt 135) ∈ zWS := zmW 1004 rfl rfl
set_option maxRecDepth 100000 in
theorem zcw136 : Cond.code (zy 136) (zb 136) (zml 136) (zrt 136) ∈ zWS := zmW 1012 rfl rfl
set_option maxRecDepth 100000 in
theorem zcw137 : Cond.code (zy 137) (zb 137) (zml 137) (zrt 137) ∈ zWS := zmW 1027 rfl rfl
set_option maxRecDepth 100000 in
theorem zcw138 : Cond.code (zy 138) (zb 138) (zml 138) (zrt 138) ∈ zWS := zmW 1031 rfl rfl
set_option maxRecDepth 100000 in
theorem zcw139 : Cond.code (zy 139) (zb 139) (zml 139) (zrt 139) ∈ zWS := zmW 1023 rfl rfl
set_option maxRecDepth 100000 in
theorem zcw140 : Cond.code (zy 140) (zb 140) (zml 140) (zrt 140) ∈ zWS := zmW 1039 rfl rfl
set_option maxRecDepth 100000 in
theorem zcw141 : Cond.code (zy 141) (zb 141) (zml 141) (zrt 141) ∈ zWS := zmW 1035 rfl rfl
set_option maxRecDepth 100000 in
theorem zcw142 : Cond.code (zy 142) (zb 142) (zml 142) (zrt 142) ∈ zWS := zmW 1047 rfl rfl
set_option maxRecDepth 100000 in
theorem zcw143 : Cond.code (zy 143) (zb 143) (zml 143) (zrt 143) ∈ zWS := zmW 1043 rfl rfl
set_option maxRecDepth 100000 in
theorem zcw144 : Cond.code (zy 144) (zb 144) (zml 144) (zrt 144) ∈ zWS := zmW 1051 rfl rfl
set_option maxRecDepth 100000 in
theorem zcw145 : Cond.code (zy 145) (zb 145) (zml 145) (zrt 145) ∈ zWS := zmW 1071 rfl rfl
set_option maxRecDepth 100000 in
theorem zcw146 : Cond.code (zy 146) (zb 146) (zml 146) (zrt 146) ∈ zWS := zmW 1075 rfl rfl
set_option maxRecDepth 100000 in
theorem zcw147 : Cond.code (zy 147) (zb 147) (zml 147) (zrt 147) ∈ zWS := zmW 1079 rfl rfl
set_option maxRecDepth 100000 in
theorem zcw148 : Cond.code (zy 148) (zb 148) (zml 148) (zrt 148) ∈ zWS := zmW 1068 rfl rfl
set_option maxRecDepth 100000 in
theorem zcw149 : Cond.code (zy 149) (zb 149) (zml 149) (zrt 149) ∈ zWS := zmW 1083 rfl rfl
set_option maxRecDepth 100000 in
theorem zcw150 : Cond.code (zy 150) (zb 150) (zml 150) (zrt 150) ∈ zWS := zmW 1055 rfl rfl
set_option maxRecDepth 100000 in
theorem zcw151 : Cond.code (zy 151) (zb 151) (zml 151) (zrt 151) ∈ zWS := zmW 1059 rfl rfl
set_option maxRecDepth 100000 in
theorem zcw152 : Cond.code (zy 152) (zb 152) (zml 152) (zrt 152) ∈ zWS := zmW 1063 rfl rfl
set_option maxRecDepth 100000 in
theorem zcw153 : Cond.code (zy 153) (zb 153) (zml 153) (zrt 153) ∈ zWS := zmW 1091 rfl rfl
set_option maxRecDepth 100000 in
theorem zcw154 : Cond.code (zy 154) (zb 154) (zml 154) (zrt 154) ∈ zWS := zmW 1087 rfl rfl
set_option maxRecDepth 100000 in
theorem zcw155 : Cond.code (zy 155) (zb 155) (zml 155) (zrt 155) ∈ zWS := zmW 1095 rfl rfl
set_option maxRecDepth 100000 in
theorem zcw156 : Cond.code (zy 156) (zb 156) (zml 156) (zrt 156) ∈ zWS := zmW 1103 rfl rfl
set_option maxRecDepth 100000 in
theorem zcw157 : Cond.code (zy 157) (zb 157) (zml 157) (zrt 157) ∈ zWS := zmW 1106 rfl rfl
set_option maxRecDepth 100000 in
theorem zcw158 : Cond.code (zy 158) (zb 158) (zml 158) (zrt 158) ∈ zWS := zmW 1099 rfl rfl
set_option maxRecDepth 100000 in
theorem zcw159 : Cond.code (zy 159) (zb 159) (zml 159) (zrt 159) ∈ zWS := zmW 1115 rfl rfl
set_option maxRecDepth 100000 in
theorem zcw160 : Cond.code (zy 160) (zb 160) (zml 160) (zrt 160) ∈ zWS := zmW 1119 rfl rfl
set_option maxRecDepth 100000 in
theorem zcw161 : Cond.code (zy 161) (zb 161) (zml 161) (zrt 161) ∈ zWS := zmW 1110 rfl rfl
set_option maxRecDepth 100000 in
theorem zcw162 : Cond.code (zy 162) (zb 162) (zml 162) (zrt 162) ∈ zWS := zmW 1131 rfl rfl
set_option maxRecDepth 100000 in
theorem zcw163 : Cond.code (zy 163) (zb 163) (zml 163) (zrt 163) ∈ zWS := zmW 1127 rfl rfl
set_option maxRecDepth 100000 in
theorem zcw164 : Cond.code (zy 164) (zb 164) (zml 164) (zrt 164) ∈ zWS := zmW 1123 rfl rfl
set_option maxRecDepth 100000 in
theorem zcw165 : Cond.code (zy 165) (zb 165) (zml 165) (zrt 165) ∈ zWS := zmW 1135 rfl rfl
set_option maxRecDepth 100000 in
theorem zcw166 : Cond.code (zy 166) (zb 166) (zml 166) (zrt 166) ∈ zWS := zmW 1143 rfl rfl
set_option maxRecDepth 100000 in
theorem zcw167 : Cond.code (zy 167) (zb 167) (zml 167) (zrt 167) ∈ zWS := zmW 1152 rfl rfl
set_option maxRecDepth 100000 in
theorem zcw168 : Cond.code (zy 168) (zb 168) (zml 168) (zrt 168) ∈ zWS := zmW 1148 rfl rfl
set_option maxRecDepth 100000 in
theorem zcw169 : Cond.code (zy 169) (zb 169) (zml 169) (zrt 169) ∈ zWS := zmW 1158 rfl rfl
set_option maxRecDepth 100000 in
theorem zcw170 : Cond.code (zy 170) (zb 170) (zml 170) (zrt 170) ∈ zWS := zmW 1162 rfl rfl
set_option maxRecDepth 100000 in
theorem zcw171 : Cond.code (zy 171) (zb 171) (zml 171) (zrt 171) ∈ zWS := zmW 1174 rfl rfl
set_option maxRecDepth 100000 in
theorem zcw172 : Cond.code (zy 172) (zb 172) (zml 172) (zrt 172) ∈ zWS := zmW 1170 rfl rfl
set_option maxRecDepth 100000 in
theorem zcw173 : Cond.code (zy 173) (zb 173) (zml 173) (zrt 173) ∈ zWS := zmW 1178 rfl rfl
set_option maxRecDepth 100000 in
theorem zcw174 : Cond.code (zy 174) (zb 174) (zml 174) (zrt 174) ∈ zWS := zmW 1182 rfl rfl
set_option maxRecDepth 100000 in
theorem zcw175 : Cond.code (zy 175) (zb 175) (zml 175) (zrt 175) ∈ zWS := zmW 346 rfl rfl
