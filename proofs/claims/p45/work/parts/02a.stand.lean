-- what the tables of the pure machine stand for: names, bytes, field tables, words; all held by the kernel
noncomputable def mnL : List MethodName := [⟨"CommaStreamLaw", "law", "([I)Z"⟩, ⟨"CommaStreamLaw", "cell", "([II)I"⟩, ⟨"CommaStreamLaw", "act", "(LCommaStream;LCommaStreamLaw$Sim;I)Z"⟩, ⟨"CommaStreamLaw", "below", "(II)I"⟩, ⟨"CommaStreamLaw", "build", "(LCommaStream;[I)LCommaStreamLaw$Sim;"⟩, ⟨"CommaStreamLaw", "say", "(LCommaStream;Ljava/lang/String;)I"⟩, ⟨"CommaStreamLaw", "inAll", "(LCommaStream;I)I"⟩, ⟨"CommaStream", "<init>", "()V"⟩, ⟨"CommaStream", "commas", "()I"⟩, ⟨"CommaStream", "phase", "()I"⟩, ⟨"CommaStream", "allowance", "()I"⟩, ⟨"CommaStream", "at", "([II)I"⟩, ⟨"CommaStream", "greatestHour", "()I"⟩, ⟨"CommaStream", "watermark", "()I"⟩, ⟨"CommaStream", "lateInAll", "()I"⟩, ⟨"CommaStream", "tellings", "()I"⟩, ⟨"CommaStream", "isIn", "(II)Z"⟩, ⟨"CommaStream", "requireFlock", "(I)V"⟩, ⟨"CommaStream", "requireComma", "(I)V"⟩, ⟨"CommaStream", "takes", "(II)Z"⟩, ⟨"CommaStream", "sizeOf", "(I)I"⟩, ⟨"CommaStream", "latestIn", "(I)I"⟩, ⟨"CommaStream", "flockOf", "(I)I"⟩, ⟨"CommaStream", "requireGoose", "(I)V"⟩, ⟨"CommaStream", "countedGeese", "()I"⟩, ⟨"CommaStream", "lateFor", "(I)I"⟩, ⟨"CommaStream", "openWindows", "(I)I"⟩, ⟨"CommaStream", "openStart", "(II)I"⟩, ⟨"CommaStream", "requireWindow", "(II)V"⟩, ⟨"CommaStream", "openEnd", "(II)I"⟩, ⟨"CommaStream", "openCount", "(II)I"⟩, ⟨"CommaStream", "openValue", "(II)I"⟩, ⟨"CommaStream", "tellingGoose", "(I)I"⟩, ⟨"CommaStream", "requireTelling", "(I)V"⟩, ⟨"CommaStream", "tellingStart", "(I)I"⟩, ⟨"CommaStream", "tellingEnd", "(I)I"⟩, ⟨"CommaStream", "tellingCount", "(I)I"⟩, ⟨"CommaStream", "fullestTelling", "()I"⟩, ⟨"CommaStream", "flocks", "()I"⟩, ⟨"CommaStream", "geese", "()I"⟩, ⟨"CommaStream", "nights", "()I"⟩, ⟨"CommaStream", "hourOf", "(I)I"⟩, ⟨"CommaStream", "flocksOf", "(I)I"⟩, ⟨"CommaStream", "tellingValue", "(I)I"⟩, ⟨"CommaStream", "meanCount", "()D"⟩, ⟨"CommaStream", "passNights", "(I)I"⟩, ⟨"CommaStream", "watermarkBehind", "(II)I"⟩, ⟨"CommaStream", "tellWhatIsOver", "()V"⟩, ⟨"CommaStream", "comma", "(IIII)I"⟩, ⟨"CommaStream", "isComma", "(IIII)Z"⟩, ⟨"CommaStream", "isHour", "(I)Z"⟩, ⟨"CommaStream", "countInGeese", "()V"⟩, ⟨"CommaStream", "feed", "(IIIII)I"⟩, ⟨"CommaStream", "trim", "(I)I"⟩, ⟨"CommaStream", "teach", "()I"⟩, ⟨"CommaStream", "beginAnew", "()V"⟩, ⟨"CommaStream", "errorAt", "()I"⟩, ⟨"CommaStream$Book", "<init>", "()V"⟩, ⟨"CommaStream$Book", "phaseIn", "(I)I"⟩, ⟨"CommaStream$Book", "allowanceIn", "(I)I"⟩, ⟨"CommaStream$Book", "judge", "(LCommaStream$Comma;)V"⟩, ⟨"CommaStream$Book", "valueFor", "(LCommaStream$Goose;LCommaStream$Comma;)I"⟩, ⟨"CommaStream$Book", "clear", "()V"⟩, ⟨"CommaStream$Book", "addPhase", "(I)V"⟩, ⟨"CommaStream$Book", "addFlock", "(II)V"⟩, ⟨"CommaStream$Comma", "<init>", "()V"⟩, ⟨"CommaStream$Comma", "become", "(IIII)V"⟩, ⟨"CommaStream$Goose", "<init>", "()V"⟩, ⟨"CommaStream$Goose", "isLate", "(II)Z"⟩, ⟨"CommaStream$Goose", "lastStart", "(I)I"⟩, ⟨"CommaStream$Goose", "joined", "(II)I"⟩, ⟨"CommaStream$Program", "<init>", "()V"⟩, ⟨"CommaStream$Program", "run", "(IILCommaStream$Comma;)I"⟩, ⟨"CommaStream$Program", "obey", "(LCommaStream$Kind;ILCommaStream$Comma;)V"⟩, ⟨"CommaStream$Program", "push", "(I)V"⟩, ⟨"CommaStream$Program", "pop", "()I"⟩, ⟨"CommaStream$Program", "joined", "(LCommaStream$Kind;II)I"⟩, ⟨"CommaStream$Program", "add", "(LCommaStream$Kind;I)V"⟩, ⟨"CommaStream$Tape", "<init>", "()V"⟩, ⟨"CommaStream$Tape", "append", "(I)V"⟩, ⟨"CommaStream$Tape", "byteAt", "(I)I"⟩, ⟨"CommaStream$Tape", "stands", "(Ljava/lang/String;II)Z"⟩, ⟨"CommaStream$Tape", "numberIn", "(II)I"⟩, ⟨"CommaStream$Tape", "wordIn", "(II)J"⟩, ⟨"CommaStream$Teacher", "<init>", "()V"⟩, ⟨"CommaStream$Teacher", "read", "()V"⟩, ⟨"CommaStream$Teacher", "readMoon", "()Z"⟩, ⟨"CommaStream$Teacher", "readPhase", "()Z"⟩, ⟨"CommaStream$Teacher", "note", "(ZI)V"⟩, ⟨"CommaStream$Teacher", "readLine", "()Z"⟩, ⟨"CommaStream$Teacher", "readFlock", "()Z"⟩, ⟨"CommaStream$Teacher", "readNewName", "(Z)Z"⟩, ⟨"CommaStream$Teacher", "isTold", "(J)Z"⟩, ⟨"CommaStream$Teacher", "placeIn", "([JIJ)I"⟩, ⟨"CommaStream$Teacher", "readTest", "(I)Z"⟩, ⟨"CommaStream$Teacher", "readBoth", "(I)Z"⟩, ⟨"CommaStream$Teacher", "readSingle", "(I)Z"⟩, ⟨"CommaStream$Teacher", "readKept", "(I)Z"⟩, ⟨"CommaStream$Teacher", "flockHere", "()I"⟩, ⟨"CommaStream$Teacher", "readFlockName", "(I)Z"⟩, ⟨"CommaStream$Teacher", "readValue", "(I)Z"⟩, ⟨"CommaStream$Teacher", "readProduct", "(I)Z"⟩, ⟨"CommaStream$Teacher", "readAtom", "(I)Z"⟩, ⟨"CommaStream$Teacher", "isOperand", "(LCommaStream$Kind;)Z"⟩, ⟨"CommaStream$Teacher", "isOrder", "(LCommaStream$Kind;)Z"⟩, ⟨"CommaStream$Teacher", "readGoose", "()Z"⟩, ⟨"CommaStream$Teacher", "readWindow", "(LCommaStream$Goose;)Z"⟩, ⟨"CommaStream$Teacher", "readStep", "(LCommaStream$Goose;)Z"⟩, ⟨"CommaStream$Teacher", "readTelling", "(LCommaStream$Goose;)Z"⟩, ⟨"CommaStream$Tellings", "<init>", "()V"⟩, ⟨"CommaStream$Tellings", "add", "(IIIII)V"⟩, ⟨"CommaStream$Tellings", "grow", "()V"⟩, ⟨"CommaStream$Tokens", "<init>", "()V"⟩, ⟨"CommaStream$Tokens", "cut", "()V"⟩, ⟨"CommaStream$Tokens", "behindBlanks", "(I)I"⟩, ⟨"CommaStream$Tokens", "isBlank", "(I)Z"⟩, ⟨"CommaStream$Tokens", "behindToken", "(I)I"⟩, ⟨"CommaStream$Tokens", "isLetter", "(I)Z"⟩, ⟨"CommaStream$Tokens", "isDigit", "(I)Z"⟩, ⟨"CommaStream$Tokens", "kindOf", "(II)LCommaStream$Kind;"⟩, ⟨"CommaStream$Tokens", "add", "(LCommaStream$Kind;II)V"⟩, ⟨"CommaStream$Tokens", "skip", "(LCommaStream$Kind;)Z"⟩, ⟨"CommaStream$Tokens", "number", "()I"⟩, ⟨"CommaStream$Tokens", "kind", "()LCommaStream$Kind;"⟩, ⟨"CommaStream$Tokens", "word", "()J"⟩, ⟨"CommaStream$Windows", "<init>", "()V"⟩, ⟨"CommaStream$Windows", "tell", "(IILCommaStream$Tellings;)V"⟩, ⟨"CommaStream$Windows", "move", "(II)V"⟩, ⟨"CommaStream$Windows", "set", "(IIIII)V"⟩, ⟨"CommaStream$Windows", "countWithGap", "(LCommaStream$Goose;II)V"⟩, ⟨"CommaStream$Windows", "insert", "(IIII)V"⟩, ⟨"CommaStream$Windows", "placeFor", "(I)I"⟩, ⟨"CommaStream$Windows", "countEvery", "(LCommaStream$Goose;III)V"⟩, ⟨"CommaStream$Windows", "countIn", "(LCommaStream$Goose;II)V"⟩, ⟨"CommaStream$Windows", "clear", "()V"⟩, ⟨"CommaStreamLaw$Book", "<init>", "([I)V"⟩, ⟨"CommaStreamLaw$Book", "write", "()V"⟩, ⟨"CommaStreamLaw$Book", "draw", "(I)I"⟩, ⟨"CommaStreamLaw$Book", "test", "(I)LCommaStreamLaw$Tree;"⟩, ⟨"CommaStreamLaw$Book", "both", "(I)LCommaStreamLaw$Tree;"⟩, ⟨"CommaStreamLaw$Book", "single", "(I)LCommaStreamLaw$Tree;"⟩, ⟨"CommaStreamLaw$Book", "add", "(Ljava/lang/String;)V"⟩, ⟨"CommaStreamLaw$Book", "kept", "(I)LCommaStreamLaw$Tree;"⟩, ⟨"CommaStreamLaw$Book", "isShort", "()Z"⟩, ⟨"CommaStreamLaw$Book", "value", "(I)LCommaStreamLaw$Tree;"⟩, ⟨"CommaStreamLaw$Book", "product", "(I)LCommaStreamLaw$Tree;"⟩, ⟨"CommaStreamLaw$Book", "atom", "(I)LCommaStreamLaw$Tree;"⟩, ⟨"CommaStreamLaw$Sim", "isSame", "(LCommaStream;)Z"⟩, ⟨"CommaStreamLaw$Sim", "allowance", "()I"⟩, ⟨"CommaStreamLaw$Sim", "value", "([I)I"⟩, ⟨"CommaStreamLaw$Sim", "pass", "(I)I"⟩, ⟨"CommaStreamLaw$Sim", "tell", "()I"⟩, ⟨"CommaStreamLaw$Sim", "with", "([[I[I)[[I"⟩, ⟨"CommaStreamLaw$Sim", "without", "([[II)[[I"⟩, ⟨"CommaStreamLaw$Sim", "comma", "([I)I"⟩, ⟨"CommaStreamLaw$Sim", "takers", "([I)[Z"⟩, ⟨"CommaStreamLaw$Sim", "put", "([I)V"⟩, ⟨"CommaStreamLaw$Sim", "<init>", "(LCommaStreamLaw$Book;)V"⟩, ⟨"CommaStreamLaw$Tree", "of", "([I[Z)I"⟩, ⟨"CommaStreamLaw$Tree", "<init>", "(IILCommaStreamLaw$Tree;LCommaStreamLaw$Tree;)V"⟩, ⟨"java/lang/String", "length", "()I"⟩, ⟨"java/lang/String", "coder", "()B"⟩, ⟨"java/lang/String", "getBytes", "([BIB)V"⟩, ⟨"java/lang/String", "<init>", "(Ljava/lang/StringBuilder;)V"⟩, ⟨"java/lang/String", "<init>", "(Ljava/lang/AbstractStringBuilder;Ljava/lang/Void;)V"⟩, ⟨"java/lang/String", "checkIndex", "(II)V"⟩, ⟨"java/lang/String", "charAt", "(I)C"⟩, ⟨"java/lang/String", "isLatin1", "()Z"⟩, ⟨"java/lang/StringBuilder", "<init>", "()V"⟩, ⟨"java/lang/StringBuilder", "append", "(Ljava/lang/String;)Ljava/lang/StringBuilder;"⟩, ⟨"java/lang/StringBuilder", "toString", "()Ljava/lang/String;"⟩, ⟨"java/lang/StringBuilder", "length", "()I"⟩, ⟨"java/lang/StringBuilder", "append", "(I)Ljava/lang/StringBuilder;"⟩, ⟨"java/lang/StringBuilder", "append", "(C)Ljava/lang/StringBuilder;"⟩, ⟨"java/lang/AbstractStringBuilder", "<init>", "(I)V"⟩, ⟨"java/lang/AbstractStringBuilder", "append", "(Ljava/lang/String;)Ljava/lang/AbstractStringBuilder;"⟩, ⟨"java/lang/AbstractStringBuilder", "ensureCapacityInternal", "(I)V"⟩, ⟨"java/lang/AbstractStringBuilder", "newCapacity", "(I)I"⟩, ⟨"java/lang/AbstractStringBuilder", "isLatin1", "()Z"⟩, ⟨"java/lang/AbstractStringBuilder", "putStringAt", "(ILjava/lang/String;)V"⟩, ⟨"java/lang/AbstractStringBuilder", "inflateIfNeededFor", "(Ljava/lang/String;)V"⟩, ⟨"java/lang/AbstractStringBuilder", "getValue", "()[B"⟩, ⟨"java/lang/AbstractStringBuilder", "length", "()I"⟩, ⟨"java/lang/AbstractStringBuilder", "append", "(I)Ljava/lang/AbstractStringBuilder;"⟩, ⟨"java/lang/AbstractStringBuilder", "append", "(C)Ljava/lang/AbstractStringBuilder;"⟩, ⟨"java/lang/StringLatin1", "canEncode", "(C)Z"⟩, ⟨"java/lang/StringLatin1", "charAt", "([BI)C"⟩, ⟨"jdk/internal/util/Preconditions", "checkIndex", "(IILjava/util/function/BiFunction;)I"⟩, ⟨"java/lang/Enum", "ordinal", "()I"⟩, ⟨"java/lang/Integer", "bitCount", "(I)I"⟩, ⟨"java/lang/Integer", "stringSize", "(I)I"⟩, ⟨"java/lang/Integer", "getChars", "(II[B)I"⟩, ⟨"java/lang/Math", "min", "(II)I"⟩, ⟨"java/lang/Math", "max", "(II)I"⟩, ⟨"java/util/Arrays", "copyOf", "([II)[I"⟩, ⟨"java/util/Arrays", "copyOf", "([BI)[B"⟩, ⟨"java/util/Arrays", "copyOfRange", "([BII)[B"⟩, ⟨"java/util/Arrays", "copyOfRangeByte", "([BII)[B"⟩, ⟨"java/util/Arrays", "checkLength", "(II)V"⟩, ⟨"jdk/internal/util/ArraysSupport", "newLength", "(III)I"⟩]
noncomputable def mbL : List ByteArray := [code, method_3_code, method_5_code, method_2_code, method_6_code, method_4_code, method_8_code, prog_1_method_1_code, prog_1_method_11_code, prog_1_method_13_code, prog_1_method_14_code, prog_1_method_61_code, prog_1_method_15_code, prog_1_method_16_code, prog_1_method_17_code, prog_1_method_18_code, prog_1_method_21_code, prog_1_method_54_code, prog_1_method_53_code, prog_1_method_60_code, prog_1_method_22_code, prog_1_method_23_code, prog_1_method_24_code, prog_1_method_55_code, prog_1_method_49_code, prog_1_method_25_code, prog_1_method_26_code, prog_1_method_27_code, prog_1_method_56_code, prog_1_method_28_code, prog_1_method_29_code, prog_1_method_30_code, prog_1_method_31_code, prog_1_method_57_code, prog_1_method_32_code, prog_1_method_33_code, prog_1_method_34_code, prog_1_method_36_code, prog_1_method_9_code, prog_1_method_10_code, prog_1_method_12_code, prog_1_method_19_code, prog_1_method_20_code, prog_1_method_35_code, prog_1_method_42_code, prog_1_method_7_code, prog_1_method_47_code, prog_1_method_46_code, prog_1_method_6_code, prog_1_method_59_code, prog_1_method_58_code, prog_1_method_45_code, prog_1_method_2_code, prog_1_method_3_code, prog_1_method_4_code, prog_1_method_44_code, prog_1_method_5_code, prog_3_method_1_code, prog_3_method_5_code, prog_3_method_6_code, prog_3_method_7_code, prog_3_method_8_code, prog_3_method_2_code, prog_3_method_3_code, prog_3_method_4_code, prog_4_method_1_code, prog_4_method_2_code, prog_5_method_1_code, prog_5_method_3_code, prog_5_method_2_code, prog_5_method_4_code, prog_7_method_1_code, prog_7_method_3_code, prog_7_method_4_code, prog_7_method_6_code, prog_7_method_7_code, prog_7_method_5_code, prog_7_method_2_code, prog_8_method_1_code, prog_8_method_2_code, prog_8_method_3_code, prog_8_method_6_code, prog_8_method_4_code, prog_8_method_5_code, prog_9_method_1_code, prog_9_method_2_code, prog_9_method_4_code, prog_9_method_5_code, prog_9_method_3_code, prog_9_method_6_code, prog_9_method_7_code, prog_9_method_9_code, prog_9_method_10_code, prog_9_method_12_code, prog_9_method_17_code, prog_9_method_18_code, prog_9_method_19_code, prog_9_method_20_code, prog_9_method_11_code, prog_9_method_13_code, prog_9_method_21_code, prog_9_method_22_code, prog_9_method_23_code, prog_9_method_25_code, prog_9_method_24_code, prog_9_method_8_code, prog_9_method_14_code, prog_9_method_15_code, prog_9_method_16_code, prog_10_method_1_code, prog_10_method_2_code, prog_10_method_3_code, prog_11_method_1_code, prog_11_method_2_code, prog_11_method_3_code, prog_11_method_11_code, prog_11_method_4_code, prog_11_method_12_code, prog_11_method_13_code, prog_11_method_5_code, prog_11_method_6_code, prog_11_method_10_code, prog_11_method_8_code, prog_11_method_7_code, prog_11_method_9_code, prog_12_method_1_code, prog_12_method_6_code, prog_12_method_11_code, prog_12_method_12_code, prog_12_method_5_code, prog_12_method_10_code, prog_12_method_9_code, prog_12_method_3_code, prog_12_method_4_code, prog_12_method_2_code, prog_14_method_1_code, prog_14_method_12_code, prog_14_method_2_code, prog_14_method_11_code, prog_14_method_10_code, prog_14_method_9_code, prog_14_method_3_code, prog_14_method_8_code, prog_14_method_4_code, prog_14_method_7_code, prog_14_method_6_code, prog_14_method_5_code, prog_15_method_12_code, prog_15_method_5_code, prog_15_method_10_code, prog_15_method_9_code, prog_15_method_8_code, prog_15_method_2_code, prog_15_method_3_code, prog_15_method_7_code, prog_15_method_4_code, prog_15_method_6_code, prog_15_method_1_code, prog_16_method_2_code, prog_16_method_1_code, prog_29_method_54_code, prog_29_method_152_code, prog_29_method_147_code, prog_29_method_53_code, prog_29_method_150_code, prog_29_method_155_code, prog_29_method_56_code, prog_29_method_154_code, prog_30_method_1_code, prog_30_method_7_code, prog_30_method_42_code, prog_30_method_93_code, prog_30_method_15_code, prog_30_method_14_code, prog_18_method_2_code, prog_18_method_22_code, prog_18_method_9_code, prog_18_method_10_code, prog_18_method_68_code, prog_18_method_73_code, prog_18_method_71_code, prog_18_method_64_code, prog_18_method_6_code, prog_18_method_32_code, prog_18_method_31_code, prog_31_method_3_code, prog_31_method_2_code, prog_37_method_11_code, prog_20_method_2_code, prog_25_method_49_code, prog_25_method_13_code, prog_25_method_12_code, prog_26_method_69_code, prog_26_method_65_code, prog_35_method_123_code, prog_35_method_121_code, prog_35_method_132_code, prog_35_method_133_code, prog_35_method_131_code, prog_36_method_27_code]
noncomputable def mrL : List (Option FieldType) := [ret, (Option.some FieldType.int), (Option.some FieldType.boolean), (Option.some FieldType.int), (Option.some (FieldType.object "CommaStreamLaw$Sim")), (Option.some FieldType.int), (Option.some FieldType.int), (none), (Option.some FieldType.int), (Option.some FieldType.int), (Option.some FieldType.int), (Option.some FieldType.int), (Option.some FieldType.int), (Option.some FieldType.int), (Option.some FieldType.int), (Option.some FieldType.int), (Option.some FieldType.boolean), (none), (none), (Option.some FieldType.boolean), (Option.some FieldType.int), (Option.some FieldType.int), (Option.some FieldType.int), (none), (Option.some FieldType.int), (Option.some FieldType.int), (Option.some FieldType.int), (Option.some FieldType.int), (none), (Option.some FieldType.int), (Option.some FieldType.int), (Option.some FieldType.int), (Option.some FieldType.int), (none), (Option.some FieldType.int), (Option.some FieldType.int), (Option.some FieldType.int), (Option.some FieldType.int), (Option.some FieldType.int), (Option.some FieldType.int), (Option.some FieldType.int), (Option.some FieldType.int), (Option.some FieldType.int), (Option.some FieldType.int), (Option.some FieldType.double), (Option.some FieldType.int), (Option.some FieldType.int), (none), (Option.some FieldType.int), (Option.some FieldType.boolean), (Option.some FieldType.boolean), (none), (Option.some FieldType.int), (Option.some FieldType.int), (Option.some FieldType.int), (none), (Option.some FieldType.int), (none), (Option.some FieldType.int), (Option.some FieldType.int), (none), (Option.some FieldType.int), (none), (none), (none), (none), (none), (none), (Option.some FieldType.boolean), (Option.some FieldType.int), (Option.some FieldType.int), (none), (Option.some FieldType.int), (none), (none), (Option.some FieldType.int), (Option.some FieldType.int), (none), (none), (none), (Option.some FieldType.int), (Option.some FieldType.boolean), (Option.some FieldType.int), (Option.some FieldType.long), (none), (none), (Option.some FieldType.boolean), (Option.some FieldType.boolean), (none), (Option.some FieldType.boolean), (Option.some FieldType.boolean), (Option.some FieldType.boolean), (Option.some FieldType.boolean), (Option.some FieldType.int), (Option.some FieldType.boolean), (Option.some FieldType.boolean), (Option.some FieldType.boolean), (Option.some FieldType.boolean), (Option.some FieldType.int), (Option.some FieldType.boolean), (Option.some FieldType.boolean), (Option.some FieldType.boolean), (Option.some FieldType.boolean), (Option.some FieldType.boolean), (Option.some FieldType.boolean), (Option.some FieldType.boolean), (Option.some FieldType.boolean), (Option.some FieldType.boolean), (Option.some FieldType.boolean), (none), (none), (none), (none), (none), (Option.some FieldType.int), (Option.some FieldType.boolean), (Option.some FieldType.int), (Option.some FieldType.boolean), (Option.some FieldType.boolean), (Option.some (FieldType.object "CommaStream$Kind")), (none), (Option.some FieldType.boolean), (Option.some FieldType.int), (Option.some (FieldType.object "CommaStream$Kind")), (Option.some FieldType.long), (none), (none), (none), (none), (none), (none), (Option.some FieldType.int), (none), (none), (none), (none), (none), (Option.some FieldType.int), (Option.some (FieldType.object "CommaStreamLaw$Tree")), (Option.some (FieldType.object "CommaStreamLaw$Tree")), (Option.some (FieldType.object "CommaStreamLaw$Tree")), (none), (Option.some (FieldType.object "CommaStreamLaw$Tree")), (Option.some FieldType.boolean), (Option.some (FieldType.object "CommaStreamLaw$Tree")), (Option.some (FieldType.object "CommaStreamLaw$Tree")), (Option.some (FieldType.object "CommaStreamLaw$Tree")), (Option.some FieldType.boolean), (Option.some FieldType.int), (Option.some FieldType.int), (Option.some FieldType.int), (Option.some FieldType.int), (Option.some (FieldType.array (FieldType.array FieldType.int))), (Option.some (FieldType.array (FieldType.array FieldType.int))), (Option.some FieldType.int), (Option.some (FieldType.array FieldType.boolean)), (none), (none), (Option.some FieldType.int), (none), (Option.some FieldType.int), (Option.some FieldType.byte), (none), (none), (none), (none), (Option.some FieldType.char), (Option.some FieldType.boolean), (none), (Option.some (FieldType.object "java/lang/StringBuilder")), (Option.some (FieldType.object "java/lang/String")), (Option.some FieldType.int), (Option.some (FieldType.object "java/lang/StringBuilder")), (Option.some (FieldType.object "java/lang/StringBuilder")), (none), (Option.some (FieldType.object "java/lang/AbstractStringBuilder")), (none), (Option.some FieldType.int), (Option.some FieldType.boolean), (none), (none), (Option.some (FieldType.array FieldType.byte)), (Option.some FieldType.int), (Option.some (FieldType.object "java/lang/AbstractStringBuilder")), (Option.some (FieldType.object "java/lang/AbstractStringBuilder")), (Option.some FieldType.boolean), (Option.some FieldType.char), (Option.some FieldType.int), (Option.some FieldType.int), (Option.some FieldType.int), (Option.some FieldType.int), (Option.some FieldType.int), (Option.some FieldType.int), (Option.some FieldType.int), (Option.some (FieldType.array FieldType.int)), (Option.some (FieldType.array FieldType.byte)), (Option.some (FieldType.array FieldType.byte)), (Option.some (FieldType.array FieldType.byte)), (none), (Option.some FieldType.int)]
noncomputable def mn (m : Nat) : MethodName := mnL.getD (m - 25) ⟨"", "", ""⟩
noncomputable def mb (m : Nat) : ByteArray := mbL.getD (m - 25) ⟨#[]⟩
noncomputable def mrt (m : Nat) : Option FieldType := mrL.getD (m - 25) none
noncomputable def mhh (m : Nat) : List (Nat × Nat × Nat × Nat) := []
noncomputable def cnm (k : Nat) : String := cnL.getD k ""
noncomputable def ftL : List (List (String × String × String × Bool)) := [[], [("CommaStream", "tape", "LCommaStream$Tape;", true), ("CommaStream", "teacher", "LCommaStream$Teacher;", true), ("CommaStream", "probe", "LCommaStream$Comma;", true), ("CommaStream", "hours", "[I", true), ("CommaStream", "takers", "[I", true), ("CommaStream", "windows", "[LCommaStream$Windows;", true), ("CommaStream", "told", "LCommaStream$Tellings;", true), ("CommaStream", "book", "LCommaStream$Book;", false), ("CommaStream", "commas", "I", false), ("CommaStream", "nights", "I", false), ("CommaStream", "greatestHour", "I", false), ("CommaStream", "watermark", "I", false)], [("CommaStream$Book", "allowances", "[I", true), ("CommaStream$Book", "testFrom", "[I", true), ("CommaStream$Book", "testTo", "[I", true), ("CommaStream$Book", "geese", "[LCommaStream$Goose;", true), ("CommaStream$Book", "program", "LCommaStream$Program;", true), ("CommaStream$Book", "phases", "I", false), ("CommaStream$Book", "flockCount", "I", false), ("CommaStream$Book", "gooseCount", "I", false)], [("CommaStream$Comma", "hour", "I", false), ("CommaStream$Comma", "kind", "I", false), ("CommaStream$Comma", "weight", "I", false), ("CommaStream$Comma", "wing", "I", false), ("CommaStream$Comma", "takers", "I", false)], [("CommaStream$Goose", "flock", "I", false), ("CommaStream$Goose", "gap", "Z", false), ("CommaStream$Goose", "length", "I", false), ("CommaStream$Goose", "step", "I", false), ("CommaStream$Goose", "telling", "LCommaStream$Kind;", false), ("CommaStream$Goose", "from", "I", false), ("CommaStream$Goose", "to", "I", false)], [("CommaStream$Program", "commands", "[LCommaStream$Kind;", true), ("CommaStream$Program", "numbers", "[I", true), ("CommaStream$Program", "stack", "[I", true), ("CommaStream$Program", "size", "I", false), ("CommaStream$Program", "depth", "I", false)], [("CommaStream$Tape", "bytes", "[B", true), ("CommaStream$Tape", "length", "I", false)], [("CommaStream$Teacher", "tokens", "LCommaStream$Tokens;", true), ("CommaStream$Teacher", "flockNames", "[J", true), ("CommaStream$Teacher", "gooseNames", "[J", true), ("CommaStream$Teacher", "unwanted", "LCommaStream$Goose;", true), ("CommaStream$Teacher", "book", "LCommaStream$Book;", false), ("CommaStream$Teacher", "error", "I", false), ("CommaStream$Teacher", "errorToken", "I", false), ("CommaStream$Teacher", "errorAt", "I", false)], [("CommaStream$Tellings", "geese", "[I", false), ("CommaStream$Tellings", "starts", "[I", false), ("CommaStream$Tellings", "ends", "[I", false), ("CommaStream$Tellings", "counts", "[I", false), ("CommaStream$Tellings", "values", "[I", false), ("CommaStream$Tellings", "size", "I", false)], [("CommaStream$Tokens", "tape", "LCommaStream$Tape;", true), ("CommaStream$Tokens", "kinds", "[LCommaStream$Kind;", true), ("CommaStream$Tokens", "starts", "[I", true), ("CommaStream$Tokens", "numbers", "[I", true), ("CommaStream$Tokens", "words", "[J", true), ("CommaStream$Tokens", "size", "I", false), ("CommaStream$Tokens", "here", "I", false)], [("CommaStream$Windows", "starts", "[I", true), ("CommaStream$Windows", "ends", "[I", true), ("CommaStream$Windows", "counts", "[I", true), ("CommaStream$Windows", "values", "[I", true), ("CommaStream$Windows", "size", "I", false), ("CommaStream$Windows", "late", "I", false)], [("CommaStreamLaw$Book", "s", "[I", true), ("CommaStreamLaw$Book", "drawn", "I", false), ("CommaStreamLaw$Book", "tokens", "I", false), ("CommaStreamLaw$Book", "line", "I", false), ("CommaStreamLaw$Book", "text", "Ljava/lang/String;", false), ("CommaStreamLaw$Book", "moon", "[I", false), ("CommaStreamLaw$Book", "flocks", "[LCommaStreamLaw$Tree;", false), ("CommaStreamLaw$Book", "many", "I", false), ("CommaStreamLaw$Book", "geese", "[[I", false), ("CommaStreamLaw$Book", "of", "[LCommaStreamLaw$Tree;", false), ("CommaStreamLaw$Book", "all", "I", false)], [("CommaStreamLaw$Sim", "book", "LCommaStreamLaw$Book;", true), ("CommaStreamLaw$Sim", "commas", "[[I", false), ("CommaStreamLaw$Sim", "takes", "[[Z", false), ("CommaStreamLaw$Sim", "open", "[[I", false), ("CommaStreamLaw$Sim", "told", "[[I", false), ("CommaStreamLaw$Sim", "nights", "I", false), ("CommaStreamLaw$Sim", "greatest", "I", false), ("CommaStreamLaw$Sim", "mark", "I", false), ("CommaStreamLaw$Sim", "late", "[I", false)], [("CommaStreamLaw$Tree", "sort", "I", true), ("CommaStreamLaw$Tree", "number", "I", true), ("CommaStreamLaw$Tree", "a", "LCommaStreamLaw$Tree;", true), ("CommaStreamLaw$Tree", "b", "LCommaStreamLaw$Tree;", true)], [("java/lang/String", "value", "[B", true), ("java/lang/String", "coder", "B", true), ("java/lang/String", "hash", "I", false), ("java/lang/String", "hashIsZero", "Z", false)], [("java/lang/AbstractStringBuilder", "value", "[B", false), ("java/lang/AbstractStringBuilder", "coder", "B", false), ("java/lang/AbstractStringBuilder", "maybeLatin1", "Z", false), ("java/lang/AbstractStringBuilder", "count", "I", false)]]
noncomputable def fkL : List (List Nat) := [[], [2, 2, 2, 2, 2, 2, 2, 2, 0, 0, 0, 0], [2, 2, 2, 2, 2, 0, 0, 0], [0, 0, 0, 0, 0], [0, 0, 0, 0, 2, 0, 0], [2, 2, 2, 0, 0], [2, 0], [2, 2, 2, 2, 2, 0, 0, 0], [2, 2, 2, 2, 2, 0], [2, 2, 2, 2, 2, 0, 0], [2, 2, 2, 2, 0, 0], [2, 0, 0, 0, 2, 2, 2, 0, 2, 2, 0], [2, 2, 2, 2, 2, 0, 0, 0, 2], [0, 0, 2, 2], [2, 0, 0, 0], [2, 0, 0, 0]]
noncomputable def ftyL : List (List FieldType) := [[], [(.object "CommaStream$Tape"), (.object "CommaStream$Teacher"), (.object "CommaStream$Comma"), (.array .int), (.array .int), (.array (.object "CommaStream$Windows")), (.object "CommaStream$Tellings"), (.object "CommaStream$Book"), .int, .int, .int, .int], [(.array .int), (.array .int), (.array .int), (.array (.object "CommaStream$Goose")), (.object "CommaStream$Program"), .int, .int, .int], [.int, .int, .int, .int, .int], [.int, .boolean, .int, .int, (.object "CommaStream$Kind"), .int, .int], [(.array (.object "CommaStream$Kind")), (.array .int), (.array .int), .int, .int], [(.array .byte), .int], [(.object "CommaStream$Tokens"), (.array .long), (.array .long), (.object "CommaStream$Goose"), (.object "CommaStream$Book"), .int, .int, .int], [(.array .int), (.array .int), (.array .int), (.array .int), (.array .int), .int], [(.object "CommaStream$Tape"), (.array (.object "CommaStream$Kind")), (.array .int), (.array .int), (.array .long), .int, .int], [(.array .int), (.array .int), (.array .int), (.array .int), .int, .int], [(.array .int), .int, .int, .int, (.object "java/lang/String"), (.array .int), (.array (.object "CommaStreamLaw$Tree")), .int, (.array (.array .int)), (.array (.object "CommaStreamLaw$Tree")), .int], [(.object "CommaStreamLaw$Book"), (.array (.array .int)), (.array (.array .boolean)), (.array (.array .int)), (.array (.array .int)), .int, .int, .int, (.array .int)], [.int, .int, (.object "CommaStreamLaw$Tree"), (.object "CommaStreamLaw$Tree")], [(.array .byte), .byte, .int, .boolean], [(.array .byte), .byte, .boolean, .int]]
noncomputable def TT (t : Nat) : u_T := fun k => (ftL.getD t []).getD k ("", "", "", false)
noncomputable def fk (t k : Nat) : Nat := (fkL.getD t []).getD k 0
noncomputable def tyF (t : Nat) : Nat → FieldType := fun k => (ftyL.getD t []).getD k .int
noncomputable def nF (t : Nat) : Nat := (ftL.getD t []).length
noncomputable def pm_cl : List vw_C := (List.range 15).map (fun k => (cnm (k + 1), TT (k + 1), nF (k + 1)))
/-- private methods of the superclass, on an object of the class that is made -/
noncomputable def exSel : List Cond := [201, 202, 204, 205].map (fun m => Cond.selects "java/lang/StringBuilder" (mn m) (mn m))
noncomputable def lw_tb2 : List Cond := exSel ++ lw_tbl
noncomputable def TBL : List Cond := lw_tb2.filter goodWord
/-- the words of a head: the code, with its table of handlers where it has one -/
noncomputable def mhd (m : Nat) : Cond := match mhh m with | [] => .code (mn m) (mb m) (mxl m) (mrt m) | _ => .codeWith (mn m) (mb m) (mxl m) (mrt m) (mhh m)
noncomputable def ilen (i : Instr) : Nat := match i with
  | .aload _ | .iload _ | .lload _ | .dload _ | .astore _ | .istore _ | .lstore _ | .dstore _ | .bipush _ | .ldc _ | .newarray _ => 2
  | .sipush _ | .iinc _ _ | .ifCond _ _ | .if_icmp _ _ | .if_acmp _ _ | .ifnull _ | .ifnonnull _ | .goto _ | .ldc_w _ | .ldc2_w _ | .getstatic _ | .getfield _ | .putfield _ | .anewarray _ | .new _ | .invokevirtual _ | .invokespecial _ | .invokestatic _ | .checkcast _ => 3
  | .tableswitch _ _ _ o => 0
  | _ => 1
noncomputable def dchk (b : ByteArray) (f : Nat → Option Instr) (lo n : Nat) : Bool := (List.range n).all (fun j => match f (lo + j) with | none => true | some i => match decode b (lo + j) with | .ok (i2, k) => decide (i = i2) && (Nat.beq (ilen i) k || Nat.beq (ilen i) 0) | _ => false)
theorem dchk_ok {b : ByteArray} {f : Nat → Option Instr} {lo n : Nat} (h : dchk b f lo n = true) {pc : Nat} (hlo : lo ≤ pc) (hpc : pc < lo + n) {i : Instr} (hf : f pc = some i) : ∃ k, decode b pc = .ok (i, k) ∧ (k = ilen i ∨ ilen i = 0) := by
  have h1 := List.all_eq_true.mp h (pc - lo) (List.mem_range.mpr (by omega))
  rw [show lo + (pc - lo) = pc by omega, hf] at h1
  dsimp only at h1
  cases hd : decode b pc with
  | error e => rw [hd] at h1; exact absurd h1 (by simp)
  | ok q =>
    obtain ⟨j, k⟩ := q
    rw [hd] at h1
    simp only [Bool.and_eq_true, Bool.or_eq_true, decide_eq_true_eq] at h1
    obtain ⟨h2, h3⟩ := h1
    subst h2
    refine ⟨k, rfl, ?_⟩
    rcases h3 with h3 | h3
    · exact Or.inl (Nat.eq_of_beq_eq_true h3).symm
    · exact Or.inr (Nat.eq_of_beq_eq_true h3)
theorem dk_25_0 : dchk code ft_25 0 100 = true := by decide +kernel
theorem dk_25_1 : dchk code ft_25 100 100 = true := by decide +kernel
theorem dk_25_2 : dchk code ft_25 200 100 = true := by decide +kernel
theorem dk_25_3 : dchk code ft_25 300 100 = true := by decide +kernel
theorem dk_25_4 : dchk code ft_25 400 100 = true := by decide +kernel
theorem dk_25_5 : dchk code ft_25 500 100 = true := by decide +kernel
theorem dk_25_6 : dchk code ft_25 600 100 = true := by decide +kernel
theorem dk_25_7 : dchk code ft_25 700 100 = true := by decide +kernel
theorem dk_25_8 : dchk code ft_25 800 39 = true := by decide +kernel
theorem dk_26_0 : dchk method_3_code ft_26 0 19 = true := by decide +kernel
theorem dk_27_0 : dchk method_5_code ft_27 0 100 = true := by decide +kernel
theorem dk_27_1 : dchk method_5_code ft_27 100 99 = true := by decide +kernel
theorem dk_28_0 : dchk method_2_code ft_28 0 7 = true := by decide +kernel
theorem dk_29_0 : dchk method_6_code ft_29 0 100 = true := by decide +kernel
theorem dk_29_1 : dchk method_6_code ft_29 100 7 = true := by decide +kernel
theorem dk_30_0 : dchk method_4_code ft_30 0 100 = true := by decide +kernel
theorem dk_30_1 : dchk method_4_code ft_30 100 18 = true := by decide +kernel
theorem dk_31_0 : dchk method_8_code ft_31 0 63 = true := by decide +kernel
theorem dk_32_0 : dchk prog_1_method_1_code ft_32 0 100 = true := by decide +kernel
theorem dk_32_1 : dchk prog_1_method_1_code ft_32 100 23 = true := by decide +kernel
theorem dk_33_0 : dchk prog_1_method_11_code ft_33 0 5 = true := by decide +kernel
theorem dk_34_0 : dchk prog_1_method_13_code ft_34 0 12 = true := by decide +kernel
theorem dk_35_0 : dchk prog_1_method_14_code ft_35 0 12 = true := by decide +kernel
theorem dk_36_0 : dchk prog_1_method_61_code ft_36 0 18 = true := by decide +kernel
theorem dk_37_0 : dchk prog_1_method_15_code ft_37 0 5 = true := by decide +kernel
theorem dk_38_0 : dchk prog_1_method_16_code ft_38 0 5 = true := by decide +kernel
theorem dk_39_0 : dchk prog_1_method_17_code ft_39 0 33 = true := by decide +kernel
theorem dk_40_0 : dchk prog_1_method_18_code ft_40 0 8 = true := by decide +kernel
theorem dk_41_0 : dchk prog_1_method_21_code ft_41 0 23 = true := by decide +kernel
theorem dk_42_0 : dchk prog_1_method_54_code ft_42 0 27 = true := by decide +kernel
theorem dk_43_0 : dchk prog_1_method_53_code ft_43 0 23 = true := by decide +kernel
theorem dk_44_0 : dchk prog_1_method_60_code ft_44 0 15 = true := by decide +kernel
theorem dk_45_0 : dchk prog_1_method_22_code ft_45 0 43 = true := by decide +kernel
theorem dk_46_0 : dchk prog_1_method_23_code ft_46 0 41 = true := by decide +kernel
theorem dk_47_0 : dchk prog_1_method_24_code ft_47 0 18 = true := by decide +kernel
theorem dk_48_0 : dchk prog_1_method_55_code ft_48 0 24 = true := by decide +kernel
theorem dk_49_0 : dchk prog_1_method_49_code ft_49 0 27 = true := by decide +kernel
theorem dk_50_0 : dchk prog_1_method_25_code ft_50 0 15 = true := by decide +kernel
theorem dk_51_0 : dchk prog_1_method_26_code ft_51 0 15 = true := by decide +kernel
theorem dk_52_0 : dchk prog_1_method_27_code ft_52 0 20 = true := by decide +kernel
theorem dk_53_0 : dchk prog_1_method_56_code ft_53 0 34 = true := by decide +kernel
theorem dk_54_0 : dchk prog_1_method_28_code ft_54 0 20 = true := by decide +kernel
theorem dk_55_0 : dchk prog_1_method_29_code ft_55 0 20 = true := by decide +kernel
theorem dk_56_0 : dchk prog_1_method_30_code ft_56 0 20 = true := by decide +kernel
theorem dk_57_0 : dchk prog_1_method_31_code ft_57 0 17 = true := by decide +kernel
theorem dk_58_0 : dchk prog_1_method_57_code ft_58 0 27 = true := by decide +kernel
theorem dk_59_0 : dchk prog_1_method_32_code ft_59 0 17 = true := by decide +kernel
theorem dk_60_0 : dchk prog_1_method_33_code ft_60 0 17 = true := by decide +kernel
theorem dk_61_0 : dchk prog_1_method_34_code ft_61 0 17 = true := by decide +kernel
theorem dk_62_0 : dchk prog_1_method_36_code ft_62 0 54 = true := by decide +kernel
theorem dk_63_0 : dchk prog_1_method_9_code ft_63 0 8 = true := by decide +kernel
theorem dk_64_0 : dchk prog_1_method_10_code ft_64 0 8 = true := by decide +kernel
theorem dk_65_0 : dchk prog_1_method_12_code ft_65 0 5 = true := by decide +kernel
theorem dk_66_0 : dchk prog_1_method_19_code ft_66 0 14 = true := by decide +kernel
theorem dk_67_0 : dchk prog_1_method_20_code ft_67 0 17 = true := by decide +kernel
theorem dk_68_0 : dchk prog_1_method_35_code ft_68 0 17 = true := by decide +kernel
theorem dk_69_0 : dchk prog_1_method_42_code ft_69 0 60 = true := by decide +kernel
theorem dk_70_0 : dchk prog_1_method_7_code ft_70 0 82 = true := by decide +kernel
theorem dk_71_0 : dchk prog_1_method_47_code ft_71 0 18 = true := by decide +kernel
theorem dk_72_0 : dchk prog_1_method_46_code ft_72 0 36 = true := by decide +kernel
theorem dk_73_0 : dchk prog_1_method_6_code ft_73 0 100 = true := by decide +kernel
theorem dk_73_1 : dchk prog_1_method_6_code ft_73 100 68 = true := by decide +kernel
theorem dk_74_0 : dchk prog_1_method_59_code ft_74 0 43 = true := by decide +kernel
theorem dk_75_0 : dchk prog_1_method_58_code ft_75 0 17 = true := by decide +kernel
theorem dk_76_0 : dchk prog_1_method_45_code ft_76 0 100 = true := by decide +kernel
theorem dk_76_1 : dchk prog_1_method_45_code ft_76 100 46 = true := by decide +kernel
theorem dk_77_0 : dchk prog_1_method_2_code ft_77 0 73 = true := by decide +kernel
theorem dk_78_0 : dchk prog_1_method_3_code ft_78 0 35 = true := by decide +kernel
theorem dk_79_0 : dchk prog_1_method_4_code ft_79 0 61 = true := by decide +kernel
theorem dk_80_0 : dchk prog_1_method_44_code ft_80 0 55 = true := by decide +kernel
theorem dk_81_0 : dchk prog_1_method_5_code ft_81 0 8 = true := by decide +kernel
theorem dk_82_0 : dchk prog_3_method_1_code ft_82 0 79 = true := by decide +kernel
theorem dk_83_0 : dchk prog_3_method_5_code ft_83 0 19 = true := by decide +kernel
theorem dk_84_0 : dchk prog_3_method_6_code ft_84 0 25 = true := by decide +kernel
theorem dk_85_0 : dchk prog_3_method_7_code ft_85 0 57 = true := by decide +kernel
theorem dk_86_0 : dchk prog_3_method_8_code ft_86 0 31 = true := by decide +kernel
theorem dk_87_0 : dchk prog_3_method_2_code ft_87 0 24 = true := by decide +kernel
theorem dk_88_0 : dchk prog_3_method_3_code ft_88 0 40 = true := by decide +kernel
theorem dk_89_0 : dchk prog_3_method_4_code ft_89 0 62 = true := by decide +kernel
theorem dk_90_0 : dchk prog_4_method_1_code ft_90 0 5 = true := by decide +kernel
theorem dk_91_0 : dchk prog_4_method_2_code ft_91 0 27 = true := by decide +kernel
theorem dk_92_0 : dchk prog_5_method_1_code ft_92 0 22 = true := by decide +kernel
theorem dk_93_0 : dchk prog_5_method_3_code ft_93 0 20 = true := by decide +kernel
theorem dk_94_0 : dchk prog_5_method_2_code ft_94 0 21 = true := by decide +kernel
theorem dk_95_0 : dchk prog_5_method_4_code ft_95 0 36 = true := by decide +kernel
theorem dk_96_0 : dchk prog_7_method_1_code ft_96 0 32 = true := by decide +kernel
theorem dk_97_0 : dchk prog_7_method_3_code ft_97 0 78 = true := by decide +kernel
theorem dk_98_0 : dchk prog_7_method_4_code ft_98 0 100 = true := by decide +kernel
theorem dk_98_1 : dchk prog_7_method_4_code ft_98 100 65 = true := by decide +kernel
theorem dk_99_0 : dchk prog_7_method_6_code ft_99 0 40 = true := by decide +kernel
theorem dk_100_0 : dchk prog_7_method_7_code ft_100 0 42 = true := by decide +kernel
theorem dk_101_0 : dchk prog_7_method_5_code ft_101 0 100 = true := by decide +kernel
theorem dk_101_1 : dchk prog_7_method_5_code ft_101 100 5 = true := by decide +kernel
theorem dk_102_0 : dchk prog_7_method_2_code ft_102 0 62 = true := by decide +kernel
theorem dk_103_0 : dchk prog_8_method_1_code ft_103 0 14 = true := by decide +kernel
theorem dk_104_0 : dchk prog_8_method_2_code ft_104 0 56 = true := by decide +kernel
theorem dk_105_0 : dchk prog_8_method_3_code ft_105 0 36 = true := by decide +kernel
theorem dk_106_0 : dchk prog_8_method_6_code ft_106 0 51 = true := by decide +kernel
theorem dk_107_0 : dchk prog_8_method_4_code ft_107 0 34 = true := by decide +kernel
theorem dk_108_0 : dchk prog_8_method_5_code ft_108 0 36 = true := by decide +kernel
theorem dk_109_0 : dchk prog_9_method_1_code ft_109 0 64 = true := by decide +kernel
theorem dk_110_0 : dchk prog_9_method_2_code ft_110 0 100 = true := by decide +kernel
theorem dk_110_1 : dchk prog_9_method_2_code ft_110 100 11 = true := by decide +kernel
theorem dk_111_0 : dchk prog_9_method_4_code ft_111 0 72 = true := by decide +kernel
theorem dk_112_0 : dchk prog_9_method_5_code ft_112 0 69 = true := by decide +kernel
theorem dk_113_0 : dchk prog_9_method_3_code ft_113 0 28 = true := by decide +kernel
theorem dk_114_0 : dchk prog_9_method_6_code ft_114 0 78 = true := by decide +kernel
theorem dk_115_0 : dchk prog_9_method_7_code ft_115 0 100 = true := by decide +kernel
theorem dk_115_1 : dchk prog_9_method_7_code ft_115 100 24 = true := by decide +kernel
theorem dk_116_0 : dchk prog_9_method_9_code ft_116 0 33 = true := by decide +kernel
theorem dk_117_0 : dchk prog_9_method_10_code ft_117 0 42 = true := by decide +kernel
theorem dk_118_0 : dchk prog_9_method_12_code ft_118 0 36 = true := by decide +kernel
theorem dk_119_0 : dchk prog_9_method_17_code ft_119 0 64 = true := by decide +kernel
theorem dk_120_0 : dchk prog_9_method_18_code ft_120 0 64 = true := by decide +kernel
theorem dk_121_0 : dchk prog_9_method_19_code ft_121 0 70 = true := by decide +kernel
theorem dk_122_0 : dchk prog_9_method_20_code ft_122 0 100 = true := by decide +kernel
theorem dk_122_1 : dchk prog_9_method_20_code ft_122 100 59 = true := by decide +kernel
theorem dk_123_0 : dchk prog_9_method_11_code ft_123 0 22 = true := by decide +kernel
theorem dk_124_0 : dchk prog_9_method_13_code ft_124 0 25 = true := by decide +kernel
theorem dk_125_0 : dchk prog_9_method_21_code ft_125 0 91 = true := by decide +kernel
theorem dk_126_0 : dchk prog_9_method_22_code ft_126 0 64 = true := by decide +kernel
theorem dk_127_0 : dchk prog_9_method_23_code ft_127 0 100 = true := by decide +kernel
theorem dk_127_1 : dchk prog_9_method_23_code ft_127 100 15 = true := by decide +kernel
theorem dk_128_0 : dchk prog_9_method_25_code ft_128 0 41 = true := by decide +kernel
theorem dk_129_0 : dchk prog_9_method_24_code ft_129 0 27 = true := by decide +kernel
theorem dk_130_0 : dchk prog_9_method_8_code ft_130 0 100 = true := by decide +kernel
theorem dk_130_1 : dchk prog_9_method_8_code ft_130 100 99 = true := by decide +kernel
theorem dk_131_0 : dchk prog_9_method_14_code ft_131 0 100 = true := by decide +kernel
theorem dk_131_1 : dchk prog_9_method_14_code ft_131 100 43 = true := by decide +kernel
theorem dk_132_0 : dchk prog_9_method_15_code ft_132 0 65 = true := by decide +kernel
theorem dk_133_0 : dchk prog_9_method_16_code ft_133 0 100 = true := by decide +kernel
theorem dk_133_1 : dchk prog_9_method_16_code ft_133 100 28 = true := by decide +kernel
theorem dk_134_0 : dchk prog_10_method_1_code ft_134 0 45 = true := by decide +kernel
theorem dk_135_0 : dchk prog_10_method_2_code ft_135 0 100 = true := by decide +kernel
theorem dk_135_1 : dchk prog_10_method_2_code ft_135 100 57 = true := by decide +kernel
theorem dk_136_0 : dchk prog_10_method_3_code ft_136 0 84 = true := by decide +kernel
theorem dk_137_0 : dchk prog_11_method_1_code ft_137 0 53 = true := by decide +kernel
theorem dk_138_0 : dchk prog_11_method_2_code ft_138 0 94 = true := by decide +kernel
theorem dk_139_0 : dchk prog_11_method_3_code ft_139 0 35 = true := by decide +kernel
theorem dk_140_0 : dchk prog_11_method_11_code ft_140 0 18 = true := by decide +kernel
theorem dk_141_0 : dchk prog_11_method_4_code ft_141 0 100 = true := by decide +kernel
theorem dk_141_1 : dchk prog_11_method_4_code ft_141 100 1 = true := by decide +kernel
theorem dk_142_0 : dchk prog_11_method_12_code ft_142 0 18 = true := by decide +kernel
theorem dk_143_0 : dchk prog_11_method_13_code ft_143 0 18 = true := by decide +kernel
theorem dk_144_0 : dchk prog_11_method_5_code ft_144 0 100 = true := by decide +kernel
theorem dk_144_1 : dchk prog_11_method_5_code ft_144 100 20 = true := by decide +kernel
theorem dk_145_0 : dchk prog_11_method_6_code ft_145 0 100 = true := by decide +kernel
theorem dk_145_1 : dchk prog_11_method_6_code ft_145 100 44 = true := by decide +kernel
theorem dk_146_0 : dchk prog_11_method_10_code ft_146 0 57 = true := by decide +kernel
theorem dk_147_0 : dchk prog_11_method_8_code ft_147 0 33 = true := by decide +kernel
theorem dk_148_0 : dchk prog_11_method_7_code ft_148 0 46 = true := by decide +kernel
theorem dk_149_0 : dchk prog_11_method_9_code ft_149 0 33 = true := by decide +kernel
theorem dk_150_0 : dchk prog_12_method_1_code ft_150 0 41 = true := by decide +kernel
theorem dk_151_0 : dchk prog_12_method_6_code ft_151 0 96 = true := by decide +kernel
theorem dk_152_0 : dchk prog_12_method_11_code ft_152 0 38 = true := by decide +kernel
theorem dk_153_0 : dchk prog_12_method_12_code ft_153 0 71 = true := by decide +kernel
theorem dk_154_0 : dchk prog_12_method_5_code ft_154 0 100 = true := by decide +kernel
theorem dk_154_1 : dchk prog_12_method_5_code ft_154 100 65 = true := by decide +kernel
theorem dk_155_0 : dchk prog_12_method_10_code ft_155 0 69 = true := by decide +kernel
theorem dk_156_0 : dchk prog_12_method_9_code ft_156 0 35 = true := by decide +kernel
theorem dk_157_0 : dchk prog_12_method_3_code ft_157 0 68 = true := by decide +kernel
theorem dk_158_0 : dchk prog_12_method_4_code ft_158 0 87 = true := by decide +kernel
theorem dk_159_0 : dchk prog_12_method_2_code ft_159 0 11 = true := by decide +kernel
theorem dk_160_0 : dchk prog_14_method_1_code ft_160 0 54 = true := by decide +kernel
theorem dk_161_0 : dchk prog_14_method_12_code ft_161 0 100 = true := by decide +kernel
theorem dk_161_1 : dchk prog_14_method_12_code ft_161 100 100 = true := by decide +kernel
theorem dk_161_2 : dchk prog_14_method_12_code ft_161 200 100 = true := by decide +kernel
theorem dk_161_3 : dchk prog_14_method_12_code ft_161 300 100 = true := by decide +kernel
theorem dk_161_4 : dchk prog_14_method_12_code ft_161 400 100 = true := by decide +kernel
theorem dk_161_5 : dchk prog_14_method_12_code ft_161 500 100 = true := by decide +kernel
theorem dk_161_6 : dchk prog_14_method_12_code ft_161 600 80 = true := by decide +kernel
theorem dk_162_0 : dchk prog_14_method_2_code ft_162 0 50 = true := by decide +kernel
theorem dk_163_0 : dchk prog_14_method_11_code ft_163 0 46 = true := by decide +kernel
theorem dk_164_0 : dchk prog_14_method_10_code ft_164 0 46 = true := by decide +kernel
theorem dk_165_0 : dchk prog_14_method_9_code ft_165 0 75 = true := by decide +kernel
theorem dk_166_0 : dchk prog_14_method_3_code ft_166 0 36 = true := by decide +kernel
theorem dk_167_0 : dchk prog_14_method_8_code ft_167 0 100 = true := by decide +kernel
theorem dk_167_1 : dchk prog_14_method_8_code ft_167 100 71 = true := by decide +kernel
theorem dk_168_0 : dchk prog_14_method_4_code ft_168 0 20 = true := by decide +kernel
theorem dk_169_0 : dchk prog_14_method_7_code ft_169 0 63 = true := by decide +kernel
theorem dk_170_0 : dchk prog_14_method_6_code ft_170 0 45 = true := by decide +kernel
theorem dk_171_0 : dchk prog_14_method_5_code ft_171 0 100 = true := by decide +kernel
theorem dk_171_1 : dchk prog_14_method_5_code ft_171 100 37 = true := by decide +kernel
theorem dk_172_0 : dchk prog_15_method_12_code ft_172 0 100 = true := by decide +kernel
theorem dk_172_1 : dchk prog_15_method_12_code ft_172 100 100 = true := by decide +kernel
theorem dk_172_2 : dchk prog_15_method_12_code ft_172 200 100 = true := by decide +kernel
theorem dk_172_3 : dchk prog_15_method_12_code ft_172 300 100 = true := by decide +kernel
theorem dk_172_4 : dchk prog_15_method_12_code ft_172 400 100 = true := by decide +kernel
theorem dk_172_5 : dchk prog_15_method_12_code ft_172 500 100 = true := by decide +kernel
theorem dk_172_6 : dchk prog_15_method_12_code ft_172 600 100 = true := by decide +kernel
theorem dk_172_7 : dchk prog_15_method_12_code ft_172 700 45 = true := by decide +kernel
theorem dk_173_0 : dchk prog_15_method_5_code ft_173 0 22 = true := by decide +kernel
theorem dk_174_0 : dchk prog_15_method_10_code ft_174 0 100 = true := by decide +kernel
theorem dk_174_1 : dchk prog_15_method_10_code ft_174 100 21 = true := by decide +kernel
theorem dk_175_0 : dchk prog_15_method_9_code ft_175 0 54 = true := by decide +kernel
theorem dk_176_0 : dchk prog_15_method_8_code ft_176 0 74 = true := by decide +kernel
theorem dk_177_0 : dchk prog_15_method_2_code ft_177 0 35 = true := by decide +kernel
theorem dk_178_0 : dchk prog_15_method_3_code ft_178 0 41 = true := by decide +kernel
theorem dk_179_0 : dchk prog_15_method_7_code ft_179 0 100 = true := by decide +kernel
theorem dk_179_1 : dchk prog_15_method_7_code ft_179 100 100 = true := by decide +kernel
theorem dk_179_2 : dchk prog_15_method_7_code ft_179 200 100 = true := by decide +kernel
theorem dk_179_3 : dchk prog_15_method_7_code ft_179 300 100 = true := by decide +kernel
theorem dk_179_4 : dchk prog_15_method_7_code ft_179 400 100 = true := by decide +kernel
theorem dk_179_5 : dchk prog_15_method_7_code ft_179 500 100 = true := by decide +kernel
theorem dk_179_6 : dchk prog_15_method_7_code ft_179 600 72 = true := by decide +kernel
theorem dk_180_0 : dchk prog_15_method_4_code ft_180 0 52 = true := by decide +kernel
theorem dk_181_0 : dchk prog_15_method_6_code ft_181 0 100 = true := by decide +kernel
theorem dk_181_1 : dchk prog_15_method_6_code ft_181 100 31 = true := by decide +kernel
theorem dk_182_0 : dchk prog_15_method_1_code ft_182 0 55 = true := by decide +kernel
theorem dk_183_0 : dchk prog_16_method_2_code ft_183 0 100 = true := by decide +kernel
theorem dk_183_1 : dchk prog_16_method_2_code ft_183 100 100 = true := by decide +kernel
theorem dk_183_2 : dchk prog_16_method_2_code ft_183 200 100 = true := by decide +kernel
theorem dk_183_3 : dchk prog_16_method_2_code ft_183 300 1 = true := by decide +kernel
theorem dk_184_0 : dchk prog_16_method_1_code ft_184 0 26 = true := by decide +kernel
theorem dk_185_0 : dchk prog_29_method_54_code ft_185 0 11 = true := by decide +kernel
theorem dk_186_0 : dchk prog_29_method_152_code ft_186 0 15 = true := by decide +kernel
theorem dk_187_0 : dchk prog_29_method_147_code ft_187 0 44 = true := by decide +kernel
theorem dk_188_0 : dchk prog_29_method_53_code ft_188 0 7 = true := by decide +kernel
theorem dk_189_0 : dchk prog_29_method_150_code ft_189 0 98 = true := by decide +kernel
theorem dk_190_0 : dchk prog_29_method_155_code ft_190 0 10 = true := by decide +kernel
theorem dk_191_0 : dchk prog_29_method_56_code ft_191 0 25 = true := by decide +kernel
theorem dk_192_0 : dchk prog_29_method_154_code ft_192 0 19 = true := by decide +kernel
theorem dk_193_0 : dchk prog_30_method_1_code ft_193 0 7 = true := by decide +kernel
theorem dk_194_0 : dchk prog_30_method_7_code ft_194 0 8 = true := by decide +kernel
theorem dk_195_0 : dchk prog_30_method_42_code ft_195 0 9 = true := by decide +kernel
theorem dk_196_0 : dchk prog_30_method_93_code ft_196 0 5 = true := by decide +kernel
theorem dk_197_0 : dchk prog_30_method_15_code ft_197 0 8 = true := by decide +kernel
theorem dk_198_0 : dchk prog_30_method_14_code ft_198 0 8 = true := by decide +kernel
theorem dk_199_0 : dchk prog_18_method_2_code ft_199 0 39 = true := by decide +kernel
theorem dk_200_0 : dchk prog_18_method_22_code ft_200 0 45 = true := by decide +kernel
theorem dk_201_0 : dchk prog_18_method_9_code ft_201 0 39 = true := by decide +kernel
theorem dk_202_0 : dchk prog_18_method_10_code ft_202 0 59 = true := by decide +kernel
theorem dk_203_0 : dchk prog_18_method_68_code ft_203 0 19 = true := by decide +kernel
theorem dk_204_0 : dchk prog_18_method_73_code ft_204 0 19 = true := by decide +kernel
theorem dk_205_0 : dchk prog_18_method_71_code ft_205 0 22 = true := by decide +kernel
theorem dk_206_0 : dchk prog_18_method_64_code ft_206 0 5 = true := by decide +kernel
theorem dk_207_0 : dchk prog_18_method_6_code ft_207 0 5 = true := by decide +kernel
theorem dk_208_0 : dchk prog_18_method_32_code ft_208 0 55 = true := by decide +kernel
theorem dk_209_0 : dchk prog_18_method_31_code ft_209 0 77 = true := by decide +kernel
theorem dk_210_0 : dchk prog_31_method_3_code ft_210 0 13 = true := by decide +kernel
theorem dk_211_0 : dchk prog_31_method_2_code ft_211 0 15 = true := by decide +kernel
theorem dk_212_0 : dchk prog_37_method_11_code ft_212 0 18 = true := by decide +kernel
theorem dk_213_0 : dchk prog_20_method_2_code ft_213 0 5 = true := by decide +kernel
theorem dk_214_0 : dchk prog_25_method_49_code ft_214 0 53 = true := by decide +kernel
theorem dk_215_0 : dchk prog_25_method_13_code ft_215 0 47 = true := by decide +kernel
theorem dk_216_0 : dchk prog_25_method_12_code ft_216 0 100 = true := by decide +kernel
theorem dk_216_1 : dchk prog_25_method_12_code ft_216 100 21 = true := by decide +kernel
theorem dk_217_0 : dchk prog_26_method_69_code ft_217 0 11 = true := by decide +kernel
theorem dk_218_0 : dchk prog_26_method_65_code ft_218 0 11 = true := by decide +kernel
theorem dk_219_0 : dchk prog_35_method_123_code ft_219 0 33 = true := by decide +kernel
theorem dk_220_0 : dchk prog_35_method_121_code ft_220 0 33 = true := by decide +kernel
theorem dk_221_0 : dchk prog_35_method_132_code ft_221 0 25 = true := by decide +kernel
theorem dk_222_0 : dchk prog_35_method_133_code ft_222 0 33 = true := by decide +kernel
theorem dk_223_0 : dchk prog_35_method_131_code ft_223 0 38 = true := by decide +kernel
theorem dk_224_0 : dchk prog_36_method_27_code ft_224 0 27 = true := by decide +kernel
