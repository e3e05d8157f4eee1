-- what the tables of the pure machine stand for: names, bytes, field tables, words; all held by the kernel
noncomputable def mnL : List MethodName := [⟨"CommaStreamLaw", "feed", "(LCommaStream;IIIII[J)I"⟩, ⟨"CommaStreamLaw", "trim", "(LCommaStream;I[J)I"⟩, ⟨"CommaStreamLaw", "comma", "(LCommaStream;IIII[J)I"⟩, ⟨"CommaStreamLaw", "passNights", "(LCommaStream;I[J)I"⟩, ⟨"CommaStreamLaw", "hourOf", "(LCommaStream;I[J)I"⟩, ⟨"CommaStreamLaw", "flocksOf", "(LCommaStream;I[J)I"⟩, ⟨"CommaStreamLaw", "isIn", "(LCommaStream;II[J)I"⟩, ⟨"CommaStreamLaw", "sizeOf", "(LCommaStream;I[J)I"⟩, ⟨"CommaStreamLaw", "latestIn", "(LCommaStream;I[J)I"⟩, ⟨"CommaStreamLaw", "flockOf", "(LCommaStream;I[J)I"⟩, ⟨"CommaStreamLaw", "lateFor", "(LCommaStream;I[J)I"⟩, ⟨"CommaStreamLaw", "openWindows", "(LCommaStream;I[J)I"⟩, ⟨"CommaStreamLaw", "openStart", "(LCommaStream;II[J)I"⟩, ⟨"CommaStreamLaw", "openEnd", "(LCommaStream;II[J)I"⟩, ⟨"CommaStreamLaw", "openCount", "(LCommaStream;II[J)I"⟩, ⟨"CommaStreamLaw", "openValue", "(LCommaStream;II[J)I"⟩, ⟨"CommaStreamLaw", "tellingGoose", "(LCommaStream;I[J)I"⟩, ⟨"CommaStreamLaw", "tellingStart", "(LCommaStream;I[J)I"⟩, ⟨"CommaStreamLaw", "tellingEnd", "(LCommaStream;I[J)I"⟩, ⟨"CommaStreamLaw", "tellingCount", "(LCommaStream;I[J)I"⟩, ⟨"CommaStreamLaw", "tellingValue", "(LCommaStream;I[J)I"⟩, ⟨"CommaStreamLaw", "wouldTake", "(LCommaStream;IIIII[J)I"⟩, ⟨"CommaStreamLaw", "wouldBeLate", "(LCommaStream;I[J)I"⟩, ⟨"CommaStreamLaw", "wouldTell", "(LCommaStream;I[J)I"⟩, ⟨"CommaStreamLaw", "hourToTell", "(LCommaStream;I[J)I"⟩, ⟨"CommaStreamLaw", "law", "([I)Z"⟩, ⟨"CommaStream", "<init>", "()V"⟩, ⟨"CommaStream", "teach", "()I"⟩, ⟨"CommaStream", "at", "([II)I"⟩, ⟨"CommaStream", "beginAnew", "()V"⟩, ⟨"CommaStream", "errorAt", "()I"⟩, ⟨"CommaStream", "end", "()I"⟩, ⟨"CommaStream", "tellWhatIsOver", "()V"⟩, ⟨"CommaStream", "flocks", "()I"⟩, ⟨"CommaStream", "geese", "()I"⟩, ⟨"CommaStream", "commas", "()I"⟩, ⟨"CommaStream", "nights", "()I"⟩, ⟨"CommaStream", "phase", "()I"⟩, ⟨"CommaStream", "allowance", "()I"⟩, ⟨"CommaStream", "greatestHour", "()I"⟩, ⟨"CommaStream", "watermark", "()I"⟩, ⟨"CommaStream", "lateInAll", "()I"⟩, ⟨"CommaStream", "tellings", "()I"⟩, ⟨"CommaStream", "fullestTelling", "()I"⟩, ⟨"CommaStream", "nightsUntilTelling", "()I"⟩, ⟨"CommaStream", "watermarkBehind", "(II)I"⟩, ⟨"CommaStream", "isAnyOver", "(I)Z"⟩, ⟨"CommaStream", "meanCount", "()D"⟩, ⟨"CommaStream", "digest", "()J"⟩, ⟨"CommaStream", "sizeOf", "(I)I"⟩, ⟨"CommaStream", "requireFlock", "(I)V"⟩, ⟨"CommaStream", "takes", "(II)Z"⟩, ⟨"CommaStream", "latestIn", "(I)I"⟩, ⟨"CommaStream", "digestOfGoose", "(JI)J"⟩, ⟨"CommaStream", "flockOf", "(I)I"⟩, ⟨"CommaStream", "requireGoose", "(I)V"⟩, ⟨"CommaStream", "countedGeese", "()I"⟩, ⟨"CommaStream", "lateFor", "(I)I"⟩, ⟨"CommaStream", "openWindows", "(I)I"⟩, ⟨"CommaStream", "hourToTell", "(I)I"⟩, ⟨"CommaStream", "openStart", "(II)I"⟩, ⟨"CommaStream", "requireWindow", "(II)V"⟩, ⟨"CommaStream", "openEnd", "(II)I"⟩, ⟨"CommaStream", "openCount", "(II)I"⟩, ⟨"CommaStream", "openValue", "(II)I"⟩, ⟨"CommaStream", "digestOfTellings", "(J)J"⟩, ⟨"CommaStream", "tellingGoose", "(I)I"⟩, ⟨"CommaStream", "requireTelling", "(I)V"⟩, ⟨"CommaStream", "tellingStart", "(I)I"⟩, ⟨"CommaStream", "tellingEnd", "(I)I"⟩, ⟨"CommaStream", "tellingCount", "(I)I"⟩, ⟨"CommaStream", "tellingValue", "(I)I"⟩, ⟨"CommaStream", "feed", "(IIIII)I"⟩, ⟨"CommaStream", "trim", "(I)I"⟩, ⟨"CommaStream", "comma", "(IIII)I"⟩, ⟨"CommaStream", "isComma", "(IIII)Z"⟩, ⟨"CommaStream", "isHour", "(I)Z"⟩, ⟨"CommaStream", "countInGeese", "()V"⟩, ⟨"CommaStream", "passNights", "(I)I"⟩, ⟨"CommaStream", "hourOf", "(I)I"⟩, ⟨"CommaStream", "requireComma", "(I)V"⟩, ⟨"CommaStream", "flocksOf", "(I)I"⟩, ⟨"CommaStream", "isIn", "(II)Z"⟩, ⟨"CommaStream", "wouldTake", "(IIIII)Z"⟩, ⟨"CommaStream", "wouldBeLate", "(I)I"⟩, ⟨"CommaStream", "requireHour", "(I)V"⟩, ⟨"CommaStream", "wouldTell", "(I)I"⟩, ⟨"CommaStream$Book", "<init>", "()V"⟩, ⟨"CommaStream$Book", "clear", "()V"⟩, ⟨"CommaStream$Book", "addPhase", "(I)V"⟩, ⟨"CommaStream$Book", "addFlock", "(II)V"⟩, ⟨"CommaStream$Book", "phaseIn", "(I)I"⟩, ⟨"CommaStream$Book", "allowanceIn", "(I)I"⟩, ⟨"CommaStream$Book", "judge", "(LCommaStream$Comma;)V"⟩, ⟨"CommaStream$Book", "valueFor", "(LCommaStream$Goose;LCommaStream$Comma;)I"⟩, ⟨"CommaStream$Comma", "<init>", "()V"⟩, ⟨"CommaStream$Comma", "become", "(IIII)V"⟩, ⟨"CommaStream$Goose", "<init>", "()V"⟩, ⟨"CommaStream$Goose", "isLate", "(II)Z"⟩, ⟨"CommaStream$Goose", "lastStart", "(I)I"⟩, ⟨"CommaStream$Goose", "joined", "(II)I"⟩, ⟨"CommaStream$Program", "<init>", "()V"⟩, ⟨"CommaStream$Program", "add", "(LCommaStream$Kind;I)V"⟩, ⟨"CommaStream$Program", "run", "(IILCommaStream$Comma;)I"⟩, ⟨"CommaStream$Program", "obey", "(LCommaStream$Kind;ILCommaStream$Comma;)V"⟩, ⟨"CommaStream$Program", "push", "(I)V"⟩, ⟨"CommaStream$Program", "pop", "()I"⟩, ⟨"CommaStream$Program", "joined", "(LCommaStream$Kind;II)I"⟩, ⟨"CommaStream$Tape", "<init>", "()V"⟩, ⟨"CommaStream$Tape", "byteAt", "(I)I"⟩, ⟨"CommaStream$Tape", "stands", "(Ljava/lang/String;II)Z"⟩, ⟨"CommaStream$Tape", "numberIn", "(II)I"⟩, ⟨"CommaStream$Tape", "wordIn", "(II)J"⟩, ⟨"CommaStream$Tape", "append", "(I)V"⟩, ⟨"CommaStream$Teacher", "<init>", "()V"⟩, ⟨"CommaStream$Teacher", "read", "()V"⟩, ⟨"CommaStream$Teacher", "readMoon", "()Z"⟩, ⟨"CommaStream$Teacher", "readPhase", "()Z"⟩, ⟨"CommaStream$Teacher", "note", "(ZI)V"⟩, ⟨"CommaStream$Teacher", "readLine", "()Z"⟩, ⟨"CommaStream$Teacher", "readFlock", "()Z"⟩, ⟨"CommaStream$Teacher", "readNewName", "(Z)Z"⟩, ⟨"CommaStream$Teacher", "isTold", "(J)Z"⟩, ⟨"CommaStream$Teacher", "placeIn", "([JIJ)I"⟩, ⟨"CommaStream$Teacher", "readTest", "(I)Z"⟩, ⟨"CommaStream$Teacher", "readBoth", "(I)Z"⟩, ⟨"CommaStream$Teacher", "readSingle", "(I)Z"⟩, ⟨"CommaStream$Teacher", "readKept", "(I)Z"⟩, ⟨"CommaStream$Teacher", "flockHere", "()I"⟩, ⟨"CommaStream$Teacher", "readFlockName", "(I)Z"⟩, ⟨"CommaStream$Teacher", "readValue", "(I)Z"⟩, ⟨"CommaStream$Teacher", "readProduct", "(I)Z"⟩, ⟨"CommaStream$Teacher", "readAtom", "(I)Z"⟩, ⟨"CommaStream$Teacher", "isOperand", "(LCommaStream$Kind;)Z"⟩, ⟨"CommaStream$Teacher", "isOrder", "(LCommaStream$Kind;)Z"⟩, ⟨"CommaStream$Teacher", "readGoose", "()Z"⟩, ⟨"CommaStream$Teacher", "readWindow", "(LCommaStream$Goose;)Z"⟩, ⟨"CommaStream$Teacher", "readStep", "(LCommaStream$Goose;)Z"⟩, ⟨"CommaStream$Teacher", "readTelling", "(LCommaStream$Goose;)Z"⟩, ⟨"CommaStream$Tellings", "<init>", "()V"⟩, ⟨"CommaStream$Tellings", "add", "(IIIII)V"⟩, ⟨"CommaStream$Tellings", "grow", "()V"⟩, ⟨"CommaStream$Tokens", "<init>", "()V"⟩, ⟨"CommaStream$Tokens", "cut", "()V"⟩, ⟨"CommaStream$Tokens", "behindBlanks", "(I)I"⟩, ⟨"CommaStream$Tokens", "isBlank", "(I)Z"⟩, ⟨"CommaStream$Tokens", "behindToken", "(I)I"⟩, ⟨"CommaStream$Tokens", "isLetter", "(I)Z"⟩, ⟨"CommaStream$Tokens", "isDigit", "(I)Z"⟩, ⟨"CommaStream$Tokens", "kindOf", "(II)LCommaStream$Kind;"⟩, ⟨"CommaStream$Tokens", "add", "(LCommaStream$Kind;II)V"⟩, ⟨"CommaStream$Tokens", "skip", "(LCommaStream$Kind;)Z"⟩, ⟨"CommaStream$Tokens", "number", "()I"⟩, ⟨"CommaStream$Tokens", "kind", "()LCommaStream$Kind;"⟩, ⟨"CommaStream$Tokens", "word", "()J"⟩, ⟨"CommaStream$Windows", "<init>", "()V"⟩, ⟨"CommaStream$Windows", "clear", "()V"⟩, ⟨"CommaStream$Windows", "tell", "(IILCommaStream$Tellings;)V"⟩, ⟨"CommaStream$Windows", "move", "(II)V"⟩, ⟨"CommaStream$Windows", "set", "(IIIII)V"⟩, ⟨"CommaStream$Windows", "countOver", "(I)I"⟩, ⟨"CommaStream$Windows", "firstEnd", "()I"⟩, ⟨"CommaStream$Windows", "countWithGap", "(LCommaStream$Goose;II)V"⟩, ⟨"CommaStream$Windows", "insert", "(IIII)V"⟩, ⟨"CommaStream$Windows", "placeFor", "(I)I"⟩, ⟨"CommaStream$Windows", "countEvery", "(LCommaStream$Goose;III)V"⟩, ⟨"CommaStream$Windows", "countIn", "(LCommaStream$Goose;II)V"⟩, ⟨"CommaStreamModel", "<init>", "()V"⟩, ⟨"CommaStreamModel", "key", "(Ljava/lang/String;)J"⟩, ⟨"CommaStreamModel", "begin", "()V"⟩, ⟨"CommaStreamModel", "anew", "()V"⟩, ⟨"CommaStreamModel", "thrown", "()I"⟩, ⟨"CommaStreamModel", "feed", "(IIIII)I"⟩, ⟨"CommaStreamModel", "fail", "(I)I"⟩, ⟨"CommaStreamModel", "trim", "(I)I"⟩, ⟨"CommaStreamModel", "isIn", "(III)Z"⟩, ⟨"CommaStreamModel", "teach", "()I"⟩, ⟨"CommaStreamModel", "scan", "()V"⟩, ⟨"CommaStreamModel", "isLetter", "(I)Z"⟩, ⟨"CommaStreamModel", "isDigit", "(I)Z"⟩, ⟨"CommaStreamModel", "parse", "()Z"⟩, ⟨"CommaStreamModel", "ifWord", "(J)Z"⟩, ⟨"CommaStreamModel", "isWord", "(J)Z"⟩, ⟨"CommaStreamModel", "moon", "()Z"⟩, ⟨"CommaStreamModel", "check", "(IZI)Z"⟩, ⟨"CommaStreamModel", "fault", "(II)Z"⟩, ⟨"CommaStreamModel", "number", "(II)Z"⟩, ⟨"CommaStreamModel", "last", "()I"⟩, ⟨"CommaStreamModel", "ifSign", "(C)Z"⟩, ⟨"CommaStreamModel", "isSign", "(C)Z"⟩, ⟨"CommaStreamModel", "sign", "(C)Z"⟩, ⟨"CommaStreamModel", "flockLine", "()Z"⟩, ⟨"CommaStreamModel", "name", "()Z"⟩, ⟨"CommaStreamModel", "isKeyword", "(J)Z"⟩, ⟨"CommaStreamModel", "isNew", "()Z"⟩, ⟨"CommaStreamModel", "word", "(J)Z"⟩, ⟨"CommaStreamModel", "test", "(I)Z"⟩, ⟨"CommaStreamModel", "both", "(I)Z"⟩, ⟨"CommaStreamModel", "single", "(I)Z"⟩, ⟨"CommaStreamModel", "kept", "(I)Z"⟩, ⟨"CommaStreamModel", "flock", "()I"⟩, ⟨"CommaStreamModel", "put", "(I)V"⟩, ⟨"CommaStreamModel", "value", "(I)Z"⟩, ⟨"CommaStreamModel", "product", "(I)Z"⟩, ⟨"CommaStreamModel", "atom", "(I)Z"⟩, ⟨"CommaStreamModel", "tell", "(JI)V"⟩, ⟨"CommaStreamModel", "gooseLine", "()Z"⟩, ⟨"CommaStreamModel", "errorAt", "()I"⟩, ⟨"CommaStreamModel", "told", "(I)I"⟩, ⟨"CommaStreamModel", "comma", "(IIII)I"⟩, ⟨"CommaStreamModel", "isComma", "(IIII)Z"⟩, ⟨"CommaStreamModel", "give", "(IIII)V"⟩, ⟨"CommaStreamModel", "takers", "()I"⟩, ⟨"CommaStreamModel", "reckon", "(III)I"⟩, ⟨"CommaStreamModel", "of", "(II)I"⟩, ⟨"CommaStreamModel", "isLate", "(II)Z"⟩, ⟨"CommaStreamModel", "lastStart", "(II)I"⟩, ⟨"CommaStreamModel", "count", "(II)V"⟩, ⟨"CommaStreamModel", "win", "(II)I"⟩, ⟨"CommaStreamModel", "together", "(III)I"⟩, ⟨"CommaStreamModel", "remove", "(I)V"⟩, ⟨"CommaStreamModel", "find", "(II)I"⟩, ⟨"CommaStreamModel", "insert", "(IIIIII)V"⟩, ⟨"CommaStreamModel", "longer", "([I)[I"⟩, ⟨"CommaStreamModel", "firstStart", "(II)I"⟩, ⟨"CommaStreamModel", "allows", "()I"⟩, ⟨"CommaStreamModel", "allowed", "(I)I"⟩, ⟨"CommaStreamModel", "tellAll", "()I"⟩, ⟨"CommaStreamModel", "ones", "(I)I"⟩, ⟨"CommaStreamModel", "passNights", "(I)I"⟩, ⟨"CommaStreamModel", "end", "()I"⟩, ⟨"CommaStreamModel", "flocks", "()I"⟩, ⟨"CommaStreamModel", "geese", "()I"⟩, ⟨"CommaStreamModel", "commas", "()I"⟩, ⟨"CommaStreamModel", "nights", "()I"⟩, ⟨"CommaStreamModel", "phase", "()I"⟩, ⟨"CommaStreamModel", "allowance", "()I"⟩, ⟨"CommaStreamModel", "greatestHour", "()I"⟩, ⟨"CommaStreamModel", "watermark", "()I"⟩, ⟨"CommaStreamModel", "lateInAll", "()I"⟩, ⟨"CommaStreamModel", "lateAll", "()I"⟩, ⟨"CommaStreamModel", "tellings", "()I"⟩, ⟨"CommaStreamModel", "hourOf", "(I)I"⟩, ⟨"CommaStreamModel", "isThere", "(I)Z"⟩, ⟨"CommaStreamModel", "flocksOf", "(I)I"⟩, ⟨"CommaStreamModel", "isIn", "(II)Z"⟩, ⟨"CommaStreamModel", "isFlock", "(I)Z"⟩, ⟨"CommaStreamModel", "sizeOf", "(I)I"⟩, ⟨"CommaStreamModel", "size", "(I)I"⟩, ⟨"CommaStreamModel", "latestIn", "(I)I"⟩, ⟨"CommaStreamModel", "latest", "(I)I"⟩, ⟨"CommaStreamModel", "flockOf", "(I)I"⟩, ⟨"CommaStreamModel", "isGoose", "(I)Z"⟩, ⟨"CommaStreamModel", "lateFor", "(I)I"⟩, ⟨"CommaStreamModel", "openWindows", "(I)I"⟩, ⟨"CommaStreamModel", "openOf", "(I)I"⟩, ⟨"CommaStreamModel", "openStart", "(II)I"⟩, ⟨"CommaStreamModel", "ofOpen", "(III)I"⟩, ⟨"CommaStreamModel", "openEnd", "(II)I"⟩, ⟨"CommaStreamModel", "openCount", "(II)I"⟩, ⟨"CommaStreamModel", "openValue", "(II)I"⟩, ⟨"CommaStreamModel", "tellingGoose", "(I)I"⟩, ⟨"CommaStreamModel", "ofTelling", "(II)I"⟩, ⟨"CommaStreamModel", "tellingStart", "(I)I"⟩, ⟨"CommaStreamModel", "tellingEnd", "(I)I"⟩, ⟨"CommaStreamModel", "tellingCount", "(I)I"⟩, ⟨"CommaStreamModel", "tellingValue", "(I)I"⟩, ⟨"CommaStreamModel", "fullestTelling", "()I"⟩, ⟨"CommaStreamModel", "fullest", "()I"⟩, ⟨"CommaStreamModel", "wouldTake", "(IIIII)Z"⟩, ⟨"CommaStreamModel", "wouldBeLate", "(I)I"⟩, ⟨"CommaStreamModel", "wouldTell", "(I)I"⟩, ⟨"CommaStreamModel", "overBy", "(I)I"⟩, ⟨"CommaStreamModel", "hourToTell", "(I)I"⟩, ⟨"CommaStreamModel", "toTell", "(I)I"⟩, ⟨"CommaStreamModel", "nightsUntilTelling", "()I"⟩, ⟨"CommaStreamModel", "untilTelling", "()I"⟩, ⟨"CommaStreamModel", "meanCount", "()D"⟩, ⟨"CommaStreamModel", "digest", "()J"⟩, ⟨"java/lang/String", "length", "()I"⟩, ⟨"java/lang/String", "coder", "()B"⟩, ⟨"java/lang/String", "charAt", "(I)C"⟩, ⟨"java/lang/String", "isLatin1", "()Z"⟩, ⟨"java/lang/String", "checkIndex", "(II)V"⟩, ⟨"java/lang/String", "indexOf", "(I)I"⟩, ⟨"java/lang/String", "indexOf", "(II)I"⟩, ⟨"java/lang/StringLatin1", "charAt", "([BI)C"⟩, ⟨"java/lang/StringLatin1", "indexOf", "([BIII)I"⟩, ⟨"java/lang/StringLatin1", "canEncode", "(I)Z"⟩, ⟨"java/lang/StringLatin1", "indexOfChar", "([BIII)I"⟩, ⟨"jdk/internal/util/Preconditions", "checkIndex", "(IILjava/util/function/BiFunction;)I"⟩, ⟨"java/lang/Enum", "ordinal", "()I"⟩, ⟨"java/lang/Integer", "bitCount", "(I)I"⟩, ⟨"java/lang/Math", "min", "(II)I"⟩, ⟨"java/lang/Math", "max", "(II)I"⟩, ⟨"java/util/Arrays", "copyOf", "([II)[I"⟩]
noncomputable def mbL : List ByteArray := [method_3_code, method_4_code, method_5_code, method_6_code, method_7_code, method_8_code, method_9_code, method_10_code, method_11_code, method_12_code, method_13_code, method_14_code, method_15_code, method_16_code, method_17_code, method_18_code, method_19_code, method_20_code, method_21_code, method_22_code, method_23_code, method_24_code, method_25_code, method_26_code, method_27_code, code, prog_1_method_1_code, prog_1_method_4_code, prog_1_method_61_code, prog_1_method_44_code, prog_1_method_5_code, prog_1_method_8_code, prog_1_method_46_code, prog_1_method_9_code, prog_1_method_10_code, prog_1_method_11_code, prog_1_method_12_code, prog_1_method_13_code, prog_1_method_14_code, prog_1_method_15_code, prog_1_method_16_code, prog_1_method_17_code, prog_1_method_18_code, prog_1_method_36_code, prog_1_method_41_code, prog_1_method_47_code, prog_1_method_48_code, prog_1_method_42_code, prog_1_method_43_code, prog_1_method_22_code, prog_1_method_54_code, prog_1_method_60_code, prog_1_method_23_code, prog_1_method_50_code, prog_1_method_24_code, prog_1_method_55_code, prog_1_method_49_code, prog_1_method_25_code, prog_1_method_26_code, prog_1_method_40_code, prog_1_method_27_code, prog_1_method_56_code, prog_1_method_28_code, prog_1_method_29_code, prog_1_method_30_code, prog_1_method_51_code, prog_1_method_31_code, prog_1_method_57_code, prog_1_method_32_code, prog_1_method_33_code, prog_1_method_34_code, prog_1_method_35_code, prog_1_method_2_code, prog_1_method_3_code, prog_1_method_6_code, prog_1_method_59_code, prog_1_method_58_code, prog_1_method_45_code, prog_1_method_7_code, prog_1_method_19_code, prog_1_method_53_code, prog_1_method_20_code, prog_1_method_21_code, prog_1_method_37_code, prog_1_method_38_code, prog_1_method_52_code, prog_1_method_39_code, prog_3_method_1_code, prog_3_method_2_code, prog_3_method_3_code, prog_3_method_4_code, prog_3_method_5_code, prog_3_method_6_code, prog_3_method_7_code, prog_3_method_8_code, prog_4_method_1_code, prog_4_method_2_code, prog_5_method_1_code, prog_5_method_3_code, prog_5_method_2_code, prog_5_method_4_code, prog_7_method_1_code, prog_7_method_2_code, prog_7_method_3_code, prog_7_method_4_code, prog_7_method_6_code, prog_7_method_7_code, prog_7_method_5_code, prog_8_method_1_code, prog_8_method_3_code, prog_8_method_6_code, prog_8_method_4_code, prog_8_method_5_code, prog_8_method_2_code, prog_9_method_1_code, prog_9_method_2_code, prog_9_method_4_code, prog_9_method_5_code, prog_9_method_3_code, prog_9_method_6_code, prog_9_method_7_code, prog_9_method_9_code, prog_9_method_10_code, prog_9_method_12_code, prog_9_method_17_code, prog_9_method_18_code, prog_9_method_19_code, prog_9_method_20_code, prog_9_method_11_code, prog_9_method_13_code, prog_9_method_21_code, prog_9_method_22_code, prog_9_method_23_code, prog_9_method_25_code, prog_9_method_24_code, prog_9_method_8_code, prog_9_method_14_code, prog_9_method_15_code, prog_9_method_16_code, prog_10_method_1_code, prog_10_method_2_code, prog_10_method_3_code, prog_11_method_1_code, prog_11_method_2_code, prog_11_method_3_code, prog_11_method_11_code, prog_11_method_4_code, prog_11_method_12_code, prog_11_method_13_code, prog_11_method_5_code, prog_11_method_6_code, prog_11_method_10_code, prog_11_method_8_code, prog_11_method_7_code, prog_11_method_9_code, prog_12_method_1_code, prog_12_method_2_code, prog_12_method_6_code, prog_12_method_11_code, prog_12_method_12_code, prog_12_method_7_code, prog_12_method_8_code, prog_12_method_5_code, prog_12_method_10_code, prog_12_method_9_code, prog_12_method_3_code, prog_12_method_4_code, prog_14_method_1_code, prog_14_method_6_code, prog_14_method_8_code, prog_14_method_9_code, prog_14_method_2_code, prog_14_method_55_code, prog_14_method_3_code, prog_14_method_56_code, prog_14_method_5_code, prog_14_method_57_code, prog_14_method_12_code, prog_14_method_10_code, prog_14_method_11_code, prog_14_method_29_code, prog_14_method_19_code, prog_14_method_15_code, prog_14_method_30_code, prog_14_method_14_code, prog_14_method_13_code, prog_14_method_21_code, prog_14_method_22_code, prog_14_method_20_code, prog_14_method_16_code, prog_14_method_18_code, prog_14_method_31_code, prog_14_method_24_code, prog_14_method_23_code, prog_14_method_27_code, prog_14_method_17_code, prog_14_method_33_code, prog_14_method_34_code, prog_14_method_35_code, prog_14_method_36_code, prog_14_method_26_code, prog_14_method_25_code, prog_14_method_37_code, prog_14_method_38_code, prog_14_method_39_code, prog_14_method_28_code, prog_14_method_32_code, prog_14_method_58_code, prog_14_method_4_code, prog_14_method_62_code, prog_14_method_59_code, prog_14_method_42_code, prog_14_method_41_code, prog_14_method_40_code, prog_14_method_43_code, prog_14_method_51_code, prog_14_method_50_code, prog_14_method_52_code, prog_14_method_44_code, prog_14_method_45_code, prog_14_method_48_code, prog_14_method_46_code, prog_14_method_47_code, prog_14_method_7_code, prog_14_method_49_code, prog_14_method_61_code, prog_14_method_54_code, prog_14_method_53_code, prog_14_method_60_code, prog_14_method_63_code, prog_14_method_64_code, prog_14_method_65_code, prog_14_method_66_code, prog_14_method_67_code, prog_14_method_68_code, prog_14_method_69_code, prog_14_method_70_code, prog_14_method_72_code, prog_14_method_73_code, prog_14_method_74_code, prog_14_method_71_code, prog_14_method_75_code, prog_14_method_79_code, prog_14_method_78_code, prog_14_method_80_code, prog_14_method_81_code, prog_14_method_76_code, prog_14_method_83_code, prog_14_method_82_code, prog_14_method_85_code, prog_14_method_84_code, prog_14_method_86_code, prog_14_method_77_code, prog_14_method_87_code, prog_14_method_89_code, prog_14_method_88_code, prog_14_method_91_code, prog_14_method_90_code, prog_14_method_92_code, prog_14_method_93_code, prog_14_method_94_code, prog_14_method_96_code, prog_14_method_95_code, prog_14_method_97_code, prog_14_method_98_code, prog_14_method_99_code, prog_14_method_100_code, prog_14_method_102_code, prog_14_method_101_code, prog_14_method_103_code, prog_14_method_104_code, prog_14_method_106_code, prog_14_method_105_code, prog_14_method_108_code, prog_14_method_107_code, prog_14_method_110_code, prog_14_method_109_code, prog_14_method_111_code, prog_14_method_112_code, prog_25_method_54_code, prog_25_method_152_code, prog_25_method_56_code, prog_25_method_154_code, prog_25_method_155_code, prog_25_method_79_code, prog_25_method_80_code, prog_26_method_2_code, prog_26_method_22_code, prog_26_method_4_code, prog_26_method_23_code, prog_31_method_11_code, prog_17_method_2_code, prog_22_method_49_code, prog_23_method_69_code, prog_23_method_65_code, prog_30_method_123_code]
noncomputable def mrL : List (Option FieldType) := [(Option.some FieldType.int), (Option.some FieldType.int), (Option.some FieldType.int), (Option.some FieldType.int), (Option.some FieldType.int), (Option.some FieldType.int), (Option.some FieldType.int), (Option.some FieldType.int), (Option.some FieldType.int), (Option.some FieldType.int), (Option.some FieldType.int), (Option.some FieldType.int), (Option.some FieldType.int), (Option.some FieldType.int), (Option.some FieldType.int), (Option.some FieldType.int), (Option.some FieldType.int), (Option.some FieldType.int), (Option.some FieldType.int), (Option.some FieldType.int), (Option.some FieldType.int), (Option.some FieldType.int), (Option.some FieldType.int), (Option.some FieldType.int), (Option.some FieldType.int), ret, (none), (Option.some FieldType.int), (Option.some FieldType.int), (none), (Option.some FieldType.int), (Option.some FieldType.int), (none), (Option.some FieldType.int), (Option.some FieldType.int), (Option.some FieldType.int), (Option.some FieldType.int), (Option.some FieldType.int), (Option.some FieldType.int), (Option.some FieldType.int), (Option.some FieldType.int), (Option.some FieldType.int), (Option.some FieldType.int), (Option.some FieldType.int), (Option.some FieldType.int), (Option.some FieldType.int), (Option.some FieldType.boolean), (Option.some FieldType.double), (Option.some FieldType.long), (Option.some FieldType.int), (none), (Option.some FieldType.boolean), (Option.some FieldType.int), (Option.some FieldType.long), (Option.some FieldType.int), (none), (Option.some FieldType.int), (Option.some FieldType.int), (Option.some FieldType.int), (Option.some FieldType.int), (Option.some FieldType.int), (none), (Option.some FieldType.int), (Option.some FieldType.int), (Option.some FieldType.int), (Option.some FieldType.long), (Option.some FieldType.int), (none), (Option.some FieldType.int), (Option.some FieldType.int), (Option.some FieldType.int), (Option.some FieldType.int), (Option.some FieldType.int), (Option.some FieldType.int), (Option.some FieldType.int), (Option.some FieldType.boolean), (Option.some FieldType.boolean), (none), (Option.some FieldType.int), (Option.some FieldType.int), (none), (Option.some FieldType.int), (Option.some FieldType.boolean), (Option.some FieldType.boolean), (Option.some FieldType.int), (none), (Option.some FieldType.int), (none), (none), (none), (none), (Option.some FieldType.int), (Option.some FieldType.int), (none), (Option.some FieldType.int), (none), (none), (none), (Option.some FieldType.boolean), (Option.some FieldType.int), (Option.some FieldType.int), (none), (none), (Option.some FieldType.int), (none), (none), (Option.some FieldType.int), (Option.some FieldType.int), (none), (Option.some FieldType.int), (Option.some FieldType.boolean), (Option.some FieldType.int), (Option.some FieldType.long), (none), (none), (none), (Option.some FieldType.boolean), (Option.some FieldType.boolean), (none), (Option.some FieldType.boolean), (Option.some FieldType.boolean), (Option.some FieldType.boolean), (Option.some FieldType.boolean), (Option.some FieldType.int), (Option.some FieldType.boolean), (Option.some FieldType.boolean), (Option.some FieldType.boolean), (Option.some FieldType.boolean), (Option.some FieldType.int), (Option.some FieldType.boolean), (Option.some FieldType.boolean), (Option.some FieldType.boolean), (Option.some FieldType.boolean), (Option.some FieldType.boolean), (Option.some FieldType.boolean), (Option.some FieldType.boolean), (Option.some FieldType.boolean), (Option.some FieldType.boolean), (Option.some FieldType.boolean), (none), (none), (none), (none), (none), (Option.some FieldType.int), (Option.some FieldType.boolean), (Option.some FieldType.int), (Option.some FieldType.boolean), (Option.some FieldType.boolean), (Option.some (FieldType.object "CommaStream$Kind")), (none), (Option.some FieldType.boolean), (Option.some FieldType.int), (Option.some (FieldType.object "CommaStream$Kind")), (Option.some FieldType.long), (none), (none), (none), (none), (none), (Option.some FieldType.int), (Option.some FieldType.int), (none), (none), (Option.some FieldType.int), (none), (none), (none), (Option.some FieldType.long), (none), (none), (Option.some FieldType.int), (Option.some FieldType.int), (Option.some FieldType.int), (Option.some FieldType.int), (Option.some FieldType.boolean), (Option.some FieldType.int), (none), (Option.some FieldType.boolean), (Option.some FieldType.boolean), (Option.some FieldType.boolean), (Option.some FieldType.boolean), (Option.some FieldType.boolean), (Option.some FieldType.boolean), (Option.some FieldType.boolean), (Option.some FieldType.boolean), (Option.some FieldType.boolean), (Option.some FieldType.int), (Option.some FieldType.boolean), (Option.some FieldType.boolean), (Option.some FieldType.boolean), (Option.some FieldType.boolean), (Option.some FieldType.boolean), (Option.some FieldType.boolean), (Option.some FieldType.boolean), (Option.some FieldType.boolean), (Option.some FieldType.boolean), (Option.some FieldType.boolean), (Option.some FieldType.boolean), (Option.some FieldType.boolean), (Option.some FieldType.int), (none), (Option.some FieldType.boolean), (Option.some FieldType.boolean), (Option.some FieldType.boolean), (none), (Option.some FieldType.boolean), (Option.some FieldType.int), (Option.some FieldType.int), (Option.some FieldType.int), (Option.some FieldType.boolean), (none), (Option.some FieldType.int), (Option.some FieldType.int), (Option.some FieldType.int), (Option.some FieldType.boolean), (Option.some FieldType.int), (none), (Option.some FieldType.int), (Option.some FieldType.int), (none), (Option.some FieldType.int), (none), (Option.some (FieldType.array FieldType.int)), (Option.some FieldType.int), (Option.some FieldType.int), (Option.some FieldType.int), (Option.some FieldType.int), (Option.some FieldType.int), (Option.some FieldType.int), (Option.some FieldType.int), (Option.some FieldType.int), (Option.some FieldType.int), (Option.some FieldType.int), (Option.some FieldType.int), (Option.some FieldType.int), (Option.some FieldType.int), (Option.some FieldType.int), (Option.some FieldType.int), (Option.some FieldType.int), (Option.some FieldType.int), (Option.some FieldType.int), (Option.some FieldType.int), (Option.some FieldType.boolean), (Option.some FieldType.int), (Option.some FieldType.boolean), (Option.some FieldType.boolean), (Option.some FieldType.int), (Option.some FieldType.int), (Option.some FieldType.int), (Option.some FieldType.int), (Option.some FieldType.int), (Option.some FieldType.boolean), (Option.some FieldType.int), (Option.some FieldType.int), (Option.some FieldType.int), (Option.some FieldType.int), (Option.some FieldType.int), (Option.some FieldType.int), (Option.some FieldType.int), (Option.some FieldType.int), (Option.some FieldType.int), (Option.some FieldType.int), (Option.some FieldType.int), (Option.some FieldType.int), (Option.some FieldType.int), (Option.some FieldType.int), (Option.some FieldType.int), (Option.some FieldType.int), (Option.some FieldType.boolean), (Option.some FieldType.int), (Option.some FieldType.int), (Option.some FieldType.int), (Option.some FieldType.int), (Option.some FieldType.int), (Option.some FieldType.int), (Option.some FieldType.int), (Option.some FieldType.double), (Option.some FieldType.long), (Option.some FieldType.int), (Option.some FieldType.byte), (Option.some FieldType.char), (Option.some FieldType.boolean), (none), (Option.some FieldType.int), (Option.some FieldType.int), (Option.some FieldType.char), (Option.some FieldType.int), (Option.some FieldType.boolean), (Option.some FieldType.int), (Option.some FieldType.int), (Option.some FieldType.int), (Option.some FieldType.int), (Option.some FieldType.int), (Option.some FieldType.int), (Option.some (FieldType.array FieldType.int))]
noncomputable def mhL : List (List (Nat × Nat × Nat × Nat)) := [[(0, 16, 19, 13)], [(0, 9, 12, 19)], [(0, 14, 17, 19), (0, 14, 21, 13)], [(0, 9, 12, 19)], [(0, 9, 12, 31)], [(0, 9, 12, 31)], [(0, 17, 20, 31)], [(0, 9, 12, 31)], [(0, 9, 12, 31)], [(0, 9, 12, 31)], [(0, 9, 12, 31)], [(0, 9, 12, 31)], [(0, 10, 13, 31)], [(0, 10, 13, 31)], [(0, 10, 13, 31)], [(0, 10, 13, 31)], [(0, 9, 12, 31)], [(0, 9, 12, 31)], [(0, 9, 12, 31)], [(0, 9, 12, 31)], [(0, 9, 12, 31)], [(0, 23, 26, 31), (0, 23, 30, 19)], [(0, 9, 12, 19)], [(0, 9, 12, 19)], [(0, 9, 12, 31)], [], [], [], [], [], [], [], [], [], [], [], [], [], [], [], [], [], [], [], [], [], [], [], [], [], [], [], [], [], [], [], [], [], [], [], [], [], [], [], [], [], [], [], [], [], [], [], [], [], [], [], [], [], [], [], [], [], [], [], [], [], [], [], [], [], [], [], [], [], [], [], [], [], [], [], [], [], [], [], [], [], [], [], [], [], [], [], [], [], [], [], [], [], [], [], [], [], [], [], [], [], [], [], [], [], [], [], [], [], [], [], [], [], [], [], [], [], [], [], [], [], [], [], [], [], [], [], [], [], [], [], [], [], [], [], [], [], [], [], [], [], [], [], [], [], [], [], [], [], [], [], [], [], [], [], [], [], [], [], [], [], [], [], [], [], [], [], [], [], [], [], [], [], [], [], [], [], [], [], [], [], [], [], [], [], [], [], [], [], [], [], [], [], [], [], [], [], [], [], [], [], [], [], [], [], [], [], [], [], [], [], [], [], [], [], [], [], [], [], [], [], [], [], [], [], [], [], [], [], [], [], [], [], [], [], [], [], [], [], [], [], [], [], [], [], [], [], [], [], [], [], [], [], [], [], [], [], [], [], [], [], [], [], [], [], [], [], [], [], [], []]
noncomputable def mn (m : Nat) : MethodName := mnL.getD m ⟨"", "", ""⟩
noncomputable def mb (m : Nat) : ByteArray := mbL.getD m ⟨#[]⟩
noncomputable def mrt (m : Nat) : Option FieldType := mrL.getD m none
noncomputable def mhh (m : Nat) : List (Nat × Nat × Nat × Nat) := mhL.getD m []
noncomputable def cnm (k : Nat) : String := cnL.getD k ""
noncomputable def ftL : List (List (String × String × String × Bool)) := [[], [("CommaStream", "tape", "LCommaStream$Tape;", true), ("CommaStream", "teacher", "LCommaStream$Teacher;", true), ("CommaStream", "probe", "LCommaStream$Comma;", true), ("CommaStream", "hours", "[I", true), ("CommaStream", "takers", "[I", true), ("CommaStream", "windows", "[LCommaStream$Windows;", true), ("CommaStream", "told", "LCommaStream$Tellings;", true), ("CommaStream", "book", "LCommaStream$Book;", false), ("CommaStream", "commas", "I", false), ("CommaStream", "nights", "I", false), ("CommaStream", "greatestHour", "I", false), ("CommaStream", "watermark", "I", false)], [("CommaStream$Book", "allowances", "[I", true), ("CommaStream$Book", "testFrom", "[I", true), ("CommaStream$Book", "testTo", "[I", true), ("CommaStream$Book", "geese", "[LCommaStream$Goose;", true), ("CommaStream$Book", "program", "LCommaStream$Program;", true), ("CommaStream$Book", "phases", "I", false), ("CommaStream$Book", "flockCount", "I", false), ("CommaStream$Book", "gooseCount", "I", false)], [("CommaStream$Comma", "hour", "I", false), ("CommaStream$Comma", "kind", "I", false), ("CommaStream$Comma", "weight", "I", false), ("CommaStream$Comma", "wing", "I", false), ("CommaStream$Comma", "takers", "I", false)], [("CommaStream$Goose", "flock", "I", false), ("CommaStream$Goose", "gap", "Z", false), ("CommaStream$Goose", "length", "I", false), ("CommaStream$Goose", "step", "I", false), ("CommaStream$Goose", "telling", "LCommaStream$Kind;", false), ("CommaStream$Goose", "from", "I", false), ("CommaStream$Goose", "to", "I", false)], [("CommaStream$Program", "commands", "[LCommaStream$Kind;", true), ("CommaStream$Program", "numbers", "[I", true), ("CommaStream$Program", "stack", "[I", true), ("CommaStream$Program", "size", "I", false), ("CommaStream$Program", "depth", "I", false)], [("CommaStream$Tape", "bytes", "[B", true), ("CommaStream$Tape", "length", "I", false)], [("CommaStream$Teacher", "tokens", "LCommaStream$Tokens;", true), ("CommaStream$Teacher", "flockNames", "[J", true), ("CommaStream$Teacher", "gooseNames", "[J", true), ("CommaStream$Teacher", "unwanted", "LCommaStream$Goose;", true), ("CommaStream$Teacher", "book", "LCommaStream$Book;", false), ("CommaStream$Teacher", "error", "I", false), ("CommaStream$Teacher", "errorToken", "I", false), ("CommaStream$Teacher", "errorAt", "I", false)], [("CommaStream$Tellings", "geese", "[I", false), ("CommaStream$Tellings", "starts", "[I", false), ("CommaStream$Tellings", "ends", "[I", false), ("CommaStream$Tellings", "counts", "[I", false), ("CommaStream$Tellings", "values", "[I", false), ("CommaStream$Tellings", "size", "I", false)], [("CommaStream$Tokens", "tape", "LCommaStream$Tape;", true), ("CommaStream$Tokens", "kinds", "[LCommaStream$Kind;", true), ("CommaStream$Tokens", "starts", "[I", true), ("CommaStream$Tokens", "numbers", "[I", true), ("CommaStream$Tokens", "words", "[J", true), ("CommaStream$Tokens", "size", "I", false), ("CommaStream$Tokens", "here", "I", false)], [("CommaStream$Windows", "starts", "[I", true), ("CommaStream$Windows", "ends", "[I", true), ("CommaStream$Windows", "counts", "[I", true), ("CommaStream$Windows", "values", "[I", true), ("CommaStream$Windows", "size", "I", false), ("CommaStream$Windows", "late", "I", false)], [("CommaStreamModel", "thrown", "I", false), ("CommaStreamModel", "tape", "[B", true), ("CommaStreamModel", "taped", "I", false), ("CommaStreamModel", "sort", "[I", true), ("CommaStreamModel", "what", "[J", true), ("CommaStreamModel", "start", "[I", true), ("CommaStreamModel", "fields", "[J", true), ("CommaStreamModel", "at", "I", false), ("CommaStreamModel", "isSecond", "Z", false), ("CommaStreamModel", "error", "I", false), ("CommaStreamModel", "place", "I", false), ("CommaStreamModel", "errorAt", "I", false), ("CommaStreamModel", "names", "[J", true), ("CommaStreamModel", "kinds", "[I", true), ("CommaStreamModel", "named", "I", false), ("CommaStreamModel", "code", "[I", true), ("CommaStreamModel", "coded", "I", false), ("CommaStreamModel", "read", "[I", true), ("CommaStreamModel", "book", "[I", true), ("CommaStreamModel", "rows", "[I", true), ("CommaStreamModel", "stack", "[I", true), ("CommaStreamModel", "commas", "I", false), ("CommaStreamModel", "hour", "[I", true), ("CommaStreamModel", "taken", "[I", true), ("CommaStreamModel", "given", "[I", true), ("CommaStreamModel", "nights", "I", false), ("CommaStreamModel", "greatest", "I", false), ("CommaStreamModel", "watermark", "I", false), ("CommaStreamModel", "late", "[I", true), ("CommaStreamModel", "open", "[I", false), ("CommaStreamModel", "opened", "I", false), ("CommaStreamModel", "tellings", "[I", false), ("CommaStreamModel", "tellingsMany", "I", false)]]
noncomputable def fkL : List (List Nat) := [[], [2, 2, 2, 2, 2, 2, 2, 2, 0, 0, 0, 0], [2, 2, 2, 2, 2, 0, 0, 0], [0, 0, 0, 0, 0], [0, 0, 0, 0, 2, 0, 0], [2, 2, 2, 0, 0], [2, 0], [2, 2, 2, 2, 2, 0, 0, 0], [2, 2, 2, 2, 2, 0], [2, 2, 2, 2, 2, 0, 0], [2, 2, 2, 2, 0, 0], [0, 2, 0, 2, 2, 2, 2, 0, 0, 0, 0, 0, 2, 2, 0, 2, 0, 2, 2, 2, 2, 0, 2, 2, 2, 0, 0, 0, 2, 2, 0, 2, 0]]
noncomputable def ftyL : List (List FieldType) := [[], [(.object "CommaStream$Tape"), (.object "CommaStream$Teacher"), (.object "CommaStream$Comma"), (.array .int), (.array .int), (.array (.object "CommaStream$Windows")), (.object "CommaStream$Tellings"), (.object "CommaStream$Book"), .int, .int, .int, .int], [(.array .int), (.array .int), (.array .int), (.array (.object "CommaStream$Goose")), (.object "CommaStream$Program"), .int, .int, .int], [.int, .int, .int, .int, .int], [.int, .boolean, .int, .int, (.object "CommaStream$Kind"), .int, .int], [(.array (.object "CommaStream$Kind")), (.array .int), (.array .int), .int, .int], [(.array .byte), .int], [(.object "CommaStream$Tokens"), (.array .long), (.array .long), (.object "CommaStream$Goose"), (.object "CommaStream$Book"), .int, .int, .int], [(.array .int), (.array .int), (.array .int), (.array .int), (.array .int), .int], [(.object "CommaStream$Tape"), (.array (.object "CommaStream$Kind")), (.array .int), (.array .int), (.array .long), .int, .int], [(.array .int), (.array .int), (.array .int), (.array .int), .int, .int], [.int, (.array .byte), .int, (.array .int), (.array .long), (.array .int), (.array .long), .int, .boolean, .int, .int, .int, (.array .long), (.array .int), .int, (.array .int), .int, (.array .int), (.array .int), (.array .int), (.array .int), .int, (.array .int), (.array .int), (.array .int), .int, .int, .int, (.array .int), (.array .int), .int, (.array .int), .int]]
noncomputable def TT (t : Nat) : u_T := fun k => (ftL.getD t []).getD k ("", "", "", false)
noncomputable def fk (t k : Nat) : Nat := (fkL.getD t []).getD k 0
noncomputable def tyF (t : Nat) : Nat → FieldType := fun k => (ftyL.getD t []).getD k .int
noncomputable def nF (t : Nat) : Nat := (ftL.getD t []).length
noncomputable def pm_cl : List vw_C := (List.range 11).map (fun k => (cnm (k + 1), TT (k + 1), nF (k + 1)))
noncomputable def TBL : List Cond := lw_tbl.filter goodWord
/-- the words of a head: the code, with its table of handlers where it has one -/
noncomputable def mhd (m : Nat) : Cond := match mhh m with | [] => .code (mn m) (mb m) (mxl m) (mrt m) | _ => .codeWith (mn m) (mb m) (mxl m) (mrt m) (mhh m)
noncomputable def ilen (i : Instr) : Nat := match i with
  | .aload _ | .iload _ | .lload _ | .dload _ | .astore _ | .istore _ | .lstore _ | .dstore _ | .bipush _ | .ldc _ | .newarray _ => 2
  | .sipush _ | .iinc _ _ | .ifCond _ _ | .if_icmp _ _ | .if_acmp _ _ | .ifnull _ | .goto _ | .ldc_w _ | .ldc2_w _ | .getstatic _ | .getfield _ | .putfield _ | .anewarray _ | .new _ | .invokevirtual _ | .invokespecial _ | .invokestatic _ | .checkcast _ => 3
  | .tableswitch _ _ _ o => 0
  | _ => 1
noncomputable def dchk (b : ByteArray) (f : Nat → Option Instr) (lo n : Nat) : Bool := (List.range n).all (fun j => match f (lo + j) with | none => true | some i => match decode b (lo + j) with | .ok (i2, k) => decide (i = i2) && (Nat.beq (ilen i) k || Nat.beq (ilen i) 0) | _ => false)
theorem dchk_ok {b : ByteArray} {f : Nat → Option Instr} {lo n : Nat} (h : dchk b f lo n = true) {pc : Nat} (hlo : lo ≤ pc) (hpc : pc < lo + n) {i : Instr} (hf : f pc = some i) : ∃ k, decode b pc = .ok (i, k) ∧ (k = ilen i ∨ ilen i = 0) := by
  have h1 := List.all_eq_true.mp h (pc - lo) (List.mem_range.mpr (by omega))
  rw [show lo + (pc - lo) = pc by omega, hf] at h1
  dsimp only at h1
  cases hd : decode b pc with
  | error e => rw [hd] at h1; exact absurd h1 (by simp)
  | ok q =>
    obtain ⟨j, k⟩ := q
    rw [hd] at h1
    simp only [Bool.and_eq_true, Bool.or_eq_true, decide_eq_true_eq] at h1
    obtain ⟨h2, h3⟩ := h1
    subst h2
    refine ⟨k, rfl, ?_⟩
    rcases h3 with h3 | h3
    · exact Or.inl (Nat.eq_of_beq_eq_true h3).symm
    · exact Or.inr (Nat.eq_of_beq_eq_true h3)
theorem dk_0_0 : dchk method_3_code ft_0 0 25 = true := by decide +kernel
theorem dk_1_0 : dchk method_4_code ft_1 0 17 = true := by decide +kernel
theorem dk_2_0 : dchk method_5_code ft_2 0 27 = true := by decide +kernel
theorem dk_3_0 : dchk method_6_code ft_3 0 17 = true := by decide +kernel
theorem dk_4_0 : dchk method_7_code ft_4 0 17 = true := by decide +kernel
theorem dk_5_0 : dchk method_8_code ft_5 0 17 = true := by decide +kernel
theorem dk_6_0 : dchk method_9_code ft_6 0 26 = true := by decide +kernel
theorem dk_7_0 : dchk method_10_code ft_7 0 17 = true := by decide +kernel
theorem dk_8_0 : dchk method_11_code ft_8 0 17 = true := by decide +kernel
theorem dk_9_0 : dchk method_12_code ft_9 0 17 = true := by decide +kernel
theorem dk_10_0 : dchk method_13_code ft_10 0 17 = true := by decide +kernel
theorem dk_11_0 : dchk method_14_code ft_11 0 17 = true := by decide +kernel
theorem dk_12_0 : dchk method_15_code ft_12 0 19 = true := by decide +kernel
theorem dk_13_0 : dchk method_16_code ft_13 0 19 = true := by decide +kernel
theorem dk_14_0 : dchk method_17_code ft_14 0 19 = true := by decide +kernel
theorem dk_15_0 : dchk method_18_code ft_15 0 19 = true := by decide +kernel
theorem dk_16_0 : dchk method_19_code ft_16 0 17 = true := by decide +kernel
theorem dk_17_0 : dchk method_20_code ft_17 0 17 = true := by decide +kernel
theorem dk_18_0 : dchk method_21_code ft_18 0 17 = true := by decide +kernel
theorem dk_19_0 : dchk method_22_code ft_19 0 17 = true := by decide +kernel
theorem dk_20_0 : dchk method_23_code ft_20 0 17 = true := by decide +kernel
theorem dk_21_0 : dchk method_24_code ft_21 0 36 = true := by decide +kernel
theorem dk_22_0 : dchk method_25_code ft_22 0 17 = true := by decide +kernel
theorem dk_23_0 : dchk method_26_code ft_23 0 17 = true := by decide +kernel
theorem dk_24_0 : dchk method_27_code ft_24 0 17 = true := by decide +kernel
theorem dk_25_0 : dchk code ft_25 0 100 = true := by decide +kernel
theorem dk_25_1 : dchk code ft_25 100 100 = true := by decide +kernel
theorem dk_25_2 : dchk code ft_25 200 100 = true := by decide +kernel
theorem dk_25_3 : dchk code ft_25 300 100 = true := by decide +kernel
theorem dk_25_4 : dchk code ft_25 400 100 = true := by decide +kernel
theorem dk_25_5 : dchk code ft_25 500 100 = true := by decide +kernel
theorem dk_25_6 : dchk code ft_25 600 100 = true := by decide +kernel
theorem dk_25_7 : dchk code ft_25 700 100 = true := by decide +kernel
theorem dk_25_8 : dchk code ft_25 800 100 = true := by decide +kernel
theorem dk_25_9 : dchk code ft_25 900 100 = true := by decide +kernel
theorem dk_25_10 : dchk code ft_25 1000 100 = true := by decide +kernel
theorem dk_25_11 : dchk code ft_25 1100 100 = true := by decide +kernel
theorem dk_25_12 : dchk code ft_25 1200 100 = true := by decide +kernel
theorem dk_25_13 : dchk code ft_25 1300 100 = true := by decide +kernel
theorem dk_25_14 : dchk code ft_25 1400 100 = true := by decide +kernel
theorem dk_25_15 : dchk code ft_25 1500 100 = true := by decide +kernel
theorem dk_25_16 : dchk code ft_25 1600 100 = true := by decide +kernel
theorem dk_25_17 : dchk code ft_25 1700 100 = true := by decide +kernel
theorem dk_25_18 : dchk code ft_25 1800 100 = true := by decide +kernel
theorem dk_25_19 : dchk code ft_25 1900 100 = true := by decide +kernel
theorem dk_25_20 : dchk code ft_25 2000 88 = true := by decide +kernel
theorem dk_26_0 : dchk prog_1_method_1_code ft_26 0 100 = true := by decide +kernel
theorem dk_26_1 : dchk prog_1_method_1_code ft_26 100 23 = true := by decide +kernel
theorem dk_27_0 : dchk prog_1_method_4_code ft_27 0 61 = true := by decide +kernel
theorem dk_28_0 : dchk prog_1_method_61_code ft_28 0 18 = true := by decide +kernel
theorem dk_29_0 : dchk prog_1_method_44_code ft_29 0 55 = true := by decide +kernel
theorem dk_30_0 : dchk prog_1_method_5_code ft_30 0 8 = true := by decide +kernel
theorem dk_31_0 : dchk prog_1_method_8_code ft_31 0 29 = true := by decide +kernel
theorem dk_32_0 : dchk prog_1_method_46_code ft_32 0 36 = true := by decide +kernel
theorem dk_33_0 : dchk prog_1_method_9_code ft_33 0 8 = true := by decide +kernel
theorem dk_34_0 : dchk prog_1_method_10_code ft_34 0 8 = true := by decide +kernel
theorem dk_35_0 : dchk prog_1_method_11_code ft_35 0 5 = true := by decide +kernel
theorem dk_36_0 : dchk prog_1_method_12_code ft_36 0 5 = true := by decide +kernel
theorem dk_37_0 : dchk prog_1_method_13_code ft_37 0 12 = true := by decide +kernel
theorem dk_38_0 : dchk prog_1_method_14_code ft_38 0 12 = true := by decide +kernel
theorem dk_39_0 : dchk prog_1_method_15_code ft_39 0 5 = true := by decide +kernel
theorem dk_40_0 : dchk prog_1_method_16_code ft_40 0 5 = true := by decide +kernel
theorem dk_41_0 : dchk prog_1_method_17_code ft_41 0 33 = true := by decide +kernel
theorem dk_42_0 : dchk prog_1_method_18_code ft_42 0 8 = true := by decide +kernel
theorem dk_43_0 : dchk prog_1_method_36_code ft_43 0 54 = true := by decide +kernel
theorem dk_44_0 : dchk prog_1_method_41_code ft_44 0 39 = true := by decide +kernel
theorem dk_45_0 : dchk prog_1_method_47_code ft_45 0 18 = true := by decide +kernel
theorem dk_46_0 : dchk prog_1_method_48_code ft_46 0 34 = true := by decide +kernel
theorem dk_47_0 : dchk prog_1_method_42_code ft_47 0 60 = true := by decide +kernel
theorem dk_48_0 : dchk prog_1_method_43_code ft_48 0 100 = true := by decide +kernel
theorem dk_48_1 : dchk prog_1_method_43_code ft_48 100 100 = true := by decide +kernel
theorem dk_48_2 : dchk prog_1_method_43_code ft_48 200 19 = true := by decide +kernel
theorem dk_49_0 : dchk prog_1_method_22_code ft_49 0 43 = true := by decide +kernel
theorem dk_50_0 : dchk prog_1_method_54_code ft_50 0 27 = true := by decide +kernel
theorem dk_51_0 : dchk prog_1_method_60_code ft_51 0 15 = true := by decide +kernel
theorem dk_52_0 : dchk prog_1_method_23_code ft_52 0 41 = true := by decide +kernel
theorem dk_53_0 : dchk prog_1_method_50_code ft_53 0 100 = true := by decide +kernel
theorem dk_53_1 : dchk prog_1_method_50_code ft_53 100 53 = true := by decide +kernel
theorem dk_54_0 : dchk prog_1_method_24_code ft_54 0 18 = true := by decide +kernel
theorem dk_55_0 : dchk prog_1_method_55_code ft_55 0 24 = true := by decide +kernel
theorem dk_56_0 : dchk prog_1_method_49_code ft_56 0 27 = true := by decide +kernel
theorem dk_57_0 : dchk prog_1_method_25_code ft_57 0 15 = true := by decide +kernel
theorem dk_58_0 : dchk prog_1_method_26_code ft_58 0 15 = true := by decide +kernel
theorem dk_59_0 : dchk prog_1_method_40_code ft_59 0 54 = true := by decide +kernel
theorem dk_60_0 : dchk prog_1_method_27_code ft_60 0 20 = true := by decide +kernel
theorem dk_61_0 : dchk prog_1_method_56_code ft_61 0 34 = true := by decide +kernel
theorem dk_62_0 : dchk prog_1_method_28_code ft_62 0 20 = true := by decide +kernel
theorem dk_63_0 : dchk prog_1_method_29_code ft_63 0 20 = true := by decide +kernel
theorem dk_64_0 : dchk prog_1_method_30_code ft_64 0 20 = true := by decide +kernel
theorem dk_65_0 : dchk prog_1_method_51_code ft_65 0 95 = true := by decide +kernel
theorem dk_66_0 : dchk prog_1_method_31_code ft_66 0 17 = true := by decide +kernel
theorem dk_67_0 : dchk prog_1_method_57_code ft_67 0 27 = true := by decide +kernel
theorem dk_68_0 : dchk prog_1_method_32_code ft_68 0 17 = true := by decide +kernel
theorem dk_69_0 : dchk prog_1_method_33_code ft_69 0 17 = true := by decide +kernel
theorem dk_70_0 : dchk prog_1_method_34_code ft_70 0 17 = true := by decide +kernel
theorem dk_71_0 : dchk prog_1_method_35_code ft_71 0 17 = true := by decide +kernel
theorem dk_72_0 : dchk prog_1_method_2_code ft_72 0 73 = true := by decide +kernel
theorem dk_73_0 : dchk prog_1_method_3_code ft_73 0 35 = true := by decide +kernel
theorem dk_74_0 : dchk prog_1_method_6_code ft_74 0 100 = true := by decide +kernel
theorem dk_74_1 : dchk prog_1_method_6_code ft_74 100 68 = true := by decide +kernel
theorem dk_75_0 : dchk prog_1_method_59_code ft_75 0 43 = true := by decide +kernel
theorem dk_76_0 : dchk prog_1_method_58_code ft_76 0 17 = true := by decide +kernel
theorem dk_77_0 : dchk prog_1_method_45_code ft_77 0 100 = true := by decide +kernel
theorem dk_77_1 : dchk prog_1_method_45_code ft_77 100 46 = true := by decide +kernel
theorem dk_78_0 : dchk prog_1_method_7_code ft_78 0 82 = true := by decide +kernel
theorem dk_79_0 : dchk prog_1_method_19_code ft_79 0 14 = true := by decide +kernel
theorem dk_80_0 : dchk prog_1_method_53_code ft_80 0 23 = true := by decide +kernel
theorem dk_81_0 : dchk prog_1_method_20_code ft_81 0 17 = true := by decide +kernel
theorem dk_82_0 : dchk prog_1_method_21_code ft_82 0 23 = true := by decide +kernel
theorem dk_83_0 : dchk prog_1_method_37_code ft_83 0 63 = true := by decide +kernel
theorem dk_84_0 : dchk prog_1_method_38_code ft_84 0 48 = true := by decide +kernel
theorem dk_85_0 : dchk prog_1_method_52_code ft_85 0 19 = true := by decide +kernel
theorem dk_86_0 : dchk prog_1_method_39_code ft_86 0 59 = true := by decide +kernel
theorem dk_87_0 : dchk prog_3_method_1_code ft_87 0 79 = true := by decide +kernel
theorem dk_88_0 : dchk prog_3_method_2_code ft_88 0 24 = true := by decide +kernel
theorem dk_89_0 : dchk prog_3_method_3_code ft_89 0 40 = true := by decide +kernel
theorem dk_90_0 : dchk prog_3_method_4_code ft_90 0 62 = true := by decide +kernel
theorem dk_91_0 : dchk prog_3_method_5_code ft_91 0 19 = true := by decide +kernel
theorem dk_92_0 : dchk prog_3_method_6_code ft_92 0 25 = true := by decide +kernel
theorem dk_93_0 : dchk prog_3_method_7_code ft_93 0 57 = true := by decide +kernel
theorem dk_94_0 : dchk prog_3_method_8_code ft_94 0 31 = true := by decide +kernel
theorem dk_95_0 : dchk prog_4_method_1_code ft_95 0 5 = true := by decide +kernel
theorem dk_96_0 : dchk prog_4_method_2_code ft_96 0 27 = true := by decide +kernel
theorem dk_97_0 : dchk prog_5_method_1_code ft_97 0 22 = true := by decide +kernel
theorem dk_98_0 : dchk prog_5_method_3_code ft_98 0 20 = true := by decide +kernel
theorem dk_99_0 : dchk prog_5_method_2_code ft_99 0 21 = true := by decide +kernel
theorem dk_100_0 : dchk prog_5_method_4_code ft_100 0 36 = true := by decide +kernel
theorem dk_101_0 : dchk prog_7_method_1_code ft_101 0 32 = true := by decide +kernel
theorem dk_102_0 : dchk prog_7_method_2_code ft_102 0 62 = true := by decide +kernel
theorem dk_103_0 : dchk prog_7_method_3_code ft_103 0 78 = true := by decide +kernel
theorem dk_104_0 : dchk prog_7_method_4_code ft_104 0 100 = true := by decide +kernel
theorem dk_104_1 : dchk prog_7_method_4_code ft_104 100 65 = true := by decide +kernel
theorem dk_105_0 : dchk prog_7_method_6_code ft_105 0 40 = true := by decide +kernel
theorem dk_106_0 : dchk prog_7_method_7_code ft_106 0 42 = true := by decide +kernel
theorem dk_107_0 : dchk prog_7_method_5_code ft_107 0 100 = true := by decide +kernel
theorem dk_107_1 : dchk prog_7_method_5_code ft_107 100 5 = true := by decide +kernel
theorem dk_108_0 : dchk prog_8_method_1_code ft_108 0 14 = true := by decide +kernel
theorem dk_109_0 : dchk prog_8_method_3_code ft_109 0 36 = true := by decide +kernel
theorem dk_110_0 : dchk prog_8_method_6_code ft_110 0 51 = true := by decide +kernel
theorem dk_111_0 : dchk prog_8_method_4_code ft_111 0 34 = true := by decide +kernel
theorem dk_112_0 : dchk prog_8_method_5_code ft_112 0 36 = true := by decide +kernel
theorem dk_113_0 : dchk prog_8_method_2_code ft_113 0 56 = true := by decide +kernel
theorem dk_114_0 : dchk prog_9_method_1_code ft_114 0 64 = true := by decide +kernel
theorem dk_115_0 : dchk prog_9_method_2_code ft_115 0 100 = true := by decide +kernel
theorem dk_115_1 : dchk prog_9_method_2_code ft_115 100 11 = true := by decide +kernel
theorem dk_116_0 : dchk prog_9_method_4_code ft_116 0 72 = true := by decide +kernel
theorem dk_117_0 : dchk prog_9_method_5_code ft_117 0 69 = true := by decide +kernel
theorem dk_118_0 : dchk prog_9_method_3_code ft_118 0 28 = true := by decide +kernel
theorem dk_119_0 : dchk prog_9_method_6_code ft_119 0 78 = true := by decide +kernel
theorem dk_120_0 : dchk prog_9_method_7_code ft_120 0 100 = true := by decide +kernel
theorem dk_120_1 : dchk prog_9_method_7_code ft_120 100 24 = true := by decide +kernel
theorem dk_121_0 : dchk prog_9_method_9_code ft_121 0 33 = true := by decide +kernel
theorem dk_122_0 : dchk prog_9_method_10_code ft_122 0 42 = true := by decide +kernel
theorem dk_123_0 : dchk prog_9_method_12_code ft_123 0 36 = true := by decide +kernel
theorem dk_124_0 : dchk prog_9_method_17_code ft_124 0 64 = true := by decide +kernel
theorem dk_125_0 : dchk prog_9_method_18_code ft_125 0 64 = true := by decide +kernel
theorem dk_126_0 : dchk prog_9_method_19_code ft_126 0 70 = true := by decide +kernel
theorem dk_127_0 : dchk prog_9_method_20_code ft_127 0 100 = true := by decide +kernel
theorem dk_127_1 : dchk prog_9_method_20_code ft_127 100 59 = true := by decide +kernel
theorem dk_128_0 : dchk prog_9_method_11_code ft_128 0 22 = true := by decide +kernel
theorem dk_129_0 : dchk prog_9_method_13_code ft_129 0 25 = true := by decide +kernel
theorem dk_130_0 : dchk prog_9_method_21_code ft_130 0 91 = true := by decide +kernel
theorem dk_131_0 : dchk prog_9_method_22_code ft_131 0 64 = true := by decide +kernel
theorem dk_132_0 : dchk prog_9_method_23_code ft_132 0 100 = true := by decide +kernel
theorem dk_132_1 : dchk prog_9_method_23_code ft_132 100 15 = true := by decide +kernel
theorem dk_133_0 : dchk prog_9_method_25_code ft_133 0 41 = true := by decide +kernel
theorem dk_134_0 : dchk prog_9_method_24_code ft_134 0 27 = true := by decide +kernel
theorem dk_135_0 : dchk prog_9_method_8_code ft_135 0 100 = true := by decide +kernel
theorem dk_135_1 : dchk prog_9_method_8_code ft_135 100 99 = true := by decide +kernel
theorem dk_136_0 : dchk prog_9_method_14_code ft_136 0 100 = true := by decide +kernel
theorem dk_136_1 : dchk prog_9_method_14_code ft_136 100 43 = true := by decide +kernel
theorem dk_137_0 : dchk prog_9_method_15_code ft_137 0 65 = true := by decide +kernel
theorem dk_138_0 : dchk prog_9_method_16_code ft_138 0 100 = true := by decide +kernel
theorem dk_138_1 : dchk prog_9_method_16_code ft_138 100 28 = true := by decide +kernel
theorem dk_139_0 : dchk prog_10_method_1_code ft_139 0 45 = true := by decide +kernel
theorem dk_140_0 : dchk prog_10_method_2_code ft_140 0 100 = true := by decide +kernel
theorem dk_140_1 : dchk prog_10_method_2_code ft_140 100 57 = true := by decide +kernel
theorem dk_141_0 : dchk prog_10_method_3_code ft_141 0 84 = true := by decide +kernel
theorem dk_142_0 : dchk prog_11_method_1_code ft_142 0 53 = true := by decide +kernel
theorem dk_143_0 : dchk prog_11_method_2_code ft_143 0 94 = true := by decide +kernel
theorem dk_144_0 : dchk prog_11_method_3_code ft_144 0 35 = true := by decide +kernel
theorem dk_145_0 : dchk prog_11_method_11_code ft_145 0 18 = true := by decide +kernel
theorem dk_146_0 : dchk prog_11_method_4_code ft_146 0 100 = true := by decide +kernel
theorem dk_146_1 : dchk prog_11_method_4_code ft_146 100 1 = true := by decide +kernel
theorem dk_147_0 : dchk prog_11_method_12_code ft_147 0 18 = true := by decide +kernel
theorem dk_148_0 : dchk prog_11_method_13_code ft_148 0 18 = true := by decide +kernel
theorem dk_149_0 : dchk prog_11_method_5_code ft_149 0 100 = true := by decide +kernel
theorem dk_149_1 : dchk prog_11_method_5_code ft_149 100 20 = true := by decide +kernel
theorem dk_150_0 : dchk prog_11_method_6_code ft_150 0 100 = true := by decide +kernel
theorem dk_150_1 : dchk prog_11_method_6_code ft_150 100 44 = true := by decide +kernel
theorem dk_151_0 : dchk prog_11_method_10_code ft_151 0 57 = true := by decide +kernel
theorem dk_152_0 : dchk prog_11_method_8_code ft_152 0 33 = true := by decide +kernel
theorem dk_153_0 : dchk prog_11_method_7_code ft_153 0 46 = true := by decide +kernel
theorem dk_154_0 : dchk prog_11_method_9_code ft_154 0 33 = true := by decide +kernel
theorem dk_155_0 : dchk prog_12_method_1_code ft_155 0 41 = true := by decide +kernel
theorem dk_156_0 : dchk prog_12_method_2_code ft_156 0 11 = true := by decide +kernel
theorem dk_157_0 : dchk prog_12_method_6_code ft_157 0 96 = true := by decide +kernel
theorem dk_158_0 : dchk prog_12_method_11_code ft_158 0 38 = true := by decide +kernel
theorem dk_159_0 : dchk prog_12_method_12_code ft_159 0 71 = true := by decide +kernel
theorem dk_160_0 : dchk prog_12_method_7_code ft_160 0 35 = true := by decide +kernel
theorem dk_161_0 : dchk prog_12_method_8_code ft_161 0 35 = true := by decide +kernel
theorem dk_162_0 : dchk prog_12_method_5_code ft_162 0 100 = true := by decide +kernel
theorem dk_162_1 : dchk prog_12_method_5_code ft_162 100 65 = true := by decide +kernel
theorem dk_163_0 : dchk prog_12_method_10_code ft_163 0 69 = true := by decide +kernel
theorem dk_164_0 : dchk prog_12_method_9_code ft_164 0 35 = true := by decide +kernel
theorem dk_165_0 : dchk prog_12_method_3_code ft_165 0 68 = true := by decide +kernel
theorem dk_166_0 : dchk prog_12_method_4_code ft_166 0 87 = true := by decide +kernel
theorem dk_167_0 : dchk prog_14_method_1_code ft_167 0 100 = true := by decide +kernel
theorem dk_167_1 : dchk prog_14_method_1_code ft_167 100 100 = true := by decide +kernel
theorem dk_167_2 : dchk prog_14_method_1_code ft_167 200 2 = true := by decide +kernel
theorem dk_168_0 : dchk prog_14_method_6_code ft_168 0 36 = true := by decide +kernel
theorem dk_169_0 : dchk prog_14_method_8_code ft_169 0 43 = true := by decide +kernel
theorem dk_170_0 : dchk prog_14_method_9_code ft_170 0 52 = true := by decide +kernel
theorem dk_171_0 : dchk prog_14_method_2_code ft_171 0 5 = true := by decide +kernel
theorem dk_172_0 : dchk prog_14_method_55_code ft_172 0 100 = true := by decide +kernel
theorem dk_172_1 : dchk prog_14_method_55_code ft_172 100 28 = true := by decide +kernel
theorem dk_173_0 : dchk prog_14_method_3_code ft_173 0 7 = true := by decide +kernel
theorem dk_174_0 : dchk prog_14_method_56_code ft_174 0 30 = true := by decide +kernel
theorem dk_175_0 : dchk prog_14_method_5_code ft_175 0 16 = true := by decide +kernel
theorem dk_176_0 : dchk prog_14_method_57_code ft_176 0 100 = true := by decide +kernel
theorem dk_176_1 : dchk prog_14_method_57_code ft_176 100 4 = true := by decide +kernel
theorem dk_177_0 : dchk prog_14_method_12_code ft_177 0 100 = true := by decide +kernel
theorem dk_177_1 : dchk prog_14_method_12_code ft_177 100 100 = true := by decide +kernel
theorem dk_177_2 : dchk prog_14_method_12_code ft_177 200 100 = true := by decide +kernel
theorem dk_177_3 : dchk prog_14_method_12_code ft_177 300 82 = true := by decide +kernel
theorem dk_178_0 : dchk prog_14_method_10_code ft_178 0 18 = true := by decide +kernel
theorem dk_179_0 : dchk prog_14_method_11_code ft_179 0 18 = true := by decide +kernel
theorem dk_180_0 : dchk prog_14_method_29_code ft_180 0 100 = true := by decide +kernel
theorem dk_180_1 : dchk prog_14_method_29_code ft_180 100 49 = true := by decide +kernel
theorem dk_181_0 : dchk prog_14_method_19_code ft_181 0 22 = true := by decide +kernel
theorem dk_182_0 : dchk prog_14_method_15_code ft_182 0 32 = true := by decide +kernel
theorem dk_183_0 : dchk prog_14_method_30_code ft_183 0 100 = true := by decide +kernel
theorem dk_183_1 : dchk prog_14_method_30_code ft_183 100 3 = true := by decide +kernel
theorem dk_184_0 : dchk prog_14_method_14_code ft_184 0 26 = true := by decide +kernel
theorem dk_185_0 : dchk prog_14_method_13_code ft_185 0 17 = true := by decide +kernel
theorem dk_186_0 : dchk prog_14_method_21_code ft_186 0 62 = true := by decide +kernel
theorem dk_187_0 : dchk prog_14_method_22_code ft_187 0 13 = true := by decide +kernel
theorem dk_188_0 : dchk prog_14_method_20_code ft_188 0 22 = true := by decide +kernel
theorem dk_189_0 : dchk prog_14_method_16_code ft_189 0 34 = true := by decide +kernel
theorem dk_190_0 : dchk prog_14_method_18_code ft_190 0 30 = true := by decide +kernel
theorem dk_191_0 : dchk prog_14_method_31_code ft_191 0 100 = true := by decide +kernel
theorem dk_191_1 : dchk prog_14_method_31_code ft_191 100 54 = true := by decide +kernel
theorem dk_192_0 : dchk prog_14_method_24_code ft_192 0 50 = true := by decide +kernel
theorem dk_193_0 : dchk prog_14_method_23_code ft_193 0 100 = true := by decide +kernel
theorem dk_193_1 : dchk prog_14_method_23_code ft_193 100 90 = true := by decide +kernel
theorem dk_194_0 : dchk prog_14_method_27_code ft_194 0 41 = true := by decide +kernel
theorem dk_195_0 : dchk prog_14_method_17_code ft_195 0 30 = true := by decide +kernel
theorem dk_196_0 : dchk prog_14_method_33_code ft_196 0 41 = true := by decide +kernel
theorem dk_197_0 : dchk prog_14_method_34_code ft_197 0 41 = true := by decide +kernel
theorem dk_198_0 : dchk prog_14_method_35_code ft_198 0 47 = true := by decide +kernel
theorem dk_199_0 : dchk prog_14_method_36_code ft_199 0 100 = true := by decide +kernel
theorem dk_199_1 : dchk prog_14_method_36_code ft_199 100 100 = true := by decide +kernel
theorem dk_199_2 : dchk prog_14_method_36_code ft_199 200 17 = true := by decide +kernel
theorem dk_200_0 : dchk prog_14_method_26_code ft_200 0 46 = true := by decide +kernel
theorem dk_201_0 : dchk prog_14_method_25_code ft_201 0 28 = true := by decide +kernel
theorem dk_202_0 : dchk prog_14_method_37_code ft_202 0 73 = true := by decide +kernel
theorem dk_203_0 : dchk prog_14_method_38_code ft_203 0 39 = true := by decide +kernel
theorem dk_204_0 : dchk prog_14_method_39_code ft_204 0 100 = true := by decide +kernel
theorem dk_204_1 : dchk prog_14_method_39_code ft_204 100 59 = true := by decide +kernel
theorem dk_205_0 : dchk prog_14_method_28_code ft_205 0 39 = true := by decide +kernel
theorem dk_206_0 : dchk prog_14_method_32_code ft_206 0 100 = true := by decide +kernel
theorem dk_206_1 : dchk prog_14_method_32_code ft_206 100 100 = true := by decide +kernel
theorem dk_206_2 : dchk prog_14_method_32_code ft_206 200 100 = true := by decide +kernel
theorem dk_206_3 : dchk prog_14_method_32_code ft_206 300 100 = true := by decide +kernel
theorem dk_206_4 : dchk prog_14_method_32_code ft_206 400 83 = true := by decide +kernel
theorem dk_207_0 : dchk prog_14_method_58_code ft_207 0 9 = true := by decide +kernel
theorem dk_208_0 : dchk prog_14_method_4_code ft_208 0 7 = true := by decide +kernel
theorem dk_209_0 : dchk prog_14_method_62_code ft_209 0 100 = true := by decide +kernel
theorem dk_209_1 : dchk prog_14_method_62_code ft_209 100 95 = true := by decide +kernel
theorem dk_210_0 : dchk prog_14_method_59_code ft_210 0 47 = true := by decide +kernel
theorem dk_211_0 : dchk prog_14_method_42_code ft_211 0 30 = true := by decide +kernel
theorem dk_212_0 : dchk prog_14_method_41_code ft_212 0 56 = true := by decide +kernel
theorem dk_213_0 : dchk prog_14_method_40_code ft_213 0 100 = true := by decide +kernel
theorem dk_213_1 : dchk prog_14_method_40_code ft_213 100 100 = true := by decide +kernel
theorem dk_213_2 : dchk prog_14_method_40_code ft_213 200 100 = true := by decide +kernel
theorem dk_213_3 : dchk prog_14_method_40_code ft_213 300 8 = true := by decide +kernel
theorem dk_214_0 : dchk prog_14_method_43_code ft_214 0 15 = true := by decide +kernel
theorem dk_215_0 : dchk prog_14_method_51_code ft_215 0 26 = true := by decide +kernel
theorem dk_216_0 : dchk prog_14_method_50_code ft_216 0 21 = true := by decide +kernel
theorem dk_217_0 : dchk prog_14_method_52_code ft_217 0 100 = true := by decide +kernel
theorem dk_217_1 : dchk prog_14_method_52_code ft_217 100 100 = true := by decide +kernel
theorem dk_217_2 : dchk prog_14_method_52_code ft_217 200 100 = true := by decide +kernel
theorem dk_217_3 : dchk prog_14_method_52_code ft_217 300 26 = true := by decide +kernel
theorem dk_218_0 : dchk prog_14_method_44_code ft_218 0 11 = true := by decide +kernel
theorem dk_219_0 : dchk prog_14_method_45_code ft_219 0 30 = true := by decide +kernel
theorem dk_220_0 : dchk prog_14_method_48_code ft_220 0 38 = true := by decide +kernel
theorem dk_221_0 : dchk prog_14_method_46_code ft_221 0 83 = true := by decide +kernel
theorem dk_222_0 : dchk prog_14_method_47_code ft_222 0 100 = true := by decide +kernel
theorem dk_222_1 : dchk prog_14_method_47_code ft_222 100 23 = true := by decide +kernel
theorem dk_223_0 : dchk prog_14_method_7_code ft_223 0 18 = true := by decide +kernel
theorem dk_224_0 : dchk prog_14_method_49_code ft_224 0 45 = true := by decide +kernel
theorem dk_225_0 : dchk prog_14_method_61_code ft_225 0 9 = true := by decide +kernel
theorem dk_226_0 : dchk prog_14_method_54_code ft_226 0 16 = true := by decide +kernel
theorem dk_227_0 : dchk prog_14_method_53_code ft_227 0 100 = true := by decide +kernel
theorem dk_227_1 : dchk prog_14_method_53_code ft_227 100 18 = true := by decide +kernel
theorem dk_228_0 : dchk prog_14_method_60_code ft_228 0 23 = true := by decide +kernel
theorem dk_229_0 : dchk prog_14_method_63_code ft_229 0 75 = true := by decide +kernel
theorem dk_230_0 : dchk prog_14_method_64_code ft_230 0 17 = true := by decide +kernel
theorem dk_231_0 : dchk prog_14_method_65_code ft_231 0 11 = true := by decide +kernel
theorem dk_232_0 : dchk prog_14_method_66_code ft_232 0 11 = true := by decide +kernel
theorem dk_233_0 : dchk prog_14_method_67_code ft_233 0 9 = true := by decide +kernel
theorem dk_234_0 : dchk prog_14_method_68_code ft_234 0 9 = true := by decide +kernel
theorem dk_235_0 : dchk prog_14_method_69_code ft_235 0 16 = true := by decide +kernel
theorem dk_236_0 : dchk prog_14_method_70_code ft_236 0 9 = true := by decide +kernel
theorem dk_237_0 : dchk prog_14_method_72_code ft_237 0 9 = true := by decide +kernel
theorem dk_238_0 : dchk prog_14_method_73_code ft_238 0 9 = true := by decide +kernel
theorem dk_239_0 : dchk prog_14_method_74_code ft_239 0 9 = true := by decide +kernel
theorem dk_240_0 : dchk prog_14_method_71_code ft_240 0 27 = true := by decide +kernel
theorem dk_241_0 : dchk prog_14_method_75_code ft_241 0 9 = true := by decide +kernel
theorem dk_242_0 : dchk prog_14_method_79_code ft_242 0 28 = true := by decide +kernel
theorem dk_243_0 : dchk prog_14_method_78_code ft_243 0 12 = true := by decide +kernel
theorem dk_244_0 : dchk prog_14_method_80_code ft_244 0 31 = true := by decide +kernel
theorem dk_245_0 : dchk prog_14_method_81_code ft_245 0 52 = true := by decide +kernel
theorem dk_246_0 : dchk prog_14_method_76_code ft_246 0 14 = true := by decide +kernel
theorem dk_247_0 : dchk prog_14_method_83_code ft_247 0 27 = true := by decide +kernel
theorem dk_248_0 : dchk prog_14_method_82_code ft_248 0 33 = true := by decide +kernel
theorem dk_249_0 : dchk prog_14_method_85_code ft_249 0 27 = true := by decide +kernel
theorem dk_250_0 : dchk prog_14_method_84_code ft_250 0 32 = true := by decide +kernel
theorem dk_251_0 : dchk prog_14_method_86_code ft_251 0 28 = true := by decide +kernel
theorem dk_252_0 : dchk prog_14_method_77_code ft_252 0 14 = true := by decide +kernel
theorem dk_253_0 : dchk prog_14_method_87_code ft_253 0 28 = true := by decide +kernel
theorem dk_254_0 : dchk prog_14_method_89_code ft_254 0 27 = true := by decide +kernel
theorem dk_255_0 : dchk prog_14_method_88_code ft_255 0 38 = true := by decide +kernel
theorem dk_256_0 : dchk prog_14_method_91_code ft_256 0 8 = true := by decide +kernel
theorem dk_257_0 : dchk prog_14_method_90_code ft_257 0 64 = true := by decide +kernel
theorem dk_258_0 : dchk prog_14_method_92_code ft_258 0 8 = true := by decide +kernel
theorem dk_259_0 : dchk prog_14_method_93_code ft_259 0 8 = true := by decide +kernel
theorem dk_260_0 : dchk prog_14_method_94_code ft_260 0 8 = true := by decide +kernel
theorem dk_261_0 : dchk prog_14_method_96_code ft_261 0 7 = true := by decide +kernel
theorem dk_262_0 : dchk prog_14_method_95_code ft_262 0 38 = true := by decide +kernel
theorem dk_263_0 : dchk prog_14_method_97_code ft_263 0 7 = true := by decide +kernel
theorem dk_264_0 : dchk prog_14_method_98_code ft_264 0 7 = true := by decide +kernel
theorem dk_265_0 : dchk prog_14_method_99_code ft_265 0 7 = true := by decide +kernel
theorem dk_266_0 : dchk prog_14_method_100_code ft_266 0 7 = true := by decide +kernel
theorem dk_267_0 : dchk prog_14_method_102_code ft_267 0 9 = true := by decide +kernel
theorem dk_268_0 : dchk prog_14_method_101_code ft_268 0 50 = true := by decide +kernel
theorem dk_269_0 : dchk prog_14_method_103_code ft_269 0 70 = true := by decide +kernel
theorem dk_270_0 : dchk prog_14_method_104_code ft_270 0 61 = true := by decide +kernel
theorem dk_271_0 : dchk prog_14_method_106_code ft_271 0 49 = true := by decide +kernel
theorem dk_272_0 : dchk prog_14_method_105_code ft_272 0 38 = true := by decide +kernel
theorem dk_273_0 : dchk prog_14_method_108_code ft_273 0 27 = true := by decide +kernel
theorem dk_274_0 : dchk prog_14_method_107_code ft_274 0 64 = true := by decide +kernel
theorem dk_275_0 : dchk prog_14_method_110_code ft_275 0 9 = true := by decide +kernel
theorem dk_276_0 : dchk prog_14_method_109_code ft_276 0 51 = true := by decide +kernel
theorem dk_277_0 : dchk prog_14_method_111_code ft_277 0 56 = true := by decide +kernel
theorem dk_278_0 : dchk prog_14_method_112_code ft_278 0 100 = true := by decide +kernel
theorem dk_278_1 : dchk prog_14_method_112_code ft_278 100 100 = true := by decide +kernel
theorem dk_278_2 : dchk prog_14_method_112_code ft_278 200 100 = true := by decide +kernel
theorem dk_278_3 : dchk prog_14_method_112_code ft_278 300 100 = true := by decide +kernel
theorem dk_278_4 : dchk prog_14_method_112_code ft_278 400 7 = true := by decide +kernel
theorem dk_279_0 : dchk prog_25_method_54_code ft_279 0 11 = true := by decide +kernel
theorem dk_280_0 : dchk prog_25_method_152_code ft_280 0 15 = true := by decide +kernel
theorem dk_281_0 : dchk prog_25_method_56_code ft_281 0 25 = true := by decide +kernel
theorem dk_282_0 : dchk prog_25_method_154_code ft_282 0 19 = true := by decide +kernel
theorem dk_283_0 : dchk prog_25_method_155_code ft_283 0 10 = true := by decide +kernel
theorem dk_284_0 : dchk prog_25_method_79_code ft_284 0 7 = true := by decide +kernel
theorem dk_285_0 : dchk prog_25_method_80_code ft_285 0 37 = true := by decide +kernel
theorem dk_286_0 : dchk prog_26_method_2_code ft_286 0 15 = true := by decide +kernel
theorem dk_287_0 : dchk prog_26_method_22_code ft_287 0 37 = true := by decide +kernel
theorem dk_288_0 : dchk prog_26_method_4_code ft_288 0 17 = true := by decide +kernel
theorem dk_289_0 : dchk prog_26_method_23_code ft_289 0 33 = true := by decide +kernel
theorem dk_290_0 : dchk prog_31_method_11_code ft_290 0 18 = true := by decide +kernel
theorem dk_291_0 : dchk prog_17_method_2_code ft_291 0 5 = true := by decide +kernel
theorem dk_292_0 : dchk prog_22_method_49_code ft_292 0 53 = true := by decide +kernel
theorem dk_293_0 : dchk prog_23_method_69_code ft_293 0 11 = true := by decide +kernel
theorem dk_294_0 : dchk prog_23_method_65_code ft_294 0 11 = true := by decide +kernel
theorem dk_295_0 : dchk prog_30_method_123_code ft_295 0 33 = true := by decide +kernel
