def TS_0 : List Cond := [.selects "GradientCoder$Coding" ⟨"GradientCoder$Pass", "lookAround", "(II)V"⟩ ⟨"GradientCoder$Pass", "lookAround", "(II)V"⟩, .selects "GradientCoder$Reading" ⟨"GradientCoder$Pass", "lookAround", "(II)V"⟩ ⟨"GradientCoder$Pass", "lookAround", "(II)V"⟩, .selects "GradientCoder$Coding" ⟨"GradientCoder$Pass", "rebuiltOrNothing", "(II)I"⟩ ⟨"GradientCoder$Pass", "rebuiltOrNothing", "(II)I"⟩, .selects "GradientCoder$Reading" ⟨"GradientCoder$Pass", "rebuiltOrNothing", "(II)I"⟩ ⟨"GradientCoder$Pass", "rebuiltOrNothing", "(II)I"⟩, .selects "GradientCoder$Coding" ⟨"GradientCoder$Pass", "isEven", "()Z"⟩ ⟨"GradientCoder$Pass", "isEven", "()Z"⟩, .selects "GradientCoder$Reading" ⟨"GradientCoder$Pass", "isEven", "()Z"⟩ ⟨"GradientCoder$Pass", "isEven", "()Z"⟩, .selects "GradientCoder$Coding" ⟨"GradientCoder$Pass", "overRegular", "(I)V"⟩ ⟨"GradientCoder$Pass", "overRegular", "(I)V"⟩, .selects "GradientCoder$Reading" ⟨"GradientCoder$Pass", "overRegular", "(I)V"⟩ ⟨"GradientCoder$Pass", "overRegular", "(I)V"⟩, .selects "GradientCoder$Coding" ⟨"GradientCoder$Pass", "signedContext", "()I"⟩ ⟨"GradientCoder$Pass", "signedContext", "()I"⟩, .selects "GradientCoder$Reading" ⟨"GradientCoder$Pass", "signedContext", "()I"⟩ ⟨"GradientCoder$Pass", "signedContext", "()I"⟩, .selects "GradientCoder$Coding" ⟨"GradientCoder$Pass", "foretoldByNeighbours", "()I"⟩ ⟨"GradientCoder$Pass", "foretoldByNeighbours", "()I"⟩, .selects "GradientCoder$Reading" ⟨"GradientCoder$Pass", "foretoldByNeighbours", "()I"⟩ ⟨"GradientCoder$Pass", "foretoldByNeighbours", "()I"⟩, .selects "GradientCoder$Coding" ⟨"GradientCoder$Pass", "overEnd", "(I)V"⟩ ⟨"GradientCoder$Pass", "overEnd", "(I)V"⟩, .selects "GradientCoder$Reading" ⟨"GradientCoder$Pass", "overEnd", "(I)V"⟩ ⟨"GradientCoder$Pass", "overEnd", "(I)V"⟩, .selects "GradientCoder$Picture" ⟨"GradientCoder$Picture", "becomeFine", "(I)V"⟩ ⟨"GradientCoder$Picture", "becomeFine", "(I)V"⟩, .selects "GradientCoder$Picture" ⟨"GradientCoder$Picture", "clamp", "(II)I"⟩ ⟨"GradientCoder$Picture", "clamp", "(II)I"⟩, .selects "GradientCoder$Picture" ⟨"GradientCoder$Picture", "becomeCoarse", "(I)V"⟩ ⟨"GradientCoder$Picture", "becomeCoarse", "(I)V"⟩, .selects "GradientCoder$Writer" ⟨"GradientCoder$Writer", "endsWith255", "()Z"⟩ ⟨"GradientCoder$Writer", "endsWith255", "()Z"⟩, .selects "java/lang/Throwable" ⟨"java/lang/Throwable", "fillInStackTrace", "(I)Ljava/lang/Throwable;"⟩ ⟨"java/lang/Throwable", "fillInStackTrace", "(I)Ljava/lang/Throwable;"⟩, .selects "GradientCoder$Reading" ⟨"GradientCoder$Reading", "readRest", "(II)I"⟩ ⟨"GradientCoder$Reading", "readRest", "(II)I"⟩, .selects "GradientCoder$Contexts" ⟨"GradientCoder$Contexts", "leastK", "(II)I"⟩ ⟨"GradientCoder$Contexts", "leastK", "(II)I"⟩, .selects "GradientCoder$Coding" ⟨"GradientCoder$Coding", "takeError", "(I)I"⟩ ⟨"GradientCoder$Coding", "takeError", "(I)I"⟩, .selects "GradientCoder$Reading" ⟨"GradientCoder$Reading", "rebuild", "(II)V"⟩ ⟨"GradientCoder$Reading", "rebuild", "(II)V"⟩, .selects "GradientCoder$Contexts" ⟨"GradientCoder$Contexts", "correctDown", "(I)V"⟩ ⟨"GradientCoder$Contexts", "correctDown", "(I)V"⟩, .selects "GradientCoder$Contexts" ⟨"GradientCoder$Contexts", "correctUp", "(I)V"⟩ ⟨"GradientCoder$Contexts", "correctUp", "(I)V"⟩, .selects "GradientCoder" ⟨"GradientCoder", "hasByte", "(I)Z"⟩ ⟨"GradientCoder", "hasByte", "(I)Z"⟩, .selects "GradientCoderModel" ⟨"GradientCoderModel", "prepare", "()V"⟩ ⟨"GradientCoderModel", "prepare", "()V"⟩, .selects "GradientCoderModel" ⟨"GradientCoderModel", "clamp", "(II)I"⟩ ⟨"GradientCoderModel", "clamp", "(II)I"⟩, .selects "GradientCoderModel" ⟨"GradientCoderModel", "forget", "()V"⟩ ⟨"GradientCoderModel", "forget", "()V"⟩, .selects "GradientCoderModel" ⟨"GradientCoderModel", "say", "(I)V"⟩ ⟨"GradientCoderModel", "say", "(I)V"⟩, .selects "GradientCoderModel" ⟨"GradientCoderModel", "walk", "()V"⟩ ⟨"GradientCoderModel", "walk", "()V"⟩, .selects "GradientCoderModel" ⟨"GradientCoderModel", "above", "(II)I"⟩ ⟨"GradientCoderModel", "above", "(II)I"⟩, .selects "GradientCoderModel" ⟨"GradientCoderModel", "value", "(II)I"⟩ ⟨"GradientCoderModel", "value", "(II)I"⟩, .selects "GradientCoderModel" ⟨"GradientCoderModel", "corner", "(II)I"⟩ ⟨"GradientCoderModel", "corner", "(II)I"⟩, .selects "GradientCoderModel" ⟨"GradientCoderModel", "before", "(II)I"⟩ ⟨"GradientCoderModel", "before", "(II)I"⟩, .selects "GradientCoderModel" ⟨"GradientCoderModel", "beyond", "(II)I"⟩ ⟨"GradientCoderModel", "beyond", "(II)I"⟩, .selects "GradientCoderModel" ⟨"GradientCoderModel", "isNear", "(I)Z"⟩ ⟨"GradientCoderModel", "isNear", "(I)Z"⟩, .selects "GradientCoderModel" ⟨"GradientCoderModel", "readRun", "(II)I"⟩ ⟨"GradientCoderModel", "readRun", "(II)I"⟩, .selects "GradientCoderModel" ⟨"GradientCoderModel", "jOf", "(I)I"⟩ ⟨"GradientCoderModel", "jOf", "(I)I"⟩, .selects "GradientCoderModel" ⟨"GradientCoderModel", "get", "()I"⟩ ⟨"GradientCoderModel", "get", "()I"⟩, .selects "GradientCoderModel" ⟨"GradientCoderModel", "getMany", "(I)I"⟩ ⟨"GradientCoderModel", "getMany", "(I)I"⟩, .selects "GradientCoderModel" ⟨"GradientCoderModel", "endRun", "(III)V"⟩ ⟨"GradientCoderModel", "endRun", "(III)V"⟩, .selects "GradientCoderModel" ⟨"GradientCoderModel", "read", "(II)I"⟩ ⟨"GradientCoderModel", "read", "(II)I"⟩, .selects "GradientCoderModel" ⟨"GradientCoderModel", "settle", "(IIIII)V"⟩ ⟨"GradientCoderModel", "settle", "(IIIII)V"⟩, .selects "GradientCoderModel" ⟨"GradientCoderModel", "held", "(I)I"⟩ ⟨"GradientCoderModel", "held", "(I)I"⟩, .selects "GradientCoderModel" ⟨"GradientCoderModel", "errorOf", "(IIII)I"⟩ ⟨"GradientCoderModel", "errorOf", "(IIII)I"⟩, .selects "GradientCoderModel" ⟨"GradientCoderModel", "divided", "(I)I"⟩ ⟨"GradientCoderModel", "divided", "(I)I"⟩, .selects "GradientCoderModel" ⟨"GradientCoderModel", "reduced", "(I)I"⟩ ⟨"GradientCoderModel", "reduced", "(I)I"⟩, .selects "GradientCoderModel" ⟨"GradientCoderModel", "write", "(III)V"⟩ ⟨"GradientCoderModel", "write", "(III)V"⟩, .selects "GradientCoderModel" ⟨"GradientCoderModel", "putMany", "(II)V"⟩ ⟨"GradientCoderModel", "putMany", "(II)V"⟩, .selects "GradientCoderModel" ⟨"GradientCoderModel", "put", "(I)V"⟩ ⟨"GradientCoderModel", "put", "(I)V"⟩, .selects "GradientCoderModel" ⟨"GradientCoderModel", "writeRun", "(II)I"⟩ ⟨"GradientCoderModel", "writeRun", "(II)I"⟩, .selects "GradientCoderModel" ⟨"GradientCoderModel", "regular", "(II)V"⟩ ⟨"GradientCoderModel", "regular", "(II)V"⟩, .selects "GradientCoderModel" ⟨"GradientCoderModel", "quantized", "(I)I"⟩ ⟨"GradientCoderModel", "quantized", "(I)I"⟩, .selects "GradientCoderModel" ⟨"GradientCoderModel", "learn", "(II)V"⟩ ⟨"GradientCoderModel", "learn", "(II)V"⟩, .selects "GradientCoderModel" ⟨"GradientCoderModel", "keep", "()V"⟩ ⟨"GradientCoderModel", "keep", "()V"⟩, .selects "GradientCoderModel" ⟨"GradientCoderModel", "endsWell", "()Z"⟩ ⟨"GradientCoderModel", "endsWell", "()Z"⟩, .selects "GradientCoderModel" ⟨"GradientCoderModel", "putBack", "(IIIII)V"⟩ ⟨"GradientCoderModel", "putBack", "(IIIII)V"⟩, .selects "GradientCoderModel" ⟨"GradientCoderModel", "isPlace", "(II)Z"⟩ ⟨"GradientCoderModel", "isPlace", "(II)Z"⟩, .initialized "GradientCoderLaw"]
def TS_1 : List Cond := [.initialized "GradientCoder", .initialized "GradientCoder$Pass", .initialized "GradientCoder$Coding", .initialized "GradientCoder$Picture", .initialized "java/lang/Math", .initialized "GradientCoder$Contexts", .initialized "GradientCoder$Writer", .initialized "java/util/Arrays", .initialized "GradientCoder$Reading", .initialized "GradientCoder$Reader", .initialized "GradientCoderModel", .initialized "java/lang/Throwable", .initialized "java/lang/Exception", .initialized "java/lang/RuntimeException", .initialized "java/lang/IllegalArgumentException", .initialized "GradientCoder$Folding", .initialized "java/lang/System", .classLink "GradientCoderLaw" (8) "GradientCoder", .instantiable "GradientCoder" (2), .methodLink "GradientCoderLaw" (15) ⟨"GradientCoder", "<init>", "()V"⟩, .instanceMethod ⟨"GradientCoder", "<init>", "()V"⟩, .code ⟨"GradientCoder", "<init>", "()V"⟩ prog_1_method_1_code (1) none, .methodLink "GradientCoder" (1) ⟨"java/lang/Object", "<init>", "()V"⟩, .instanceMethod ⟨"java/lang/Object", "<init>", "()V"⟩, .code ⟨"java/lang/Object", "<init>", "()V"⟩ object_method_1_code (1) none, .classLink "GradientCoder" (7) "GradientCoder$Coding", .instantiable "GradientCoder$Coding" (11), .methodLink "GradientCoder" (9) ⟨"GradientCoder$Coding", "<init>", "()V"⟩, .instanceMethod ⟨"GradientCoder$Coding", "<init>", "()V"⟩, .code ⟨"GradientCoder$Coding", "<init>", "()V"⟩ prog_2_method_1_code (1) none, .instanceMethod ⟨"GradientCoder$Pass", "<init>", "()V"⟩, .code ⟨"GradientCoder$Pass", "<init>", "()V"⟩ prog_5_method_1_code (1) none, .methodLink "GradientCoder$Pass" (1) ⟨"java/lang/Object", "<init>", "()V"⟩, .classLink "GradientCoder$Pass" (7) "GradientCoder$Picture", .instantiable "GradientCoder$Picture" (11), .methodLink "GradientCoder$Pass" (9) ⟨"GradientCoder$Picture", "<init>", "()V"⟩, .instanceMethod ⟨"GradientCoder$Picture", "<init>", "()V"⟩, .code ⟨"GradientCoder$Picture", "<init>", "()V"⟩ prog_6_method_1_code (1) none, .methodLink "GradientCoder$Picture" (3) ⟨"java/lang/Object", "<init>", "()V"⟩, .methodLink "GradientCoder$Picture" (9) ⟨"GradientCoder$Picture", "become", "(IIII)V"⟩, .instanceMethod ⟨"GradientCoder$Picture", "become", "(IIII)V"⟩, .selects "GradientCoder$Picture" ⟨"GradientCoder$Picture", "become", "(IIII)V"⟩ ⟨"GradientCoder$Picture", "become", "(IIII)V"⟩, .code ⟨"GradientCoder$Picture", "become", "(IIII)V"⟩ prog_6_method_4_code (6) none, .methodLink "GradientCoder$Picture" (32) ⟨"GradientCoder$Picture", "leastPower", "(II)I"⟩, .static ⟨"GradientCoder$Picture", "leastPower", "(II)I"⟩, .code ⟨"GradientCoder$Picture", "leastPower", "(II)I"⟩ prog_6_method_8_code (3) (some .int), .methodLink "GradientCoder$Picture" (39) ⟨"java/lang/Math", "max", "(II)I"⟩, .static ⟨"java/lang/Math", "max", "(II)I"⟩, .code ⟨"java/lang/Math", "max", "(II)I"⟩ prog_14_method_65_code (2) (some .int), .methodLink "GradientCoder$Picture" (47) ⟨"GradientCoder$Picture", "becomeFine", "(I)V"⟩, .instanceMethod ⟨"GradientCoder$Picture", "becomeFine", "(I)V"⟩, .code ⟨"GradientCoder$Picture", "becomeFine", "(I)V"⟩ prog_6_method_5_code (2) none, .methodLink "GradientCoder$Picture" (54) ⟨"GradientCoder$Picture", "clamp", "(II)I"⟩, .instanceMethod ⟨"GradientCoder$Picture", "clamp", "(II)I"⟩, .code ⟨"GradientCoder$Picture", "clamp", "(II)I"⟩ prog_6_method_7_code (3) (some .int), .methodLink "GradientCoder$Picture" (51) ⟨"GradientCoder$Picture", "becomeCoarse", "(I)V"⟩, .instanceMethod ⟨"GradientCoder$Picture", "becomeCoarse", "(I)V"⟩, .code ⟨"GradientCoder$Picture", "becomeCoarse", "(I)V"⟩ prog_6_method_6_code (2) none, .fieldLink "GradientCoder$Coding" (56) "GradientCoder$Picture" "width" "I", .fieldLink "GradientCoder$Picture" (13) "GradientCoder$Picture" "width" "I"]
def TS_2 : List Cond := [.fieldLink "GradientCoder$Pass" (38) "GradientCoder$Picture" "width" "I", .fieldLink "GradientCoder" (89) "GradientCoder$Picture" "width" "I", .fieldLink "GradientCoder" (37) "GradientCoder$Picture" "height" "I", .fieldLink "GradientCoder$Picture" (17) "GradientCoder$Picture" "height" "I", .fieldLink "GradientCoder$Coding" (73) "GradientCoder$Picture" "height" "I", .fieldLink "GradientCoder$Pass" (35) "GradientCoder$Picture" "height" "I", .fieldLink "GradientCoder$Coding" (63) "GradientCoder$Picture" "maxval" "I", .fieldLink "GradientCoder$Picture" (20) "GradientCoder$Picture" "maxval" "I", .fieldLink "GradientCoder" (92) "GradientCoder$Picture" "maxval" "I", .fieldLink "GradientCoder$Picture" (23) "GradientCoder$Picture" "near" "I", .fieldLink "GradientCoder$Coding" (76) "GradientCoder$Picture" "near" "I", .fieldLink "GradientCoder$Pass" (108) "GradientCoder$Picture" "near" "I", .fieldLink "GradientCoder" (95) "GradientCoder$Picture" "near" "I", .fieldLink "GradientCoder$Picture" (26) "GradientCoder$Picture" "step" "I", .fieldLink "GradientCoder$Reading" (122) "GradientCoder$Picture" "step" "I", .fieldLink "GradientCoder$Pass" (118) "GradientCoder$Picture" "step" "I", .fieldLink "GradientCoder$Coding" (149) "GradientCoder$Picture" "step" "I", .fieldLink "GradientCoder$Coding" (30) "GradientCoder$Picture" "range" "I", .fieldLink "GradientCoder$Picture" (29) "GradientCoder$Picture" "range" "I", .fieldLink "GradientCoder$Pass" (27) "GradientCoder$Picture" "range" "I", .fieldLink "GradientCoder" (98) "GradientCoder$Picture" "range" "I", .fieldLink "GradientCoder$Picture" (36) "GradientCoder$Picture" "qb" "I", .fieldLink "GradientCoder$Reading" (83) "GradientCoder$Picture" "qb" "I", .fieldLink "GradientCoder$Coding" (127) "GradientCoder$Picture" "qb" "I", .fieldLink "GradientCoder" (101) "GradientCoder$Picture" "qb" "I", .fieldLink "GradientCoder$Picture" (44) "GradientCoder$Picture" "limit" "I", .fieldLink "GradientCoder$Reading" (80) "GradientCoder$Picture" "limit" "I", .fieldLink "GradientCoder$Coding" (124) "GradientCoder$Picture" "limit" "I", .fieldLink "GradientCoder" (104) "GradientCoder$Picture" "limit" "I", .fieldLink "GradientCoder$Pass" (155) "GradientCoder$Picture" "limit" "I", .fieldLink "GradientCoder$Picture" (57) "GradientCoder$Picture" "t1" "I", .fieldLink "GradientCoder" (107) "GradientCoder$Picture" "t1" "I", .fieldLink "GradientCoder$Picture" (60) "GradientCoder$Picture" "t2" "I", .fieldLink "GradientCoder" (110) "GradientCoder$Picture" "t2" "I", .fieldLink "GradientCoder$Picture" (63) "GradientCoder$Picture" "t3" "I", .fieldLink "GradientCoder" (113) "GradientCoder$Picture" "t3" "I", .lays "GradientCoder$Picture" "GradientCoder$Picture" "width" "I", .lays "GradientCoder$Picture" "GradientCoder$Picture" "height" "I", .lays "GradientCoder$Picture" "GradientCoder$Picture" "maxval" "I", .lays "GradientCoder$Picture" "GradientCoder$Picture" "near" "I", .lays "GradientCoder$Picture" "GradientCoder$Picture" "step" "I", .lays "GradientCoder$Picture" "GradientCoder$Picture" "range" "I", .lays "GradientCoder$Picture" "GradientCoder$Picture" "qb" "I", .lays "GradientCoder$Picture" "GradientCoder$Picture" "limit" "I", .lays "GradientCoder$Picture" "GradientCoder$Picture" "t1" "I", .lays "GradientCoder$Picture" "GradientCoder$Picture" "t2" "I", .lays "GradientCoder$Picture" "GradientCoder$Picture" "t3" "I", .superclass "GradientCoder$Picture" "java/lang/Object", .classLink "GradientCoder$Pass" (16) "GradientCoder$Contexts", .instantiable "GradientCoder$Contexts" (6), .instanceMethod ⟨"GradientCoder$Contexts", "<init>", "()V"⟩, .code ⟨"GradientCoder$Contexts", "<init>", "()V"⟩ prog_3_method_1_code (1) none, .methodLink "GradientCoder$Contexts" (1) ⟨"java/lang/Object", "<init>", "()V"⟩, .fieldLink "GradientCoder$Contexts" (9) "GradientCoder$Contexts" "a" "[I", .fieldLink "GradientCoder" (137) "GradientCoder$Contexts" "a" "[I", .fieldLink "GradientCoder$Contexts" (13) "GradientCoder$Contexts" "b" "[I", .fieldLink "GradientCoder" (140) "GradientCoder$Contexts" "b" "[I", .fieldLink "GradientCoder$Contexts" (16) "GradientCoder$Contexts" "c" "[I", .fieldLink "GradientCoder$Pass" (97) "GradientCoder$Contexts" "c" "[I", .fieldLink "GradientCoder" (143) "GradientCoder$Contexts" "c" "[I"]
def TS_3 : List Cond := [.fieldLink "GradientCoder$Contexts" (19) "GradientCoder$Contexts" "n" "[I", .fieldLink "GradientCoder" (146) "GradientCoder$Contexts" "n" "[I", .fieldLink "GradientCoder$Contexts" (22) "GradientCoder$Contexts" "m" "[I", .fieldLink "GradientCoder" (149) "GradientCoder$Contexts" "m" "[I", .fieldLink "GradientCoder$Contexts" (37) "GradientCoder$Contexts" "runIndex" "I", .fieldLink "GradientCoder" (152) "GradientCoder$Contexts" "runIndex" "I", .laysFinal "GradientCoder$Contexts" "GradientCoder$Contexts" "a" "[I", .laysFinal "GradientCoder$Contexts" "GradientCoder$Contexts" "b" "[I", .laysFinal "GradientCoder$Contexts" "GradientCoder$Contexts" "c" "[I", .laysFinal "GradientCoder$Contexts" "GradientCoder$Contexts" "n" "[I", .laysFinal "GradientCoder$Contexts" "GradientCoder$Contexts" "m" "[I", .lays "GradientCoder$Contexts" "GradientCoder$Contexts" "runIndex" "I", .superclass "GradientCoder$Contexts" "java/lang/Object", .arrayClass .int, .classLink "GradientCoder$Coding" (15) "GradientCoder$Writer", .instantiable "GradientCoder$Writer" (3), .instanceMethod ⟨"GradientCoder$Writer", "<init>", "()V"⟩, .code ⟨"GradientCoder$Writer", "<init>", "()V"⟩ prog_9_method_1_code (1) none, .methodLink "GradientCoder$Writer" (1) ⟨"java/lang/Object", "<init>", "()V"⟩, .fieldLink "GradientCoder$Writer" (9) "GradientCoder$Writer" "bytes" "[I", .fieldLink "GradientCoder$Reading" (16) "GradientCoder$Writer" "bytes" "[I", .fieldLink "GradientCoder" (67) "GradientCoder$Writer" "bytes" "[I", .fieldLink "GradientCoder$Writer" (13) "GradientCoder$Writer" "size" "I", .fieldLink "GradientCoder$Reading" (22) "GradientCoder$Writer" "size" "I", .fieldLink "GradientCoder$Coding" (53) "GradientCoder$Writer" "size" "I", .fieldLink "GradientCoder" (60) "GradientCoder$Writer" "size" "I", .fieldLink "GradientCoder$Writer" (17) "GradientCoder$Writer" "bitsFree" "I", .laysFinal "GradientCoder$Writer" "GradientCoder$Writer" "bytes" "[I", .lays "GradientCoder$Writer" "GradientCoder$Writer" "size" "I", .lays "GradientCoder$Writer" "GradientCoder$Writer" "bitsFree" "I", .superclass "GradientCoder$Writer" "java/lang/Object", .methodLink "GradientCoder$Coding" (34) ⟨"GradientCoder$Contexts", "restart", "(I)V"⟩, .instanceMethod ⟨"GradientCoder$Contexts", "restart", "(I)V"⟩, .selects "GradientCoder$Contexts" ⟨"GradientCoder$Contexts", "restart", "(I)V"⟩ ⟨"GradientCoder$Contexts", "restart", "(I)V"⟩, .code ⟨"GradientCoder$Contexts", "restart", "(I)V"⟩ prog_3_method_2_code (2) none, .methodLink "GradientCoder$Contexts" (25) ⟨"java/lang/Math", "max", "(II)I"⟩, .methodLink "GradientCoder$Contexts" (31) ⟨"java/util/Arrays", "fill", "([II)V"⟩, .static ⟨"java/util/Arrays", "fill", "([II)V"⟩, .code ⟨"java/util/Arrays", "fill", "([II)V"⟩ prog_19_method_103_code (4) none, .fieldLink "GradientCoder$Coding" (9) "GradientCoder$Coding" "samples" "[I", .fieldLink "GradientCoder" (120) "GradientCoder$Coding" "samples" "[I", .fieldLink "GradientCoder$Coding" (18) "GradientCoder$Coding" "writer" "LGradientCoder$Writer;", .fieldLink "GradientCoder" (51) "GradientCoder$Coding" "writer" "LGradientCoder$Writer;", .fieldLink "GradientCoder$Pass" (10) "GradientCoder$Pass" "picture" "LGradientCoder$Picture;", .fieldLink "GradientCoder$Coding" (26) "GradientCoder$Coding" "picture" "LGradientCoder$Picture;", .sameField "GradientCoder$Coding" "GradientCoder$Pass" "picture" "LGradientCoder$Picture;", .fieldLink "GradientCoder$Reading" (46) "GradientCoder$Reading" "picture" "LGradientCoder$Picture;", .sameField "GradientCoder$Reading" "GradientCoder$Pass" "picture" "LGradientCoder$Picture;", .fieldLink "GradientCoder" (33) "GradientCoder$Coding" "picture" "LGradientCoder$Picture;", .fieldLink "GradientCoder$Coding" (70) "GradientCoder$Reading" "picture" "LGradientCoder$Picture;", .fieldLink "GradientCoder$Pass" (19) "GradientCoder$Pass" "contexts" "LGradientCoder$Contexts;", .fieldLink "GradientCoder$Coding" (22) "GradientCoder$Coding" "contexts" "LGradientCoder$Contexts;", .sameField "GradientCoder$Coding" "GradientCoder$Pass" "contexts" "LGradientCoder$Contexts;", .fieldLink "GradientCoder$Reading" (54) "GradientCoder$Reading" "contexts" "LGradientCoder$Contexts;", .sameField "GradientCoder$Reading" "GradientCoder$Pass" "contexts" "LGradientCoder$Contexts;", .fieldLink "GradientCoder$Coding" (79) "GradientCoder$Reading" "contexts" "LGradientCoder$Contexts;", .fieldLink "GradientCoder" (133) "GradientCoder$Coding" "contexts" "LGradientCoder$Contexts;", .fieldLink "GradientCoder$Pass" (23) "GradientCoder$Pass" "rebuilt" "[I", .fieldLink "GradientCoder$Coding" (50) "GradientCoder$Coding" "rebuilt" "[I", .sameField "GradientCoder$Coding" "GradientCoder$Pass" "rebuilt" "[I"]
def TS_4 : List Cond := [.fieldLink "GradientCoder$Coding" (84) "GradientCoder$Reading" "rebuilt" "[I", .sameField "GradientCoder$Reading" "GradientCoder$Pass" "rebuilt" "[I", .fieldLink "GradientCoder$Reading" (113) "GradientCoder$Reading" "rebuilt" "[I", .fieldLink "GradientCoder" (127) "GradientCoder$Coding" "rebuilt" "[I", .fieldLink "GradientCoder$Pass" (59) "GradientCoder$Pass" "a" "I", .fieldLink "GradientCoder$Coding" (96) "GradientCoder$Coding" "a" "I", .sameField "GradientCoder$Coding" "GradientCoder$Pass" "a" "I", .fieldLink "GradientCoder$Pass" (68) "GradientCoder$Pass" "b" "I", .fieldLink "GradientCoder$Pass" (71) "GradientCoder$Pass" "c" "I", .fieldLink "GradientCoder$Pass" (74) "GradientCoder$Pass" "d" "I", .fieldLink "GradientCoder$Reading" (119) "GradientCoder$Reading" "sign" "I", .sameField "GradientCoder$Reading" "GradientCoder$Pass" "sign" "I", .fieldLink "GradientCoder$Pass" (85) "GradientCoder$Pass" "sign" "I", .fieldLink "GradientCoder$Coding" (140) "GradientCoder$Coding" "sign" "I", .sameField "GradientCoder$Coding" "GradientCoder$Pass" "sign" "I", .fieldLink "GradientCoder$Reading" (116) "GradientCoder$Reading" "foretold" "I", .sameField "GradientCoder$Reading" "GradientCoder$Pass" "foretold" "I", .fieldLink "GradientCoder$Pass" (102) "GradientCoder$Pass" "foretold" "I", .fieldLink "GradientCoder$Coding" (143) "GradientCoder$Coding" "foretold" "I", .sameField "GradientCoder$Coding" "GradientCoder$Pass" "foretold" "I", .laysFinal "GradientCoder$Coding" "GradientCoder$Coding" "samples" "[I", .laysFinal "GradientCoder$Coding" "GradientCoder$Coding" "writer" "LGradientCoder$Writer;", .laysFinal "GradientCoder$Coding" "GradientCoder$Pass" "picture" "LGradientCoder$Picture;", .laysFinal "GradientCoder$Coding" "GradientCoder$Pass" "contexts" "LGradientCoder$Contexts;", .laysFinal "GradientCoder$Coding" "GradientCoder$Pass" "rebuilt" "[I", .lays "GradientCoder$Coding" "GradientCoder$Pass" "a" "I", .lays "GradientCoder$Coding" "GradientCoder$Pass" "b" "I", .lays "GradientCoder$Coding" "GradientCoder$Pass" "c" "I", .lays "GradientCoder$Coding" "GradientCoder$Pass" "d" "I", .lays "GradientCoder$Coding" "GradientCoder$Pass" "sign" "I", .lays "GradientCoder$Coding" "GradientCoder$Pass" "foretold" "I", .superclass "GradientCoder$Coding" "GradientCoder$Pass", .classLink "GradientCoder" (16) "GradientCoder$Reading", .instantiable "GradientCoder$Reading" (10), .instanceMethod ⟨"GradientCoder$Reading", "<init>", "()V"⟩, .code ⟨"GradientCoder$Reading", "<init>", "()V"⟩ prog_8_method_1_code (1) none, .classLink "GradientCoder$Reading" (7) "GradientCoder$Reader", .instantiable "GradientCoder$Reader" (4), .instanceMethod ⟨"GradientCoder$Reader", "<init>", "()V"⟩, .code ⟨"GradientCoder$Reader", "<init>", "()V"⟩ prog_7_method_1_code (1) none, .methodLink "GradientCoder$Reader" (1) ⟨"java/lang/Object", "<init>", "()V"⟩, .fieldLink "GradientCoder$Reader" (9) "GradientCoder$Reader" "bytes" "[I", .fieldLink "GradientCoder$Reading" (30) "GradientCoder$Reader" "bytes" "[I", .fieldLink "GradientCoder$Reader" (28) "GradientCoder$Reader" "end" "I", .fieldLink "GradientCoder$Reader" (32) "GradientCoder$Reader" "next" "I", .fieldLink "GradientCoder$Reader" (35) "GradientCoder$Reader" "bitsLeft" "I", .laysFinal "GradientCoder$Reader" "GradientCoder$Reader" "bytes" "[I", .lays "GradientCoder$Reader" "GradientCoder$Reader" "end" "I", .lays "GradientCoder$Reader" "GradientCoder$Reader" "next" "I", .lays "GradientCoder$Reader" "GradientCoder$Reader" "bitsLeft" "I", .superclass "GradientCoder$Reader" "java/lang/Object", .fieldLink "GradientCoder$Reading" (10) "GradientCoder$Reading" "reader" "LGradientCoder$Reader;", .fieldLink "GradientCoder" (76) "GradientCoder$Reading" "reader" "LGradientCoder$Reader;", .laysFinal "GradientCoder$Reading" "GradientCoder$Reading" "reader" "LGradientCoder$Reader;", .laysFinal "GradientCoder$Reading" "GradientCoder$Pass" "picture" "LGradientCoder$Picture;", .laysFinal "GradientCoder$Reading" "GradientCoder$Pass" "contexts" "LGradientCoder$Contexts;", .laysFinal "GradientCoder$Reading" "GradientCoder$Pass" "rebuilt" "[I", .lays "GradientCoder$Reading" "GradientCoder$Pass" "a" "I", .lays "GradientCoder$Reading" "GradientCoder$Pass" "b" "I", .lays "GradientCoder$Reading" "GradientCoder$Pass" "c" "I"]
def TS_5 : List Cond := [.lays "GradientCoder$Reading" "GradientCoder$Pass" "d" "I", .lays "GradientCoder$Reading" "GradientCoder$Pass" "sign" "I", .lays "GradientCoder$Reading" "GradientCoder$Pass" "foretold" "I", .superclass "GradientCoder$Reading" "GradientCoder$Pass", .fieldLink "GradientCoder" (10) "GradientCoder" "coding" "LGradientCoder$Coding;", .fieldLink "GradientCoder" (19) "GradientCoder" "reading" "LGradientCoder$Reading;", .laysFinal "GradientCoder" "GradientCoder" "coding" "LGradientCoder$Coding;", .laysFinal "GradientCoder" "GradientCoder" "reading" "LGradientCoder$Reading;", .superclass "GradientCoder" "java/lang/Object", .methodLink "GradientCoderLaw" (19) ⟨"GradientCoder", "frame", "(IIII)Z"⟩, .instanceMethod ⟨"GradientCoder", "frame", "(IIII)Z"⟩, .selects "GradientCoder" ⟨"GradientCoder", "frame", "(IIII)Z"⟩ ⟨"GradientCoder", "frame", "(IIII)Z"⟩, .code ⟨"GradientCoder", "frame", "(IIII)Z"⟩ prog_1_method_2_code (5) (some .boolean), .methodLink "GradientCoder" (23) ⟨"GradientCoder$Picture", "fits", "(IIII)Z"⟩, .static ⟨"GradientCoder$Picture", "fits", "(IIII)Z"⟩, .code ⟨"GradientCoder$Picture", "fits", "(IIII)Z"⟩ prog_6_method_2_code (4) (some .boolean), .methodLink "GradientCoder" (29) ⟨"GradientCoder$Coding", "beginPicture", "(IIII)V"⟩, .instanceMethod ⟨"GradientCoder$Coding", "beginPicture", "(IIII)V"⟩, .selects "GradientCoder$Coding" ⟨"GradientCoder$Coding", "beginPicture", "(IIII)V"⟩ ⟨"GradientCoder$Coding", "beginPicture", "(IIII)V"⟩, .code ⟨"GradientCoder$Coding", "beginPicture", "(IIII)V"⟩ prog_2_method_2_code (5) none, .methodLink "GradientCoder$Coding" (40) ⟨"GradientCoder$Picture", "become", "(IIII)V"⟩, .methodLink "GradientCoder$Coding" (44) ⟨"java/util/Arrays", "fill", "([II)V"⟩, .methodLink "GradientCoderLaw" (26) ⟨"GradientCoder", "row", "(IJ)Z"⟩, .instanceMethod ⟨"GradientCoder", "row", "(IJ)Z"⟩, .selects "GradientCoder" ⟨"GradientCoder", "row", "(IJ)Z"⟩ ⟨"GradientCoder", "row", "(IJ)Z"⟩, .code ⟨"GradientCoder", "row", "(IJ)Z"⟩ prog_1_method_3_code (4) (some .boolean), .methodLink "GradientCoder" (41) ⟨"GradientCoder$Coding", "takeRow", "(IJ)Z"⟩, .instanceMethod ⟨"GradientCoder$Coding", "takeRow", "(IJ)Z"⟩, .selects "GradientCoder$Coding" ⟨"GradientCoder$Coding", "takeRow", "(IJ)Z"⟩ ⟨"GradientCoder$Coding", "takeRow", "(IJ)Z"⟩, .code ⟨"GradientCoder$Coding", "takeRow", "(IJ)Z"⟩ prog_2_method_3_code (5) (some .boolean), .methodLink "GradientCoder$Coding" (59) ⟨"GradientCoder$Coding", "sampleIn", "(JI)I"⟩, .static ⟨"GradientCoder$Coding", "sampleIn", "(JI)I"⟩, .code ⟨"GradientCoder$Coding", "sampleIn", "(JI)I"⟩ prog_2_method_4_code (3) (some .int), .methodLink "GradientCoder$Coding" (66) ⟨"GradientCoder$Picture", "place", "(II)I"⟩, .static ⟨"GradientCoder$Picture", "place", "(II)I"⟩, .code ⟨"GradientCoder$Picture", "place", "(II)I"⟩ prog_6_method_3_code (2) (some .int), .methodLink "GradientCoderLaw" (31) ⟨"GradientCoder", "encode", "()I"⟩, .instanceMethod ⟨"GradientCoder", "encode", "()I"⟩, .selects "GradientCoder" ⟨"GradientCoder", "encode", "()I"⟩ ⟨"GradientCoder", "encode", "()I"⟩, .code ⟨"GradientCoder", "encode", "()I"⟩ prog_1_method_4_code (1) (some .int), .methodLink "GradientCoder" (45) ⟨"GradientCoder$Coding", "writeHead", "()V"⟩, .instanceMethod ⟨"GradientCoder$Coding", "writeHead", "()V"⟩, .selects "GradientCoder$Coding" ⟨"GradientCoder$Coding", "writeHead", "()V"⟩ ⟨"GradientCoder$Coding", "writeHead", "()V"⟩, .code ⟨"GradientCoder$Coding", "writeHead", "()V"⟩ prog_2_method_6_code (1) none, .methodLink "GradientCoder$Coding" (91) ⟨"GradientCoder$Writer", "restart", "()V"⟩, .instanceMethod ⟨"GradientCoder$Writer", "restart", "()V"⟩, .selects "GradientCoder$Writer" ⟨"GradientCoder$Writer", "restart", "()V"⟩ ⟨"GradientCoder$Writer", "restart", "()V"⟩, .code ⟨"GradientCoder$Writer", "restart", "()V"⟩ prog_9_method_2_code (1) none, .methodLink "GradientCoder$Coding" (93) ⟨"GradientCoder$Writer", "writeByte", "(I)V"⟩, .instanceMethod ⟨"GradientCoder$Writer", "writeByte", "(I)V"⟩, .selects "GradientCoder$Writer" ⟨"GradientCoder$Writer", "writeByte", "(I)V"⟩ ⟨"GradientCoder$Writer", "writeByte", "(I)V"⟩, .code ⟨"GradientCoder$Writer", "writeByte", "(I)V"⟩ prog_9_method_3_code (2) none, .methodLink "GradientCoder" (48) ⟨"GradientCoder$Coding", "overAll", "()V"⟩, .sameMethod "GradientCoder$Coding" "GradientCoder$Pass" "overAll" "()V", .selects "GradientCoder$Coding" ⟨"GradientCoder$Coding", "overAll", "()V"⟩ ⟨"GradientCoder$Pass", "overAll", "()V"⟩, .instanceMethod ⟨"GradientCoder$Pass", "overAll", "()V"⟩, .code ⟨"GradientCoder$Pass", "overAll", "()V"⟩ prog_5_method_5_code (6) none, .methodLink "GradientCoder$Pass" (31) ⟨"GradientCoder$Contexts", "restart", "(I)V"⟩, .methodLink "GradientCoder$Pass" (41) ⟨"GradientCoder$Picture", "place", "(II)I"⟩, .methodLink "GradientCoder$Pass" (45) ⟨"GradientCoder$Pass", "lookAround", "(II)V"⟩]
def TS_6 : List Cond := [.instanceMethod ⟨"GradientCoder$Pass", "lookAround", "(II)V"⟩, .code ⟨"GradientCoder$Pass", "lookAround", "(II)V"⟩ prog_5_method_6_code (3) none, .methodLink "GradientCoder$Pass" (65) ⟨"GradientCoder$Pass", "rebuiltOrNothing", "(II)I"⟩, .instanceMethod ⟨"GradientCoder$Pass", "rebuiltOrNothing", "(II)I"⟩, .code ⟨"GradientCoder$Pass", "rebuiltOrNothing", "(II)I"⟩ prog_5_method_7_code (3) (some .int), .methodLink "GradientCoder$Pass" (49) ⟨"GradientCoder$Pass", "isEven", "()Z"⟩, .instanceMethod ⟨"GradientCoder$Pass", "isEven", "()Z"⟩, .code ⟨"GradientCoder$Pass", "isEven", "()Z"⟩ prog_5_method_8_code (1) (some .boolean), .methodLink "GradientCoder$Pass" (77) ⟨"GradientCoder$Picture", "isNear", "(I)Z"⟩, .instanceMethod ⟨"GradientCoder$Picture", "isNear", "(I)Z"⟩, .selects "GradientCoder$Picture" ⟨"GradientCoder$Picture", "isNear", "(I)Z"⟩ ⟨"GradientCoder$Picture", "isNear", "(I)Z"⟩, .code ⟨"GradientCoder$Picture", "isNear", "(I)Z"⟩ prog_6_method_10_code (2) (some .boolean), .methodLink "GradientCoder$Pass" (53) ⟨"GradientCoder$Pass", "carryRun", "(II)I"⟩, .sameMethod "GradientCoder$Pass" "GradientCoder$Pass" "carryRun" "(II)I", .selects "GradientCoder$Coding" ⟨"GradientCoder$Pass", "carryRun", "(II)I"⟩ ⟨"GradientCoder$Coding", "carryRun", "(II)I"⟩, .instanceMethod ⟨"GradientCoder$Coding", "carryRun", "(II)I"⟩, .code ⟨"GradientCoder$Coding", "carryRun", "(II)I"⟩ prog_2_method_7_code (5) (some .int), .methodLink "GradientCoder$Coding" (99) ⟨"GradientCoder$Picture", "isNear", "(I)Z"⟩, .methodLink "GradientCoder$Coding" (103) ⟨"GradientCoder$Contexts", "j", "()I"⟩, .instanceMethod ⟨"GradientCoder$Contexts", "j", "()I"⟩, .selects "GradientCoder$Contexts" ⟨"GradientCoder$Contexts", "j", "()I"⟩ ⟨"GradientCoder$Contexts", "j", "()I"⟩, .code ⟨"GradientCoder$Contexts", "j", "()I"⟩ prog_3_method_4_code (1) (some .int), .fieldLink "GradientCoder$Contexts" (47) "GradientCoder$Contexts" "J" "[I", .methodLink "GradientCoder$Coding" (107) ⟨"GradientCoder$Writer", "writeBits", "(II)V"⟩, .instanceMethod ⟨"GradientCoder$Writer", "writeBits", "(II)V"⟩, .selects "GradientCoder$Writer" ⟨"GradientCoder$Writer", "writeBits", "(II)V"⟩ ⟨"GradientCoder$Writer", "writeBits", "(II)V"⟩, .code ⟨"GradientCoder$Writer", "writeBits", "(II)V"⟩ prog_9_method_5_code (4) none, .methodLink "GradientCoder$Writer" (20) ⟨"GradientCoder$Writer", "endsWith255", "()Z"⟩, .instanceMethod ⟨"GradientCoder$Writer", "endsWith255", "()Z"⟩, .code ⟨"GradientCoder$Writer", "endsWith255", "()Z"⟩ prog_9_method_4_code (1) (some .boolean), .methodLink "GradientCoder$Writer" (24) ⟨"GradientCoder$Writer", "writeByte", "(I)V"⟩, .methodLink "GradientCoder$Coding" (111) ⟨"GradientCoder$Contexts", "raiseRunIndex", "()V"⟩, .instanceMethod ⟨"GradientCoder$Contexts", "raiseRunIndex", "()V"⟩, .selects "GradientCoder$Contexts" ⟨"GradientCoder$Contexts", "raiseRunIndex", "()V"⟩ ⟨"GradientCoder$Contexts", "raiseRunIndex", "()V"⟩, .code ⟨"GradientCoder$Contexts", "raiseRunIndex", "()V"⟩ prog_3_method_5_code (1) none, .selects "GradientCoder$Reading" ⟨"GradientCoder$Pass", "carryRun", "(II)I"⟩ ⟨"GradientCoder$Reading", "carryRun", "(II)I"⟩, .instanceMethod ⟨"GradientCoder$Reading", "carryRun", "(II)I"⟩, .code ⟨"GradientCoder$Reading", "carryRun", "(II)I"⟩ prog_8_method_3_code (5) (some .int), .methodLink "GradientCoder$Reading" (58) ⟨"GradientCoder$Contexts", "j", "()I"⟩, .methodLink "GradientCoder$Reading" (64) ⟨"GradientCoder$Reader", "readBit", "()I"⟩, .instanceMethod ⟨"GradientCoder$Reader", "readBit", "()I"⟩, .selects "GradientCoder$Reader" ⟨"GradientCoder$Reader", "readBit", "()I"⟩ ⟨"GradientCoder$Reader", "readBit", "()I"⟩, .code ⟨"GradientCoder$Reader", "readBit", "()I"⟩ prog_7_method_3_code (2) (some .int), .classLink "GradientCoder$Reader" (15) "java/lang/IllegalArgumentException", .instantiable "java/lang/IllegalArgumentException" (6), .selects "java/lang/IllegalArgumentException" ⟨"java/lang/Throwable", "fillInStackTrace", "(I)Ljava/lang/Throwable;"⟩ ⟨"java/lang/Throwable", "fillInStackTrace", "(I)Ljava/lang/Throwable;"⟩, .selects "java/lang/IllegalArgumentException" ⟨"java/lang/Throwable", "fillInStackTrace", "()Ljava/lang/Throwable;"⟩ ⟨"java/lang/Throwable", "fillInStackTrace", "()Ljava/lang/Throwable;"⟩, .lays "java/lang/IllegalArgumentException" "java/lang/Throwable" "cause" "Ljava/lang/Throwable;", .lays "java/lang/Throwable" "java/lang/Throwable" "cause" "Ljava/lang/Throwable;", .lays "java/lang/IllegalArgumentException" "java/lang/Throwable" "stackTrace" "[Ljava/lang/StackTraceElement;", .lays "java/lang/Throwable" "java/lang/Throwable" "stackTrace" "[Ljava/lang/StackTraceElement;", .lays "java/lang/IllegalArgumentException" "java/lang/Throwable" "suppressedExceptions" "Ljava/util/List;", .lays "java/lang/Throwable" "java/lang/Throwable" "suppressedExceptions" "Ljava/util/List;", .lays "java/lang/IllegalArgumentException" "java/lang/Throwable" "detailMessage" "Ljava/lang/String;", .lays "java/lang/Throwable" "java/lang/Throwable" "detailMessage" "Ljava/lang/String;", .lays "java/lang/IllegalArgumentException" "java/lang/Throwable" "backtrace" "Ljava/lang/Object;", .lays "java/lang/Throwable" "java/lang/Throwable" "backtrace" "Ljava/lang/Object;", .fieldLink "java/lang/Throwable" (198) "java/lang/Throwable" "backtrace" "Ljava/lang/Object;", .superclass "java/lang/Throwable" "java/lang/Object", .instanceMethod ⟨"java/lang/Throwable", "<init>", "()V"⟩]
def TS_7 : List Cond := [.code ⟨"java/lang/Throwable", "<init>", "()V"⟩ prog_18_method_1_code (1) none, .methodLink "java/lang/Throwable" (1) ⟨"java/lang/Object", "<init>", "()V"⟩, .fieldLink "java/lang/Throwable" (13) "java/lang/Throwable" "UNASSIGNED_STACK" "[Ljava/lang/StackTraceElement;", .fieldLink "java/lang/Throwable" (20) "java/lang/Throwable" "SUPPRESSED_SENTINEL" "Ljava/util/List;", .methodLink "java/lang/Throwable" (27) ⟨"java/lang/Throwable", "fillInStackTrace", "()Ljava/lang/Throwable;"⟩, .instanceMethod ⟨"java/lang/Throwable", "fillInStackTrace", "()Ljava/lang/Throwable;"⟩, .sameMethod "java/lang/Throwable" "java/lang/Throwable" "fillInStackTrace" "()Ljava/lang/Throwable;", .codeSync ⟨"java/lang/Throwable", "fillInStackTrace", "()Ljava/lang/Throwable;"⟩ prog_18_method_18_code (1) (some (.object "java/lang/Throwable")), .methodLink "java/lang/Throwable" (202) ⟨"java/lang/Throwable", "fillInStackTrace", "(I)Ljava/lang/Throwable;"⟩, .instanceMethod ⟨"java/lang/Throwable", "fillInStackTrace", "(I)Ljava/lang/Throwable;"⟩, .instantiable "java/lang/Throwable" (6), .native ⟨"java/lang/Throwable", "fillInStackTrace", "(I)Ljava/lang/Throwable;"⟩, .methodLink "GradientCoder$Reader" (19) ⟨"java/lang/IllegalArgumentException", "<init>", "(Ljava/lang/String;)V"⟩, .instanceMethod ⟨"java/lang/IllegalArgumentException", "<init>", "(Ljava/lang/String;)V"⟩, .code ⟨"java/lang/IllegalArgumentException", "<init>", "(Ljava/lang/String;)V"⟩ prog_13_method_2_code (2) none, .methodLink "java/lang/IllegalArgumentException" (7) ⟨"java/lang/RuntimeException", "<init>", "(Ljava/lang/String;)V"⟩, .instanceMethod ⟨"java/lang/RuntimeException", "<init>", "(Ljava/lang/String;)V"⟩, .code ⟨"java/lang/RuntimeException", "<init>", "(Ljava/lang/String;)V"⟩ prog_15_method_2_code (2) none, .methodLink "java/lang/RuntimeException" (7) ⟨"java/lang/Exception", "<init>", "(Ljava/lang/String;)V"⟩, .instanceMethod ⟨"java/lang/Exception", "<init>", "(Ljava/lang/String;)V"⟩, .code ⟨"java/lang/Exception", "<init>", "(Ljava/lang/String;)V"⟩ prog_12_method_2_code (2) none, .methodLink "java/lang/Exception" (7) ⟨"java/lang/Throwable", "<init>", "(Ljava/lang/String;)V"⟩, .instanceMethod ⟨"java/lang/Throwable", "<init>", "(Ljava/lang/String;)V"⟩, .code ⟨"java/lang/Throwable", "<init>", "(Ljava/lang/String;)V"⟩ prog_18_method_2_code (2) none, .fieldLink "java/lang/Throwable" (31) "java/lang/Throwable" "detailMessage" "Ljava/lang/String;", .fieldLink "java/lang/Throwable" (7) "java/lang/Throwable" "cause" "Ljava/lang/Throwable;", .fieldLink "java/lang/Throwable" (17) "java/lang/Throwable" "stackTrace" "[Ljava/lang/StackTraceElement;", .fieldLink "java/lang/Throwable" (24) "java/lang/Throwable" "suppressedExceptions" "Ljava/util/List;", .lays "java/lang/IllegalArgumentException" "java/lang/Throwable" "depth" "I", .superclass "java/lang/IllegalArgumentException" "java/lang/RuntimeException", .arrayClass .byte, .methodLink "GradientCoder$Reading" (67) ⟨"GradientCoder$Reading", "readRest", "(II)I"⟩, .instanceMethod ⟨"GradientCoder$Reading", "readRest", "(II)I"⟩, .code ⟨"GradientCoder$Reading", "readRest", "(II)I"⟩ prog_8_method_4_code (4) (some .int), .methodLink "GradientCoder$Reading" (74) ⟨"GradientCoder$Reader", "readBits", "(I)I"⟩, .instanceMethod ⟨"GradientCoder$Reader", "readBits", "(I)I"⟩, .selects "GradientCoder$Reader" ⟨"GradientCoder$Reader", "readBits", "(I)I"⟩ ⟨"GradientCoder$Reader", "readBits", "(I)I"⟩, .code ⟨"GradientCoder$Reader", "readBits", "(I)I"⟩ prog_7_method_4_code (4) (some .int), .methodLink "GradientCoder$Reader" (40) ⟨"GradientCoder$Reader", "readBit", "()I"⟩, .classLink "GradientCoder$Reading" (31) "java/lang/IllegalArgumentException", .methodLink "GradientCoder$Reading" (35) ⟨"java/lang/IllegalArgumentException", "<init>", "(Ljava/lang/String;)V"⟩, .methodLink "GradientCoder$Reading" (71) ⟨"GradientCoder$Contexts", "raiseRunIndex", "()V"⟩, .methodLink "GradientCoder$Pass" (56) ⟨"GradientCoder$Pass", "overRegular", "(I)V"⟩, .instanceMethod ⟨"GradientCoder$Pass", "overRegular", "(I)V"⟩, .code ⟨"GradientCoder$Pass", "overRegular", "(I)V"⟩ prog_5_method_9_code (7) none, .methodLink "GradientCoder$Pass" (81) ⟨"GradientCoder$Pass", "signedContext", "()I"⟩, .instanceMethod ⟨"GradientCoder$Pass", "signedContext", "()I"⟩, .code ⟨"GradientCoder$Pass", "signedContext", "()I"⟩ prog_5_method_10_code (1) (some .int), .methodLink "GradientCoder$Pass" (125) ⟨"GradientCoder$Picture", "level", "(I)I"⟩, .instanceMethod ⟨"GradientCoder$Picture", "level", "(I)I"⟩, .selects "GradientCoder$Picture" ⟨"GradientCoder$Picture", "level", "(I)I"⟩ ⟨"GradientCoder$Picture", "level", "(I)I"⟩, .code ⟨"GradientCoder$Picture", "level", "(I)I"⟩ prog_6_method_12_code (2) (some .int), .methodLink "GradientCoder$Pass" (88) ⟨"java/lang/Math", "abs", "(I)I"⟩, .static ⟨"java/lang/Math", "abs", "(I)I"⟩, .code ⟨"java/lang/Math", "abs", "(I)I"⟩ prog_14_method_59_code (1) (some .int), .methodLink "GradientCoder$Pass" (94) ⟨"GradientCoder$Pass", "foretoldByNeighbours", "()I"⟩, .instanceMethod ⟨"GradientCoder$Pass", "foretoldByNeighbours", "()I"⟩, .code ⟨"GradientCoder$Pass", "foretoldByNeighbours", "()I"⟩ prog_5_method_11_code (3) (some .int), .methodLink "GradientCoder$Pass" (128) ⟨"java/lang/Math", "min", "(II)I"⟩, .static ⟨"java/lang/Math", "min", "(II)I"⟩]
def TS_8 : List Cond := [.code ⟨"java/lang/Math", "min", "(II)I"⟩ prog_14_method_69_code (2) (some .int), .methodLink "GradientCoder$Pass" (131) ⟨"java/lang/Math", "max", "(II)I"⟩, .methodLink "GradientCoder$Pass" (99) ⟨"GradientCoder$Picture", "bounded", "(I)I"⟩, .instanceMethod ⟨"GradientCoder$Picture", "bounded", "(I)I"⟩, .selects "GradientCoder$Picture" ⟨"GradientCoder$Picture", "bounded", "(I)I"⟩ ⟨"GradientCoder$Picture", "bounded", "(I)I"⟩, .code ⟨"GradientCoder$Picture", "bounded", "(I)I"⟩ prog_6_method_11_code (2) (some .int), .methodLink "GradientCoder$Picture" (66) ⟨"java/lang/Math", "min", "(II)I"⟩, .methodLink "GradientCoder$Pass" (105) ⟨"GradientCoder$Contexts", "kOfRegular", "(I)I"⟩, .instanceMethod ⟨"GradientCoder$Contexts", "kOfRegular", "(I)I"⟩, .selects "GradientCoder$Contexts" ⟨"GradientCoder$Contexts", "kOfRegular", "(I)I"⟩ ⟨"GradientCoder$Contexts", "kOfRegular", "(I)I"⟩, .code ⟨"GradientCoder$Contexts", "kOfRegular", "(I)I"⟩ prog_3_method_7_code (2) (some .int), .methodLink "GradientCoder$Contexts" (50) ⟨"GradientCoder$Contexts", "leastK", "(II)I"⟩, .instanceMethod ⟨"GradientCoder$Contexts", "leastK", "(II)I"⟩, .code ⟨"GradientCoder$Contexts", "leastK", "(II)I"⟩ prog_3_method_9_code (4) (some .int), .methodLink "GradientCoder$Pass" (111) ⟨"GradientCoder$Contexts", "leansDown", "(I)Z"⟩, .instanceMethod ⟨"GradientCoder$Contexts", "leansDown", "(I)Z"⟩, .selects "GradientCoder$Contexts" ⟨"GradientCoder$Contexts", "leansDown", "(I)Z"⟩ ⟨"GradientCoder$Contexts", "leansDown", "(I)Z"⟩, .code ⟨"GradientCoder$Contexts", "leansDown", "(I)Z"⟩ prog_3_method_10_code (2) (some .boolean), .methodLink "GradientCoder$Pass" (114) ⟨"GradientCoder$Pass", "carryRegular", "(IIZ)I"⟩, .sameMethod "GradientCoder$Pass" "GradientCoder$Pass" "carryRegular" "(IIZ)I", .selects "GradientCoder$Coding" ⟨"GradientCoder$Pass", "carryRegular", "(IIZ)I"⟩ ⟨"GradientCoder$Coding", "carryRegular", "(IIZ)I"⟩, .instanceMethod ⟨"GradientCoder$Coding", "carryRegular", "(IIZ)I"⟩, .code ⟨"GradientCoder$Coding", "carryRegular", "(IIZ)I"⟩ prog_2_method_8_code (5) (some .int), .methodLink "GradientCoder$Coding" (114) ⟨"GradientCoder$Coding", "takeError", "(I)I"⟩, .instanceMethod ⟨"GradientCoder$Coding", "takeError", "(I)I"⟩, .code ⟨"GradientCoder$Coding", "takeError", "(I)I"⟩ prog_2_method_10_code (3) (some .int), .methodLink "GradientCoder$Coding" (146) ⟨"GradientCoder$Picture", "divided", "(I)I"⟩, .instanceMethod ⟨"GradientCoder$Picture", "divided", "(I)I"⟩, .selects "GradientCoder$Picture" ⟨"GradientCoder$Picture", "divided", "(I)I"⟩ ⟨"GradientCoder$Picture", "divided", "(I)I"⟩, .code ⟨"GradientCoder$Picture", "divided", "(I)I"⟩ prog_6_method_13_code (2) (some .int), .methodLink "GradientCoder$Coding" (152) ⟨"GradientCoder$Picture", "bounded", "(I)I"⟩, .methodLink "GradientCoder$Coding" (155) ⟨"GradientCoder$Picture", "reduced", "(I)I"⟩, .instanceMethod ⟨"GradientCoder$Picture", "reduced", "(I)I"⟩, .selects "GradientCoder$Picture" ⟨"GradientCoder$Picture", "reduced", "(I)I"⟩ ⟨"GradientCoder$Picture", "reduced", "(I)I"⟩, .code ⟨"GradientCoder$Picture", "reduced", "(I)I"⟩ prog_6_method_14_code (3) (some .int), .methodLink "GradientCoder$Coding" (118) ⟨"GradientCoder$Folding", "foldRegular", "(IZ)I"⟩, .static ⟨"GradientCoder$Folding", "foldRegular", "(IZ)I"⟩, .code ⟨"GradientCoder$Folding", "foldRegular", "(IZ)I"⟩ prog_4_method_2_code (2) (some .int), .methodLink "GradientCoder$Coding" (130) ⟨"GradientCoder$Writer", "writeNumber", "(IIII)V"⟩, .instanceMethod ⟨"GradientCoder$Writer", "writeNumber", "(IIII)V"⟩, .selects "GradientCoder$Writer" ⟨"GradientCoder$Writer", "writeNumber", "(IIII)V"⟩ ⟨"GradientCoder$Writer", "writeNumber", "(IIII)V"⟩, .code ⟨"GradientCoder$Writer", "writeNumber", "(IIII)V"⟩ prog_9_method_6_code (6) none, .methodLink "GradientCoder$Writer" (28) ⟨"GradientCoder$Writer", "writeBits", "(II)V"⟩, .selects "GradientCoder$Reading" ⟨"GradientCoder$Pass", "carryRegular", "(IIZ)I"⟩ ⟨"GradientCoder$Reading", "carryRegular", "(IIZ)I"⟩, .instanceMethod ⟨"GradientCoder$Reading", "carryRegular", "(IIZ)I"⟩, .code ⟨"GradientCoder$Reading", "carryRegular", "(IIZ)I"⟩ prog_8_method_5_code (6) (some .int), .methodLink "GradientCoder$Reading" (86) ⟨"GradientCoder$Reader", "readNumber", "(III)I"⟩, .instanceMethod ⟨"GradientCoder$Reader", "readNumber", "(III)I"⟩, .selects "GradientCoder$Reader" ⟨"GradientCoder$Reader", "readNumber", "(III)I"⟩ ⟨"GradientCoder$Reader", "readNumber", "(III)I"⟩, .code ⟨"GradientCoder$Reader", "readNumber", "(III)I"⟩ prog_7_method_5_code (6) (some .int), .methodLink "GradientCoder$Reader" (46) ⟨"GradientCoder$Reader", "readBits", "(I)I"⟩, .methodLink "GradientCoder$Reading" (90) ⟨"GradientCoder$Folding", "unfoldRegular", "(IZ)I"⟩, .static ⟨"GradientCoder$Folding", "unfoldRegular", "(IZ)I"⟩, .code ⟨"GradientCoder$Folding", "unfoldRegular", "(IZ)I"⟩ prog_4_method_3_code (3) (some .int), .methodLink "GradientCoder$Reading" (96) ⟨"GradientCoder$Reading", "rebuild", "(II)V"⟩, .instanceMethod ⟨"GradientCoder$Reading", "rebuild", "(II)V"⟩, .code ⟨"GradientCoder$Reading", "rebuild", "(II)V"⟩ prog_8_method_7_code (3) none, .methodLink "GradientCoder$Reading" (107) ⟨"GradientCoder$Picture", "isReduced", "(I)Z"⟩, .instanceMethod ⟨"GradientCoder$Picture", "isReduced", "(I)Z"⟩, .selects "GradientCoder$Picture" ⟨"GradientCoder$Picture", "isReduced", "(I)Z"⟩ ⟨"GradientCoder$Picture", "isReduced", "(I)Z"⟩]
def TS_9 : List Cond := [.code ⟨"GradientCoder$Picture", "isReduced", "(I)Z"⟩ prog_6_method_15_code (2) (some .boolean), .methodLink "GradientCoder$Reading" (125) ⟨"GradientCoder$Picture", "unreduced", "(I)I"⟩, .instanceMethod ⟨"GradientCoder$Picture", "unreduced", "(I)I"⟩, .selects "GradientCoder$Picture" ⟨"GradientCoder$Picture", "unreduced", "(I)I"⟩ ⟨"GradientCoder$Picture", "unreduced", "(I)I"⟩, .code ⟨"GradientCoder$Picture", "unreduced", "(I)I"⟩ prog_6_method_16_code (2) (some .int), .methodLink "GradientCoder$Reading" (128) ⟨"GradientCoder$Picture", "bounded", "(I)I"⟩, .methodLink "GradientCoder$Pass" (121) ⟨"GradientCoder$Contexts", "learnRegular", "(III)V"⟩, .instanceMethod ⟨"GradientCoder$Contexts", "learnRegular", "(III)V"⟩, .selects "GradientCoder$Contexts" ⟨"GradientCoder$Contexts", "learnRegular", "(III)V"⟩ ⟨"GradientCoder$Contexts", "learnRegular", "(III)V"⟩, .code ⟨"GradientCoder$Contexts", "learnRegular", "(III)V"⟩ prog_3_method_12_code (4) none, .methodLink "GradientCoder$Contexts" (53) ⟨"java/lang/Math", "abs", "(I)I"⟩, .methodLink "GradientCoder$Contexts" (57) ⟨"GradientCoder$Contexts", "correctDown", "(I)V"⟩, .instanceMethod ⟨"GradientCoder$Contexts", "correctDown", "(I)V"⟩, .code ⟨"GradientCoder$Contexts", "correctDown", "(I)V"⟩ prog_3_method_13_code (2) none, .methodLink "GradientCoder$Contexts" (61) ⟨"GradientCoder$Contexts", "correctUp", "(I)V"⟩, .instanceMethod ⟨"GradientCoder$Contexts", "correctUp", "(I)V"⟩, .code ⟨"GradientCoder$Contexts", "correctUp", "(I)V"⟩ prog_3_method_14_code (2) none, .methodLink "GradientCoder$Contexts" (64) ⟨"java/lang/Math", "min", "(II)I"⟩, .methodLink "GradientCoder$Pass" (62) ⟨"GradientCoder$Pass", "overEnd", "(I)V"⟩, .instanceMethod ⟨"GradientCoder$Pass", "overEnd", "(I)V"⟩, .code ⟨"GradientCoder$Pass", "overEnd", "(I)V"⟩ prog_5_method_12_code (7) none, .methodLink "GradientCoder$Pass" (134) ⟨"GradientCoder$Contexts", "kOfEnd", "(I)I"⟩, .instanceMethod ⟨"GradientCoder$Contexts", "kOfEnd", "(I)I"⟩, .selects "GradientCoder$Contexts" ⟨"GradientCoder$Contexts", "kOfEnd", "(I)I"⟩ ⟨"GradientCoder$Contexts", "kOfEnd", "(I)I"⟩, .code ⟨"GradientCoder$Contexts", "kOfEnd", "(I)I"⟩ prog_3_method_8_code (2) (some .int), .methodLink "GradientCoder$Pass" (137) ⟨"GradientCoder$Contexts", "isMostlyBelow", "(I)Z"⟩, .instanceMethod ⟨"GradientCoder$Contexts", "isMostlyBelow", "(I)Z"⟩, .selects "GradientCoder$Contexts" ⟨"GradientCoder$Contexts", "isMostlyBelow", "(I)Z"⟩ ⟨"GradientCoder$Contexts", "isMostlyBelow", "(I)Z"⟩, .code ⟨"GradientCoder$Contexts", "isMostlyBelow", "(I)Z"⟩ prog_3_method_11_code (2) (some .boolean), .methodLink "GradientCoder$Pass" (140) ⟨"GradientCoder$Pass", "carryEnd", "(IIIZ)I"⟩, .sameMethod "GradientCoder$Pass" "GradientCoder$Pass" "carryEnd" "(IIIZ)I", .selects "GradientCoder$Coding" ⟨"GradientCoder$Pass", "carryEnd", "(IIIZ)I"⟩ ⟨"GradientCoder$Coding", "carryEnd", "(IIIZ)I"⟩, .instanceMethod ⟨"GradientCoder$Coding", "carryEnd", "(IIIZ)I"⟩, .code ⟨"GradientCoder$Coding", "carryEnd", "(IIIZ)I"⟩ prog_2_method_9_code (6) (some .int), .methodLink "GradientCoder$Coding" (133) ⟨"GradientCoder$Folding", "foldEnd", "(IIZ)I"⟩, .static ⟨"GradientCoder$Folding", "foldEnd", "(IIZ)I"⟩, .code ⟨"GradientCoder$Folding", "foldEnd", "(IIZ)I"⟩ prog_4_method_4_code (4) (some .int), .methodLink "GradientCoder$Folding" (7) ⟨"java/lang/Math", "abs", "(I)I"⟩, .methodLink "GradientCoder$Coding" (137) ⟨"GradientCoder$Coding", "limitOfEnd", "()I"⟩, .sameMethod "GradientCoder$Coding" "GradientCoder$Pass" "limitOfEnd" "()I", .selects "GradientCoder$Coding" ⟨"GradientCoder$Coding", "limitOfEnd", "()I"⟩ ⟨"GradientCoder$Pass", "limitOfEnd", "()I"⟩, .instanceMethod ⟨"GradientCoder$Pass", "limitOfEnd", "()I"⟩, .code ⟨"GradientCoder$Pass", "limitOfEnd", "()I"⟩ prog_5_method_13_code (1) (some .int), .methodLink "GradientCoder$Pass" (158) ⟨"GradientCoder$Contexts", "j", "()I"⟩, .selects "GradientCoder$Reading" ⟨"GradientCoder$Pass", "carryEnd", "(IIIZ)I"⟩ ⟨"GradientCoder$Reading", "carryEnd", "(IIIZ)I"⟩, .instanceMethod ⟨"GradientCoder$Reading", "carryEnd", "(IIIZ)I"⟩, .code ⟨"GradientCoder$Reading", "carryEnd", "(IIIZ)I"⟩ prog_8_method_6_code (7) (some .int), .methodLink "GradientCoder$Reading" (100) ⟨"GradientCoder$Reading", "limitOfEnd", "()I"⟩, .sameMethod "GradientCoder$Reading" "GradientCoder$Pass" "limitOfEnd" "()I", .selects "GradientCoder$Reading" ⟨"GradientCoder$Reading", "limitOfEnd", "()I"⟩ ⟨"GradientCoder$Pass", "limitOfEnd", "()I"⟩, .methodLink "GradientCoder$Reading" (103) ⟨"GradientCoder$Folding", "unfoldEnd", "(IIZ)I"⟩, .static ⟨"GradientCoder$Folding", "unfoldEnd", "(IIZ)I"⟩, .code ⟨"GradientCoder$Folding", "unfoldEnd", "(IIZ)I"⟩ prog_4_method_5_code (5) (some .int), .methodLink "GradientCoder$Pass" (144) ⟨"GradientCoder$Folding", "foldEnd", "(IIZ)I"⟩, .methodLink "GradientCoder$Pass" (149) ⟨"GradientCoder$Contexts", "learnEnd", "(III)V"⟩, .instanceMethod ⟨"GradientCoder$Contexts", "learnEnd", "(III)V"⟩, .selects "GradientCoder$Contexts" ⟨"GradientCoder$Contexts", "learnEnd", "(III)V"⟩ ⟨"GradientCoder$Contexts", "learnEnd", "(III)V"⟩, .code ⟨"GradientCoder$Contexts", "learnEnd", "(III)V"⟩ prog_3_method_15_code (4) none, .methodLink "GradientCoder$Pass" (152) ⟨"GradientCoder$Contexts", "lowerRunIndex", "()V"⟩, .instanceMethod ⟨"GradientCoder$Contexts", "lowerRunIndex", "()V"⟩]
def TS_10 : List Cond := [.selects "GradientCoder$Contexts" ⟨"GradientCoder$Contexts", "lowerRunIndex", "()V"⟩ ⟨"GradientCoder$Contexts", "lowerRunIndex", "()V"⟩, .code ⟨"GradientCoder$Contexts", "lowerRunIndex", "()V"⟩ prog_3_method_6_code (1) none, .methodLink "GradientCoder" (55) ⟨"GradientCoder$Writer", "writeEnd", "()V"⟩, .instanceMethod ⟨"GradientCoder$Writer", "writeEnd", "()V"⟩, .selects "GradientCoder$Writer" ⟨"GradientCoder$Writer", "writeEnd", "()V"⟩ ⟨"GradientCoder$Writer", "writeEnd", "()V"⟩, .code ⟨"GradientCoder$Writer", "writeEnd", "()V"⟩ prog_9_method_7_code (1) none, .methodLink "GradientCoderLaw" (35) ⟨"GradientCoder", "size", "()I"⟩, .instanceMethod ⟨"GradientCoder", "size", "()I"⟩, .selects "GradientCoder" ⟨"GradientCoder", "size", "()I"⟩ ⟨"GradientCoder", "size", "()I"⟩, .code ⟨"GradientCoder", "size", "()I"⟩ prog_1_method_5_code (1) (some .int), .methodLink "GradientCoderLaw" (39) ⟨"GradientCoder", "code", "(I)I"⟩, .instanceMethod ⟨"GradientCoder", "code", "(I)I"⟩, .selects "GradientCoder" ⟨"GradientCoder", "code", "(I)I"⟩ ⟨"GradientCoder", "code", "(I)I"⟩, .code ⟨"GradientCoder", "code", "(I)I"⟩ prog_1_method_6_code (2) (some .int), .methodLink "GradientCoder" (63) ⟨"GradientCoder", "hasByte", "(I)Z"⟩, .instanceMethod ⟨"GradientCoder", "hasByte", "(I)Z"⟩, .code ⟨"GradientCoder", "hasByte", "(I)Z"⟩ prog_1_method_15_code (2) (some .boolean), .methodLink "GradientCoderLaw" (44) ⟨"GradientCoder", "poke", "(II)Z"⟩, .instanceMethod ⟨"GradientCoder", "poke", "(II)Z"⟩, .selects "GradientCoder" ⟨"GradientCoder", "poke", "(II)Z"⟩ ⟨"GradientCoder", "poke", "(II)Z"⟩, .code ⟨"GradientCoder", "poke", "(II)Z"⟩ prog_1_method_7_code (3) (some .boolean), .methodLink "GradientCoderLaw" (49) ⟨"GradientCoder", "cut", "(I)Z"⟩, .instanceMethod ⟨"GradientCoder", "cut", "(I)Z"⟩, .selects "GradientCoder" ⟨"GradientCoder", "cut", "(I)Z"⟩ ⟨"GradientCoder", "cut", "(I)Z"⟩, .code ⟨"GradientCoder", "cut", "(I)Z"⟩ prog_1_method_8_code (2) (some .boolean), .methodLink "GradientCoderLaw" (63) ⟨"GradientCoder", "number", "(I)I"⟩, .instanceMethod ⟨"GradientCoder", "number", "(I)I"⟩, .selects "GradientCoder" ⟨"GradientCoder", "number", "(I)I"⟩ ⟨"GradientCoder", "number", "(I)I"⟩, .code ⟨"GradientCoder", "number", "(I)I"⟩ prog_1_method_10_code (3) (some .int), .methodLink "GradientCoderLaw" (67) ⟨"GradientCoder", "sample", "(II)I"⟩, .instanceMethod ⟨"GradientCoder", "sample", "(II)I"⟩, .selects "GradientCoder" ⟨"GradientCoder", "sample", "(II)I"⟩ ⟨"GradientCoder", "sample", "(II)I"⟩, .code ⟨"GradientCoder", "sample", "(II)I"⟩ prog_1_method_11_code (3) (some .int), .methodLink "GradientCoder" (116) ⟨"GradientCoder$Picture", "hasPlace", "(II)Z"⟩, .instanceMethod ⟨"GradientCoder$Picture", "hasPlace", "(II)Z"⟩, .selects "GradientCoder$Picture" ⟨"GradientCoder$Picture", "hasPlace", "(II)Z"⟩ ⟨"GradientCoder$Picture", "hasPlace", "(II)Z"⟩, .code ⟨"GradientCoder$Picture", "hasPlace", "(II)Z"⟩ prog_6_method_9_code (3) (some .boolean), .methodLink "GradientCoder" (123) ⟨"GradientCoder$Picture", "place", "(II)I"⟩, .methodLink "GradientCoderLaw" (72) ⟨"GradientCoder", "rebuilt", "(II)I"⟩, .instanceMethod ⟨"GradientCoder", "rebuilt", "(II)I"⟩, .selects "GradientCoder" ⟨"GradientCoder", "rebuilt", "(II)I"⟩ ⟨"GradientCoder", "rebuilt", "(II)I"⟩, .code ⟨"GradientCoder", "rebuilt", "(II)I"⟩ prog_1_method_12_code (3) (some .int), .methodLink "GradientCoderLaw" (76) ⟨"GradientCoder", "context", "(II)I"⟩, .instanceMethod ⟨"GradientCoder", "context", "(II)I"⟩, .selects "GradientCoder" ⟨"GradientCoder", "context", "(II)I"⟩ ⟨"GradientCoder", "context", "(II)I"⟩, .code ⟨"GradientCoder", "context", "(II)I"⟩ prog_1_method_13_code (4) (some .int), .constant "GradientCoder" (132) (-1000000), .methodLink "GradientCoderLaw" (80) ⟨"GradientCoder", "runIndex", "()I"⟩, .instanceMethod ⟨"GradientCoder", "runIndex", "()I"⟩, .selects "GradientCoder" ⟨"GradientCoder", "runIndex", "()I"⟩ ⟨"GradientCoder", "runIndex", "()I"⟩, .code ⟨"GradientCoder", "runIndex", "()I"⟩ prog_1_method_14_code (1) (some .int), .methodLink "GradientCoderLaw" (54) ⟨"GradientCoderLaw", "decode", "(LGradientCoder;[J)I"⟩, .static ⟨"GradientCoderLaw", "decode", "(LGradientCoder;[J)I"⟩, .codeWith ⟨"GradientCoderLaw", "decode", "(LGradientCoder;[J)I"⟩ method_3_code (3) (some .int) [((0), (8), (11), (13))], .classLink "GradientCoderLaw" (13) "java/lang/IllegalArgumentException", .methodLink "GradientCoderLaw" (7) ⟨"GradientCoder", "decode", "()I"⟩, .instanceMethod ⟨"GradientCoder", "decode", "()I"⟩, .selects "GradientCoder" ⟨"GradientCoder", "decode", "()I"⟩ ⟨"GradientCoder", "decode", "()I"⟩, .code ⟨"GradientCoder", "decode", "()I"⟩ prog_1_method_9_code (1) (some .int), .methodLink "GradientCoder" (71) ⟨"GradientCoder$Reading", "readHead", "(LGradientCoder$Writer;)V"⟩]
def TS_11 : List Cond := [.instanceMethod ⟨"GradientCoder$Reading", "readHead", "(LGradientCoder$Writer;)V"⟩, .selects "GradientCoder$Reading" ⟨"GradientCoder$Reading", "readHead", "(LGradientCoder$Writer;)V"⟩ ⟨"GradientCoder$Reading", "readHead", "(LGradientCoder$Writer;)V"⟩, .code ⟨"GradientCoder$Reading", "readHead", "(LGradientCoder$Writer;)V"⟩ prog_8_method_2_code (3) none, .methodLink "GradientCoder$Reading" (26) ⟨"GradientCoder$Reader", "open", "([II)V"⟩, .instanceMethod ⟨"GradientCoder$Reader", "open", "([II)V"⟩, .selects "GradientCoder$Reader" ⟨"GradientCoder$Reader", "open", "([II)V"⟩ ⟨"GradientCoder$Reader", "open", "([II)V"⟩, .code ⟨"GradientCoder$Reader", "open", "([II)V"⟩ prog_7_method_2_code (3) none, .methodLink "GradientCoder$Reader" (22) ⟨"java/lang/System", "arraycopy", "(Ljava/lang/Object;ILjava/lang/Object;II)V"⟩, .static ⟨"java/lang/System", "arraycopy", "(Ljava/lang/Object;ILjava/lang/Object;II)V"⟩, .native ⟨"java/lang/System", "arraycopy", "(Ljava/lang/Object;ILjava/lang/Object;II)V"⟩, .methodLink "GradientCoder$Reading" (38) ⟨"GradientCoder$Picture", "fits", "(IIII)Z"⟩, .methodLink "GradientCoder$Reading" (50) ⟨"GradientCoder$Picture", "become", "(IIII)V"⟩, .methodLink "GradientCoder" (75) ⟨"GradientCoder$Reading", "overAll", "()V"⟩, .sameMethod "GradientCoder$Reading" "GradientCoder$Pass" "overAll" "()V", .selects "GradientCoder$Reading" ⟨"GradientCoder$Reading", "overAll", "()V"⟩ ⟨"GradientCoder$Pass", "overAll", "()V"⟩, .methodLink "GradientCoder" (80) ⟨"GradientCoder$Reader", "readEnd", "()V"⟩, .instanceMethod ⟨"GradientCoder$Reader", "readEnd", "()V"⟩, .selects "GradientCoder$Reader" ⟨"GradientCoder$Reader", "readEnd", "()V"⟩ ⟨"GradientCoder$Reader", "readEnd", "()V"⟩, .code ⟨"GradientCoder$Reader", "readEnd", "()V"⟩ prog_7_method_6_code (1) none, .methodLink "GradientCoder" (85) ⟨"GradientCoder$Coding", "takeOver", "(LGradientCoder$Reading;)V"⟩, .instanceMethod ⟨"GradientCoder$Coding", "takeOver", "(LGradientCoder$Reading;)V"⟩, .selects "GradientCoder$Coding" ⟨"GradientCoder$Coding", "takeOver", "(LGradientCoder$Reading;)V"⟩ ⟨"GradientCoder$Coding", "takeOver", "(LGradientCoder$Reading;)V"⟩, .code ⟨"GradientCoder$Coding", "takeOver", "(LGradientCoder$Reading;)V"⟩ prog_2_method_5_code (3) none, .methodLink "GradientCoder$Coding" (80) ⟨"GradientCoder$Contexts", "takeOver", "(LGradientCoder$Contexts;)V"⟩, .instanceMethod ⟨"GradientCoder$Contexts", "takeOver", "(LGradientCoder$Contexts;)V"⟩, .selects "GradientCoder$Contexts" ⟨"GradientCoder$Contexts", "takeOver", "(LGradientCoder$Contexts;)V"⟩ ⟨"GradientCoder$Contexts", "takeOver", "(LGradientCoder$Contexts;)V"⟩, .code ⟨"GradientCoder$Contexts", "takeOver", "(LGradientCoder$Contexts;)V"⟩ prog_3_method_3_code (2) none, .methodLink "GradientCoder$Contexts" (41) ⟨"java/lang/System", "arraycopy", "(Ljava/lang/Object;ILjava/lang/Object;II)V"⟩, .methodLink "GradientCoder$Coding" (85) ⟨"java/lang/System", "arraycopy", "(Ljava/lang/Object;ILjava/lang/Object;II)V"⟩, .classLink "GradientCoderLaw" (16) "GradientCoderModel", .instantiable "GradientCoderModel" (28), .methodLink "GradientCoderLaw" (18) ⟨"GradientCoderModel", "<init>", "()V"⟩, .instanceMethod ⟨"GradientCoderModel", "<init>", "()V"⟩, .code ⟨"GradientCoderModel", "<init>", "()V"⟩ prog_11_method_1_code (1) none, .methodLink "GradientCoderModel" (1) ⟨"java/lang/Object", "<init>", "()V"⟩, .methodLink "GradientCoderModel" (41) ⟨"GradientCoderModel", "prepare", "()V"⟩, .instanceMethod ⟨"GradientCoderModel", "prepare", "()V"⟩, .code ⟨"GradientCoderModel", "prepare", "()V"⟩ prog_11_method_7_code (3) none, .methodLink "GradientCoderModel" (59) ⟨"GradientCoderModel", "powerFor", "(II)I"⟩, .static ⟨"GradientCoderModel", "powerFor", "(II)I"⟩, .code ⟨"GradientCoderModel", "powerFor", "(II)I"⟩ prog_11_method_6_code (3) (some .int), .methodLink "GradientCoderModel" (66) ⟨"GradientCoderModel", "greater", "(II)I"⟩, .static ⟨"GradientCoderModel", "greater", "(II)I"⟩, .code ⟨"GradientCoderModel", "greater", "(II)I"⟩ prog_11_method_3_code (2) (some .int), .methodLink "GradientCoderModel" (72) ⟨"GradientCoderModel", "clamp", "(II)I"⟩, .instanceMethod ⟨"GradientCoderModel", "clamp", "(II)I"⟩, .code ⟨"GradientCoderModel", "clamp", "(II)I"⟩ prog_11_method_5_code (3) (some .int), .methodLink "GradientCoderModel" (44) ⟨"GradientCoderModel", "forget", "()V"⟩, .instanceMethod ⟨"GradientCoderModel", "forget", "()V"⟩, .code ⟨"GradientCoderModel", "forget", "()V"⟩ prog_11_method_8_code (2) none, .fieldLink "GradientCoderModel" (47) "GradientCoderModel" "thrown" "I", .fieldLink "GradientCoderModel" (7) "GradientCoderModel" "width" "I", .fieldLink "GradientCoderModel" (13) "GradientCoderModel" "height" "I", .fieldLink "GradientCoderModel" (16) "GradientCoderModel" "maxval" "I", .fieldLink "GradientCoderModel" (50) "GradientCoderModel" "near" "I", .fieldLink "GradientCoderModel" (53) "GradientCoderModel" "step" "I", .fieldLink "GradientCoderModel" (56) "GradientCoderModel" "range" "I", .fieldLink "GradientCoderModel" (63) "GradientCoderModel" "qb" "I", .fieldLink "GradientCoderModel" (69) "GradientCoderModel" "limit" "I", .fieldLink "GradientCoderModel" (75) "GradientCoderModel" "t1" "I"]
def TS_12 : List Cond := [.fieldLink "GradientCoderModel" (78) "GradientCoderModel" "t2" "I", .fieldLink "GradientCoderModel" (81) "GradientCoderModel" "t3" "I", .fieldLink "GradientCoderModel" (19) "GradientCoderModel" "sample" "[I", .fieldLink "GradientCoderModel" (23) "GradientCoderModel" "rebuilt" "[I", .fieldLink "GradientCoderModel" (26) "GradientCoderModel" "contexts" "[I", .fieldLink "GradientCoderModel" (84) "GradientCoderModel" "runIndex" "I", .fieldLink "GradientCoderModel" (29) "GradientCoderModel" "code" "[I", .fieldLink "GradientCoderModel" (91) "GradientCoderModel" "size" "I", .fieldLink "GradientCoderModel" (96) "GradientCoderModel" "begun" "I", .fieldLink "GradientCoderModel" (99) "GradientCoderModel" "bits" "I", .fieldLink "GradientCoderModel" (167) "GradientCoderModel" "reading" "Z", .fieldLink "GradientCoderModel" (115) "GradientCoderModel" "at" "I", .fieldLink "GradientCoderModel" (112) "GradientCoderModel" "now" "I", .fieldLink "GradientCoderModel" (109) "GradientCoderModel" "left" "I", .fieldLink "GradientCoderModel" (118) "GradientCoderModel" "good" "Z", .fieldLink "GradientCoderModel" (32) "GradientCoderModel" "oldSample" "[I", .fieldLink "GradientCoderModel" (35) "GradientCoderModel" "oldRebuilt" "[I", .fieldLink "GradientCoderModel" (38) "GradientCoderModel" "oldContexts" "[I", .lays "GradientCoderModel" "GradientCoderModel" "thrown" "I", .lays "GradientCoderModel" "GradientCoderModel" "width" "I", .lays "GradientCoderModel" "GradientCoderModel" "height" "I", .lays "GradientCoderModel" "GradientCoderModel" "maxval" "I", .lays "GradientCoderModel" "GradientCoderModel" "near" "I", .lays "GradientCoderModel" "GradientCoderModel" "step" "I", .lays "GradientCoderModel" "GradientCoderModel" "range" "I", .lays "GradientCoderModel" "GradientCoderModel" "qb" "I", .lays "GradientCoderModel" "GradientCoderModel" "limit" "I", .lays "GradientCoderModel" "GradientCoderModel" "t1" "I", .lays "GradientCoderModel" "GradientCoderModel" "t2" "I", .lays "GradientCoderModel" "GradientCoderModel" "t3" "I", .laysFinal "GradientCoderModel" "GradientCoderModel" "sample" "[I", .laysFinal "GradientCoderModel" "GradientCoderModel" "rebuilt" "[I", .laysFinal "GradientCoderModel" "GradientCoderModel" "contexts" "[I", .lays "GradientCoderModel" "GradientCoderModel" "runIndex" "I", .laysFinal "GradientCoderModel" "GradientCoderModel" "code" "[I", .lays "GradientCoderModel" "GradientCoderModel" "size" "I", .lays "GradientCoderModel" "GradientCoderModel" "begun" "I", .lays "GradientCoderModel" "GradientCoderModel" "bits" "I", .lays "GradientCoderModel" "GradientCoderModel" "reading" "Z", .lays "GradientCoderModel" "GradientCoderModel" "at" "I", .lays "GradientCoderModel" "GradientCoderModel" "now" "I", .lays "GradientCoderModel" "GradientCoderModel" "left" "I", .lays "GradientCoderModel" "GradientCoderModel" "good" "Z", .laysFinal "GradientCoderModel" "GradientCoderModel" "oldSample" "[I", .laysFinal "GradientCoderModel" "GradientCoderModel" "oldRebuilt" "[I", .laysFinal "GradientCoderModel" "GradientCoderModel" "oldContexts" "[I", .superclass "GradientCoderModel" "java/lang/Object", .methodLink "GradientCoderLaw" (60) ⟨"GradientCoderModel", "thrown", "()I"⟩, .instanceMethod ⟨"GradientCoderModel", "thrown", "()I"⟩, .selects "GradientCoderModel" ⟨"GradientCoderModel", "thrown", "()I"⟩ ⟨"GradientCoderModel", "thrown", "()I"⟩, .code ⟨"GradientCoderModel", "thrown", "()I"⟩ prog_11_method_2_code (1) (some .int), .methodLink "GradientCoderLaw" (23) ⟨"GradientCoderModel", "frame", "(IIII)Z"⟩, .instanceMethod ⟨"GradientCoderModel", "frame", "(IIII)Z"⟩, .selects "GradientCoderModel" ⟨"GradientCoderModel", "frame", "(IIII)Z"⟩ ⟨"GradientCoderModel", "frame", "(IIII)Z"⟩, .code ⟨"GradientCoderModel", "frame", "(IIII)Z"⟩ prog_11_method_10_code (6) (some .boolean), .methodLink "GradientCoderModel" (87) ⟨"GradientCoderModel", "fits", "(IIII)Z"⟩, .static ⟨"GradientCoderModel", "fits", "(IIII)Z"⟩, .code ⟨"GradientCoderModel", "fits", "(IIII)Z"⟩ prog_11_method_9_code (4) (some .boolean), .methodLink "GradientCoderLaw" (30) ⟨"GradientCoderModel", "row", "(IJ)Z"⟩, .instanceMethod ⟨"GradientCoderModel", "row", "(IJ)Z"⟩]
def TS_13 : List Cond := [.selects "GradientCoderModel" ⟨"GradientCoderModel", "row", "(IJ)Z"⟩ ⟨"GradientCoderModel", "row", "(IJ)Z"⟩, .code ⟨"GradientCoderModel", "row", "(IJ)Z"⟩ prog_11_method_11_code (5) (some .boolean), .constantLong "GradientCoderModel" (94) (255), .methodLink "GradientCoderLaw" (34) ⟨"GradientCoderModel", "encode", "()I"⟩, .instanceMethod ⟨"GradientCoderModel", "encode", "()I"⟩, .selects "GradientCoderModel" ⟨"GradientCoderModel", "encode", "()I"⟩ ⟨"GradientCoderModel", "encode", "()I"⟩, .code ⟨"GradientCoderModel", "encode", "()I"⟩ prog_11_method_40_code (1) (some .int), .methodLink "GradientCoderModel" (102) ⟨"GradientCoderModel", "say", "(I)V"⟩, .instanceMethod ⟨"GradientCoderModel", "say", "(I)V"⟩, .code ⟨"GradientCoderModel", "say", "(I)V"⟩ prog_11_method_12_code (2) none, .methodLink "GradientCoderModel" (210) ⟨"GradientCoderModel", "walk", "()V"⟩, .instanceMethod ⟨"GradientCoderModel", "walk", "()V"⟩, .code ⟨"GradientCoderModel", "walk", "()V"⟩ prog_11_method_39_code (6) none, .methodLink "GradientCoderModel" (137) ⟨"GradientCoderModel", "above", "(II)I"⟩, .instanceMethod ⟨"GradientCoderModel", "above", "(II)I"⟩, .code ⟨"GradientCoderModel", "above", "(II)I"⟩ prog_11_method_20_code (3) (some .int), .methodLink "GradientCoderModel" (134) ⟨"GradientCoderModel", "value", "(II)I"⟩, .instanceMethod ⟨"GradientCoderModel", "value", "(II)I"⟩, .code ⟨"GradientCoderModel", "value", "(II)I"⟩ prog_11_method_19_code (3) (some .int), .methodLink "GradientCoderModel" (152) ⟨"GradientCoderModel", "corner", "(II)I"⟩, .instanceMethod ⟨"GradientCoderModel", "corner", "(II)I"⟩, .code ⟨"GradientCoderModel", "corner", "(II)I"⟩ prog_11_method_22_code (3) (some .int), .methodLink "GradientCoderModel" (140) ⟨"GradientCoderModel", "before", "(II)I"⟩, .instanceMethod ⟨"GradientCoderModel", "before", "(II)I"⟩, .code ⟨"GradientCoderModel", "before", "(II)I"⟩ prog_11_method_21_code (3) (some .int), .methodLink "GradientCoderModel" (155) ⟨"GradientCoderModel", "beyond", "(II)I"⟩, .instanceMethod ⟨"GradientCoderModel", "beyond", "(II)I"⟩, .code ⟨"GradientCoderModel", "beyond", "(II)I"⟩ prog_11_method_23_code (3) (some .int), .methodLink "GradientCoderModel" (191) ⟨"GradientCoderModel", "isNear", "(I)Z"⟩, .instanceMethod ⟨"GradientCoderModel", "isNear", "(I)Z"⟩, .code ⟨"GradientCoderModel", "isNear", "(I)Z"⟩ prog_11_method_24_code (2) (some .boolean), .methodLink "GradientCoderModel" (201) ⟨"GradientCoderModel", "readRun", "(II)I"⟩, .instanceMethod ⟨"GradientCoderModel", "readRun", "(II)I"⟩, .code ⟨"GradientCoderModel", "readRun", "(II)I"⟩ prog_11_method_38_code (8) (some .int), .methodLink "GradientCoderModel" (195) ⟨"GradientCoderModel", "jOf", "(I)I"⟩, .instanceMethod ⟨"GradientCoderModel", "jOf", "(I)I"⟩, .code ⟨"GradientCoderModel", "jOf", "(I)I"⟩ prog_11_method_35_code (2) (some .int), .methodLink "GradientCoderModel" (122) ⟨"GradientCoderModel", "get", "()I"⟩, .instanceMethod ⟨"GradientCoderModel", "get", "()I"⟩, .code ⟨"GradientCoderModel", "get", "()I"⟩ prog_11_method_15_code (2) (some .int), .methodLink "GradientCoderModel" (130) ⟨"GradientCoderModel", "getMany", "(I)I"⟩, .instanceMethod ⟨"GradientCoderModel", "getMany", "(I)I"⟩, .code ⟨"GradientCoderModel", "getMany", "(I)I"⟩ prog_11_method_16_code (4) (some .int), .methodLink "GradientCoderModel" (198) ⟨"GradientCoderModel", "endRun", "(III)V"⟩, .instanceMethod ⟨"GradientCoderModel", "endRun", "(III)V"⟩, .code ⟨"GradientCoderModel", "endRun", "(III)V"⟩ prog_11_method_36_code (17) none, .methodLink "GradientCoderModel" (164) ⟨"GradientCoderModel", "kFor", "(II)I"⟩, .static ⟨"GradientCoderModel", "kFor", "(II)I"⟩, .code ⟨"GradientCoderModel", "kFor", "(II)I"⟩ prog_11_method_31_code (3) (some .int), .methodLink "GradientCoderModel" (170) ⟨"GradientCoderModel", "read", "(II)I"⟩, .instanceMethod ⟨"GradientCoderModel", "read", "(II)I"⟩, .code ⟨"GradientCoderModel", "read", "(II)I"⟩ prog_11_method_18_code (5) (some .int), .methodLink "GradientCoderModel" (173) ⟨"GradientCoderModel", "settle", "(IIIII)V"⟩, .instanceMethod ⟨"GradientCoderModel", "settle", "(IIIII)V"⟩, .code ⟨"GradientCoderModel", "settle", "(IIIII)V"⟩ prog_11_method_30_code (7) none, .methodLink "GradientCoderModel" (146) ⟨"GradientCoderModel", "held", "(I)I"⟩, .instanceMethod ⟨"GradientCoderModel", "held", "(I)I"⟩, .code ⟨"GradientCoderModel", "held", "(I)I"⟩ prog_11_method_25_code (2) (some .int), .methodLink "GradientCoderModel" (177) ⟨"GradientCoderModel", "errorOf", "(IIII)I"⟩, .instanceMethod ⟨"GradientCoderModel", "errorOf", "(IIII)I"⟩]
def TS_14 : List Cond := [.code ⟨"GradientCoderModel", "errorOf", "(IIII)I"⟩ prog_11_method_29_code (6) (some .int), .methodLink "GradientCoderModel" (143) ⟨"GradientCoderModel", "divided", "(I)I"⟩, .instanceMethod ⟨"GradientCoderModel", "divided", "(I)I"⟩, .code ⟨"GradientCoderModel", "divided", "(I)I"⟩ prog_11_method_26_code (2) (some .int), .methodLink "GradientCoderModel" (149) ⟨"GradientCoderModel", "reduced", "(I)I"⟩, .instanceMethod ⟨"GradientCoderModel", "reduced", "(I)I"⟩, .code ⟨"GradientCoderModel", "reduced", "(I)I"⟩ prog_11_method_27_code (3) (some .int), .methodLink "GradientCoderModel" (181) ⟨"GradientCoderModel", "write", "(III)V"⟩, .instanceMethod ⟨"GradientCoderModel", "write", "(III)V"⟩, .code ⟨"GradientCoderModel", "write", "(III)V"⟩ prog_11_method_17_code (6) none, .methodLink "GradientCoderModel" (126) ⟨"GradientCoderModel", "putMany", "(II)V"⟩, .instanceMethod ⟨"GradientCoderModel", "putMany", "(II)V"⟩, .code ⟨"GradientCoderModel", "putMany", "(II)V"⟩ prog_11_method_14_code (4) none, .methodLink "GradientCoderModel" (106) ⟨"GradientCoderModel", "put", "(I)V"⟩, .instanceMethod ⟨"GradientCoderModel", "put", "(I)V"⟩, .code ⟨"GradientCoderModel", "put", "(I)V"⟩ prog_11_method_13_code (2) none, .methodLink "GradientCoderModel" (188) ⟨"GradientCoderModel", "half", "(I)I"⟩, .static ⟨"GradientCoderModel", "half", "(I)I"⟩, .code ⟨"GradientCoderModel", "half", "(I)I"⟩ prog_11_method_28_code (1) (some .int), .methodLink "GradientCoderModel" (204) ⟨"GradientCoderModel", "writeRun", "(II)I"⟩, .instanceMethod ⟨"GradientCoderModel", "writeRun", "(II)I"⟩, .code ⟨"GradientCoderModel", "writeRun", "(II)I"⟩ prog_11_method_37_code (6) (some .int), .methodLink "GradientCoderModel" (207) ⟨"GradientCoderModel", "regular", "(II)V"⟩, .instanceMethod ⟨"GradientCoderModel", "regular", "(II)V"⟩, .code ⟨"GradientCoderModel", "regular", "(II)V"⟩ prog_11_method_33_code (16) none, .methodLink "GradientCoderModel" (158) ⟨"GradientCoderModel", "quantized", "(I)I"⟩, .instanceMethod ⟨"GradientCoderModel", "quantized", "(I)I"⟩, .code ⟨"GradientCoderModel", "quantized", "(I)I"⟩ prog_11_method_32_code (2) (some .int), .methodLink "GradientCoderModel" (161) ⟨"GradientCoderModel", "lesser", "(II)I"⟩, .static ⟨"GradientCoderModel", "lesser", "(II)I"⟩, .code ⟨"GradientCoderModel", "lesser", "(II)I"⟩ prog_11_method_4_code (2) (some .int), .methodLink "GradientCoderModel" (185) ⟨"GradientCoderModel", "learn", "(II)V"⟩, .instanceMethod ⟨"GradientCoderModel", "learn", "(II)V"⟩, .code ⟨"GradientCoderModel", "learn", "(II)V"⟩ prog_11_method_34_code (6) none, .methodLink "GradientCoderLaw" (59) ⟨"GradientCoderModel", "decode", "()I"⟩, .instanceMethod ⟨"GradientCoderModel", "decode", "()I"⟩, .selects "GradientCoderModel" ⟨"GradientCoderModel", "decode", "()I"⟩ ⟨"GradientCoderModel", "decode", "()I"⟩, .code ⟨"GradientCoderModel", "decode", "()I"⟩ prog_11_method_44_code (8) (some .int), .methodLink "GradientCoderModel" (213) ⟨"GradientCoderModel", "keep", "()V"⟩, .instanceMethod ⟨"GradientCoderModel", "keep", "()V"⟩, .code ⟨"GradientCoderModel", "keep", "()V"⟩ prog_11_method_41_code (2) none, .methodLink "GradientCoderModel" (216) ⟨"GradientCoderModel", "endsWell", "()Z"⟩, .instanceMethod ⟨"GradientCoderModel", "endsWell", "()Z"⟩, .code ⟨"GradientCoderModel", "endsWell", "()Z"⟩ prog_11_method_43_code (1) (some .boolean), .methodLink "GradientCoderModel" (220) ⟨"GradientCoderModel", "putBack", "(IIIII)V"⟩, .instanceMethod ⟨"GradientCoderModel", "putBack", "(IIIII)V"⟩, .code ⟨"GradientCoderModel", "putBack", "(IIIII)V"⟩ prog_11_method_42_code (7) none, .methodLink "GradientCoderLaw" (38) ⟨"GradientCoderModel", "size", "()I"⟩, .instanceMethod ⟨"GradientCoderModel", "size", "()I"⟩, .selects "GradientCoderModel" ⟨"GradientCoderModel", "size", "()I"⟩ ⟨"GradientCoderModel", "size", "()I"⟩, .code ⟨"GradientCoderModel", "size", "()I"⟩ prog_11_method_45_code (1) (some .int), .methodLink "GradientCoderLaw" (43) ⟨"GradientCoderModel", "code", "(I)I"⟩, .instanceMethod ⟨"GradientCoderModel", "code", "(I)I"⟩, .selects "GradientCoderModel" ⟨"GradientCoderModel", "code", "(I)I"⟩ ⟨"GradientCoderModel", "code", "(I)I"⟩, .code ⟨"GradientCoderModel", "code", "(I)I"⟩ prog_11_method_46_code (2) (some .int), .methodLink "GradientCoderLaw" (48) ⟨"GradientCoderModel", "poke", "(II)Z"⟩, .instanceMethod ⟨"GradientCoderModel", "poke", "(II)Z"⟩, .selects "GradientCoderModel" ⟨"GradientCoderModel", "poke", "(II)Z"⟩ ⟨"GradientCoderModel", "poke", "(II)Z"⟩, .code ⟨"GradientCoderModel", "poke", "(II)Z"⟩ prog_11_method_47_code (3) (some .boolean), .methodLink "GradientCoderLaw" (53) ⟨"GradientCoderModel", "cut", "(I)Z"⟩]
def TS_15 : List Cond := [.instanceMethod ⟨"GradientCoderModel", "cut", "(I)Z"⟩, .selects "GradientCoderModel" ⟨"GradientCoderModel", "cut", "(I)Z"⟩ ⟨"GradientCoderModel", "cut", "(I)Z"⟩, .code ⟨"GradientCoderModel", "cut", "(I)Z"⟩ prog_11_method_48_code (2) (some .boolean), .methodLink "GradientCoderLaw" (66) ⟨"GradientCoderModel", "number", "(I)I"⟩, .instanceMethod ⟨"GradientCoderModel", "number", "(I)I"⟩, .selects "GradientCoderModel" ⟨"GradientCoderModel", "number", "(I)I"⟩ ⟨"GradientCoderModel", "number", "(I)I"⟩, .code ⟨"GradientCoderModel", "number", "(I)I"⟩ prog_11_method_49_code (2) (some .int), .methodLink "GradientCoderLaw" (71) ⟨"GradientCoderModel", "sample", "(II)I"⟩, .instanceMethod ⟨"GradientCoderModel", "sample", "(II)I"⟩, .selects "GradientCoderModel" ⟨"GradientCoderModel", "sample", "(II)I"⟩ ⟨"GradientCoderModel", "sample", "(II)I"⟩, .code ⟨"GradientCoderModel", "sample", "(II)I"⟩ prog_11_method_51_code (3) (some .int), .methodLink "GradientCoderModel" (223) ⟨"GradientCoderModel", "isPlace", "(II)Z"⟩, .instanceMethod ⟨"GradientCoderModel", "isPlace", "(II)Z"⟩, .code ⟨"GradientCoderModel", "isPlace", "(II)Z"⟩ prog_11_method_50_code (3) (some .boolean), .methodLink "GradientCoderLaw" (75) ⟨"GradientCoderModel", "rebuilt", "(II)I"⟩, .instanceMethod ⟨"GradientCoderModel", "rebuilt", "(II)I"⟩, .selects "GradientCoderModel" ⟨"GradientCoderModel", "rebuilt", "(II)I"⟩ ⟨"GradientCoderModel", "rebuilt", "(II)I"⟩, .code ⟨"GradientCoderModel", "rebuilt", "(II)I"⟩ prog_11_method_52_code (3) (some .int), .methodLink "GradientCoderLaw" (79) ⟨"GradientCoderModel", "context", "(II)I"⟩, .instanceMethod ⟨"GradientCoderModel", "context", "(II)I"⟩, .selects "GradientCoderModel" ⟨"GradientCoderModel", "context", "(II)I"⟩ ⟨"GradientCoderModel", "context", "(II)I"⟩, .code ⟨"GradientCoderModel", "context", "(II)I"⟩ prog_11_method_53_code (3) (some .int), .constant "GradientCoderModel" (227) (-1000000), .methodLink "GradientCoderLaw" (83) ⟨"GradientCoderModel", "runIndex", "()I"⟩, .instanceMethod ⟨"GradientCoderModel", "runIndex", "()I"⟩, .selects "GradientCoderModel" ⟨"GradientCoderModel", "runIndex", "()I"⟩ ⟨"GradientCoderModel", "runIndex", "()I"⟩, .code ⟨"GradientCoderModel", "runIndex", "()I"⟩ prog_11_method_54_code (1) (some .int), .constantLong "GradientCoderLaw" (24) (4294967295), .arrayClass .long, .sameMethod "GradientCoder$Pass" "GradientCoder$Pass" "lookAround" "(II)V", .sameMethod "GradientCoder$Pass" "GradientCoder$Pass" "rebuiltOrNothing" "(II)I", .sameMethod "GradientCoder$Pass" "GradientCoder$Pass" "isEven" "()Z", .sameMethod "java/lang/Throwable" "java/lang/Throwable" "fillInStackTrace" "(I)Ljava/lang/Throwable;", .sameMethod "GradientCoder$Pass" "GradientCoder$Pass" "overRegular" "(I)V", .sameMethod "GradientCoder$Pass" "GradientCoder$Pass" "signedContext" "()I", .sameMethod "GradientCoder$Pass" "GradientCoder$Pass" "foretoldByNeighbours" "()I", .sameMethod "GradientCoder$Pass" "GradientCoder$Pass" "overEnd" "(I)V"]
def TS : List Cond := TS_0 ++ (TS_1 ++ (TS_2 ++ (TS_3 ++ (TS_4 ++ (TS_5 ++ (TS_6 ++ (TS_7 ++ (TS_8 ++ (TS_9 ++ (TS_10 ++ (TS_11 ++ (TS_12 ++ (TS_13 ++ (TS_14 ++ (TS_15)))))))))))))))
theorem TS_0_in : ∀ w ∈ TS_0, w ∈ TS := fun w h => List.mem_append_left _ h
theorem TS_1_in : ∀ w ∈ TS_1, w ∈ TS := fun w h => List.mem_append_right _ (List.mem_append_left _ h)
theorem TS_2_in : ∀ w ∈ TS_2, w ∈ TS := fun w h => List.mem_append_right _ (List.mem_append_right _ (List.mem_append_left _ h))
theorem TS_3_in : ∀ w ∈ TS_3, w ∈ TS := fun w h => List.mem_append_right _ (List.mem_append_right _ (List.mem_append_right _ (List.mem_append_left _ h)))
theorem TS_4_in : ∀ w ∈ TS_4, w ∈ TS := fun w h => List.mem_append_right _ (List.mem_append_right _ (List.mem_append_right _ (List.mem_append_right _ (List.mem_append_left _ h))))
theorem TS_5_in : ∀ w ∈ TS_5, w ∈ TS := fun w h => List.mem_append_right _ (List.mem_append_right _ (List.mem_append_right _ (List.mem_append_right _ (List.mem_append_right _ (List.mem_append_left _ h)))))
theorem TS_6_in : ∀ w ∈ TS_6, w ∈ TS := fun w h => List.mem_append_right _ (List.mem_append_right _ (List.mem_append_right _ (List.mem_append_right _ (List.mem_append_right _ (List.mem_append_right _ (List.mem_append_left _ h))))))
theorem TS_7_in : ∀ w ∈ TS_7, w ∈ TS := fun w h => List.mem_append_right _ (List.mem_append_right _ (List.mem_append_right _ (List.mem_append_right _ (List.mem_append_right _ (List.mem_append_right _ (List.mem_append_right _ (List.mem_append_left _ h)))))))
theorem TS_8_in : ∀ w ∈ TS_8, w ∈ TS := fun w h => List.mem_append_right _ (List.mem_append_right _ (List.mem_append_right _ (List.mem_append_right _ (List.mem_append_right _ (List.mem_append_right _ (List.mem_append_right _ (List.mem_append_right _ (List.mem_append_left _ h))))))))
theorem TS_9_in : ∀ w ∈ TS_9, w ∈ TS := fun w h => List.mem_append_right _ (List.mem_append_right _ (List.mem_append_right _ (List.mem_append_right _ (List.mem_append_right _ (List.mem_append_right _ (List.mem_append_right _ (List.mem_append_right _ (List.mem_append_right _ (List.mem_append_left _ h)))))))))
theorem TS_10_in : ∀ w ∈ TS_10, w ∈ TS := fun w h => List.mem_append_right _ (List.mem_append_right _ (List.mem_append_right _ (List.mem_append_right _ (List.mem_append_right _ (List.mem_append_right _ (List.mem_append_right _ (List.mem_append_right _ (List.mem_append_right _ (List.mem_append_right _ (List.mem_append_left _ h))))))))))
theorem TS_11_in : ∀ w ∈ TS_11, w ∈ TS := fun w h => List.mem_append_right _ (List.mem_append_right _ (List.mem_append_right _ (List.mem_append_right _ (List.mem_append_right _ (List.mem_append_right _ (List.mem_append_right _ (List.mem_append_right _ (List.mem_append_right _ (List.mem_append_right _ (List.mem_append_right _ (List.mem_append_left _ h)))))))))))
theorem TS_12_in : ∀ w ∈ TS_12, w ∈ TS := fun w h => List.mem_append_right _ (List.mem_append_right _ (List.mem_append_right _ (List.mem_append_right _ (List.mem_append_right _ (List.mem_append_right _ (List.mem_append_right _ (List.mem_append_right _ (List.mem_append_right _ (List.mem_append_right _ (List.mem_append_right _ (List.mem_append_right _ (List.mem_append_left _ h))))))))))))
theorem TS_13_in : ∀ w ∈ TS_13, w ∈ TS := fun w h => List.mem_append_right _ (List.mem_append_right _ (List.mem_append_right _ (List.mem_append_right _ (List.mem_append_right _ (List.mem_append_right _ (List.mem_append_right _ (List.mem_append_right _ (List.mem_append_right _ (List.mem_append_right _ (List.mem_append_right _ (List.mem_append_right _ (List.mem_append_right _ (List.mem_append_left _ h)))))))))))))
theorem TS_14_in : ∀ w ∈ TS_14, w ∈ TS := fun w h => List.mem_append_right _ (List.mem_append_right _ (List.mem_append_right _ (List.mem_append_right _ (List.mem_append_right _ (List.mem_append_right _ (List.mem_append_right _ (List.mem_append_right _ (List.mem_append_right _ (List.mem_append_right _ (List.mem_append_right _ (List.mem_append_right _ (List.mem_append_right _ (List.mem_append_right _ (List.mem_append_left _ h))))))))))))))
theorem TS_15_in : ∀ w ∈ TS_15, w ∈ TS := fun w h => List.mem_append_right _ (List.mem_append_right _ (List.mem_append_right _ (List.mem_append_right _ (List.mem_append_right _ (List.mem_append_right _ (List.mem_append_right _ (List.mem_append_right _ (List.mem_append_right _ (List.mem_append_right _ (List.mem_append_right _ (List.mem_append_right _ (List.mem_append_right _ (List.mem_append_right _ (List.mem_append_right _ (h)))))))))))))))
theorem TS_0_ok : TS_0.all goodWord = true := by decide +kernel
theorem TS_1_ok : TS_1.all goodWord = true := by decide +kernel
theorem TS_2_ok : TS_2.all goodWord = true := by decide +kernel
theorem TS_3_ok : TS_3.all goodWord = true := by decide +kernel
theorem TS_4_ok : TS_4.all goodWord = true := by decide +kernel
theorem TS_5_ok : TS_5.all goodWord = true := by decide +kernel
theorem TS_6_ok : TS_6.all goodWord = true := by decide +kernel
theorem TS_7_ok : TS_7.all goodWord = true := by decide +kernel
theorem TS_8_ok : TS_8.all goodWord = true := by decide +kernel
theorem TS_9_ok : TS_9.all goodWord = true := by decide +kernel
theorem TS_10_ok : TS_10.all goodWord = true := by decide +kernel
theorem TS_11_ok : TS_11.all goodWord = true := by decide +kernel
theorem TS_12_ok : TS_12.all goodWord = true := by decide +kernel
theorem TS_13_ok : TS_13.all goodWord = true := by decide +kernel
theorem TS_14_ok : TS_14.all goodWord = true := by decide +kernel
theorem TS_15_ok : TS_15.all goodWord = true := by decide +kernel
theorem TS_good : ∀ w ∈ TS, goodWord w = true := by
  intro w h
  unfold TS at h
  rcases List.mem_append.mp h with h | h
  · exact List.all_eq_true.mp TS_0_ok w h
  rcases List.mem_append.mp h with h | h
  · exact List.all_eq_true.mp TS_1_ok w h
  rcases List.mem_append.mp h with h | h
  · exact List.all_eq_true.mp TS_2_ok w h
  rcases List.mem_append.mp h with h | h
  · exact List.all_eq_true.mp TS_3_ok w h
  rcases List.mem_append.mp h with h | h
  · exact List.all_eq_true.mp TS_4_ok w h
  rcases List.mem_append.mp h with h | h
  · exact List.all_eq_true.mp TS_5_ok w h
  rcases List.mem_append.mp h with h | h
  · exact List.all_eq_true.mp TS_6_ok w h
  rcases List.mem_append.mp h with h | h
  · exact List.all_eq_true.mp TS_7_ok w h
  rcases List.mem_append.mp h with h | h
  · exact List.all_eq_true.mp TS_8_ok w h
  rcases List.mem_append.mp h with h | h
  · exact List.all_eq_true.mp TS_9_ok w h
  rcases List.mem_append.mp h with h | h
  · exact List.all_eq_true.mp TS_10_ok w h
  rcases List.mem_append.mp h with h | h
  · exact List.all_eq_true.mp TS_11_ok w h
  rcases List.mem_append.mp h with h | h
  · exact List.all_eq_true.mp TS_12_ok w h
  rcases List.mem_append.mp h with h | h
  · exact List.all_eq_true.mp TS_13_ok w h
  rcases List.mem_append.mp h with h | h
  · exact List.all_eq_true.mp TS_14_ok w h
  exact List.all_eq_true.mp TS_15_ok w h
theorem TS_ok : GoodIn TS TS := fun w h => ⟨h, good_of_word (TS_good w h)⟩
theorem m_0 : .laysFinal R_Grc "GradientCoder" "coding" "LGradientCoder$Coding;" ∈ TS := TS_5_in _ (List.mem_of_getElem? (i := 6) rfl)
theorem m_1 : .laysFinal R_Grc "GradientCoder" "reading" "LGradientCoder$Reading;" ∈ TS := TS_5_in _ (List.mem_of_getElem? (i := 7) rfl)
theorem m_2 : .lays R_Pic "GradientCoder$Picture" "width" "I" ∈ TS := TS_2_in _ (List.mem_of_getElem? (i := 36) rfl)
theorem m_3 : .lays R_Pic "GradientCoder$Picture" "height" "I" ∈ TS := TS_2_in _ (List.mem_of_getElem? (i := 37) rfl)
theorem m_4 : .lays R_Pic "GradientCoder$Picture" "maxval" "I" ∈ TS := TS_2_in _ (List.mem_of_getElem? (i := 38) rfl)
theorem m_5 : .lays R_Pic "GradientCoder$Picture" "near" "I" ∈ TS := TS_2_in _ (List.mem_of_getElem? (i := 39) rfl)
theorem m_6 : .lays R_Pic "GradientCoder$Picture" "step" "I" ∈ TS := TS_2_in _ (List.mem_of_getElem? (i := 40) rfl)
theorem m_7 : .lays R_Pic "GradientCoder$Picture" "range" "I" ∈ TS := TS_2_in _ (List.mem_of_getElem? (i := 41) rfl)
theorem m_8 : .lays R_Pic "GradientCoder$Picture" "qb" "I" ∈ TS := TS_2_in _ (List.mem_of_getElem? (i := 42) rfl)
theorem m_9 : .lays R_Pic "GradientCoder$Picture" "limit" "I" ∈ TS := TS_2_in _ (List.mem_of_getElem? (i := 43) rfl)
theorem m_10 : .lays R_Pic "GradientCoder$Picture" "t1" "I" ∈ TS := TS_2_in _ (List.mem_of_getElem? (i := 44) rfl)
theorem m_11 : .lays R_Pic "GradientCoder$Picture" "t2" "I" ∈ TS := TS_2_in _ (List.mem_of_getElem? (i := 45) rfl)
theorem m_12 : .lays R_Pic "GradientCoder$Picture" "t3" "I" ∈ TS := TS_2_in _ (List.mem_of_getElem? (i := 46) rfl)
theorem m_13 : .laysFinal R_Ctx "GradientCoder$Contexts" "a" "[I" ∈ TS := TS_3_in _ (List.mem_of_getElem? (i := 6) rfl)
theorem m_14 : .laysFinal R_Ctx "GradientCoder$Contexts" "b" "[I" ∈ TS := TS_3_in _ (List.mem_of_getElem? (i := 7) rfl)
theorem m_15 : .laysFinal R_Ctx "GradientCoder$Contexts" "c" "[I" ∈ TS := TS_3_in _ (List.mem_of_getElem? (i := 8) rfl)
theorem m_16 : .laysFinal R_Ctx "GradientCoder$Contexts" "n" "[I" ∈ TS := TS_3_in _ (List.mem_of_getElem? (i := 9) rfl)
theorem m_17 : .laysFinal R_Ctx "GradientCoder$Contexts" "m" "[I" ∈ TS := TS_3_in _ (List.mem_of_getElem? (i := 10) rfl)
theorem m_18 : .lays R_Ctx "GradientCoder$Contexts" "runIndex" "I" ∈ TS := TS_3_in _ (List.mem_of_getElem? (i := 11) rfl)
theorem m_19 : .laysFinal R_Cod "GradientCoder$Pass" "picture" "LGradientCoder$Picture;" ∈ TS := TS_4_in _ (List.mem_of_getElem? (i := 22) rfl)
theorem m_20 : .laysFinal R_Cod "GradientCoder$Pass" "contexts" "LGradientCoder$Contexts;" ∈ TS := TS_4_in _ (List.mem_of_getElem? (i := 23) rfl)
theorem m_21 : .laysFinal R_Cod "GradientCoder$Pass" "rebuilt" "[I" ∈ TS := TS_4_in _ (List.mem_of_getElem? (i := 24) rfl)
theorem m_22 : .lays R_Cod "GradientCoder$Pass" "a" "I" ∈ TS := TS_4_in _ (List.mem_of_getElem? (i := 25) rfl)
theorem m_23 : .lays R_Cod "GradientCoder$Pass" "b" "I" ∈ TS := TS_4_in _ (List.mem_of_getElem? (i := 26) rfl)
theorem m_24 : .lays R_Cod "GradientCoder$Pass" "c" "I" ∈ TS := TS_4_in _ (List.mem_of_getElem? (i := 27) rfl)
theorem m_25 : .lays R_Cod "GradientCoder$Pass" "d" "I" ∈ TS := TS_4_in _ (List.mem_of_getElem? (i := 28) rfl)
theorem m_26 : .lays R_Cod "GradientCoder$Pass" "sign" "I" ∈ TS := TS_4_in _ (List.mem_of_getElem? (i := 29) rfl)
theorem m_27 : .lays R_Cod "GradientCoder$Pass" "foretold" "I" ∈ TS := TS_4_in _ (List.mem_of_getElem? (i := 30) rfl)
theorem m_28 : .laysFinal R_Cod "GradientCoder$Coding" "samples" "[I" ∈ TS := TS_4_in _ (List.mem_of_getElem? (i := 20) rfl)
theorem m_29 : .laysFinal R_Cod "GradientCoder$Coding" "writer" "LGradientCoder$Writer;" ∈ TS := TS_4_in _ (List.mem_of_getElem? (i := 21) rfl)
theorem m_30 : .laysFinal R_Rdg "GradientCoder$Pass" "picture" "LGradientCoder$Picture;" ∈ TS := TS_4_in _ (List.mem_of_getElem? (i := 54) rfl)
theorem m_31 : .laysFinal R_Rdg "GradientCoder$Pass" "contexts" "LGradientCoder$Contexts;" ∈ TS := TS_4_in _ (List.mem_of_getElem? (i := 55) rfl)
theorem m_32 : .laysFinal R_Rdg "GradientCoder$Pass" "rebuilt" "[I" ∈ TS := TS_4_in _ (List.mem_of_getElem? (i := 56) rfl)
theorem m_33 : .lays R_Rdg "GradientCoder$Pass" "a" "I" ∈ TS := TS_4_in _ (List.mem_of_getElem? (i := 57) rfl)
theorem m_34 : .lays R_Rdg "GradientCoder$Pass" "b" "I" ∈ TS := TS_4_in _ (List.mem_of_getElem? (i := 58) rfl)
theorem m_35 : .lays R_Rdg "GradientCoder$Pass" "c" "I" ∈ TS := TS_4_in _ (List.mem_of_getElem? (i := 59) rfl)
theorem m_36 : .lays R_Rdg "GradientCoder$Pass" "d" "I" ∈ TS := TS_5_in _ (List.mem_of_getElem? (i := 0) rfl)
theorem m_37 : .lays R_Rdg "GradientCoder$Pass" "sign" "I" ∈ TS := TS_5_in _ (List.mem_of_getElem? (i := 1) rfl)
theorem m_38 : .lays R_Rdg "GradientCoder$Pass" "foretold" "I" ∈ TS := TS_5_in _ (List.mem_of_getElem? (i := 2) rfl)
theorem m_39 : .laysFinal R_Rdg "GradientCoder$Reading" "reader" "LGradientCoder$Reader;" ∈ TS := TS_4_in _ (List.mem_of_getElem? (i := 53) rfl)
theorem m_40 : .laysFinal R_Wri "GradientCoder$Writer" "bytes" "[I" ∈ TS := TS_3_in _ (List.mem_of_getElem? (i := 27) rfl)
theorem m_41 : .lays R_Wri "GradientCoder$Writer" "size" "I" ∈ TS := TS_3_in _ (List.mem_of_getElem? (i := 28) rfl)
theorem m_42 : .lays R_Wri "GradientCoder$Writer" "bitsFree" "I" ∈ TS := TS_3_in _ (List.mem_of_getElem? (i := 29) rfl)
theorem m_43 : .laysFinal R_Rea "GradientCoder$Reader" "bytes" "[I" ∈ TS := TS_4_in _ (List.mem_of_getElem? (i := 46) rfl)
theorem m_44 : .lays R_Rea "GradientCoder$Reader" "end" "I" ∈ TS := TS_4_in _ (List.mem_of_getElem? (i := 47) rfl)
theorem m_45 : .lays R_Rea "GradientCoder$Reader" "next" "I" ∈ TS := TS_4_in _ (List.mem_of_getElem? (i := 48) rfl)
theorem m_46 : .lays R_Rea "GradientCoder$Reader" "bitsLeft" "I" ∈ TS := TS_4_in _ (List.mem_of_getElem? (i := 49) rfl)
theorem m_47 : .lays R_Mod "GradientCoderModel" "thrown" "I" ∈ TS := TS_12_in _ (List.mem_of_getElem? (i := 18) rfl)
theorem m_48 : .lays R_Mod "GradientCoderModel" "width" "I" ∈ TS := TS_12_in _ (List.mem_of_getElem? (i := 19) rfl)
theorem m_49 : .lays R_Mod "GradientCoderModel" "height" "I" ∈ TS := TS_12_in _ (List.mem_of_getElem? (i := 20) rfl)
theorem m_50 : .lays R_Mod "GradientCoderModel" "maxval" "I" ∈ TS := TS_12_in _ (List.mem_of_getElem? (i := 21) rfl)
theorem m_51 : .lays R_Mod "GradientCoderModel" "near" "I" ∈ TS := TS_12_in _ (List.mem_of_getElem? (i := 22) rfl)
theorem m_52 : .lays R_Mod "GradientCoderModel" "step" "I" ∈ TS := TS_12_in _ (List.mem_of_getElem? (i := 23) rfl)
theorem m_53 : .lays R_Mod "GradientCoderModel" "range" "I" ∈ TS := TS_12_in _ (List.mem_of_getElem? (i := 24) rfl)
theorem m_54 : .lays R_Mod "GradientCoderModel" "qb" "I" ∈ TS := TS_12_in _ (List.mem_of_getElem? (i := 25) rfl)
theorem m_55 : .lays R_Mod "GradientCoderModel" "limit" "I" ∈ TS := TS_12_in _ (List.mem_of_getElem? (i := 26) rfl)
theorem m_56 : .lays R_Mod "GradientCoderModel" "t1" "I" ∈ TS := TS_12_in _ (List.mem_of_getElem? (i := 27) rfl)
theorem m_57 : .lays R_Mod "GradientCoderModel" "t2" "I" ∈ TS := TS_12_in _ (List.mem_of_getElem? (i := 28) rfl)
theorem m_58 : .lays R_Mod "GradientCoderModel" "t3" "I" ∈ TS := TS_12_in _ (List.mem_of_getElem? (i := 29) rfl)
theorem m_59 : .laysFinal R_Mod "GradientCoderModel" "sample" "[I" ∈ TS := TS_12_in _ (List.mem_of_getElem? (i := 30) rfl)
theorem m_60 : .laysFinal R_Mod "GradientCoderModel" "rebuilt" "[I" ∈ TS := TS_12_in _ (List.mem_of_getElem? (i := 31) rfl)
theorem m_61 : .laysFinal R_Mod "GradientCoderModel" "contexts" "[I" ∈ TS := TS_12_in _ (List.mem_of_getElem? (i := 32) rfl)
theorem m_62 : .lays R_Mod "GradientCoderModel" "runIndex" "I" ∈ TS := TS_12_in _ (List.mem_of_getElem? (i := 33) rfl)
theorem m_63 : .laysFinal R_Mod "GradientCoderModel" "code" "[I" ∈ TS := TS_12_in _ (List.mem_of_getElem? (i := 34) rfl)
theorem m_64 : .lays R_Mod "GradientCoderModel" "size" "I" ∈ TS := TS_12_in _ (List.mem_of_getElem? (i := 35) rfl)
theorem m_65 : .lays R_Mod "GradientCoderModel" "begun" "I" ∈ TS := TS_12_in _ (List.mem_of_getElem? (i := 36) rfl)
theorem m_66 : .lays R_Mod "GradientCoderModel" "bits" "I" ∈ TS := TS_12_in _ (List.mem_of_getElem? (i := 37) rfl)
theorem m_67 : .lays R_Mod "GradientCoderModel" "reading" "Z" ∈ TS := TS_12_in _ (List.mem_of_getElem? (i := 38) rfl)
theorem m_68 : .lays R_Mod "GradientCoderModel" "at" "I" ∈ TS := TS_12_in _ (List.mem_of_getElem? (i := 39) rfl)
theorem m_69 : .lays R_Mod "GradientCoderModel" "now" "I" ∈ TS := TS_12_in _ (List.mem_of_getElem? (i := 40) rfl)
theorem m_70 : .lays R_Mod "GradientCoderModel" "left" "I" ∈ TS := TS_12_in _ (List.mem_of_getElem? (i := 41) rfl)
theorem m_71 : .lays R_Mod "GradientCoderModel" "good" "Z" ∈ TS := TS_12_in _ (List.mem_of_getElem? (i := 42) rfl)
theorem m_72 : .laysFinal R_Mod "GradientCoderModel" "oldSample" "[I" ∈ TS := TS_12_in _ (List.mem_of_getElem? (i := 43) rfl)
theorem m_73 : .laysFinal R_Mod "GradientCoderModel" "oldRebuilt" "[I" ∈ TS := TS_12_in _ (List.mem_of_getElem? (i := 44) rfl)
theorem m_74 : .laysFinal R_Mod "GradientCoderModel" "oldContexts" "[I" ∈ TS := TS_12_in _ (List.mem_of_getElem? (i := 45) rfl)
theorem m_75 : .fieldLink R_Pic 20 "GradientCoder$Picture" "maxval" "I" ∈ TS := TS_2_in _ (List.mem_of_getElem? (i := 7) rfl)
theorem m_76 : .fieldLink R_Pic 23 "GradientCoder$Picture" "near" "I" ∈ TS := TS_2_in _ (List.mem_of_getElem? (i := 9) rfl)
theorem m_77 : .code y_Pic_clamp b_Pic_clamp 3 (some .int) ∈ TS := TS_1_in _ (List.mem_of_getElem? (i := 54) rfl)
theorem m_78 : .methodLink R_Pic 54 y_Pic_clamp ∈ TS := TS_1_in _ (List.mem_of_getElem? (i := 52) rfl)
theorem m_79 : .instanceMethod y_Pic_clamp ∈ TS := TS_1_in _ (List.mem_of_getElem? (i := 53) rfl)
theorem m_80 : .selects R_Pic y_Pic_clamp y_Pic_clamp ∈ TS := TS_0_in _ (List.mem_of_getElem? (i := 15) rfl)
theorem m_81 : .initialized R_Pic ∈ TS := TS_1_in _ (List.mem_of_getElem? (i := 3) rfl)
theorem m_82 : .fieldLink R_Pic 57 "GradientCoder$Picture" "t1" "I" ∈ TS := TS_2_in _ (List.mem_of_getElem? (i := 30) rfl)
theorem m_83 : .fieldLink R_Pic 60 "GradientCoder$Picture" "t2" "I" ∈ TS := TS_2_in _ (List.mem_of_getElem? (i := 32) rfl)
theorem m_84 : .fieldLink R_Pic 63 "GradientCoder$Picture" "t3" "I" ∈ TS := TS_2_in _ (List.mem_of_getElem? (i := 34) rfl)
theorem m_85 : .methodLink R_Pic 39 Lib.Math.max.name ∈ TS := TS_1_in _ (List.mem_of_getElem? (i := 46) rfl)
theorem m_86 : .static Lib.Math.max.name ∈ TS := TS_1_in _ (List.mem_of_getElem? (i := 47) rfl)
theorem m_87 : .initialized "java/lang/Math" ∈ TS := TS_1_in _ (List.mem_of_getElem? (i := 4) rfl)
theorem m_88 : .code Lib.Math.max.name Lib.Math.max.code 2 (some .int) ∈ TS := TS_1_in _ (List.mem_of_getElem? (i := 48) rfl)
theorem m_89 : .fieldLink R_Pic 13 "GradientCoder$Picture" "width" "I" ∈ TS := TS_1_in _ (List.mem_of_getElem? (i := 59) rfl)
theorem m_90 : .fieldLink R_Pic 17 "GradientCoder$Picture" "height" "I" ∈ TS := TS_2_in _ (List.mem_of_getElem? (i := 3) rfl)
theorem m_91 : .fieldLink R_Pic 26 "GradientCoder$Picture" "step" "I" ∈ TS := TS_2_in _ (List.mem_of_getElem? (i := 13) rfl)
theorem m_92 : .fieldLink R_Pic 29 "GradientCoder$Picture" "range" "I" ∈ TS := TS_2_in _ (List.mem_of_getElem? (i := 18) rfl)
theorem m_93 : .code y_Pic_leastPower b_Pic_leastPower 3 (some .int) ∈ TS := TS_1_in _ (List.mem_of_getElem? (i := 45) rfl)
theorem m_94 : .methodLink R_Pic 32 y_Pic_leastPower ∈ TS := TS_1_in _ (List.mem_of_getElem? (i := 43) rfl)
theorem m_95 : .static y_Pic_leastPower ∈ TS := TS_1_in _ (List.mem_of_getElem? (i := 44) rfl)
theorem m_96 : .fieldLink R_Pic 36 "GradientCoder$Picture" "qb" "I" ∈ TS := TS_2_in _ (List.mem_of_getElem? (i := 21) rfl)
theorem m_97 : .fieldLink R_Pic 44 "GradientCoder$Picture" "limit" "I" ∈ TS := TS_2_in _ (List.mem_of_getElem? (i := 25) rfl)
theorem m_98 : .code y_Pic_becomeCoarse b_Pic_becomeCoarse 2 none ∈ TS := TS_1_in _ (List.mem_of_getElem? (i := 57) rfl)
theorem m_99 : .methodLink R_Pic 51 y_Pic_becomeCoarse ∈ TS := TS_1_in _ (List.mem_of_getElem? (i := 55) rfl)
theorem m_100 : .instanceMethod y_Pic_becomeCoarse ∈ TS := TS_1_in _ (List.mem_of_getElem? (i := 56) rfl)
theorem m_101 : .selects R_Pic y_Pic_becomeCoarse y_Pic_becomeCoarse ∈ TS := TS_0_in _ (List.mem_of_getElem? (i := 16) rfl)
theorem m_102 : .code y_Pic_becomeFine b_Pic_becomeFine 2 none ∈ TS := TS_1_in _ (List.mem_of_getElem? (i := 51) rfl)
theorem m_103 : .methodLink R_Pic 47 y_Pic_becomeFine ∈ TS := TS_1_in _ (List.mem_of_getElem? (i := 49) rfl)
theorem m_104 : .instanceMethod y_Pic_becomeFine ∈ TS := TS_1_in _ (List.mem_of_getElem? (i := 50) rfl)
theorem m_105 : .selects R_Pic y_Pic_becomeFine y_Pic_becomeFine ∈ TS := TS_0_in _ (List.mem_of_getElem? (i := 14) rfl)
theorem m_106 : .methodLink R_Pic 66 Lib.Math.min.name ∈ TS := TS_8_in _ (List.mem_of_getElem? (i := 6) rfl)
theorem m_107 : .static Lib.Math.min.name ∈ TS := TS_7_in _ (List.mem_of_getElem? (i := 59) rfl)
theorem m_108 : .code Lib.Math.min.name Lib.Math.min.code 2 (some .int) ∈ TS := TS_8_in _ (List.mem_of_getElem? (i := 0) rfl)
theorem m_109 : .methodLink R_Fol 7 Lib.Math.abs.name ∈ TS := TS_9_in _ (List.mem_of_getElem? (i := 37) rfl)
theorem m_110 : .static Lib.Math.abs.name ∈ TS := TS_7_in _ (List.mem_of_getElem? (i := 53) rfl)
theorem m_111 : .code Lib.Math.abs.name Lib.Math.abs.code 1 (some .int) ∈ TS := TS_7_in _ (List.mem_of_getElem? (i := 54) rfl)
theorem m_112 : .fieldLink R_Ctx 47 "GradientCoder$Contexts" "J" "[I" ∈ TS := TS_6_in _ (List.mem_of_getElem? (i := 22) rfl)
theorem m_113 : .fieldLink R_Ctx 37 "GradientCoder$Contexts" "runIndex" "I" ∈ TS := TS_3_in _ (List.mem_of_getElem? (i := 4) rfl)
theorem m_114 : .fieldLink R_Ctx 19 "GradientCoder$Contexts" "n" "[I" ∈ TS := TS_3_in _ (List.mem_of_getElem? (i := 0) rfl)
theorem m_115 : .fieldLink R_Ctx 9 "GradientCoder$Contexts" "a" "[I" ∈ TS := TS_2_in _ (List.mem_of_getElem? (i := 53) rfl)
theorem m_116 : .code y_Ctx_leastK b_Ctx_leastK 4 (some .int) ∈ TS := TS_8_in _ (List.mem_of_getElem? (i := 13) rfl)
theorem m_117 : .methodLink R_Ctx 50 y_Ctx_leastK ∈ TS := TS_8_in _ (List.mem_of_getElem? (i := 11) rfl)
theorem m_118 : .instanceMethod y_Ctx_leastK ∈ TS := TS_8_in _ (List.mem_of_getElem? (i := 12) rfl)
theorem m_119 : .selects R_Ctx y_Ctx_leastK y_Ctx_leastK ∈ TS := TS_0_in _ (List.mem_of_getElem? (i := 20) rfl)
theorem m_120 : .initialized R_Ctx ∈ TS := TS_1_in _ (List.mem_of_getElem? (i := 5) rfl)
theorem m_121 : .fieldLink R_Ctx 13 "GradientCoder$Contexts" "b" "[I" ∈ TS := TS_2_in _ (List.mem_of_getElem? (i := 55) rfl)
theorem m_122 : .fieldLink R_Ctx 22 "GradientCoder$Contexts" "m" "[I" ∈ TS := TS_3_in _ (List.mem_of_getElem? (i := 2) rfl)
theorem m_123 : .methodLink R_Ctx 25 Lib.Math.max.name ∈ TS := TS_3_in _ (List.mem_of_getElem? (i := 35) rfl)
theorem m_124 : .fieldLink R_Ctx 16 "GradientCoder$Contexts" "c" "[I" ∈ TS := TS_2_in _ (List.mem_of_getElem? (i := 57) rfl)
theorem m_125 : .methodLink R_Ctx 64 Lib.Math.min.name ∈ TS := TS_9_in _ (List.mem_of_getElem? (i := 17) rfl)
theorem m_126 : .code y_Ctx_correctUp b_Ctx_correctUp 2 none ∈ TS := TS_9_in _ (List.mem_of_getElem? (i := 16) rfl)
theorem m_127 : .methodLink R_Ctx 61 y_Ctx_correctUp ∈ TS := TS_9_in _ (List.mem_of_getElem? (i := 14) rfl)
theorem m_128 : .instanceMethod y_Ctx_correctUp ∈ TS := TS_9_in _ (List.mem_of_getElem? (i := 15) rfl)
theorem m_129 : .selects R_Ctx y_Ctx_correctUp y_Ctx_correctUp ∈ TS := TS_0_in _ (List.mem_of_getElem? (i := 24) rfl)
theorem m_130 : .code y_Ctx_correctDown b_Ctx_correctDown 2 none ∈ TS := TS_9_in _ (List.mem_of_getElem? (i := 13) rfl)
theorem m_131 : .methodLink R_Ctx 57 y_Ctx_correctDown ∈ TS := TS_9_in _ (List.mem_of_getElem? (i := 11) rfl)
theorem m_132 : .instanceMethod y_Ctx_correctDown ∈ TS := TS_9_in _ (List.mem_of_getElem? (i := 12) rfl)
theorem m_133 : .selects R_Ctx y_Ctx_correctDown y_Ctx_correctDown ∈ TS := TS_0_in _ (List.mem_of_getElem? (i := 23) rfl)
theorem m_134 : .methodLink R_Ctx 53 Lib.Math.abs.name ∈ TS := TS_9_in _ (List.mem_of_getElem? (i := 10) rfl)
theorem m_135 : .code y_Arrs_fill_102 b_Arrs_fill_102 4 none ∈ TS := TS_3_in _ (List.mem_of_getElem? (i := 38) rfl)
theorem m_136 : .methodLink R_Ctx 31 y_Arrs_fill_102 ∈ TS := TS_3_in _ (List.mem_of_getElem? (i := 36) rfl)
theorem m_137 : .static y_Arrs_fill_102 ∈ TS := TS_3_in _ (List.mem_of_getElem? (i := 37) rfl)
theorem m_138 : .initialized R_Arrs ∈ TS := TS_1_in _ (List.mem_of_getElem? (i := 7) rfl)
theorem m_139 : .methodLink R_Ctx 41 arraycopyName ∈ TS := TS_11_in _ (List.mem_of_getElem? (i := 27) rfl)
theorem m_140 : .native arraycopyName ∈ TS := TS_11_in _ (List.mem_of_getElem? (i := 9) rfl)
theorem m_141 : .static arraycopyName ∈ TS := TS_11_in _ (List.mem_of_getElem? (i := 8) rfl)
theorem m_142 : .initialized "java/lang/System" ∈ TS := TS_1_in _ (List.mem_of_getElem? (i := 16) rfl)
theorem m_143 : .fieldLink R_Wri 13 "GradientCoder$Writer" "size" "I" ∈ TS := TS_3_in _ (List.mem_of_getElem? (i := 22) rfl)
theorem m_144 : .fieldLink R_Wri 17 "GradientCoder$Writer" "bitsFree" "I" ∈ TS := TS_3_in _ (List.mem_of_getElem? (i := 26) rfl)
theorem m_145 : .fieldLink R_Wri 9 "GradientCoder$Writer" "bytes" "[I" ∈ TS := TS_3_in _ (List.mem_of_getElem? (i := 19) rfl)
theorem m_146 : .code y_Wri_writeByte b_Wri_writeByte 2 none ∈ TS := TS_5_in _ (List.mem_of_getElem? (i := 51) rfl)
theorem m_147 : .methodLink R_Wri 24 y_Wri_writeByte ∈ TS := TS_6_in _ (List.mem_of_getElem? (i := 30) rfl)
theorem m_148 : .instanceMethod y_Wri_writeByte ∈ TS := TS_5_in _ (List.mem_of_getElem? (i := 49) rfl)
theorem m_149 : .selects R_Wri y_Wri_writeByte y_Wri_writeByte ∈ TS := TS_5_in _ (List.mem_of_getElem? (i := 50) rfl)
theorem m_150 : .initialized R_Wri ∈ TS := TS_1_in _ (List.mem_of_getElem? (i := 6) rfl)
theorem m_151 : .code y_Wri_endsWith255 b_Wri_endsWith255 1 (some .boolean) ∈ TS := TS_6_in _ (List.mem_of_getElem? (i := 29) rfl)
theorem m_152 : .methodLink R_Wri 20 y_Wri_endsWith255 ∈ TS := TS_6_in _ (List.mem_of_getElem? (i := 27) rfl)
theorem m_153 : .instanceMethod y_Wri_endsWith255 ∈ TS := TS_6_in _ (List.mem_of_getElem? (i := 28) rfl)
theorem m_154 : .selects R_Wri y_Wri_endsWith255 y_Wri_endsWith255 ∈ TS := TS_0_in _ (List.mem_of_getElem? (i := 17) rfl)
theorem m_155 : .code y_Wri_writeBits b_Wri_writeBits 4 none ∈ TS := TS_6_in _ (List.mem_of_getElem? (i := 26) rfl)
theorem m_156 : .methodLink R_Wri 28 y_Wri_writeBits ∈ TS := TS_8_in _ (List.mem_of_getElem? (i := 42) rfl)
theorem m_157 : .instanceMethod y_Wri_writeBits ∈ TS := TS_6_in _ (List.mem_of_getElem? (i := 24) rfl)
theorem m_158 : .selects R_Wri y_Wri_writeBits y_Wri_writeBits ∈ TS := TS_6_in _ (List.mem_of_getElem? (i := 25) rfl)
theorem m_159 : .fieldLink R_Pas 23 "GradientCoder$Pass" "rebuilt" "[I" ∈ TS := TS_3_in _ (List.mem_of_getElem? (i := 57) rfl)
theorem m_160 : .code y_Pic_place b_Pic_place 2 (some .int) ∈ TS := TS_5_in _ (List.mem_of_getElem? (i := 35) rfl)
theorem m_161 : .methodLink R_Pas 41 y_Pic_place ∈ TS := TS_5_in _ (List.mem_of_getElem? (i := 58) rfl)
theorem m_162 : .static y_Pic_place ∈ TS := TS_5_in _ (List.mem_of_getElem? (i := 34) rfl)
theorem m_163 : .fieldLink R_Pas 74 "GradientCoder$Pass" "d" "I" ∈ TS := TS_4_in _ (List.mem_of_getElem? (i := 9) rfl)
theorem m_164 : .fieldLink R_Pas 71 "GradientCoder$Pass" "c" "I" ∈ TS := TS_4_in _ (List.mem_of_getElem? (i := 8) rfl)
theorem m_165 : .fieldLink R_Pas 10 "GradientCoder$Pass" "picture" "LGradientCoder$Picture;" ∈ TS := TS_3_in _ (List.mem_of_getElem? (i := 43) rfl)
theorem m_166 : .fieldLink R_Pas 38 "GradientCoder$Picture" "width" "I" ∈ TS := TS_2_in _ (List.mem_of_getElem? (i := 0) rfl)
theorem m_167 : .fieldLink R_Pas 68 "GradientCoder$Pass" "b" "I" ∈ TS := TS_4_in _ (List.mem_of_getElem? (i := 7) rfl)
theorem m_168 : .code y_Pas_rebuiltOrNothing b_Pas_rebuiltOrNothing 3 (some .int) ∈ TS := TS_6_in _ (List.mem_of_getElem? (i := 4) rfl)
theorem m_169 : .methodLink R_Pas 65 y_Pas_rebuiltOrNothing ∈ TS := TS_6_in _ (List.mem_of_getElem? (i := 2) rfl)
theorem m_170 : .sameMethod R_Pas R_Pas "rebuiltOrNothing" "(II)I" ∈ TS := TS_15_in _ (List.mem_of_getElem? (i := 30) rfl)
theorem m_171 : .selects R_Cod y_Pas_rebuiltOrNothing y_Pas_rebuiltOrNothing ∈ TS := TS_0_in _ (List.mem_of_getElem? (i := 2) rfl)
theorem m_172 : .instanceMethod y_Pas_rebuiltOrNothing ∈ TS := TS_6_in _ (List.mem_of_getElem? (i := 3) rfl)
theorem m_173 : .initialized R_Pas ∈ TS := TS_1_in _ (List.mem_of_getElem? (i := 1) rfl)
theorem m_174 : .fieldLink R_Pas 59 "GradientCoder$Pass" "a" "I" ∈ TS := TS_4_in _ (List.mem_of_getElem? (i := 4) rfl)
theorem m_175 : .code y_Pic_isNear b_Pic_isNear 2 (some .boolean) ∈ TS := TS_6_in _ (List.mem_of_getElem? (i := 11) rfl)
theorem m_176 : .methodLink R_Pas 77 y_Pic_isNear ∈ TS := TS_6_in _ (List.mem_of_getElem? (i := 8) rfl)
theorem m_177 : .instanceMethod y_Pic_isNear ∈ TS := TS_6_in _ (List.mem_of_getElem? (i := 9) rfl)
theorem m_178 : .selects R_Pic y_Pic_isNear y_Pic_isNear ∈ TS := TS_6_in _ (List.mem_of_getElem? (i := 10) rfl)
theorem m_179 : .code y_Pic_level b_Pic_level 2 (some .int) ∈ TS := TS_7_in _ (List.mem_of_getElem? (i := 51) rfl)
theorem m_180 : .methodLink R_Pas 125 y_Pic_level ∈ TS := TS_7_in _ (List.mem_of_getElem? (i := 48) rfl)
theorem m_181 : .instanceMethod y_Pic_level ∈ TS := TS_7_in _ (List.mem_of_getElem? (i := 49) rfl)
theorem m_182 : .selects R_Pic y_Pic_level y_Pic_level ∈ TS := TS_7_in _ (List.mem_of_getElem? (i := 50) rfl)
theorem m_183 : .methodLink R_Pas 128 Lib.Math.min.name ∈ TS := TS_7_in _ (List.mem_of_getElem? (i := 58) rfl)
theorem m_184 : .methodLink R_Pas 131 Lib.Math.max.name ∈ TS := TS_8_in _ (List.mem_of_getElem? (i := 1) rfl)
theorem m_185 : .fieldLink R_Pas 155 "GradientCoder$Picture" "limit" "I" ∈ TS := TS_2_in _ (List.mem_of_getElem? (i := 29) rfl)
theorem m_186 : .fieldLink R_Pas 19 "GradientCoder$Pass" "contexts" "LGradientCoder$Contexts;" ∈ TS := TS_3_in _ (List.mem_of_getElem? (i := 50) rfl)
theorem m_187 : .code y_Ctx_j b_Ctx_j 1 (some .int) ∈ TS := TS_6_in _ (List.mem_of_getElem? (i := 21) rfl)
theorem m_188 : .methodLink R_Pas 158 y_Ctx_j ∈ TS := TS_9_in _ (List.mem_of_getElem? (i := 43) rfl)
theorem m_189 : .instanceMethod y_Ctx_j ∈ TS := TS_6_in _ (List.mem_of_getElem? (i := 19) rfl)
theorem m_190 : .selects R_Ctx y_Ctx_j y_Ctx_j ∈ TS := TS_6_in _ (List.mem_of_getElem? (i := 20) rfl)
theorem m_191 : .fieldLink R_Cod 26 "GradientCoder$Coding" "picture" "LGradientCoder$Picture;" ∈ TS := TS_3_in _ (List.mem_of_getElem? (i := 44) rfl)
theorem m_192 : .sameField "GradientCoder$Coding" "GradientCoder$Pass" "picture" "LGradientCoder$Picture;" ∈ TS := TS_3_in _ (List.mem_of_getElem? (i := 45) rfl)
theorem m_193 : .fieldLink R_Cod 140 "GradientCoder$Coding" "sign" "I" ∈ TS := TS_4_in _ (List.mem_of_getElem? (i := 13) rfl)
theorem m_194 : .sameField "GradientCoder$Coding" "GradientCoder$Pass" "sign" "I" ∈ TS := TS_4_in _ (List.mem_of_getElem? (i := 14) rfl)
theorem m_195 : .fieldLink R_Cod 9 "GradientCoder$Coding" "samples" "[I" ∈ TS := TS_3_in _ (List.mem_of_getElem? (i := 39) rfl)
theorem m_196 : .fieldLink R_Cod 143 "GradientCoder$Coding" "foretold" "I" ∈ TS := TS_4_in _ (List.mem_of_getElem? (i := 18) rfl)
theorem m_197 : .sameField "GradientCoder$Coding" "GradientCoder$Pass" "foretold" "I" ∈ TS := TS_4_in _ (List.mem_of_getElem? (i := 19) rfl)
theorem m_198 : .code y_Pic_divided b_Pic_divided 2 (some .int) ∈ TS := TS_8_in _ (List.mem_of_getElem? (i := 29) rfl)
theorem m_199 : .methodLink R_Cod 146 y_Pic_divided ∈ TS := TS_8_in _ (List.mem_of_getElem? (i := 26) rfl)
theorem m_200 : .instanceMethod y_Pic_divided ∈ TS := TS_8_in _ (List.mem_of_getElem? (i := 27) rfl)
theorem m_201 : .selects R_Pic y_Pic_divided y_Pic_divided ∈ TS := TS_8_in _ (List.mem_of_getElem? (i := 28) rfl)
theorem m_202 : .fieldLink R_Cod 50 "GradientCoder$Coding" "rebuilt" "[I" ∈ TS := TS_3_in _ (List.mem_of_getElem? (i := 58) rfl)
theorem m_203 : .sameField "GradientCoder$Coding" "GradientCoder$Pass" "rebuilt" "[I" ∈ TS := TS_3_in _ (List.mem_of_getElem? (i := 59) rfl)
theorem m_204 : .fieldLink R_Cod 149 "GradientCoder$Picture" "step" "I" ∈ TS := TS_2_in _ (List.mem_of_getElem? (i := 16) rfl)
theorem m_205 : .code y_Pic_bounded b_Pic_bounded 2 (some .int) ∈ TS := TS_8_in _ (List.mem_of_getElem? (i := 5) rfl)
theorem m_206 : .methodLink R_Cod 152 y_Pic_bounded ∈ TS := TS_8_in _ (List.mem_of_getElem? (i := 30) rfl)
theorem m_207 : .instanceMethod y_Pic_bounded ∈ TS := TS_8_in _ (List.mem_of_getElem? (i := 3) rfl)
theorem m_208 : .selects R_Pic y_Pic_bounded y_Pic_bounded ∈ TS := TS_8_in _ (List.mem_of_getElem? (i := 4) rfl)
theorem m_209 : .code y_Pic_reduced b_Pic_reduced 3 (some .int) ∈ TS := TS_8_in _ (List.mem_of_getElem? (i := 34) rfl)
theorem m_210 : .methodLink R_Cod 155 y_Pic_reduced ∈ TS := TS_8_in _ (List.mem_of_getElem? (i := 31) rfl)
theorem m_211 : .instanceMethod y_Pic_reduced ∈ TS := TS_8_in _ (List.mem_of_getElem? (i := 32) rfl)
theorem m_212 : .selects R_Pic y_Pic_reduced y_Pic_reduced ∈ TS := TS_8_in _ (List.mem_of_getElem? (i := 33) rfl)
theorem m_213 : .fieldLink R_Cod 22 "GradientCoder$Coding" "contexts" "LGradientCoder$Contexts;" ∈ TS := TS_3_in _ (List.mem_of_getElem? (i := 51) rfl)
theorem m_214 : .sameField "GradientCoder$Coding" "GradientCoder$Pass" "contexts" "LGradientCoder$Contexts;" ∈ TS := TS_3_in _ (List.mem_of_getElem? (i := 52) rfl)
theorem m_215 : .methodLink R_Cod 103 y_Ctx_j ∈ TS := TS_6_in _ (List.mem_of_getElem? (i := 18) rfl)
theorem m_216 : .fieldLink R_Cod 18 "GradientCoder$Coding" "writer" "LGradientCoder$Writer;" ∈ TS := TS_3_in _ (List.mem_of_getElem? (i := 41) rfl)
theorem m_217 : .methodLink R_Cod 107 y_Wri_writeBits ∈ TS := TS_6_in _ (List.mem_of_getElem? (i := 23) rfl)
theorem m_218 : .code y_Ctx_raiseRunIndex b_Ctx_raiseRunIndex 1 none ∈ TS := TS_6_in _ (List.mem_of_getElem? (i := 34) rfl)
theorem m_219 : .methodLink R_Cod 111 y_Ctx_raiseRunIndex ∈ TS := TS_6_in _ (List.mem_of_getElem? (i := 31) rfl)
theorem m_220 : .instanceMethod y_Ctx_raiseRunIndex ∈ TS := TS_6_in _ (List.mem_of_getElem? (i := 32) rfl)
theorem m_221 : .selects R_Ctx y_Ctx_raiseRunIndex y_Ctx_raiseRunIndex ∈ TS := TS_6_in _ (List.mem_of_getElem? (i := 33) rfl)
theorem m_222 : .fieldLink R_Cod 96 "GradientCoder$Coding" "a" "I" ∈ TS := TS_4_in _ (List.mem_of_getElem? (i := 5) rfl)
theorem m_223 : .sameField "GradientCoder$Coding" "GradientCoder$Pass" "a" "I" ∈ TS := TS_4_in _ (List.mem_of_getElem? (i := 6) rfl)
theorem m_224 : .methodLink R_Cod 99 y_Pic_isNear ∈ TS := TS_6_in _ (List.mem_of_getElem? (i := 17) rfl)
theorem m_225 : .code y_Cod_takeError b_Cod_takeError 3 (some .int) ∈ TS := TS_8_in _ (List.mem_of_getElem? (i := 25) rfl)
theorem m_226 : .methodLink R_Cod 114 y_Cod_takeError ∈ TS := TS_8_in _ (List.mem_of_getElem? (i := 23) rfl)
theorem m_227 : .instanceMethod y_Cod_takeError ∈ TS := TS_8_in _ (List.mem_of_getElem? (i := 24) rfl)
theorem m_228 : .selects R_Cod y_Cod_takeError y_Cod_takeError ∈ TS := TS_0_in _ (List.mem_of_getElem? (i := 21) rfl)
theorem m_229 : .initialized R_Cod ∈ TS := TS_1_in _ (List.mem_of_getElem? (i := 2) rfl)
theorem m_230 : .code y_Fol_foldRegular b_Fol_foldRegular 2 (some .int) ∈ TS := TS_8_in _ (List.mem_of_getElem? (i := 37) rfl)
theorem m_231 : .methodLink R_Cod 118 y_Fol_foldRegular ∈ TS := TS_8_in _ (List.mem_of_getElem? (i := 35) rfl)
theorem m_232 : .static y_Fol_foldRegular ∈ TS := TS_8_in _ (List.mem_of_getElem? (i := 36) rfl)
theorem m_233 : .initialized R_Fol ∈ TS := TS_1_in _ (List.mem_of_getElem? (i := 15) rfl)
theorem m_234 : .fieldLink R_Cod 124 "GradientCoder$Picture" "limit" "I" ∈ TS := TS_2_in _ (List.mem_of_getElem? (i := 27) rfl)
theorem m_235 : .fieldLink R_Cod 127 "GradientCoder$Picture" "qb" "I" ∈ TS := TS_2_in _ (List.mem_of_getElem? (i := 23) rfl)
theorem m_236 : .code y_Wri_writeNumber b_Wri_writeNumber 6 none ∈ TS := TS_8_in _ (List.mem_of_getElem? (i := 41) rfl)
theorem m_237 : .methodLink R_Cod 130 y_Wri_writeNumber ∈ TS := TS_8_in _ (List.mem_of_getElem? (i := 38) rfl)
theorem m_238 : .instanceMethod y_Wri_writeNumber ∈ TS := TS_8_in _ (List.mem_of_getElem? (i := 39) rfl)
theorem m_239 : .selects R_Wri y_Wri_writeNumber y_Wri_writeNumber ∈ TS := TS_8_in _ (List.mem_of_getElem? (i := 40) rfl)
theorem m_240 : .code y_Fol_foldEnd b_Fol_foldEnd 4 (some .int) ∈ TS := TS_9_in _ (List.mem_of_getElem? (i := 36) rfl)
theorem m_241 : .methodLink R_Cod 133 y_Fol_foldEnd ∈ TS := TS_9_in _ (List.mem_of_getElem? (i := 34) rfl)
theorem m_242 : .static y_Fol_foldEnd ∈ TS := TS_9_in _ (List.mem_of_getElem? (i := 35) rfl)
theorem m_243 : .code y_Pas_limitOfEnd b_Pas_limitOfEnd 1 (some .int) ∈ TS := TS_9_in _ (List.mem_of_getElem? (i := 42) rfl)
theorem m_244 : .methodLink R_Cod 137 y_Cod_limitOfEnd ∈ TS := TS_9_in _ (List.mem_of_getElem? (i := 38) rfl)
theorem m_245 : .sameMethod R_Cod R_Pas "limitOfEnd" "()I" ∈ TS := TS_9_in _ (List.mem_of_getElem? (i := 39) rfl)
theorem m_246 : .selects R_Cod y_Cod_limitOfEnd y_Pas_limitOfEnd ∈ TS := TS_9_in _ (List.mem_of_getElem? (i := 40) rfl)
theorem m_247 : .instanceMethod y_Pas_limitOfEnd ∈ TS := TS_9_in _ (List.mem_of_getElem? (i := 41) rfl)
theorem m_248 : .code y_Cod_carryRegular b_Cod_carryRegular 5 (some .int) ∈ TS := TS_8_in _ (List.mem_of_getElem? (i := 22) rfl)
theorem m_249 : .methodLink R_Pas 114 y_Pas_carryRegular ∈ TS := TS_8_in _ (List.mem_of_getElem? (i := 18) rfl)
theorem m_250 : .sameMethod R_Pas R_Pas "carryRegular" "(IIZ)I" ∈ TS := TS_8_in _ (List.mem_of_getElem? (i := 19) rfl)
theorem m_251 : .selects R_Cod y_Pas_carryRegular y_Cod_carryRegular ∈ TS := TS_8_in _ (List.mem_of_getElem? (i := 20) rfl)
theorem m_252 : .instanceMethod y_Cod_carryRegular ∈ TS := TS_8_in _ (List.mem_of_getElem? (i := 21) rfl)
theorem m_253 : .fieldLink R_Pas 118 "GradientCoder$Picture" "step" "I" ∈ TS := TS_2_in _ (List.mem_of_getElem? (i := 15) rfl)
theorem m_254 : .code y_Ctx_learnRegular b_Ctx_learnRegular 4 none ∈ TS := TS_9_in _ (List.mem_of_getElem? (i := 9) rfl)
theorem m_255 : .methodLink R_Pas 121 y_Ctx_learnRegular ∈ TS := TS_9_in _ (List.mem_of_getElem? (i := 6) rfl)
theorem m_256 : .instanceMethod y_Ctx_learnRegular ∈ TS := TS_9_in _ (List.mem_of_getElem? (i := 7) rfl)
theorem m_257 : .selects R_Ctx y_Ctx_learnRegular y_Ctx_learnRegular ∈ TS := TS_9_in _ (List.mem_of_getElem? (i := 8) rfl)
theorem m_258 : .fieldLink R_Pas 85 "GradientCoder$Pass" "sign" "I" ∈ TS := TS_4_in _ (List.mem_of_getElem? (i := 12) rfl)
theorem m_259 : .methodLink R_Pas 88 Lib.Math.abs.name ∈ TS := TS_7_in _ (List.mem_of_getElem? (i := 52) rfl)
theorem m_260 : .code y_Pas_foretoldByNeighbours b_Pas_foretoldByNeighbours 3 (some .int) ∈ TS := TS_7_in _ (List.mem_of_getElem? (i := 57) rfl)
theorem m_261 : .methodLink R_Pas 94 y_Pas_foretoldByNeighbours ∈ TS := TS_7_in _ (List.mem_of_getElem? (i := 55) rfl)
theorem m_262 : .sameMethod R_Pas R_Pas "foretoldByNeighbours" "()I" ∈ TS := TS_15_in _ (List.mem_of_getElem? (i := 35) rfl)
theorem m_263 : .selects R_Cod y_Pas_foretoldByNeighbours y_Pas_foretoldByNeighbours ∈ TS := TS_0_in _ (List.mem_of_getElem? (i := 10) rfl)
theorem m_264 : .instanceMethod y_Pas_foretoldByNeighbours ∈ TS := TS_7_in _ (List.mem_of_getElem? (i := 56) rfl)
theorem m_265 : .fieldLink R_Pas 97 "GradientCoder$Contexts" "c" "[I" ∈ TS := TS_2_in _ (List.mem_of_getElem? (i := 58) rfl)
theorem m_266 : .methodLink R_Pas 99 y_Pic_bounded ∈ TS := TS_8_in _ (List.mem_of_getElem? (i := 2) rfl)
theorem m_267 : .fieldLink R_Pas 102 "GradientCoder$Pass" "foretold" "I" ∈ TS := TS_4_in _ (List.mem_of_getElem? (i := 17) rfl)
theorem m_268 : .code y_Ctx_kOfRegular b_Ctx_kOfRegular 2 (some .int) ∈ TS := TS_8_in _ (List.mem_of_getElem? (i := 10) rfl)
theorem m_269 : .methodLink R_Pas 105 y_Ctx_kOfRegular ∈ TS := TS_8_in _ (List.mem_of_getElem? (i := 7) rfl)
theorem m_270 : .instanceMethod y_Ctx_kOfRegular ∈ TS := TS_8_in _ (List.mem_of_getElem? (i := 8) rfl)
theorem m_271 : .selects R_Ctx y_Ctx_kOfRegular y_Ctx_kOfRegular ∈ TS := TS_8_in _ (List.mem_of_getElem? (i := 9) rfl)
theorem m_272 : .fieldLink R_Pas 108 "GradientCoder$Picture" "near" "I" ∈ TS := TS_2_in _ (List.mem_of_getElem? (i := 11) rfl)
theorem m_273 : .code y_Ctx_leansDown b_Ctx_leansDown 2 (some .boolean) ∈ TS := TS_8_in _ (List.mem_of_getElem? (i := 17) rfl)
theorem m_274 : .methodLink R_Pas 111 y_Ctx_leansDown ∈ TS := TS_8_in _ (List.mem_of_getElem? (i := 14) rfl)
theorem m_275 : .instanceMethod y_Ctx_leansDown ∈ TS := TS_8_in _ (List.mem_of_getElem? (i := 15) rfl)
theorem m_276 : .selects R_Ctx y_Ctx_leansDown y_Ctx_leansDown ∈ TS := TS_8_in _ (List.mem_of_getElem? (i := 16) rfl)
theorem m_277 : .code y_Pas_signedContext b_Pas_signedContext 1 (some .int) ∈ TS := TS_7_in _ (List.mem_of_getElem? (i := 47) rfl)
theorem m_278 : .methodLink R_Pas 81 y_Pas_signedContext ∈ TS := TS_7_in _ (List.mem_of_getElem? (i := 45) rfl)
theorem m_279 : .sameMethod R_Pas R_Pas "signedContext" "()I" ∈ TS := TS_15_in _ (List.mem_of_getElem? (i := 34) rfl)
theorem m_280 : .selects R_Cod y_Pas_signedContext y_Pas_signedContext ∈ TS := TS_0_in _ (List.mem_of_getElem? (i := 8) rfl)
theorem m_281 : .instanceMethod y_Pas_signedContext ∈ TS := TS_7_in _ (List.mem_of_getElem? (i := 46) rfl)
theorem m_282 : .code y_Cod_carryEnd b_Cod_carryEnd 6 (some .int) ∈ TS := TS_9_in _ (List.mem_of_getElem? (i := 33) rfl)
theorem m_283 : .methodLink R_Pas 140 y_Pas_carryEnd ∈ TS := TS_9_in _ (List.mem_of_getElem? (i := 29) rfl)
theorem m_284 : .sameMethod R_Pas R_Pas "carryEnd" "(IIIZ)I" ∈ TS := TS_9_in _ (List.mem_of_getElem? (i := 30) rfl)
theorem m_285 : .selects R_Cod y_Pas_carryEnd y_Cod_carryEnd ∈ TS := TS_9_in _ (List.mem_of_getElem? (i := 31) rfl)
theorem m_286 : .instanceMethod y_Cod_carryEnd ∈ TS := TS_9_in _ (List.mem_of_getElem? (i := 32) rfl)
theorem m_287 : .methodLink R_Pas 144 y_Fol_foldEnd ∈ TS := TS_9_in _ (List.mem_of_getElem? (i := 53) rfl)
theorem m_288 : .code y_Ctx_learnEnd b_Ctx_learnEnd 4 none ∈ TS := TS_9_in _ (List.mem_of_getElem? (i := 57) rfl)
theorem m_289 : .methodLink R_Pas 149 y_Ctx_learnEnd ∈ TS := TS_9_in _ (List.mem_of_getElem? (i := 54) rfl)
theorem m_290 : .instanceMethod y_Ctx_learnEnd ∈ TS := TS_9_in _ (List.mem_of_getElem? (i := 55) rfl)
theorem m_291 : .selects R_Ctx y_Ctx_learnEnd y_Ctx_learnEnd ∈ TS := TS_9_in _ (List.mem_of_getElem? (i := 56) rfl)
theorem m_292 : .code y_Ctx_lowerRunIndex b_Ctx_lowerRunIndex 1 none ∈ TS := TS_10_in _ (List.mem_of_getElem? (i := 1) rfl)
theorem m_293 : .methodLink R_Pas 152 y_Ctx_lowerRunIndex ∈ TS := TS_9_in _ (List.mem_of_getElem? (i := 58) rfl)
theorem m_294 : .instanceMethod y_Ctx_lowerRunIndex ∈ TS := TS_9_in _ (List.mem_of_getElem? (i := 59) rfl)
theorem m_295 : .selects R_Ctx y_Ctx_lowerRunIndex y_Ctx_lowerRunIndex ∈ TS := TS_10_in _ (List.mem_of_getElem? (i := 0) rfl)
theorem m_296 : .code y_Ctx_kOfEnd b_Ctx_kOfEnd 2 (some .int) ∈ TS := TS_9_in _ (List.mem_of_getElem? (i := 24) rfl)
theorem m_297 : .methodLink R_Pas 134 y_Ctx_kOfEnd ∈ TS := TS_9_in _ (List.mem_of_getElem? (i := 21) rfl)
theorem m_298 : .instanceMethod y_Ctx_kOfEnd ∈ TS := TS_9_in _ (List.mem_of_getElem? (i := 22) rfl)
theorem m_299 : .selects R_Ctx y_Ctx_kOfEnd y_Ctx_kOfEnd ∈ TS := TS_9_in _ (List.mem_of_getElem? (i := 23) rfl)
theorem m_300 : .code y_Ctx_isMostlyBelow b_Ctx_isMostlyBelow 2 (some .boolean) ∈ TS := TS_9_in _ (List.mem_of_getElem? (i := 28) rfl)
theorem m_301 : .methodLink R_Pas 137 y_Ctx_isMostlyBelow ∈ TS := TS_9_in _ (List.mem_of_getElem? (i := 25) rfl)
theorem m_302 : .instanceMethod y_Ctx_isMostlyBelow ∈ TS := TS_9_in _ (List.mem_of_getElem? (i := 26) rfl)
theorem m_303 : .selects R_Ctx y_Ctx_isMostlyBelow y_Ctx_isMostlyBelow ∈ TS := TS_9_in _ (List.mem_of_getElem? (i := 27) rfl)
theorem m_304 : .code y_Pas_overEnd b_Pas_overEnd 7 none ∈ TS := TS_9_in _ (List.mem_of_getElem? (i := 20) rfl)
theorem m_305 : .methodLink R_Pas 62 y_Pas_overEnd ∈ TS := TS_9_in _ (List.mem_of_getElem? (i := 18) rfl)
theorem m_306 : .sameMethod R_Pas R_Pas "overEnd" "(I)V" ∈ TS := TS_15_in _ (List.mem_of_getElem? (i := 36) rfl)
theorem m_307 : .selects R_Cod y_Pas_overEnd y_Pas_overEnd ∈ TS := TS_0_in _ (List.mem_of_getElem? (i := 12) rfl)
theorem m_308 : .instanceMethod y_Pas_overEnd ∈ TS := TS_9_in _ (List.mem_of_getElem? (i := 19) rfl)
theorem m_309 : .code y_Pas_overRegular b_Pas_overRegular 7 none ∈ TS := TS_7_in _ (List.mem_of_getElem? (i := 44) rfl)
theorem m_310 : .methodLink R_Pas 56 y_Pas_overRegular ∈ TS := TS_7_in _ (List.mem_of_getElem? (i := 42) rfl)
theorem m_311 : .sameMethod R_Pas R_Pas "overRegular" "(I)V" ∈ TS := TS_15_in _ (List.mem_of_getElem? (i := 33) rfl)
theorem m_312 : .selects R_Cod y_Pas_overRegular y_Pas_overRegular ∈ TS := TS_0_in _ (List.mem_of_getElem? (i := 6) rfl)
theorem m_313 : .instanceMethod y_Pas_overRegular ∈ TS := TS_7_in _ (List.mem_of_getElem? (i := 43) rfl)
theorem m_314 : .code y_Pas_lookAround b_Pas_lookAround 3 none ∈ TS := TS_6_in _ (List.mem_of_getElem? (i := 1) rfl)
theorem m_315 : .methodLink R_Pas 45 y_Pas_lookAround ∈ TS := TS_5_in _ (List.mem_of_getElem? (i := 59) rfl)
theorem m_316 : .sameMethod R_Pas R_Pas "lookAround" "(II)V" ∈ TS := TS_15_in _ (List.mem_of_getElem? (i := 29) rfl)
theorem m_317 : .selects R_Cod y_Pas_lookAround y_Pas_lookAround ∈ TS := TS_0_in _ (List.mem_of_getElem? (i := 0) rfl)
theorem m_318 : .instanceMethod y_Pas_lookAround ∈ TS := TS_6_in _ (List.mem_of_getElem? (i := 0) rfl)
theorem m_319 : .code y_Pas_isEven b_Pas_isEven 1 (some .boolean) ∈ TS := TS_6_in _ (List.mem_of_getElem? (i := 7) rfl)
theorem m_320 : .methodLink R_Pas 49 y_Pas_isEven ∈ TS := TS_6_in _ (List.mem_of_getElem? (i := 5) rfl)
theorem m_321 : .sameMethod R_Pas R_Pas "isEven" "()Z" ∈ TS := TS_15_in _ (List.mem_of_getElem? (i := 31) rfl)
theorem m_322 : .selects R_Cod y_Pas_isEven y_Pas_isEven ∈ TS := TS_0_in _ (List.mem_of_getElem? (i := 4) rfl)
theorem m_323 : .instanceMethod y_Pas_isEven ∈ TS := TS_6_in _ (List.mem_of_getElem? (i := 6) rfl)
theorem m_324 : .code y_Cod_carryRun b_Cod_carryRun 5 (some .int) ∈ TS := TS_6_in _ (List.mem_of_getElem? (i := 16) rfl)
theorem m_325 : .methodLink R_Pas 53 y_Pas_carryRun ∈ TS := TS_6_in _ (List.mem_of_getElem? (i := 12) rfl)
theorem m_326 : .sameMethod R_Pas R_Pas "carryRun" "(II)I" ∈ TS := TS_6_in _ (List.mem_of_getElem? (i := 13) rfl)
theorem m_327 : .selects R_Cod y_Pas_carryRun y_Cod_carryRun ∈ TS := TS_6_in _ (List.mem_of_getElem? (i := 14) rfl)
theorem m_328 : .instanceMethod y_Cod_carryRun ∈ TS := TS_6_in _ (List.mem_of_getElem? (i := 15) rfl)
theorem m_329 : .fieldLink R_Pas 35 "GradientCoder$Picture" "height" "I" ∈ TS := TS_2_in _ (List.mem_of_getElem? (i := 5) rfl)
theorem m_330 : .fieldLink R_Pas 27 "GradientCoder$Picture" "range" "I" ∈ TS := TS_2_in _ (List.mem_of_getElem? (i := 19) rfl)
theorem m_331 : .code y_Ctx_restart b_Ctx_restart 2 none ∈ TS := TS_3_in _ (List.mem_of_getElem? (i := 34) rfl)
theorem m_332 : .methodLink R_Pas 31 y_Ctx_restart ∈ TS := TS_5_in _ (List.mem_of_getElem? (i := 57) rfl)
theorem m_333 : .instanceMethod y_Ctx_restart ∈ TS := TS_3_in _ (List.mem_of_getElem? (i := 32) rfl)
theorem m_334 : .selects R_Ctx y_Ctx_restart y_Ctx_restart ∈ TS := TS_3_in _ (List.mem_of_getElem? (i := 33) rfl)
theorem m_335 : .fieldLink R_Cod 56 "GradientCoder$Picture" "width" "I" ∈ TS := TS_1_in _ (List.mem_of_getElem? (i := 58) rfl)
theorem m_336 : .methodLink R_Cod 66 y_Pic_place ∈ TS := TS_5_in _ (List.mem_of_getElem? (i := 33) rfl)
theorem m_337 : .code y_Cod_sampleIn b_Cod_sampleIn 3 (some .int) ∈ TS := TS_5_in _ (List.mem_of_getElem? (i := 32) rfl)
theorem m_338 : .methodLink R_Cod 59 y_Cod_sampleIn ∈ TS := TS_5_in _ (List.mem_of_getElem? (i := 30) rfl)
theorem m_339 : .static y_Cod_sampleIn ∈ TS := TS_5_in _ (List.mem_of_getElem? (i := 31) rfl)
theorem m_340 : .fieldLink R_Cod 63 "GradientCoder$Picture" "maxval" "I" ∈ TS := TS_2_in _ (List.mem_of_getElem? (i := 6) rfl)
theorem m_341 : .code y_Wri_restart b_Wri_restart 1 none ∈ TS := TS_5_in _ (List.mem_of_getElem? (i := 47) rfl)
theorem m_342 : .methodLink R_Cod 91 y_Wri_restart ∈ TS := TS_5_in _ (List.mem_of_getElem? (i := 44) rfl)
theorem m_343 : .instanceMethod y_Wri_restart ∈ TS := TS_5_in _ (List.mem_of_getElem? (i := 45) rfl)
theorem m_344 : .selects R_Wri y_Wri_restart y_Wri_restart ∈ TS := TS_5_in _ (List.mem_of_getElem? (i := 46) rfl)
theorem m_345 : .methodLink R_Cod 93 y_Wri_writeByte ∈ TS := TS_5_in _ (List.mem_of_getElem? (i := 48) rfl)
theorem m_346 : .fieldLink R_Cod 73 "GradientCoder$Picture" "height" "I" ∈ TS := TS_2_in _ (List.mem_of_getElem? (i := 4) rfl)
theorem m_347 : .fieldLink R_Cod 76 "GradientCoder$Picture" "near" "I" ∈ TS := TS_2_in _ (List.mem_of_getElem? (i := 10) rfl)
theorem m_348 : .code y_Pic_become b_Pic_become 6 none ∈ TS := TS_1_in _ (List.mem_of_getElem? (i := 42) rfl)
theorem m_349 : .methodLink R_Cod 40 y_Pic_become ∈ TS := TS_5_in _ (List.mem_of_getElem? (i := 20) rfl)
theorem m_350 : .instanceMethod y_Pic_become ∈ TS := TS_1_in _ (List.mem_of_getElem? (i := 40) rfl)
theorem m_351 : .selects R_Pic y_Pic_become y_Pic_become ∈ TS := TS_1_in _ (List.mem_of_getElem? (i := 41) rfl)
theorem m_352 : .fieldLink R_Cod 30 "GradientCoder$Picture" "range" "I" ∈ TS := TS_2_in _ (List.mem_of_getElem? (i := 17) rfl)
theorem m_353 : .methodLink R_Cod 34 y_Ctx_restart ∈ TS := TS_3_in _ (List.mem_of_getElem? (i := 31) rfl)
theorem m_354 : .methodLink R_Cod 44 y_Arrs_fill_102 ∈ TS := TS_5_in _ (List.mem_of_getElem? (i := 21) rfl)
theorem m_355 : .fieldLink R_Cod 53 "GradientCoder$Writer" "size" "I" ∈ TS := TS_3_in _ (List.mem_of_getElem? (i := 24) rfl)
theorem m_356 : .fieldLink R_Cod 70 "GradientCoder$Reading" "picture" "LGradientCoder$Picture;" ∈ TS := TS_3_in _ (List.mem_of_getElem? (i := 49) rfl)
theorem m_357 : .sameField "GradientCoder$Reading" "GradientCoder$Pass" "picture" "LGradientCoder$Picture;" ∈ TS := TS_3_in _ (List.mem_of_getElem? (i := 47) rfl)
theorem m_358 : .fieldLink R_Cod 79 "GradientCoder$Reading" "contexts" "LGradientCoder$Contexts;" ∈ TS := TS_3_in _ (List.mem_of_getElem? (i := 55) rfl)
theorem m_359 : .sameField "GradientCoder$Reading" "GradientCoder$Pass" "contexts" "LGradientCoder$Contexts;" ∈ TS := TS_3_in _ (List.mem_of_getElem? (i := 54) rfl)
theorem m_360 : .code y_Ctx_takeOver b_Ctx_takeOver 2 none ∈ TS := TS_11_in _ (List.mem_of_getElem? (i := 26) rfl)
theorem m_361 : .methodLink R_Cod 80 y_Ctx_takeOver ∈ TS := TS_11_in _ (List.mem_of_getElem? (i := 23) rfl)
theorem m_362 : .instanceMethod y_Ctx_takeOver ∈ TS := TS_11_in _ (List.mem_of_getElem? (i := 24) rfl)
theorem m_363 : .selects R_Ctx y_Ctx_takeOver y_Ctx_takeOver ∈ TS := TS_11_in _ (List.mem_of_getElem? (i := 25) rfl)
theorem m_364 : .fieldLink R_Cod 84 "GradientCoder$Reading" "rebuilt" "[I" ∈ TS := TS_4_in _ (List.mem_of_getElem? (i := 0) rfl)
theorem m_365 : .sameField "GradientCoder$Reading" "GradientCoder$Pass" "rebuilt" "[I" ∈ TS := TS_4_in _ (List.mem_of_getElem? (i := 1) rfl)
theorem m_366 : .methodLink R_Cod 85 arraycopyName ∈ TS := TS_11_in _ (List.mem_of_getElem? (i := 28) rfl)
theorem m_367 : .fieldLink R_Grc 10 "GradientCoder" "coding" "LGradientCoder$Coding;" ∈ TS := TS_5_in _ (List.mem_of_getElem? (i := 4) rfl)
theorem m_368 : .fieldLink R_Grc 51 "GradientCoder$Coding" "writer" "LGradientCoder$Writer;" ∈ TS := TS_3_in _ (List.mem_of_getElem? (i := 42) rfl)
theorem m_369 : .fieldLink R_Grc 60 "GradientCoder$Writer" "size" "I" ∈ TS := TS_3_in _ (List.mem_of_getElem? (i := 25) rfl)
theorem m_370 : .code y_Pic_fits b_Pic_fits 4 (some .boolean) ∈ TS := TS_5_in _ (List.mem_of_getElem? (i := 15) rfl)
theorem m_371 : .methodLink R_Grc 23 y_Pic_fits ∈ TS := TS_5_in _ (List.mem_of_getElem? (i := 13) rfl)
theorem m_372 : .static y_Pic_fits ∈ TS := TS_5_in _ (List.mem_of_getElem? (i := 14) rfl)
theorem m_373 : .code y_Cod_beginPicture b_Cod_beginPicture 5 none ∈ TS := TS_5_in _ (List.mem_of_getElem? (i := 19) rfl)
theorem m_374 : .methodLink R_Grc 29 y_Cod_beginPicture ∈ TS := TS_5_in _ (List.mem_of_getElem? (i := 16) rfl)
theorem m_375 : .instanceMethod y_Cod_beginPicture ∈ TS := TS_5_in _ (List.mem_of_getElem? (i := 17) rfl)
theorem m_376 : .selects R_Cod y_Cod_beginPicture y_Cod_beginPicture ∈ TS := TS_5_in _ (List.mem_of_getElem? (i := 18) rfl)
theorem m_377 : .fieldLink R_Grc 33 "GradientCoder$Coding" "picture" "LGradientCoder$Picture;" ∈ TS := TS_3_in _ (List.mem_of_getElem? (i := 48) rfl)
theorem m_378 : .fieldLink R_Grc 37 "GradientCoder$Picture" "height" "I" ∈ TS := TS_2_in _ (List.mem_of_getElem? (i := 2) rfl)
theorem m_379 : .code y_Cod_takeRow b_Cod_takeRow 5 (some .boolean) ∈ TS := TS_5_in _ (List.mem_of_getElem? (i := 29) rfl)
theorem m_380 : .methodLink R_Grc 41 y_Cod_takeRow ∈ TS := TS_5_in _ (List.mem_of_getElem? (i := 26) rfl)
theorem m_381 : .instanceMethod y_Cod_takeRow ∈ TS := TS_5_in _ (List.mem_of_getElem? (i := 27) rfl)
theorem m_382 : .selects R_Cod y_Cod_takeRow y_Cod_takeRow ∈ TS := TS_5_in _ (List.mem_of_getElem? (i := 28) rfl)
theorem m_383 : .code y_Cod_writeHead b_Cod_writeHead 1 none ∈ TS := TS_5_in _ (List.mem_of_getElem? (i := 43) rfl)
theorem m_384 : .methodLink R_Grc 45 y_Cod_writeHead ∈ TS := TS_5_in _ (List.mem_of_getElem? (i := 40) rfl)
theorem m_385 : .instanceMethod y_Cod_writeHead ∈ TS := TS_5_in _ (List.mem_of_getElem? (i := 41) rfl)
theorem m_386 : .selects R_Cod y_Cod_writeHead y_Cod_writeHead ∈ TS := TS_5_in _ (List.mem_of_getElem? (i := 42) rfl)
theorem m_387 : .code y_Pas_overAll b_Pas_overAll 6 none ∈ TS := TS_5_in _ (List.mem_of_getElem? (i := 56) rfl)
theorem m_388 : .methodLink R_Grc 48 y_Cod_overAll ∈ TS := TS_5_in _ (List.mem_of_getElem? (i := 52) rfl)
theorem m_389 : .sameMethod R_Cod R_Pas "overAll" "()V" ∈ TS := TS_5_in _ (List.mem_of_getElem? (i := 53) rfl)
theorem m_390 : .selects R_Cod y_Cod_overAll y_Pas_overAll ∈ TS := TS_5_in _ (List.mem_of_getElem? (i := 54) rfl)
theorem m_391 : .instanceMethod y_Pas_overAll ∈ TS := TS_5_in _ (List.mem_of_getElem? (i := 55) rfl)
theorem m_392 : .code y_Wri_writeEnd b_Wri_writeEnd 1 none ∈ TS := TS_10_in _ (List.mem_of_getElem? (i := 5) rfl)
theorem m_393 : .methodLink R_Grc 55 y_Wri_writeEnd ∈ TS := TS_10_in _ (List.mem_of_getElem? (i := 2) rfl)
theorem m_394 : .instanceMethod y_Wri_writeEnd ∈ TS := TS_10_in _ (List.mem_of_getElem? (i := 3) rfl)
theorem m_395 : .selects R_Wri y_Wri_writeEnd y_Wri_writeEnd ∈ TS := TS_10_in _ (List.mem_of_getElem? (i := 4) rfl)
theorem m_396 : .code y_Grc_hasByte b_Grc_hasByte 2 (some .boolean) ∈ TS := TS_10_in _ (List.mem_of_getElem? (i := 16) rfl)
theorem m_397 : .methodLink R_Grc 63 y_Grc_hasByte ∈ TS := TS_10_in _ (List.mem_of_getElem? (i := 14) rfl)
theorem m_398 : .instanceMethod y_Grc_hasByte ∈ TS := TS_10_in _ (List.mem_of_getElem? (i := 15) rfl)
theorem m_399 : .selects R_Grc y_Grc_hasByte y_Grc_hasByte ∈ TS := TS_0_in _ (List.mem_of_getElem? (i := 25) rfl)
theorem m_400 : .initialized R_Grc ∈ TS := TS_1_in _ (List.mem_of_getElem? (i := 0) rfl)
theorem m_401 : .fieldLink R_Grc 67 "GradientCoder$Writer" "bytes" "[I" ∈ TS := TS_3_in _ (List.mem_of_getElem? (i := 21) rfl)
theorem m_402 : .fieldLink R_Grc 89 "GradientCoder$Picture" "width" "I" ∈ TS := TS_2_in _ (List.mem_of_getElem? (i := 1) rfl)
theorem m_403 : .fieldLink R_Grc 92 "GradientCoder$Picture" "maxval" "I" ∈ TS := TS_2_in _ (List.mem_of_getElem? (i := 8) rfl)
theorem m_404 : .fieldLink R_Grc 95 "GradientCoder$Picture" "near" "I" ∈ TS := TS_2_in _ (List.mem_of_getElem? (i := 12) rfl)
theorem m_405 : .fieldLink R_Grc 98 "GradientCoder$Picture" "range" "I" ∈ TS := TS_2_in _ (List.mem_of_getElem? (i := 20) rfl)
theorem m_406 : .fieldLink R_Grc 101 "GradientCoder$Picture" "qb" "I" ∈ TS := TS_2_in _ (List.mem_of_getElem? (i := 24) rfl)
theorem m_407 : .fieldLink R_Grc 104 "GradientCoder$Picture" "limit" "I" ∈ TS := TS_2_in _ (List.mem_of_getElem? (i := 28) rfl)
theorem m_408 : .fieldLink R_Grc 107 "GradientCoder$Picture" "t1" "I" ∈ TS := TS_2_in _ (List.mem_of_getElem? (i := 31) rfl)
theorem m_409 : .fieldLink R_Grc 110 "GradientCoder$Picture" "t2" "I" ∈ TS := TS_2_in _ (List.mem_of_getElem? (i := 33) rfl)
theorem m_410 : .fieldLink R_Grc 113 "GradientCoder$Picture" "t3" "I" ∈ TS := TS_2_in _ (List.mem_of_getElem? (i := 35) rfl)
theorem m_411 : .code y_Pic_hasPlace b_Pic_hasPlace 3 (some .boolean) ∈ TS := TS_10_in _ (List.mem_of_getElem? (i := 36) rfl)
theorem m_412 : .methodLink R_Grc 116 y_Pic_hasPlace ∈ TS := TS_10_in _ (List.mem_of_getElem? (i := 33) rfl)
theorem m_413 : .instanceMethod y_Pic_hasPlace ∈ TS := TS_10_in _ (List.mem_of_getElem? (i := 34) rfl)
theorem m_414 : .selects R_Pic y_Pic_hasPlace y_Pic_hasPlace ∈ TS := TS_10_in _ (List.mem_of_getElem? (i := 35) rfl)
theorem m_415 : .fieldLink R_Grc 120 "GradientCoder$Coding" "samples" "[I" ∈ TS := TS_3_in _ (List.mem_of_getElem? (i := 40) rfl)
theorem m_416 : .methodLink R_Grc 123 y_Pic_place ∈ TS := TS_10_in _ (List.mem_of_getElem? (i := 37) rfl)
theorem m_417 : .fieldLink R_Grc 127 "GradientCoder$Coding" "rebuilt" "[I" ∈ TS := TS_4_in _ (List.mem_of_getElem? (i := 3) rfl)
theorem m_418 : .constant R_Grc 132 (-1000000) ∈ TS := TS_10_in _ (List.mem_of_getElem? (i := 46) rfl)
theorem m_419 : .fieldLink R_Grc 133 "GradientCoder$Coding" "contexts" "LGradientCoder$Contexts;" ∈ TS := TS_3_in _ (List.mem_of_getElem? (i := 56) rfl)
theorem m_420 : .fieldLink R_Grc 137 "GradientCoder$Contexts" "a" "[I" ∈ TS := TS_2_in _ (List.mem_of_getElem? (i := 54) rfl)
theorem m_421 : .fieldLink R_Grc 140 "GradientCoder$Contexts" "b" "[I" ∈ TS := TS_2_in _ (List.mem_of_getElem? (i := 56) rfl)
theorem m_422 : .fieldLink R_Grc 143 "GradientCoder$Contexts" "c" "[I" ∈ TS := TS_2_in _ (List.mem_of_getElem? (i := 59) rfl)
theorem m_423 : .fieldLink R_Grc 146 "GradientCoder$Contexts" "n" "[I" ∈ TS := TS_3_in _ (List.mem_of_getElem? (i := 1) rfl)
theorem m_424 : .fieldLink R_Grc 149 "GradientCoder$Contexts" "m" "[I" ∈ TS := TS_3_in _ (List.mem_of_getElem? (i := 3) rfl)
theorem m_425 : .fieldLink R_Grc 152 "GradientCoder$Contexts" "runIndex" "I" ∈ TS := TS_3_in _ (List.mem_of_getElem? (i := 5) rfl)
theorem m_426 : .fieldLink R_Mod 47 "GradientCoderModel" "thrown" "I" ∈ TS := TS_11_in _ (List.mem_of_getElem? (i := 50) rfl)
theorem m_427 : .fieldLink R_Mod 16 "GradientCoderModel" "maxval" "I" ∈ TS := TS_11_in _ (List.mem_of_getElem? (i := 53) rfl)
theorem m_428 : .fieldLink R_Mod 50 "GradientCoderModel" "near" "I" ∈ TS := TS_11_in _ (List.mem_of_getElem? (i := 54) rfl)
theorem m_429 : .fieldLink R_Mod 53 "GradientCoderModel" "step" "I" ∈ TS := TS_11_in _ (List.mem_of_getElem? (i := 55) rfl)
theorem m_430 : .fieldLink R_Mod 56 "GradientCoderModel" "range" "I" ∈ TS := TS_11_in _ (List.mem_of_getElem? (i := 56) rfl)
theorem m_431 : .code y_Mod_powerFor b_Mod_powerFor 3 (some .int) ∈ TS := TS_11_in _ (List.mem_of_getElem? (i := 40) rfl)
theorem m_432 : .methodLink R_Mod 59 y_Mod_powerFor ∈ TS := TS_11_in _ (List.mem_of_getElem? (i := 38) rfl)
theorem m_433 : .static y_Mod_powerFor ∈ TS := TS_11_in _ (List.mem_of_getElem? (i := 39) rfl)
theorem m_434 : .initialized R_Mod ∈ TS := TS_1_in _ (List.mem_of_getElem? (i := 10) rfl)
theorem m_435 : .fieldLink R_Mod 63 "GradientCoderModel" "qb" "I" ∈ TS := TS_11_in _ (List.mem_of_getElem? (i := 57) rfl)
theorem m_436 : .code y_Mod_greater b_Mod_greater 2 (some .int) ∈ TS := TS_11_in _ (List.mem_of_getElem? (i := 43) rfl)
theorem m_437 : .methodLink R_Mod 66 y_Mod_greater ∈ TS := TS_11_in _ (List.mem_of_getElem? (i := 41) rfl)
theorem m_438 : .static y_Mod_greater ∈ TS := TS_11_in _ (List.mem_of_getElem? (i := 42) rfl)
theorem m_439 : .fieldLink R_Mod 69 "GradientCoderModel" "limit" "I" ∈ TS := TS_11_in _ (List.mem_of_getElem? (i := 58) rfl)
theorem m_440 : .code y_Mod_clamp b_Mod_clamp 3 (some .int) ∈ TS := TS_11_in _ (List.mem_of_getElem? (i := 46) rfl)
theorem m_441 : .methodLink R_Mod 72 y_Mod_clamp ∈ TS := TS_11_in _ (List.mem_of_getElem? (i := 44) rfl)
theorem m_442 : .instanceMethod y_Mod_clamp ∈ TS := TS_11_in _ (List.mem_of_getElem? (i := 45) rfl)
theorem m_443 : .selects R_Mod y_Mod_clamp y_Mod_clamp ∈ TS := TS_0_in _ (List.mem_of_getElem? (i := 27) rfl)
theorem m_444 : .fieldLink R_Mod 75 "GradientCoderModel" "t1" "I" ∈ TS := TS_11_in _ (List.mem_of_getElem? (i := 59) rfl)
theorem m_445 : .fieldLink R_Mod 78 "GradientCoderModel" "t2" "I" ∈ TS := TS_12_in _ (List.mem_of_getElem? (i := 0) rfl)
theorem m_446 : .fieldLink R_Mod 81 "GradientCoderModel" "t3" "I" ∈ TS := TS_12_in _ (List.mem_of_getElem? (i := 1) rfl)
theorem m_447 : .fieldLink R_Mod 23 "GradientCoderModel" "rebuilt" "[I" ∈ TS := TS_12_in _ (List.mem_of_getElem? (i := 3) rfl)
theorem m_448 : .fieldLink R_Mod 84 "GradientCoderModel" "runIndex" "I" ∈ TS := TS_12_in _ (List.mem_of_getElem? (i := 5) rfl)
theorem m_449 : .fieldLink R_Mod 26 "GradientCoderModel" "contexts" "[I" ∈ TS := TS_12_in _ (List.mem_of_getElem? (i := 4) rfl)
theorem m_450 : .fieldLink R_Mod 91 "GradientCoderModel" "size" "I" ∈ TS := TS_12_in _ (List.mem_of_getElem? (i := 7) rfl)
theorem m_451 : .fieldLink R_Mod 19 "GradientCoderModel" "sample" "[I" ∈ TS := TS_12_in _ (List.mem_of_getElem? (i := 2) rfl)
theorem m_452 : .code y_Mod_fits b_Mod_fits 4 (some .boolean) ∈ TS := TS_12_in _ (List.mem_of_getElem? (i := 57) rfl)
theorem m_453 : .methodLink R_Mod 87 y_Mod_fits ∈ TS := TS_12_in _ (List.mem_of_getElem? (i := 55) rfl)
theorem m_454 : .static y_Mod_fits ∈ TS := TS_12_in _ (List.mem_of_getElem? (i := 56) rfl)
theorem m_455 : .fieldLink R_Mod 7 "GradientCoderModel" "width" "I" ∈ TS := TS_11_in _ (List.mem_of_getElem? (i := 51) rfl)
theorem m_456 : .fieldLink R_Mod 13 "GradientCoderModel" "height" "I" ∈ TS := TS_11_in _ (List.mem_of_getElem? (i := 52) rfl)
theorem m_457 : .code y_Mod_prepare b_Mod_prepare 3 none ∈ TS := TS_11_in _ (List.mem_of_getElem? (i := 37) rfl)
theorem m_458 : .methodLink R_Mod 41 y_Mod_prepare ∈ TS := TS_11_in _ (List.mem_of_getElem? (i := 35) rfl)
theorem m_459 : .instanceMethod y_Mod_prepare ∈ TS := TS_11_in _ (List.mem_of_getElem? (i := 36) rfl)
theorem m_460 : .selects R_Mod y_Mod_prepare y_Mod_prepare ∈ TS := TS_0_in _ (List.mem_of_getElem? (i := 26) rfl)
theorem m_461 : .code y_Mod_forget b_Mod_forget 2 none ∈ TS := TS_11_in _ (List.mem_of_getElem? (i := 49) rfl)
theorem m_462 : .methodLink R_Mod 44 y_Mod_forget ∈ TS := TS_11_in _ (List.mem_of_getElem? (i := 47) rfl)
theorem m_463 : .instanceMethod y_Mod_forget ∈ TS := TS_11_in _ (List.mem_of_getElem? (i := 48) rfl)
theorem m_464 : .selects R_Mod y_Mod_forget y_Mod_forget ∈ TS := TS_0_in _ (List.mem_of_getElem? (i := 28) rfl)
theorem m_465 : .constantLong R_Mod 94 255 ∈ TS := TS_13_in _ (List.mem_of_getElem? (i := 2) rfl)
theorem m_466 : .fieldLink R_Mod 29 "GradientCoderModel" "code" "[I" ∈ TS := TS_12_in _ (List.mem_of_getElem? (i := 6) rfl)
theorem m_467 : .fieldLink R_Mod 99 "GradientCoderModel" "bits" "I" ∈ TS := TS_12_in _ (List.mem_of_getElem? (i := 9) rfl)
theorem m_468 : .fieldLink R_Mod 96 "GradientCoderModel" "begun" "I" ∈ TS := TS_12_in _ (List.mem_of_getElem? (i := 8) rfl)
theorem m_469 : .code y_Mod_say b_Mod_say 2 none ∈ TS := TS_13_in _ (List.mem_of_getElem? (i := 9) rfl)
theorem m_470 : .methodLink R_Mod 102 y_Mod_say ∈ TS := TS_13_in _ (List.mem_of_getElem? (i := 7) rfl)
theorem m_471 : .instanceMethod y_Mod_say ∈ TS := TS_13_in _ (List.mem_of_getElem? (i := 8) rfl)
theorem m_472 : .selects R_Mod y_Mod_say y_Mod_say ∈ TS := TS_0_in _ (List.mem_of_getElem? (i := 29) rfl)
theorem m_473 : .code y_Mod_put b_Mod_put 2 none ∈ TS := TS_14_in _ (List.mem_of_getElem? (i := 15) rfl)
theorem m_474 : .methodLink R_Mod 106 y_Mod_put ∈ TS := TS_14_in _ (List.mem_of_getElem? (i := 13) rfl)
theorem m_475 : .instanceMethod y_Mod_put ∈ TS := TS_14_in _ (List.mem_of_getElem? (i := 14) rfl)
theorem m_476 : .selects R_Mod y_Mod_put y_Mod_put ∈ TS := TS_0_in _ (List.mem_of_getElem? (i := 50) rfl)
theorem m_477 : .fieldLink R_Mod 109 "GradientCoderModel" "left" "I" ∈ TS := TS_12_in _ (List.mem_of_getElem? (i := 13) rfl)
theorem m_478 : .fieldLink R_Mod 112 "GradientCoderModel" "now" "I" ∈ TS := TS_12_in _ (List.mem_of_getElem? (i := 12) rfl)
theorem m_479 : .fieldLink R_Mod 115 "GradientCoderModel" "at" "I" ∈ TS := TS_12_in _ (List.mem_of_getElem? (i := 11) rfl)
theorem m_480 : .fieldLink R_Mod 118 "GradientCoderModel" "good" "Z" ∈ TS := TS_12_in _ (List.mem_of_getElem? (i := 14) rfl)
theorem m_481 : .code y_Mod_get b_Mod_get 2 (some .int) ∈ TS := TS_13_in _ (List.mem_of_getElem? (i := 39) rfl)
theorem m_482 : .methodLink R_Mod 122 y_Mod_get ∈ TS := TS_13_in _ (List.mem_of_getElem? (i := 37) rfl)
theorem m_483 : .instanceMethod y_Mod_get ∈ TS := TS_13_in _ (List.mem_of_getElem? (i := 38) rfl)
theorem m_484 : .selects R_Mod y_Mod_get y_Mod_get ∈ TS := TS_0_in _ (List.mem_of_getElem? (i := 39) rfl)
theorem m_485 : .code y_Mod_putMany b_Mod_putMany 4 none ∈ TS := TS_14_in _ (List.mem_of_getElem? (i := 12) rfl)
theorem m_486 : .methodLink R_Mod 126 y_Mod_putMany ∈ TS := TS_14_in _ (List.mem_of_getElem? (i := 10) rfl)
theorem m_487 : .instanceMethod y_Mod_putMany ∈ TS := TS_14_in _ (List.mem_of_getElem? (i := 11) rfl)
theorem m_488 : .selects R_Mod y_Mod_putMany y_Mod_putMany ∈ TS := TS_0_in _ (List.mem_of_getElem? (i := 49) rfl)
theorem m_489 : .code y_Mod_getMany b_Mod_getMany 4 (some .int) ∈ TS := TS_13_in _ (List.mem_of_getElem? (i := 42) rfl)
theorem m_490 : .methodLink R_Mod 130 y_Mod_getMany ∈ TS := TS_13_in _ (List.mem_of_getElem? (i := 40) rfl)
theorem m_491 : .instanceMethod y_Mod_getMany ∈ TS := TS_13_in _ (List.mem_of_getElem? (i := 41) rfl)
theorem m_492 : .selects R_Mod y_Mod_getMany y_Mod_getMany ∈ TS := TS_0_in _ (List.mem_of_getElem? (i := 40) rfl)
theorem m_493 : .code y_Mod_value b_Mod_value 3 (some .int) ∈ TS := TS_13_in _ (List.mem_of_getElem? (i := 18) rfl)
theorem m_494 : .methodLink R_Mod 134 y_Mod_value ∈ TS := TS_13_in _ (List.mem_of_getElem? (i := 16) rfl)
theorem m_495 : .instanceMethod y_Mod_value ∈ TS := TS_13_in _ (List.mem_of_getElem? (i := 17) rfl)
theorem m_496 : .selects R_Mod y_Mod_value y_Mod_value ∈ TS := TS_0_in _ (List.mem_of_getElem? (i := 32) rfl)
theorem m_497 : .code y_Mod_above b_Mod_above 3 (some .int) ∈ TS := TS_13_in _ (List.mem_of_getElem? (i := 15) rfl)
theorem m_498 : .methodLink R_Mod 137 y_Mod_above ∈ TS := TS_13_in _ (List.mem_of_getElem? (i := 13) rfl)
theorem m_499 : .instanceMethod y_Mod_above ∈ TS := TS_13_in _ (List.mem_of_getElem? (i := 14) rfl)
theorem m_500 : .selects R_Mod y_Mod_above y_Mod_above ∈ TS := TS_0_in _ (List.mem_of_getElem? (i := 31) rfl)
theorem m_501 : .code y_Mod_before b_Mod_before 3 (some .int) ∈ TS := TS_13_in _ (List.mem_of_getElem? (i := 24) rfl)
theorem m_502 : .methodLink R_Mod 140 y_Mod_before ∈ TS := TS_13_in _ (List.mem_of_getElem? (i := 22) rfl)
theorem m_503 : .instanceMethod y_Mod_before ∈ TS := TS_13_in _ (List.mem_of_getElem? (i := 23) rfl)
theorem m_504 : .selects R_Mod y_Mod_before y_Mod_before ∈ TS := TS_0_in _ (List.mem_of_getElem? (i := 34) rfl)
theorem m_505 : .code y_Mod_divided b_Mod_divided 2 (some .int) ∈ TS := TS_14_in _ (List.mem_of_getElem? (i := 3) rfl)
theorem m_506 : .methodLink R_Mod 143 y_Mod_divided ∈ TS := TS_14_in _ (List.mem_of_getElem? (i := 1) rfl)
theorem m_507 : .instanceMethod y_Mod_divided ∈ TS := TS_14_in _ (List.mem_of_getElem? (i := 2) rfl)
theorem m_508 : .selects R_Mod y_Mod_divided y_Mod_divided ∈ TS := TS_0_in _ (List.mem_of_getElem? (i := 46) rfl)
theorem m_509 : .code y_Mod_held b_Mod_held 2 (some .int) ∈ TS := TS_13_in _ (List.mem_of_getElem? (i := 57) rfl)
theorem m_510 : .methodLink R_Mod 146 y_Mod_held ∈ TS := TS_13_in _ (List.mem_of_getElem? (i := 55) rfl)
theorem m_511 : .instanceMethod y_Mod_held ∈ TS := TS_13_in _ (List.mem_of_getElem? (i := 56) rfl)
theorem m_512 : .selects R_Mod y_Mod_held y_Mod_held ∈ TS := TS_0_in _ (List.mem_of_getElem? (i := 44) rfl)
theorem m_513 : .code y_Mod_reduced b_Mod_reduced 3 (some .int) ∈ TS := TS_14_in _ (List.mem_of_getElem? (i := 6) rfl)
theorem m_514 : .methodLink R_Mod 149 y_Mod_reduced ∈ TS := TS_14_in _ (List.mem_of_getElem? (i := 4) rfl)
theorem m_515 : .instanceMethod y_Mod_reduced ∈ TS := TS_14_in _ (List.mem_of_getElem? (i := 5) rfl)
theorem m_516 : .selects R_Mod y_Mod_reduced y_Mod_reduced ∈ TS := TS_0_in _ (List.mem_of_getElem? (i := 47) rfl)
theorem m_517 : .code y_Mod_half b_Mod_half 1 (some .int) ∈ TS := TS_14_in _ (List.mem_of_getElem? (i := 18) rfl)
theorem m_518 : .methodLink R_Mod 188 y_Mod_half ∈ TS := TS_14_in _ (List.mem_of_getElem? (i := 16) rfl)
theorem m_519 : .static y_Mod_half ∈ TS := TS_14_in _ (List.mem_of_getElem? (i := 17) rfl)
theorem m_520 : .code y_Mod_learn b_Mod_learn 6 none ∈ TS := TS_14_in _ (List.mem_of_getElem? (i := 33) rfl)
theorem m_521 : .methodLink R_Mod 185 y_Mod_learn ∈ TS := TS_14_in _ (List.mem_of_getElem? (i := 31) rfl)
theorem m_522 : .instanceMethod y_Mod_learn ∈ TS := TS_14_in _ (List.mem_of_getElem? (i := 32) rfl)
theorem m_523 : .selects R_Mod y_Mod_learn y_Mod_learn ∈ TS := TS_0_in _ (List.mem_of_getElem? (i := 54) rfl)
theorem m_524 : .code y_Mod_write b_Mod_write 6 none ∈ TS := TS_14_in _ (List.mem_of_getElem? (i := 9) rfl)
theorem m_525 : .methodLink R_Mod 181 y_Mod_write ∈ TS := TS_14_in _ (List.mem_of_getElem? (i := 7) rfl)
theorem m_526 : .instanceMethod y_Mod_write ∈ TS := TS_14_in _ (List.mem_of_getElem? (i := 8) rfl)
theorem m_527 : .selects R_Mod y_Mod_write y_Mod_write ∈ TS := TS_0_in _ (List.mem_of_getElem? (i := 48) rfl)
theorem m_528 : .code y_Mod_settle b_Mod_settle 7 none ∈ TS := TS_13_in _ (List.mem_of_getElem? (i := 54) rfl)
theorem m_529 : .methodLink R_Mod 173 y_Mod_settle ∈ TS := TS_13_in _ (List.mem_of_getElem? (i := 52) rfl)
theorem m_530 : .instanceMethod y_Mod_settle ∈ TS := TS_13_in _ (List.mem_of_getElem? (i := 53) rfl)
theorem m_531 : .selects R_Mod y_Mod_settle y_Mod_settle ∈ TS := TS_0_in _ (List.mem_of_getElem? (i := 43) rfl)
theorem m_532 : .fieldLink R_Mod 167 "GradientCoderModel" "reading" "Z" ∈ TS := TS_12_in _ (List.mem_of_getElem? (i := 10) rfl)
theorem m_533 : .code y_Mod_errorOf b_Mod_errorOf 6 (some .int) ∈ TS := TS_14_in _ (List.mem_of_getElem? (i := 0) rfl)
theorem m_534 : .methodLink R_Mod 177 y_Mod_errorOf ∈ TS := TS_13_in _ (List.mem_of_getElem? (i := 58) rfl)
theorem m_535 : .instanceMethod y_Mod_errorOf ∈ TS := TS_13_in _ (List.mem_of_getElem? (i := 59) rfl)
theorem m_536 : .selects R_Mod y_Mod_errorOf y_Mod_errorOf ∈ TS := TS_0_in _ (List.mem_of_getElem? (i := 45) rfl)
theorem m_537 : .code y_Mod_read b_Mod_read 5 (some .int) ∈ TS := TS_13_in _ (List.mem_of_getElem? (i := 51) rfl)
theorem m_538 : .methodLink R_Mod 170 y_Mod_read ∈ TS := TS_13_in _ (List.mem_of_getElem? (i := 49) rfl)
theorem m_539 : .instanceMethod y_Mod_read ∈ TS := TS_13_in _ (List.mem_of_getElem? (i := 50) rfl)
theorem m_540 : .selects R_Mod y_Mod_read y_Mod_read ∈ TS := TS_0_in _ (List.mem_of_getElem? (i := 42) rfl)
theorem m_541 : .code y_Mod_kFor b_Mod_kFor 3 (some .int) ∈ TS := TS_13_in _ (List.mem_of_getElem? (i := 48) rfl)
theorem m_542 : .methodLink R_Mod 164 y_Mod_kFor ∈ TS := TS_13_in _ (List.mem_of_getElem? (i := 46) rfl)
theorem m_543 : .static y_Mod_kFor ∈ TS := TS_13_in _ (List.mem_of_getElem? (i := 47) rfl)
theorem m_544 : .code y_Mod_lesser b_Mod_lesser 2 (some .int) ∈ TS := TS_14_in _ (List.mem_of_getElem? (i := 30) rfl)
theorem m_545 : .methodLink R_Mod 161 y_Mod_lesser ∈ TS := TS_14_in _ (List.mem_of_getElem? (i := 28) rfl)
theorem m_546 : .static y_Mod_lesser ∈ TS := TS_14_in _ (List.mem_of_getElem? (i := 29) rfl)
theorem m_547 : .code y_Mod_corner b_Mod_corner 3 (some .int) ∈ TS := TS_13_in _ (List.mem_of_getElem? (i := 21) rfl)
theorem m_548 : .methodLink R_Mod 152 y_Mod_corner ∈ TS := TS_13_in _ (List.mem_of_getElem? (i := 19) rfl)
theorem m_549 : .instanceMethod y_Mod_corner ∈ TS := TS_13_in _ (List.mem_of_getElem? (i := 20) rfl)
theorem m_550 : .selects R_Mod y_Mod_corner y_Mod_corner ∈ TS := TS_0_in _ (List.mem_of_getElem? (i := 33) rfl)
theorem m_551 : .code y_Mod_beyond b_Mod_beyond 3 (some .int) ∈ TS := TS_13_in _ (List.mem_of_getElem? (i := 27) rfl)
theorem m_552 : .methodLink R_Mod 155 y_Mod_beyond ∈ TS := TS_13_in _ (List.mem_of_getElem? (i := 25) rfl)
theorem m_553 : .instanceMethod y_Mod_beyond ∈ TS := TS_13_in _ (List.mem_of_getElem? (i := 26) rfl)
theorem m_554 : .selects R_Mod y_Mod_beyond y_Mod_beyond ∈ TS := TS_0_in _ (List.mem_of_getElem? (i := 35) rfl)
theorem m_555 : .code y_Mod_quantized b_Mod_quantized 2 (some .int) ∈ TS := TS_14_in _ (List.mem_of_getElem? (i := 27) rfl)
theorem m_556 : .methodLink R_Mod 158 y_Mod_quantized ∈ TS := TS_14_in _ (List.mem_of_getElem? (i := 25) rfl)
theorem m_557 : .instanceMethod y_Mod_quantized ∈ TS := TS_14_in _ (List.mem_of_getElem? (i := 26) rfl)
theorem m_558 : .selects R_Mod y_Mod_quantized y_Mod_quantized ∈ TS := TS_0_in _ (List.mem_of_getElem? (i := 53) rfl)
theorem m_559 : .code y_Mod_isNear b_Mod_isNear 2 (some .boolean) ∈ TS := TS_13_in _ (List.mem_of_getElem? (i := 30) rfl)
theorem m_560 : .methodLink R_Mod 191 y_Mod_isNear ∈ TS := TS_13_in _ (List.mem_of_getElem? (i := 28) rfl)
theorem m_561 : .instanceMethod y_Mod_isNear ∈ TS := TS_13_in _ (List.mem_of_getElem? (i := 29) rfl)
theorem m_562 : .selects R_Mod y_Mod_isNear y_Mod_isNear ∈ TS := TS_0_in _ (List.mem_of_getElem? (i := 36) rfl)
theorem m_563 : .code y_Mod_jOf b_Mod_jOf 2 (some .int) ∈ TS := TS_13_in _ (List.mem_of_getElem? (i := 36) rfl)
theorem m_564 : .methodLink R_Mod 195 y_Mod_jOf ∈ TS := TS_13_in _ (List.mem_of_getElem? (i := 34) rfl)
theorem m_565 : .instanceMethod y_Mod_jOf ∈ TS := TS_13_in _ (List.mem_of_getElem? (i := 35) rfl)
theorem m_566 : .selects R_Mod y_Mod_jOf y_Mod_jOf ∈ TS := TS_0_in _ (List.mem_of_getElem? (i := 38) rfl)
theorem m_567 : .code y_Mod_endRun b_Mod_endRun 17 none ∈ TS := TS_13_in _ (List.mem_of_getElem? (i := 45) rfl)
theorem m_568 : .methodLink R_Mod 198 y_Mod_endRun ∈ TS := TS_13_in _ (List.mem_of_getElem? (i := 43) rfl)
theorem m_569 : .instanceMethod y_Mod_endRun ∈ TS := TS_13_in _ (List.mem_of_getElem? (i := 44) rfl)
theorem m_570 : .selects R_Mod y_Mod_endRun y_Mod_endRun ∈ TS := TS_0_in _ (List.mem_of_getElem? (i := 41) rfl)
theorem m_571 : .code y_Mod_regular b_Mod_regular 16 none ∈ TS := TS_14_in _ (List.mem_of_getElem? (i := 24) rfl)
theorem m_572 : .methodLink R_Mod 207 y_Mod_regular ∈ TS := TS_14_in _ (List.mem_of_getElem? (i := 22) rfl)
theorem m_573 : .instanceMethod y_Mod_regular ∈ TS := TS_14_in _ (List.mem_of_getElem? (i := 23) rfl)
theorem m_574 : .selects R_Mod y_Mod_regular y_Mod_regular ∈ TS := TS_0_in _ (List.mem_of_getElem? (i := 52) rfl)
theorem m_575 : .code y_Mod_writeRun b_Mod_writeRun 6 (some .int) ∈ TS := TS_14_in _ (List.mem_of_getElem? (i := 21) rfl)
theorem m_576 : .methodLink R_Mod 204 y_Mod_writeRun ∈ TS := TS_14_in _ (List.mem_of_getElem? (i := 19) rfl)
theorem m_577 : .instanceMethod y_Mod_writeRun ∈ TS := TS_14_in _ (List.mem_of_getElem? (i := 20) rfl)
theorem m_578 : .selects R_Mod y_Mod_writeRun y_Mod_writeRun ∈ TS := TS_0_in _ (List.mem_of_getElem? (i := 51) rfl)
theorem m_579 : .code y_Mod_readRun b_Mod_readRun 8 (some .int) ∈ TS := TS_13_in _ (List.mem_of_getElem? (i := 33) rfl)
theorem m_580 : .methodLink R_Mod 201 y_Mod_readRun ∈ TS := TS_13_in _ (List.mem_of_getElem? (i := 31) rfl)
theorem m_581 : .instanceMethod y_Mod_readRun ∈ TS := TS_13_in _ (List.mem_of_getElem? (i := 32) rfl)
theorem m_582 : .selects R_Mod y_Mod_readRun y_Mod_readRun ∈ TS := TS_0_in _ (List.mem_of_getElem? (i := 37) rfl)
theorem m_583 : .code y_Mod_walk b_Mod_walk 6 none ∈ TS := TS_13_in _ (List.mem_of_getElem? (i := 12) rfl)
theorem m_584 : .methodLink R_Mod 210 y_Mod_walk ∈ TS := TS_13_in _ (List.mem_of_getElem? (i := 10) rfl)
theorem m_585 : .instanceMethod y_Mod_walk ∈ TS := TS_13_in _ (List.mem_of_getElem? (i := 11) rfl)
theorem m_586 : .selects R_Mod y_Mod_walk y_Mod_walk ∈ TS := TS_0_in _ (List.mem_of_getElem? (i := 30) rfl)
theorem m_587 : .fieldLink R_Mod 38 "GradientCoderModel" "oldContexts" "[I" ∈ TS := TS_12_in _ (List.mem_of_getElem? (i := 17) rfl)
theorem m_588 : .fieldLink R_Mod 32 "GradientCoderModel" "oldSample" "[I" ∈ TS := TS_12_in _ (List.mem_of_getElem? (i := 15) rfl)
theorem m_589 : .fieldLink R_Mod 35 "GradientCoderModel" "oldRebuilt" "[I" ∈ TS := TS_12_in _ (List.mem_of_getElem? (i := 16) rfl)
theorem m_590 : .code y_Mod_putBack b_Mod_putBack 7 none ∈ TS := TS_14_in _ (List.mem_of_getElem? (i := 46) rfl)
theorem m_591 : .methodLink R_Mod 220 y_Mod_putBack ∈ TS := TS_14_in _ (List.mem_of_getElem? (i := 44) rfl)
theorem m_592 : .instanceMethod y_Mod_putBack ∈ TS := TS_14_in _ (List.mem_of_getElem? (i := 45) rfl)
theorem m_593 : .selects R_Mod y_Mod_putBack y_Mod_putBack ∈ TS := TS_0_in _ (List.mem_of_getElem? (i := 57) rfl)
theorem m_594 : .code y_Mod_endsWell b_Mod_endsWell 1 (some .boolean) ∈ TS := TS_14_in _ (List.mem_of_getElem? (i := 43) rfl)
theorem m_595 : .methodLink R_Mod 216 y_Mod_endsWell ∈ TS := TS_14_in _ (List.mem_of_getElem? (i := 41) rfl)
theorem m_596 : .instanceMethod y_Mod_endsWell ∈ TS := TS_14_in _ (List.mem_of_getElem? (i := 42) rfl)
theorem m_597 : .selects R_Mod y_Mod_endsWell y_Mod_endsWell ∈ TS := TS_0_in _ (List.mem_of_getElem? (i := 56) rfl)
theorem m_598 : .code y_Mod_keep b_Mod_keep 2 none ∈ TS := TS_14_in _ (List.mem_of_getElem? (i := 40) rfl)
theorem m_599 : .methodLink R_Mod 213 y_Mod_keep ∈ TS := TS_14_in _ (List.mem_of_getElem? (i := 38) rfl)
theorem m_600 : .instanceMethod y_Mod_keep ∈ TS := TS_14_in _ (List.mem_of_getElem? (i := 39) rfl)
theorem m_601 : .selects R_Mod y_Mod_keep y_Mod_keep ∈ TS := TS_0_in _ (List.mem_of_getElem? (i := 55) rfl)
theorem m_602 : .code y_Mod_isPlace b_Mod_isPlace 3 (some .boolean) ∈ TS := TS_15_in _ (List.mem_of_getElem? (i := 13) rfl)
theorem m_603 : .methodLink R_Mod 223 y_Mod_isPlace ∈ TS := TS_15_in _ (List.mem_of_getElem? (i := 11) rfl)
theorem m_604 : .instanceMethod y_Mod_isPlace ∈ TS := TS_15_in _ (List.mem_of_getElem? (i := 12) rfl)
theorem m_605 : .selects R_Mod y_Mod_isPlace y_Mod_isPlace ∈ TS := TS_0_in _ (List.mem_of_getElem? (i := 58) rfl)
theorem m_606 : .constant R_Mod 227 (-1000000) ∈ TS := TS_15_in _ (List.mem_of_getElem? (i := 22) rfl)
theorem in_Grc : ∀ w ∈ u_ws R_Grc F_Grc 2, w ∈ TS := by
  intro w h
  obtain ⟨k, hk, rfl⟩ := List.mem_map.mp h
  have hk := List.mem_range.mp hk
  match k, hk with
  | 0, _ => exact m_0
  | 1, _ => exact m_1
  | n + 2, hk => omega
theorem in_Pic : ∀ w ∈ u_ws R_Pic F_Pic 11, w ∈ TS := by
  intro w h
  obtain ⟨k, hk, rfl⟩ := List.mem_map.mp h
  have hk := List.mem_range.mp hk
  match k, hk with
  | 0, _ => exact m_2
  | 1, _ => exact m_3
  | 2, _ => exact m_4
  | 3, _ => exact m_5
  | 4, _ => exact m_6
  | 5, _ => exact m_7
  | 6, _ => exact m_8
  | 7, _ => exact m_9
  | 8, _ => exact m_10
  | 9, _ => exact m_11
  | 10, _ => exact m_12
  | n + 11, hk => omega
theorem in_Ctx : ∀ w ∈ u_ws R_Ctx F_Ctx 6, w ∈ TS := by
  intro w h
  obtain ⟨k, hk, rfl⟩ := List.mem_map.mp h
  have hk := List.mem_range.mp hk
  match k, hk with
  | 0, _ => exact m_13
  | 1, _ => exact m_14
  | 2, _ => exact m_15
  | 3, _ => exact m_16
  | 4, _ => exact m_17
  | 5, _ => exact m_18
  | n + 6, hk => omega
theorem in_Cod : ∀ w ∈ u_ws R_Cod F_Cod 11, w ∈ TS := by
  intro w h
  obtain ⟨k, hk, rfl⟩ := List.mem_map.mp h
  have hk := List.mem_range.mp hk
  match k, hk with
  | 0, _ => exact m_19
  | 1, _ => exact m_20
  | 2, _ => exact m_21
  | 3, _ => exact m_22
  | 4, _ => exact m_23
  | 5, _ => exact m_24
  | 6, _ => exact m_25
  | 7, _ => exact m_26
  | 8, _ => exact m_27
  | 9, _ => exact m_28
  | 10, _ => exact m_29
  | n + 11, hk => omega
theorem in_Rdg : ∀ w ∈ u_ws R_Rdg F_Rdg 10, w ∈ TS := by
  intro w h
  obtain ⟨k, hk, rfl⟩ := List.mem_map.mp h
  have hk := List.mem_range.mp hk
  match k, hk with
  | 0, _ => exact m_30
  | 1, _ => exact m_31
  | 2, _ => exact m_32
  | 3, _ => exact m_33
  | 4, _ => exact m_34
  | 5, _ => exact m_35
  | 6, _ => exact m_36
  | 7, _ => exact m_37
  | 8, _ => exact m_38
  | 9, _ => exact m_39
  | n + 10, hk => omega
theorem in_Wri : ∀ w ∈ u_ws R_Wri F_Wri 3, w ∈ TS := by
  intro w h
  obtain ⟨k, hk, rfl⟩ := List.mem_map.mp h
  have hk := List.mem_range.mp hk
  match k, hk with
  | 0, _ => exact m_40
  | 1, _ => exact m_41
  | 2, _ => exact m_42
  | n + 3, hk => omega
theorem in_Rea : ∀ w ∈ u_ws R_Rea F_Rea 4, w ∈ TS := by
  intro w h
  obtain ⟨k, hk, rfl⟩ := List.mem_map.mp h
  have hk := List.mem_range.mp hk
  match k, hk with
  | 0, _ => exact m_43
  | 1, _ => exact m_44
  | 2, _ => exact m_45
  | 3, _ => exact m_46
  | n + 4, hk => omega
theorem in_Mod : ∀ w ∈ u_ws R_Mod F_Mod 28, w ∈ TS := by
  intro w h
  obtain ⟨k, hk, rfl⟩ := List.mem_map.mp h
  have hk := List.mem_range.mp hk
  match k, hk with
  | 0, _ => exact m_47
  | 1, _ => exact m_48
  | 2, _ => exact m_49
  | 3, _ => exact m_50
  | 4, _ => exact m_51
  | 5, _ => exact m_52
  | 6, _ => exact m_53
  | 7, _ => exact m_54
  | 8, _ => exact m_55
  | 9, _ => exact m_56
  | 10, _ => exact m_57
  | 11, _ => exact m_58
  | 12, _ => exact m_59
  | 13, _ => exact m_60
  | 14, _ => exact m_61
  | 15, _ => exact m_62
  | 16, _ => exact m_63
  | 17, _ => exact m_64
  | 18, _ => exact m_65
  | 19, _ => exact m_66
  | 20, _ => exact m_67
  | 21, _ => exact m_68
  | 22, _ => exact m_69
  | 23, _ => exact m_70
  | 24, _ => exact m_71
  | 25, _ => exact m_72
  | 26, _ => exact m_73
  | 27, _ => exact m_74
  | n + 28, hk => omega
