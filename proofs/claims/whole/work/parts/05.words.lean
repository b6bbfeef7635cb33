def TS_0 : List Cond := [.fieldLink R_Pic 20 "GradientCoder$Picture" "maxval" "I", .fieldLink R_Pic 23 "GradientCoder$Picture" "near" "I", .code y_Pic_clamp b_Pic_clamp 3 (some .int), .methodLink R_Pic 54 y_Pic_clamp, .instanceMethod y_Pic_clamp, .selects R_Pic y_Pic_clamp y_Pic_clamp, .initialized R_Pic, .fieldLink R_Pic 57 "GradientCoder$Picture" "t1" "I", .fieldLink R_Pic 60 "GradientCoder$Picture" "t2" "I", .fieldLink R_Pic 63 "GradientCoder$Picture" "t3" "I", .methodLink R_Pic 39 Lib.Math.max.name, .static Lib.Math.max.name, .initialized "java/lang/Math", .code Lib.Math.max.name Lib.Math.max.code 2 (some .int), .fieldLink R_Pic 13 "GradientCoder$Picture" "width" "I", .fieldLink R_Pic 17 "GradientCoder$Picture" "height" "I", .fieldLink R_Pic 26 "GradientCoder$Picture" "step" "I", .fieldLink R_Pic 29 "GradientCoder$Picture" "range" "I", .code y_Pic_leastPower b_Pic_leastPower 3 (some .int), .methodLink R_Pic 32 y_Pic_leastPower, .static y_Pic_leastPower, .fieldLink R_Pic 36 "GradientCoder$Picture" "qb" "I", .fieldLink R_Pic 44 "GradientCoder$Picture" "limit" "I", .code y_Pic_becomeCoarse b_Pic_becomeCoarse 2 none, .methodLink R_Pic 51 y_Pic_becomeCoarse, .instanceMethod y_Pic_becomeCoarse, .selects R_Pic y_Pic_becomeCoarse y_Pic_becomeCoarse, .code y_Pic_becomeFine b_Pic_becomeFine 2 none, .methodLink R_Pic 47 y_Pic_becomeFine, .instanceMethod y_Pic_becomeFine, .selects R_Pic y_Pic_becomeFine y_Pic_becomeFine, .methodLink R_Pic 66 Lib.Math.min.name, .static Lib.Math.min.name, .code Lib.Math.min.name Lib.Math.min.code 2 (some .int), .methodLink R_Fol 7 Lib.Math.abs.name, .static Lib.Math.abs.name, .code Lib.Math.abs.name Lib.Math.abs.code 1 (some .int), .fieldLink R_Ctx 47 "GradientCoder$Contexts" "J" "[I", .fieldLink R_Ctx 37 "GradientCoder$Contexts" "runIndex" "I", .fieldLink R_Ctx 19 "GradientCoder$Contexts" "n" "[I", .fieldLink R_Ctx 9 "GradientCoder$Contexts" "a" "[I", .code y_Ctx_leastK b_Ctx_leastK 4 (some .int), .methodLink R_Ctx 50 y_Ctx_leastK, .instanceMethod y_Ctx_leastK, .selects R_Ctx y_Ctx_leastK y_Ctx_leastK, .initialized R_Ctx, .fieldLink R_Ctx 13 "GradientCoder$Contexts" "b" "[I", .fieldLink R_Ctx 22 "GradientCoder$Contexts" "m" "[I", .methodLink R_Ctx 25 Lib.Math.max.name, .fieldLink R_Ctx 16 "GradientCoder$Contexts" "c" "[I", .methodLink R_Ctx 64 Lib.Math.min.name, .code y_Ctx_correctUp b_Ctx_correctUp 2 none, .methodLink R_Ctx 61 y_Ctx_correctUp, .instanceMethod y_Ctx_correctUp, .selects R_Ctx y_Ctx_correctUp y_Ctx_correctUp, .code y_Ctx_correctDown b_Ctx_correctDown 2 none, .methodLink R_Ctx 57 y_Ctx_correctDown, .instanceMethod y_Ctx_correctDown, .selects R_Ctx y_Ctx_correctDown y_Ctx_correctDown, .methodLink R_Ctx 53 Lib.Math.abs.name]
def TS_1 : List Cond := [.code y_Arrs_fill_102 b_Arrs_fill_102 4 none, .methodLink R_Ctx 31 y_Arrs_fill_102, .static y_Arrs_fill_102, .initialized R_Arrs, .methodLink R_Ctx 41 arraycopyName, .native arraycopyName, .static arraycopyName, .initialized "java/lang/System", .fieldLink R_Wri 13 "GradientCoder$Writer" "size" "I", .fieldLink R_Wri 17 "GradientCoder$Writer" "bitsFree" "I", .fieldLink R_Wri 9 "GradientCoder$Writer" "bytes" "[I", .code y_Wri_writeByte b_Wri_writeByte 2 none, .methodLink R_Wri 24 y_Wri_writeByte, .instanceMethod y_Wri_writeByte, .selects R_Wri y_Wri_writeByte y_Wri_writeByte, .initialized R_Wri, .code y_Wri_endsWith255 b_Wri_endsWith255 1 (some .boolean), .methodLink R_Wri 20 y_Wri_endsWith255, .instanceMethod y_Wri_endsWith255, .selects R_Wri y_Wri_endsWith255 y_Wri_endsWith255, .code y_Wri_writeBits b_Wri_writeBits 4 none, .methodLink R_Wri 28 y_Wri_writeBits, .instanceMethod y_Wri_writeBits, .selects R_Wri y_Wri_writeBits y_Wri_writeBits, .fieldLink R_Pas 23 "GradientCoder$Pass" "rebuilt" "[I", .code y_Pic_place b_Pic_place 2 (some .int), .methodLink R_Pas 41 y_Pic_place, .static y_Pic_place, .fieldLink R_Pas 74 "GradientCoder$Pass" "d" "I", .fieldLink R_Pas 71 "GradientCoder$Pass" "c" "I", .fieldLink R_Pas 10 "GradientCoder$Pass" "picture" "LGradientCoder$Picture;", .fieldLink R_Pas 38 "GradientCoder$Picture" "width" "I", .fieldLink R_Pas 68 "GradientCoder$Pass" "b" "I", .code y_Pas_rebuiltOrNothing b_Pas_rebuiltOrNothing 3 (some .int), .methodLink R_Pas 65 y_Pas_rebuiltOrNothing, .sameMethod R_Pas R_Pas "rebuiltOrNothing" "(II)I", .selects R_Cod y_Pas_rebuiltOrNothing y_Pas_rebuiltOrNothing, .instanceMethod y_Pas_rebuiltOrNothing, .initialized R_Pas, .fieldLink R_Pas 59 "GradientCoder$Pass" "a" "I", .code y_Pic_isNear b_Pic_isNear 2 (some .boolean), .methodLink R_Pas 77 y_Pic_isNear, .instanceMethod y_Pic_isNear, .selects R_Pic y_Pic_isNear y_Pic_isNear, .code y_Pic_level b_Pic_level 2 (some .int), .methodLink R_Pas 125 y_Pic_level, .instanceMethod y_Pic_level, .selects R_Pic y_Pic_level y_Pic_level, .methodLink R_Pas 128 Lib.Math.min.name, .methodLink R_Pas 131 Lib.Math.max.name, .fieldLink R_Pas 155 "GradientCoder$Picture" "limit" "I", .fieldLink R_Pas 19 "GradientCoder$Pass" "contexts" "LGradientCoder$Contexts;", .code y_Ctx_j b_Ctx_j 1 (some .int), .methodLink R_Pas 158 y_Ctx_j, .instanceMethod y_Ctx_j, .selects R_Ctx y_Ctx_j y_Ctx_j, .fieldLink R_Cod 26 "GradientCoder$Coding" "picture" "LGradientCoder$Picture;", .sameField "GradientCoder$Coding" "GradientCoder$Pass" "picture" "LGradientCoder$Picture;", .fieldLink R_Cod 140 "GradientCoder$Coding" "sign" "I", .sameField "GradientCoder$Coding" "GradientCoder$Pass" "sign" "I"]
def TS_2 : List Cond := [.fieldLink R_Cod 9 "GradientCoder$Coding" "samples" "[I", .fieldLink R_Cod 143 "GradientCoder$Coding" "foretold" "I", .sameField "GradientCoder$Coding" "GradientCoder$Pass" "foretold" "I", .code y_Pic_divided b_Pic_divided 2 (some .int), .methodLink R_Cod 146 y_Pic_divided, .instanceMethod y_Pic_divided, .selects R_Pic y_Pic_divided y_Pic_divided, .fieldLink R_Cod 50 "GradientCoder$Coding" "rebuilt" "[I", .sameField "GradientCoder$Coding" "GradientCoder$Pass" "rebuilt" "[I", .fieldLink R_Cod 149 "GradientCoder$Picture" "step" "I", .code y_Pic_bounded b_Pic_bounded 2 (some .int), .methodLink R_Cod 152 y_Pic_bounded, .instanceMethod y_Pic_bounded, .selects R_Pic y_Pic_bounded y_Pic_bounded, .code y_Pic_reduced b_Pic_reduced 3 (some .int), .methodLink R_Cod 155 y_Pic_reduced, .instanceMethod y_Pic_reduced, .selects R_Pic y_Pic_reduced y_Pic_reduced, .fieldLink R_Cod 22 "GradientCoder$Coding" "contexts" "LGradientCoder$Contexts;", .sameField "GradientCoder$Coding" "GradientCoder$Pass" "contexts" "LGradientCoder$Contexts;", .methodLink R_Cod 103 y_Ctx_j, .fieldLink R_Cod 18 "GradientCoder$Coding" "writer" "LGradientCoder$Writer;", .methodLink R_Cod 107 y_Wri_writeBits, .code y_Ctx_raiseRunIndex b_Ctx_raiseRunIndex 1 none, .methodLink R_Cod 111 y_Ctx_raiseRunIndex, .instanceMethod y_Ctx_raiseRunIndex, .selects R_Ctx y_Ctx_raiseRunIndex y_Ctx_raiseRunIndex, .fieldLink R_Cod 96 "GradientCoder$Coding" "a" "I", .sameField "GradientCoder$Coding" "GradientCoder$Pass" "a" "I", .methodLink R_Cod 99 y_Pic_isNear, .code y_Cod_takeError b_Cod_takeError 3 (some .int), .methodLink R_Cod 114 y_Cod_takeError, .instanceMethod y_Cod_takeError, .selects R_Cod y_Cod_takeError y_Cod_takeError, .initialized R_Cod, .code y_Fol_foldRegular b_Fol_foldRegular 2 (some .int), .methodLink R_Cod 118 y_Fol_foldRegular, .static y_Fol_foldRegular, .initialized R_Fol, .fieldLink R_Cod 124 "GradientCoder$Picture" "limit" "I", .fieldLink R_Cod 127 "GradientCoder$Picture" "qb" "I", .code y_Wri_writeNumber b_Wri_writeNumber 6 none, .methodLink R_Cod 130 y_Wri_writeNumber, .instanceMethod y_Wri_writeNumber, .selects R_Wri y_Wri_writeNumber y_Wri_writeNumber, .code y_Fol_foldEnd b_Fol_foldEnd 4 (some .int), .methodLink R_Cod 133 y_Fol_foldEnd, .static y_Fol_foldEnd, .code y_Pas_limitOfEnd b_Pas_limitOfEnd 1 (some .int), .methodLink R_Cod 137 y_Cod_limitOfEnd, .sameMethod R_Cod R_Pas "limitOfEnd" "()I", .selects R_Cod y_Cod_limitOfEnd y_Pas_limitOfEnd, .instanceMethod y_Pas_limitOfEnd, .code y_Cod_carryRegular b_Cod_carryRegular 5 (some .int), .methodLink R_Pas 114 y_Pas_carryRegular, .sameMethod R_Pas R_Pas "carryRegular" "(IIZ)I", .selects R_Cod y_Pas_carryRegular y_Cod_carryRegular, .instanceMethod y_Cod_carryRegular, .fieldLink R_Pas 118 "GradientCoder$Picture" "step" "I", .code y_Ctx_learnRegular b_Ctx_learnRegular 4 none]
def TS_3 : List Cond := [.methodLink R_Pas 121 y_Ctx_learnRegular, .instanceMethod y_Ctx_learnRegular, .selects R_Ctx y_Ctx_learnRegular y_Ctx_learnRegular, .fieldLink R_Pas 85 "GradientCoder$Pass" "sign" "I", .methodLink R_Pas 88 Lib.Math.abs.name, .code y_Pas_foretoldByNeighbours b_Pas_foretoldByNeighbours 3 (some .int), .methodLink R_Pas 94 y_Pas_foretoldByNeighbours, .sameMethod R_Pas R_Pas "foretoldByNeighbours" "()I", .selects R_Cod y_Pas_foretoldByNeighbours y_Pas_foretoldByNeighbours, .instanceMethod y_Pas_foretoldByNeighbours, .fieldLink R_Pas 97 "GradientCoder$Contexts" "c" "[I", .methodLink R_Pas 99 y_Pic_bounded, .fieldLink R_Pas 102 "GradientCoder$Pass" "foretold" "I", .code y_Ctx_kOfRegular b_Ctx_kOfRegular 2 (some .int), .methodLink R_Pas 105 y_Ctx_kOfRegular, .instanceMethod y_Ctx_kOfRegular, .selects R_Ctx y_Ctx_kOfRegular y_Ctx_kOfRegular, .fieldLink R_Pas 108 "GradientCoder$Picture" "near" "I", .code y_Ctx_leansDown b_Ctx_leansDown 2 (some .boolean), .methodLink R_Pas 111 y_Ctx_leansDown, .instanceMethod y_Ctx_leansDown, .selects R_Ctx y_Ctx_leansDown y_Ctx_leansDown, .code y_Pas_signedContext b_Pas_signedContext 1 (some .int), .methodLink R_Pas 81 y_Pas_signedContext, .sameMethod R_Pas R_Pas "signedContext" "()I", .selects R_Cod y_Pas_signedContext y_Pas_signedContext, .instanceMethod y_Pas_signedContext, .code y_Cod_carryEnd b_Cod_carryEnd 6 (some .int), .methodLink R_Pas 140 y_Pas_carryEnd, .sameMethod R_Pas R_Pas "carryEnd" "(IIIZ)I", .selects R_Cod y_Pas_carryEnd y_Cod_carryEnd, .instanceMethod y_Cod_carryEnd, .methodLink R_Pas 144 y_Fol_foldEnd, .code y_Ctx_learnEnd b_Ctx_learnEnd 4 none, .methodLink R_Pas 149 y_Ctx_learnEnd, .instanceMethod y_Ctx_learnEnd, .selects R_Ctx y_Ctx_learnEnd y_Ctx_learnEnd, .code y_Ctx_lowerRunIndex b_Ctx_lowerRunIndex 1 none, .methodLink R_Pas 152 y_Ctx_lowerRunIndex, .instanceMethod y_Ctx_lowerRunIndex, .selects R_Ctx y_Ctx_lowerRunIndex y_Ctx_lowerRunIndex, .code y_Ctx_kOfEnd b_Ctx_kOfEnd 2 (some .int), .methodLink R_Pas 134 y_Ctx_kOfEnd, .instanceMethod y_Ctx_kOfEnd, .selects R_Ctx y_Ctx_kOfEnd y_Ctx_kOfEnd, .code y_Ctx_isMostlyBelow b_Ctx_isMostlyBelow 2 (some .boolean), .methodLink R_Pas 137 y_Ctx_isMostlyBelow, .instanceMethod y_Ctx_isMostlyBelow, .selects R_Ctx y_Ctx_isMostlyBelow y_Ctx_isMostlyBelow, .code y_Pas_overEnd b_Pas_overEnd 7 none, .methodLink R_Pas 62 y_Pas_overEnd, .sameMethod R_Pas R_Pas "overEnd" "(I)V", .selects R_Cod y_Pas_overEnd y_Pas_overEnd, .instanceMethod y_Pas_overEnd, .code y_Pas_overRegular b_Pas_overRegular 7 none, .methodLink R_Pas 56 y_Pas_overRegular, .sameMethod R_Pas R_Pas "overRegular" "(I)V", .selects R_Cod y_Pas_overRegular y_Pas_overRegular, .instanceMethod y_Pas_overRegular, .code y_Pas_lookAround b_Pas_lookAround 3 none]
def TS_4 : List Cond := [.methodLink R_Pas 45 y_Pas_lookAround, .sameMethod R_Pas R_Pas "lookAround" "(II)V", .selects R_Cod y_Pas_lookAround y_Pas_lookAround, .instanceMethod y_Pas_lookAround, .code y_Pas_isEven b_Pas_isEven 1 (some .boolean), .methodLink R_Pas 49 y_Pas_isEven, .sameMethod R_Pas R_Pas "isEven" "()Z", .selects R_Cod y_Pas_isEven y_Pas_isEven, .instanceMethod y_Pas_isEven, .code y_Cod_carryRun b_Cod_carryRun 5 (some .int), .methodLink R_Pas 53 y_Pas_carryRun, .sameMethod R_Pas R_Pas "carryRun" "(II)I", .selects R_Cod y_Pas_carryRun y_Cod_carryRun, .instanceMethod y_Cod_carryRun, .fieldLink R_Pas 35 "GradientCoder$Picture" "height" "I", .fieldLink R_Pas 27 "GradientCoder$Picture" "range" "I", .code y_Ctx_restart b_Ctx_restart 2 none, .methodLink R_Pas 31 y_Ctx_restart, .instanceMethod y_Ctx_restart, .selects R_Ctx y_Ctx_restart y_Ctx_restart, .fieldLink R_Cod 56 "GradientCoder$Picture" "width" "I", .methodLink R_Cod 66 y_Pic_place, .code y_Cod_sampleIn b_Cod_sampleIn 3 (some .int), .methodLink R_Cod 59 y_Cod_sampleIn, .static y_Cod_sampleIn, .fieldLink R_Cod 63 "GradientCoder$Picture" "maxval" "I", .code y_Wri_restart b_Wri_restart 1 none, .methodLink R_Cod 91 y_Wri_restart, .instanceMethod y_Wri_restart, .selects R_Wri y_Wri_restart y_Wri_restart, .methodLink R_Cod 93 y_Wri_writeByte, .fieldLink R_Cod 73 "GradientCoder$Picture" "height" "I", .fieldLink R_Cod 76 "GradientCoder$Picture" "near" "I", .code y_Pic_become b_Pic_become 6 none, .methodLink R_Cod 40 y_Pic_become, .instanceMethod y_Pic_become, .selects R_Pic y_Pic_become y_Pic_become, .fieldLink R_Cod 30 "GradientCoder$Picture" "range" "I", .methodLink R_Cod 34 y_Ctx_restart, .methodLink R_Cod 44 y_Arrs_fill_102, .fieldLink R_Cod 53 "GradientCoder$Writer" "size" "I", .fieldLink R_Cod 70 "GradientCoder$Reading" "picture" "LGradientCoder$Picture;", .sameField "GradientCoder$Reading" "GradientCoder$Pass" "picture" "LGradientCoder$Picture;", .fieldLink R_Cod 79 "GradientCoder$Reading" "contexts" "LGradientCoder$Contexts;", .sameField "GradientCoder$Reading" "GradientCoder$Pass" "contexts" "LGradientCoder$Contexts;", .code y_Ctx_takeOver b_Ctx_takeOver 2 none, .methodLink R_Cod 80 y_Ctx_takeOver, .instanceMethod y_Ctx_takeOver, .selects R_Ctx y_Ctx_takeOver y_Ctx_takeOver, .fieldLink R_Cod 84 "GradientCoder$Reading" "rebuilt" "[I", .sameField "GradientCoder$Reading" "GradientCoder$Pass" "rebuilt" "[I", .methodLink R_Cod 85 arraycopyName, .fieldLink R_Grc 10 "GradientCoder" "coding" "LGradientCoder$Coding;", .fieldLink R_Grc 51 "GradientCoder$Coding" "writer" "LGradientCoder$Writer;", .fieldLink R_Grc 60 "GradientCoder$Writer" "size" "I", .code y_Pic_fits b_Pic_fits 4 (some .boolean), .methodLink R_Grc 23 y_Pic_fits, .static y_Pic_fits, .code y_Cod_beginPicture b_Cod_beginPicture 5 none, .methodLink R_Grc 29 y_Cod_beginPicture]
def TS_5 : List Cond := [.instanceMethod y_Cod_beginPicture, .selects R_Cod y_Cod_beginPicture y_Cod_beginPicture, .fieldLink R_Grc 33 "GradientCoder$Coding" "picture" "LGradientCoder$Picture;", .fieldLink R_Grc 37 "GradientCoder$Picture" "height" "I", .code y_Cod_takeRow b_Cod_takeRow 5 (some .boolean), .methodLink R_Grc 41 y_Cod_takeRow, .instanceMethod y_Cod_takeRow, .selects R_Cod y_Cod_takeRow y_Cod_takeRow, .code y_Cod_writeHead b_Cod_writeHead 1 none, .methodLink R_Grc 45 y_Cod_writeHead, .instanceMethod y_Cod_writeHead, .selects R_Cod y_Cod_writeHead y_Cod_writeHead, .code y_Pas_overAll b_Pas_overAll 6 none, .methodLink R_Grc 48 y_Cod_overAll, .sameMethod R_Cod R_Pas "overAll" "()V", .selects R_Cod y_Cod_overAll y_Pas_overAll, .instanceMethod y_Pas_overAll, .code y_Wri_writeEnd b_Wri_writeEnd 1 none, .methodLink R_Grc 55 y_Wri_writeEnd, .instanceMethod y_Wri_writeEnd, .selects R_Wri y_Wri_writeEnd y_Wri_writeEnd, .code y_Grc_hasByte b_Grc_hasByte 2 (some .boolean), .methodLink R_Grc 63 y_Grc_hasByte, .instanceMethod y_Grc_hasByte, .selects R_Grc y_Grc_hasByte y_Grc_hasByte, .initialized R_Grc, .fieldLink R_Grc 67 "GradientCoder$Writer" "bytes" "[I", .fieldLink R_Grc 89 "GradientCoder$Picture" "width" "I", .fieldLink R_Grc 92 "GradientCoder$Picture" "maxval" "I", .fieldLink R_Grc 95 "GradientCoder$Picture" "near" "I", .fieldLink R_Grc 98 "GradientCoder$Picture" "range" "I", .fieldLink R_Grc 101 "GradientCoder$Picture" "qb" "I", .fieldLink R_Grc 104 "GradientCoder$Picture" "limit" "I", .fieldLink R_Grc 107 "GradientCoder$Picture" "t1" "I", .fieldLink R_Grc 110 "GradientCoder$Picture" "t2" "I", .fieldLink R_Grc 113 "GradientCoder$Picture" "t3" "I", .code y_Pic_hasPlace b_Pic_hasPlace 3 (some .boolean), .methodLink R_Grc 116 y_Pic_hasPlace, .instanceMethod y_Pic_hasPlace, .selects R_Pic y_Pic_hasPlace y_Pic_hasPlace, .fieldLink R_Grc 120 "GradientCoder$Coding" "samples" "[I", .methodLink R_Grc 123 y_Pic_place, .fieldLink R_Grc 127 "GradientCoder$Coding" "rebuilt" "[I", .constant R_Grc 132 (-1000000), .fieldLink R_Grc 133 "GradientCoder$Coding" "contexts" "LGradientCoder$Contexts;", .fieldLink R_Grc 137 "GradientCoder$Contexts" "a" "[I", .fieldLink R_Grc 140 "GradientCoder$Contexts" "b" "[I", .fieldLink R_Grc 143 "GradientCoder$Contexts" "c" "[I", .fieldLink R_Grc 146 "GradientCoder$Contexts" "n" "[I", .fieldLink R_Grc 149 "GradientCoder$Contexts" "m" "[I", .fieldLink R_Grc 152 "GradientCoder$Contexts" "runIndex" "I", .fieldLink R_Mod 47 "GradientCoderModel" "thrown" "I", .fieldLink R_Mod 16 "GradientCoderModel" "maxval" "I", .fieldLink R_Mod 50 "GradientCoderModel" "near" "I", .fieldLink R_Mod 53 "GradientCoderModel" "step" "I", .fieldLink R_Mod 56 "GradientCoderModel" "range" "I", .code y_Mod_powerFor b_Mod_powerFor 3 (some .int), .methodLink R_Mod 59 y_Mod_powerFor, .static y_Mod_powerFor, .initialized R_Mod]
def TS_6 : List Cond := [.fieldLink R_Mod 63 "GradientCoderModel" "qb" "I", .code y_Mod_greater b_Mod_greater 2 (some .int), .methodLink R_Mod 66 y_Mod_greater, .static y_Mod_greater, .fieldLink R_Mod 69 "GradientCoderModel" "limit" "I", .code y_Mod_clamp b_Mod_clamp 3 (some .int), .methodLink R_Mod 72 y_Mod_clamp, .instanceMethod y_Mod_clamp, .selects R_Mod y_Mod_clamp y_Mod_clamp, .fieldLink R_Mod 75 "GradientCoderModel" "t1" "I", .fieldLink R_Mod 78 "GradientCoderModel" "t2" "I", .fieldLink R_Mod 81 "GradientCoderModel" "t3" "I", .fieldLink R_Mod 23 "GradientCoderModel" "rebuilt" "[I", .fieldLink R_Mod 84 "GradientCoderModel" "runIndex" "I", .fieldLink R_Mod 26 "GradientCoderModel" "contexts" "[I", .fieldLink R_Mod 91 "GradientCoderModel" "size" "I", .fieldLink R_Mod 19 "GradientCoderModel" "sample" "[I", .code y_Mod_fits b_Mod_fits 4 (some .boolean), .methodLink R_Mod 87 y_Mod_fits, .static y_Mod_fits, .fieldLink R_Mod 7 "GradientCoderModel" "width" "I", .fieldLink R_Mod 13 "GradientCoderModel" "height" "I", .code y_Mod_prepare b_Mod_prepare 3 none, .methodLink R_Mod 41 y_Mod_prepare, .instanceMethod y_Mod_prepare, .selects R_Mod y_Mod_prepare y_Mod_prepare, .code y_Mod_forget b_Mod_forget 2 none, .methodLink R_Mod 44 y_Mod_forget, .instanceMethod y_Mod_forget, .selects R_Mod y_Mod_forget y_Mod_forget, .constantLong R_Mod 94 255, .fieldLink R_Mod 29 "GradientCoderModel" "code" "[I", .fieldLink R_Mod 99 "GradientCoderModel" "bits" "I", .fieldLink R_Mod 96 "GradientCoderModel" "begun" "I", .code y_Mod_say b_Mod_say 2 none, .methodLink R_Mod 102 y_Mod_say, .instanceMethod y_Mod_say, .selects R_Mod y_Mod_say y_Mod_say, .code y_Mod_put b_Mod_put 2 none, .methodLink R_Mod 106 y_Mod_put, .instanceMethod y_Mod_put, .selects R_Mod y_Mod_put y_Mod_put, .fieldLink R_Mod 109 "GradientCoderModel" "left" "I", .fieldLink R_Mod 112 "GradientCoderModel" "now" "I", .fieldLink R_Mod 115 "GradientCoderModel" "at" "I", .fieldLink R_Mod 118 "GradientCoderModel" "good" "Z", .code y_Mod_get b_Mod_get 2 (some .int), .methodLink R_Mod 122 y_Mod_get, .instanceMethod y_Mod_get, .selects R_Mod y_Mod_get y_Mod_get, .code y_Mod_putMany b_Mod_putMany 4 none, .methodLink R_Mod 126 y_Mod_putMany, .instanceMethod y_Mod_putMany, .selects R_Mod y_Mod_putMany y_Mod_putMany, .code y_Mod_getMany b_Mod_getMany 4 (some .int), .methodLink R_Mod 130 y_Mod_getMany, .instanceMethod y_Mod_getMany, .selects R_Mod y_Mod_getMany y_Mod_getMany, .code y_Mod_value b_Mod_value 3 (some .int), .methodLink R_Mod 134 y_Mod_value]
def TS_7 : List Cond := [.instanceMethod y_Mod_value, .selects R_Mod y_Mod_value y_Mod_value, .code y_Mod_above b_Mod_above 3 (some .int), .methodLink R_Mod 137 y_Mod_above, .instanceMethod y_Mod_above, .selects R_Mod y_Mod_above y_Mod_above, .code y_Mod_before b_Mod_before 3 (some .int), .methodLink R_Mod 140 y_Mod_before, .instanceMethod y_Mod_before, .selects R_Mod y_Mod_before y_Mod_before, .code y_Mod_divided b_Mod_divided 2 (some .int), .methodLink R_Mod 143 y_Mod_divided, .instanceMethod y_Mod_divided, .selects R_Mod y_Mod_divided y_Mod_divided, .code y_Mod_held b_Mod_held 2 (some .int), .methodLink R_Mod 146 y_Mod_held, .instanceMethod y_Mod_held, .selects R_Mod y_Mod_held y_Mod_held, .code y_Mod_reduced b_Mod_reduced 3 (some .int), .methodLink R_Mod 149 y_Mod_reduced, .instanceMethod y_Mod_reduced, .selects R_Mod y_Mod_reduced y_Mod_reduced, .code y_Mod_half b_Mod_half 1 (some .int), .methodLink R_Mod 188 y_Mod_half, .static y_Mod_half, .code y_Mod_learn b_Mod_learn 6 none, .methodLink R_Mod 185 y_Mod_learn, .instanceMethod y_Mod_learn, .selects R_Mod y_Mod_learn y_Mod_learn, .code y_Mod_write b_Mod_write 6 none, .methodLink R_Mod 181 y_Mod_write, .instanceMethod y_Mod_write, .selects R_Mod y_Mod_write y_Mod_write, .code y_Mod_settle b_Mod_settle 7 none, .methodLink R_Mod 173 y_Mod_settle, .instanceMethod y_Mod_settle, .selects R_Mod y_Mod_settle y_Mod_settle, .fieldLink R_Mod 167 "GradientCoderModel" "reading" "Z", .code y_Mod_errorOf b_Mod_errorOf 6 (some .int), .methodLink R_Mod 177 y_Mod_errorOf, .instanceMethod y_Mod_errorOf, .selects R_Mod y_Mod_errorOf y_Mod_errorOf, .code y_Mod_read b_Mod_read 5 (some .int), .methodLink R_Mod 170 y_Mod_read, .instanceMethod y_Mod_read, .selects R_Mod y_Mod_read y_Mod_read, .code y_Mod_kFor b_Mod_kFor 3 (some .int), .methodLink R_Mod 164 y_Mod_kFor, .static y_Mod_kFor, .code y_Mod_lesser b_Mod_lesser 2 (some .int), .methodLink R_Mod 161 y_Mod_lesser, .static y_Mod_lesser, .code y_Mod_corner b_Mod_corner 3 (some .int), .methodLink R_Mod 152 y_Mod_corner, .instanceMethod y_Mod_corner, .selects R_Mod y_Mod_corner y_Mod_corner, .code y_Mod_beyond b_Mod_beyond 3 (some .int), .methodLink R_Mod 155 y_Mod_beyond, .instanceMethod y_Mod_beyond, .selects R_Mod y_Mod_beyond y_Mod_beyond]
def TS_8 : List Cond := [.code y_Mod_quantized b_Mod_quantized 2 (some .int), .methodLink R_Mod 158 y_Mod_quantized, .instanceMethod y_Mod_quantized, .selects R_Mod y_Mod_quantized y_Mod_quantized, .code y_Mod_isNear b_Mod_isNear 2 (some .boolean), .methodLink R_Mod 191 y_Mod_isNear, .instanceMethod y_Mod_isNear, .selects R_Mod y_Mod_isNear y_Mod_isNear, .code y_Mod_jOf b_Mod_jOf 2 (some .int), .methodLink R_Mod 195 y_Mod_jOf, .instanceMethod y_Mod_jOf, .selects R_Mod y_Mod_jOf y_Mod_jOf, .code y_Mod_endRun b_Mod_endRun 17 none, .methodLink R_Mod 198 y_Mod_endRun, .instanceMethod y_Mod_endRun, .selects R_Mod y_Mod_endRun y_Mod_endRun, .code y_Mod_regular b_Mod_regular 16 none, .methodLink R_Mod 207 y_Mod_regular, .instanceMethod y_Mod_regular, .selects R_Mod y_Mod_regular y_Mod_regular, .code y_Mod_writeRun b_Mod_writeRun 6 (some .int), .methodLink R_Mod 204 y_Mod_writeRun, .instanceMethod y_Mod_writeRun, .selects R_Mod y_Mod_writeRun y_Mod_writeRun, .code y_Mod_readRun b_Mod_readRun 8 (some .int), .methodLink R_Mod 201 y_Mod_readRun, .instanceMethod y_Mod_readRun, .selects R_Mod y_Mod_readRun y_Mod_readRun, .code y_Mod_walk b_Mod_walk 6 none, .methodLink R_Mod 210 y_Mod_walk, .instanceMethod y_Mod_walk, .selects R_Mod y_Mod_walk y_Mod_walk, .fieldLink R_Mod 38 "GradientCoderModel" "oldContexts" "[I", .fieldLink R_Mod 32 "GradientCoderModel" "oldSample" "[I", .fieldLink R_Mod 35 "GradientCoderModel" "oldRebuilt" "[I", .code y_Mod_putBack b_Mod_putBack 7 none, .methodLink R_Mod 220 y_Mod_putBack, .instanceMethod y_Mod_putBack, .selects R_Mod y_Mod_putBack y_Mod_putBack, .code y_Mod_endsWell b_Mod_endsWell 1 (some .boolean), .methodLink R_Mod 216 y_Mod_endsWell, .instanceMethod y_Mod_endsWell, .selects R_Mod y_Mod_endsWell y_Mod_endsWell, .code y_Mod_keep b_Mod_keep 2 none, .methodLink R_Mod 213 y_Mod_keep, .instanceMethod y_Mod_keep, .selects R_Mod y_Mod_keep y_Mod_keep, .code y_Mod_isPlace b_Mod_isPlace 3 (some .boolean), .methodLink R_Mod 223 y_Mod_isPlace, .instanceMethod y_Mod_isPlace, .selects R_Mod y_Mod_isPlace y_Mod_isPlace, .constant R_Mod 227 (-1000000), .laysFinal R_Grc "GradientCoder" "coding" "LGradientCoder$Coding;", .laysFinal R_Grc "GradientCoder" "reading" "LGradientCoder$Reading;", .lays R_Pic "GradientCoder$Picture" "width" "I", .lays R_Pic "GradientCoder$Picture" "height" "I", .lays R_Pic "GradientCoder$Picture" "maxval" "I", .lays R_Pic "GradientCoder$Picture" "near" "I", .lays R_Pic "GradientCoder$Picture" "step" "I", .lays R_Pic "GradientCoder$Picture" "range" "I"]
def TS_9 : List Cond := [.lays R_Pic "GradientCoder$Picture" "qb" "I", .lays R_Pic "GradientCoder$Picture" "limit" "I", .lays R_Pic "GradientCoder$Picture" "t1" "I", .lays R_Pic "GradientCoder$Picture" "t2" "I", .lays R_Pic "GradientCoder$Picture" "t3" "I", .laysFinal R_Ctx "GradientCoder$Contexts" "a" "[I", .laysFinal R_Ctx "GradientCoder$Contexts" "b" "[I", .laysFinal R_Ctx "GradientCoder$Contexts" "c" "[I", .laysFinal R_Ctx "GradientCoder$Contexts" "n" "[I", .laysFinal R_Ctx "GradientCoder$Contexts" "m" "[I", .lays R_Ctx "GradientCoder$Contexts" "runIndex" "I", .laysFinal R_Cod "GradientCoder$Pass" "picture" "LGradientCoder$Picture;", .laysFinal R_Cod "GradientCoder$Pass" "contexts" "LGradientCoder$Contexts;", .laysFinal R_Cod "GradientCoder$Pass" "rebuilt" "[I", .lays R_Cod "GradientCoder$Pass" "a" "I", .lays R_Cod "GradientCoder$Pass" "b" "I", .lays R_Cod "GradientCoder$Pass" "c" "I", .lays R_Cod "GradientCoder$Pass" "d" "I", .lays R_Cod "GradientCoder$Pass" "sign" "I", .lays R_Cod "GradientCoder$Pass" "foretold" "I", .laysFinal R_Cod "GradientCoder$Coding" "samples" "[I", .laysFinal R_Cod "GradientCoder$Coding" "writer" "LGradientCoder$Writer;", .laysFinal R_Rdg "GradientCoder$Pass" "picture" "LGradientCoder$Picture;", .laysFinal R_Rdg "GradientCoder$Pass" "contexts" "LGradientCoder$Contexts;", .laysFinal R_Rdg "GradientCoder$Pass" "rebuilt" "[I", .lays R_Rdg "GradientCoder$Pass" "a" "I", .lays R_Rdg "GradientCoder$Pass" "b" "I", .lays R_Rdg "GradientCoder$Pass" "c" "I", .lays R_Rdg "GradientCoder$Pass" "d" "I", .lays R_Rdg "GradientCoder$Pass" "sign" "I", .lays R_Rdg "GradientCoder$Pass" "foretold" "I", .laysFinal R_Rdg "GradientCoder$Reading" "reader" "LGradientCoder$Reader;", .laysFinal R_Wri "GradientCoder$Writer" "bytes" "[I", .lays R_Wri "GradientCoder$Writer" "size" "I", .lays R_Wri "GradientCoder$Writer" "bitsFree" "I", .laysFinal R_Rea "GradientCoder$Reader" "bytes" "[I", .lays R_Rea "GradientCoder$Reader" "end" "I", .lays R_Rea "GradientCoder$Reader" "next" "I", .lays R_Rea "GradientCoder$Reader" "bitsLeft" "I", .lays R_Mod "GradientCoderModel" "thrown" "I", .lays R_Mod "GradientCoderModel" "width" "I", .lays R_Mod "GradientCoderModel" "height" "I", .lays R_Mod "GradientCoderModel" "maxval" "I", .lays R_Mod "GradientCoderModel" "near" "I", .lays R_Mod "GradientCoderModel" "step" "I", .lays R_Mod "GradientCoderModel" "range" "I", .lays R_Mod "GradientCoderModel" "qb" "I", .lays R_Mod "GradientCoderModel" "limit" "I", .lays R_Mod "GradientCoderModel" "t1" "I", .lays R_Mod "GradientCoderModel" "t2" "I", .lays R_Mod "GradientCoderModel" "t3" "I", .laysFinal R_Mod "GradientCoderModel" "sample" "[I", .laysFinal R_Mod "GradientCoderModel" "rebuilt" "[I", .laysFinal R_Mod "GradientCoderModel" "contexts" "[I", .lays R_Mod "GradientCoderModel" "runIndex" "I", .laysFinal R_Mod "GradientCoderModel" "code" "[I", .lays R_Mod "GradientCoderModel" "size" "I", .lays R_Mod "GradientCoderModel" "begun" "I", .lays R_Mod "GradientCoderModel" "bits" "I", .lays R_Mod "GradientCoderModel" "reading" "Z"]
def TS_10 : List Cond := [.lays R_Mod "GradientCoderModel" "at" "I", .lays R_Mod "GradientCoderModel" "now" "I", .lays R_Mod "GradientCoderModel" "left" "I", .lays R_Mod "GradientCoderModel" "good" "Z", .laysFinal R_Mod "GradientCoderModel" "oldSample" "[I", .laysFinal R_Mod "GradientCoderModel" "oldRebuilt" "[I", .laysFinal R_Mod "GradientCoderModel" "oldContexts" "[I"]
def TS : List Cond := TS_0 ++ (TS_1 ++ (TS_2 ++ (TS_3 ++ (TS_4 ++ (TS_5 ++ (TS_6 ++ (TS_7 ++ (TS_8 ++ (TS_9 ++ (TS_10))))))))))
theorem TS_0_in : ∀ w ∈ TS_0, w ∈ TS := fun w h => List.mem_append_left _ h
theorem TS_1_in : ∀ w ∈ TS_1, w ∈ TS := fun w h => List.mem_append_right _ (List.mem_append_left _ h)
theorem TS_2_in : ∀ w ∈ TS_2, w ∈ TS := fun w h => List.mem_append_right _ (List.mem_append_right _ (List.mem_append_left _ h))
theorem TS_3_in : ∀ w ∈ TS_3, w ∈ TS := fun w h => List.mem_append_right _ (List.mem_append_right _ (List.mem_append_right _ (List.mem_append_left _ h)))
theorem TS_4_in : ∀ w ∈ TS_4, w ∈ TS := fun w h => List.mem_append_right _ (List.mem_append_right _ (List.mem_append_right _ (List.mem_append_right _ (List.mem_append_left _ h))))
theorem TS_5_in : ∀ w ∈ TS_5, w ∈ TS := fun w h => List.mem_append_right _ (List.mem_append_right _ (List.mem_append_right _ (List.mem_append_right _ (List.mem_append_right _ (List.mem_append_left _ h)))))
theorem TS_6_in : ∀ w ∈ TS_6, w ∈ TS := fun w h => List.mem_append_right _ (List.mem_append_right _ (List.mem_append_right _ (List.mem_append_right _ (List.mem_append_right _ (List.mem_append_right _ (List.mem_append_left _ h))))))
theorem TS_7_in : ∀ w ∈ TS_7, w ∈ TS := fun w h => List.mem_append_right _ (List.mem_append_right _ (List.mem_append_right _ (List.mem_append_right _ (List.mem_append_right _ (List.mem_append_right _ (List.mem_append_right _ (List.mem_append_left _ h)))))))
theorem TS_8_in : ∀ w ∈ TS_8, w ∈ TS := fun w h => List.mem_append_right _ (List.mem_append_right _ (List.mem_append_right _ (List.mem_append_right _ (List.mem_append_right _ (List.mem_append_right _ (List.mem_append_right _ (List.mem_append_right _ (List.mem_append_left _ h))))))))
theorem TS_9_in : ∀ w ∈ TS_9, w ∈ TS := fun w h => List.mem_append_right _ (List.mem_append_right _ (List.mem_append_right _ (List.mem_append_right _ (List.mem_append_right _ (List.mem_append_right _ (List.mem_append_right _ (List.mem_append_right _ (List.mem_append_right _ (List.mem_append_left _ h)))))))))
theorem TS_10_in : ∀ w ∈ TS_10, w ∈ TS := fun w h => List.mem_append_right _ (List.mem_append_right _ (List.mem_append_right _ (List.mem_append_right _ (List.mem_append_right _ (List.mem_append_right _ (List.mem_append_right _ (List.mem_append_right _ (List.mem_append_right _ (List.mem_append_right _ (h))))))))))
theorem m_0 : .fieldLink R_Pic 20 "GradientCoder$Picture" "maxval" "I" ∈ TS := TS_0_in _ (List.mem_of_getElem? (i := 0) rfl)
theorem m_1 : .fieldLink R_Pic 23 "GradientCoder$Picture" "near" "I" ∈ TS := TS_0_in _ (List.mem_of_getElem? (i := 1) rfl)
theorem m_2 : .code y_Pic_clamp b_Pic_clamp 3 (some .int) ∈ TS := TS_0_in _ (List.mem_of_getElem? (i := 2) rfl)
theorem m_3 : .methodLink R_Pic 54 y_Pic_clamp ∈ TS := TS_0_in _ (List.mem_of_getElem? (i := 3) rfl)
theorem m_4 : .instanceMethod y_Pic_clamp ∈ TS := TS_0_in _ (List.mem_of_getElem? (i := 4) rfl)
theorem m_5 : .selects R_Pic y_Pic_clamp y_Pic_clamp ∈ TS := TS_0_in _ (List.mem_of_getElem? (i := 5) rfl)
theorem m_6 : .initialized R_Pic ∈ TS := TS_0_in _ (List.mem_of_getElem? (i := 6) rfl)
theorem m_7 : .fieldLink R_Pic 57 "GradientCoder$Picture" "t1" "I" ∈ TS := TS_0_in _ (List.mem_of_getElem? (i := 7) rfl)
theorem m_8 : .fieldLink R_Pic 60 "GradientCoder$Picture" "t2" "I" ∈ TS := TS_0_in _ (List.mem_of_getElem? (i := 8) rfl)
theorem m_9 : .fieldLink R_Pic 63 "GradientCoder$Picture" "t3" "I" ∈ TS := TS_0_in _ (List.mem_of_getElem? (i := 9) rfl)
theorem m_10 : .methodLink R_Pic 39 Lib.Math.max.name ∈ TS := TS_0_in _ (List.mem_of_getElem? (i := 10) rfl)
theorem m_11 : .static Lib.Math.max.name ∈ TS := TS_0_in _ (List.mem_of_getElem? (i := 11) rfl)
theorem m_12 : .initialized "java/lang/Math" ∈ TS := TS_0_in _ (List.mem_of_getElem? (i := 12) rfl)
theorem m_13 : .code Lib.Math.max.name Lib.Math.max.code 2 (some .int) ∈ TS := TS_0_in _ (List.mem_of_getElem? (i := 13) rfl)
theorem m_14 : .fieldLink R_Pic 13 "GradientCoder$Picture" "width" "I" ∈ TS := TS_0_in _ (List.mem_of_getElem? (i := 14) rfl)
theorem m_15 : .fieldLink R_Pic 17 "GradientCoder$Picture" "height" "I" ∈ TS := TS_0_in _ (List.mem_of_getElem? (i := 15) rfl)
theorem m_16 : .fieldLink R_Pic 26 "GradientCoder$Picture" "step" "I" ∈ TS := TS_0_in _ (List.mem_of_getElem? (i := 16) rfl)
theorem m_17 : .fieldLink R_Pic 29 "GradientCoder$Picture" "range" "I" ∈ TS := TS_0_in _ (List.mem_of_getElem? (i := 17) rfl)
theorem m_18 : .code y_Pic_leastPower b_Pic_leastPower 3 (some .int) ∈ TS := TS_0_in _ (List.mem_of_getElem? (i := 18) rfl)
theorem m_19 : .methodLink R_Pic 32 y_Pic_leastPower ∈ TS := TS_0_in _ (List.mem_of_getElem? (i := 19) rfl)
theorem m_20 : .static y_Pic_leastPower ∈ TS := TS_0_in _ (List.mem_of_getElem? (i := 20) rfl)
theorem m_21 : .fieldLink R_Pic 36 "GradientCoder$Picture" "qb" "I" ∈ TS := TS_0_in _ (List.mem_of_getElem? (i := 21) rfl)
theorem m_22 : .fieldLink R_Pic 44 "GradientCoder$Picture" "limit" "I" ∈ TS := TS_0_in _ (List.mem_of_getElem? (i := 22) rfl)
theorem m_23 : .code y_Pic_becomeCoarse b_Pic_becomeCoarse 2 none ∈ TS := TS_0_in _ (List.mem_of_getElem? (i := 23) rfl)
theorem m_24 : .methodLink R_Pic 51 y_Pic_becomeCoarse ∈ TS := TS_0_in _ (List.mem_of_getElem? (i := 24) rfl)
theorem m_25 : .instanceMethod y_Pic_becomeCoarse ∈ TS := TS_0_in _ (List.mem_of_getElem? (i := 25) rfl)
theorem m_26 : .selects R_Pic y_Pic_becomeCoarse y_Pic_becomeCoarse ∈ TS := TS_0_in _ (List.mem_of_getElem? (i := 26) rfl)
theorem m_27 : .code y_Pic_becomeFine b_Pic_becomeFine 2 none ∈ TS := TS_0_in _ (List.mem_of_getElem? (i := 27) rfl)
theorem m_28 : .methodLink R_Pic 47 y_Pic_becomeFine ∈ TS := TS_0_in _ (List.mem_of_getElem? (i := 28) rfl)
theorem m_29 : .instanceMethod y_Pic_becomeFine ∈ TS := TS_0_in _ (List.mem_of_getElem? (i := 29) rfl)
theorem m_30 : .selects R_Pic y_Pic_becomeFine y_Pic_becomeFine ∈ TS := TS_0_in _ (List.mem_of_getElem? (i := 30) rfl)
theorem m_31 : .methodLink R_Pic 66 Lib.Math.min.name ∈ TS := TS_0_in _ (List.mem_of_getElem? (i := 31) rfl)
theorem m_32 : .static Lib.Math.min.name ∈ TS := TS_0_in _ (List.mem_of_getElem? (i := 32) rfl)
theorem m_33 : .code Lib.Math.min.name Lib.Math.min.code 2 (some .int) ∈ TS := TS_0_in _ (List.mem_of_getElem? (i := 33) rfl)
theorem m_34 : .methodLink R_Fol 7 Lib.Math.abs.name ∈ TS := TS_0_in _ (List.mem_of_getElem? (i := 34) rfl)
theorem m_35 : .static Lib.Math.abs.name ∈ TS := TS_0_in _ (List.mem_of_getElem? (i := 35) rfl)
theorem m_36 : .code Lib.Math.abs.name Lib.Math.abs.code 1 (some .int) ∈ TS := TS_0_in _ (List.mem_of_getElem? (i := 36) rfl)
theorem m_37 : .fieldLink R_Ctx 47 "GradientCoder$Contexts" "J" "[I" ∈ TS := TS_0_in _ (List.mem_of_getElem? (i := 37) rfl)
theorem m_38 : .fieldLink R_Ctx 37 "GradientCoder$Contexts" "runIndex" "I" ∈ TS := TS_0_in _ (List.mem_of_getElem? (i := 38) rfl)
theorem m_39 : .fieldLink R_Ctx 19 "GradientCoder$Contexts" "n" "[I" ∈ TS := TS_0_in _ (List.mem_of_getElem? (i := 39) rfl)
theorem m_40 : .fieldLink R_Ctx 9 "GradientCoder$Contexts" "a" "[I" ∈ TS := TS_0_in _ (List.mem_of_getElem? (i := 40) rfl)
theorem m_41 : .code y_Ctx_leastK b_Ctx_leastK 4 (some .int) ∈ TS := TS_0_in _ (List.mem_of_getElem? (i := 41) rfl)
theorem m_42 : .methodLink R_Ctx 50 y_Ctx_leastK ∈ TS := TS_0_in _ (List.mem_of_getElem? (i := 42) rfl)
theorem m_43 : .instanceMethod y_Ctx_leastK ∈ TS := TS_0_in _ (List.mem_of_getElem? (i := 43) rfl)
theorem m_44 : .selects R_Ctx y_Ctx_leastK y_Ctx_leastK ∈ TS := TS_0_in _ (List.mem_of_getElem? (i := 44) rfl)
theorem m_45 : .initialized R_Ctx ∈ TS := TS_0_in _ (List.mem_of_getElem? (i := 45) rfl)
theorem m_46 : .fieldLink R_Ctx 13 "GradientCoder$Contexts" "b" "[I" ∈ TS := TS_0_in _ (List.mem_of_getElem? (i := 46) rfl)
theorem m_47 : .fieldLink R_Ctx 22 "GradientCoder$Contexts" "m" "[I" ∈ TS := TS_0_in _ (List.mem_of_getElem? (i := 47) rfl)
theorem m_48 : .methodLink R_Ctx 25 Lib.Math.max.name ∈ TS := TS_0_in _ (List.mem_of_getElem? (i := 48) rfl)
theorem m_49 : .fieldLink R_Ctx 16 "GradientCoder$Contexts" "c" "[I" ∈ TS := TS_0_in _ (List.mem_of_getElem? (i := 49) rfl)
theorem m_50 : .methodLink R_Ctx 64 Lib.Math.min.name ∈ TS := TS_0_in _ (List.mem_of_getElem? (i := 50) rfl)
theorem m_51 : .code y_Ctx_correctUp b_Ctx_correctUp 2 none ∈ TS := TS_0_in _ (List.mem_of_getElem? (i := 51) rfl)
theorem m_52 : .methodLink R_Ctx 61 y_Ctx_correctUp ∈ TS := TS_0_in _ (List.mem_of_getElem? (i := 52) rfl)
theorem m_53 : .instanceMethod y_Ctx_correctUp ∈ TS := TS_0_in _ (List.mem_of_getElem? (i := 53) rfl)
theorem m_54 : .selects R_Ctx y_Ctx_correctUp y_Ctx_correctUp ∈ TS := TS_0_in _ (List.mem_of_getElem? (i := 54) rfl)
theorem m_55 : .code y_Ctx_correctDown b_Ctx_correctDown 2 none ∈ TS := TS_0_in _ (List.mem_of_getElem? (i := 55) rfl)
theorem m_56 : .methodLink R_Ctx 57 y_Ctx_correctDown ∈ TS := TS_0_in _ (List.mem_of_getElem? (i := 56) rfl)
theorem m_57 : .instanceMethod y_Ctx_correctDown ∈ TS := TS_0_in _ (List.mem_of_getElem? (i := 57) rfl)
theorem m_58 : .selects R_Ctx y_Ctx_correctDown y_Ctx_correctDown ∈ TS := TS_0_in _ (List.mem_of_getElem? (i := 58) rfl)
theorem m_59 : .methodLink R_Ctx 53 Lib.Math.abs.name ∈ TS := TS_0_in _ (List.mem_of_getElem? (i := 59) rfl)
theorem m_60 : .code y_Arrs_fill_102 b_Arrs_fill_102 4 none ∈ TS := TS_1_in _ (List.mem_of_getElem? (i := 0) rfl)
theorem m_61 : .methodLink R_Ctx 31 y_Arrs_fill_102 ∈ TS := TS_1_in _ (List.mem_of_getElem? (i := 1) rfl)
theorem m_62 : .static y_Arrs_fill_102 ∈ TS := TS_1_in _ (List.mem_of_getElem? (i := 2) rfl)
theorem m_63 : .initialized R_Arrs ∈ TS := TS_1_in _ (List.mem_of_getElem? (i := 3) rfl)
theorem m_64 : .methodLink R_Ctx 41 arraycopyName ∈ TS := TS_1_in _ (List.mem_of_getElem? (i := 4) rfl)
theorem m_65 : .native arraycopyName ∈ TS := TS_1_in _ (List.mem_of_getElem? (i := 5) rfl)
theorem m_66 : .static arraycopyName ∈ TS := TS_1_in _ (List.mem_of_getElem? (i := 6) rfl)
theorem m_67 : .initialized "java/lang/System" ∈ TS := TS_1_in _ (List.mem_of_getElem? (i := 7) rfl)
theorem m_68 : .fieldLink R_Wri 13 "GradientCoder$Writer" "size" "I" ∈ TS := TS_1_in _ (List.mem_of_getElem? (i := 8) rfl)
theorem m_69 : .fieldLink R_Wri 17 "GradientCoder$Writer" "bitsFree" "I" ∈ TS := TS_1_in _ (List.mem_of_getElem? (i := 9) rfl)
theorem m_70 : .fieldLink R_Wri 9 "GradientCoder$Writer" "bytes" "[I" ∈ TS := TS_1_in _ (List.mem_of_getElem? (i := 10) rfl)
theorem m_71 : .code y_Wri_writeByte b_Wri_writeByte 2 none ∈ TS := TS_1_in _ (List.mem_of_getElem? (i := 11) rfl)
theorem m_72 : .methodLink R_Wri 24 y_Wri_writeByte ∈ TS := TS_1_in _ (List.mem_of_getElem? (i := 12) rfl)
theorem m_73 : .instanceMethod y_Wri_writeByte ∈ TS := TS_1_in _ (List.mem_of_getElem? (i := 13) rfl)
theorem m_74 : .selects R_Wri y_Wri_writeByte y_Wri_writeByte ∈ TS := TS_1_in _ (List.mem_of_getElem? (i := 14) rfl)
theorem m_75 : .initialized R_Wri ∈ TS := TS_1_in _ (List.mem_of_getElem? (i := 15) rfl)
theorem m_76 : .code y_Wri_endsWith255 b_Wri_endsWith255 1 (some .boolean) ∈ TS := TS_1_in _ (List.mem_of_getElem? (i := 16) rfl)
theorem m_77 : .methodLink R_Wri 20 y_Wri_endsWith255 ∈ TS := TS_1_in _ (List.mem_of_getElem? (i := 17) rfl)
theorem m_78 : .instanceMethod y_Wri_endsWith255 ∈ TS := TS_1_in _ (List.mem_of_getElem? (i := 18) rfl)
theorem m_79 : .selects R_Wri y_Wri_endsWith255 y_Wri_endsWith255 ∈ TS := TS_1_in _ (List.mem_of_getElem? (i := 19) rfl)
theorem m_80 : .code y_Wri_writeBits b_Wri_writeBits 4 none ∈ TS := TS_1_in _ (List.mem_of_getElem? (i := 20) rfl)
theorem m_81 : .methodLink R_Wri 28 y_Wri_writeBits ∈ TS := TS_1_in _ (List.mem_of_getElem? (i := 21) rfl)
theorem m_82 : .instanceMethod y_Wri_writeBits ∈ TS := TS_1_in _ (List.mem_of_getElem? (i := 22) rfl)
theorem m_83 : .selects R_Wri y_Wri_writeBits y_Wri_writeBits ∈ TS := TS_1_in _ (List.mem_of_getElem? (i := 23) rfl)
theorem m_84 : .fieldLink R_Pas 23 "GradientCoder$Pass" "rebuilt" "[I" ∈ TS := TS_1_in _ (List.mem_of_getElem? (i := 24) rfl)
theorem m_85 : .code y_Pic_place b_Pic_place 2 (some .int) ∈ TS := TS_1_in _ (List.mem_of_getElem? (i := 25) rfl)
theorem m_86 : .methodLink R_Pas 41 y_Pic_place ∈ TS := TS_1_in _ (List.mem_of_getElem? (i := 26) rfl)
theorem m_87 : .static y_Pic_place ∈ TS := TS_1_in _ (List.mem_of_getElem? (i := 27) rfl)
theorem m_88 : .fieldLink R_Pas 74 "GradientCoder$Pass" "d" "I" ∈ TS := TS_1_in _ (List.mem_of_getElem? (i := 28) rfl)
theorem m_89 : .fieldLink R_Pas 71 "GradientCoder$Pass" "c" "I" ∈ TS := TS_1_in _ (List.mem_of_getElem? (i := 29) rfl)
theorem m_90 : .fieldLink R_Pas 10 "GradientCoder$Pass" "picture" "LGradientCoder$Picture;" ∈ TS := TS_1_in _ (List.mem_of_getElem? (i := 30) rfl)
theorem m_91 : .fieldLink R_Pas 38 "GradientCoder$Picture" "width" "I" ∈ TS := TS_1_in _ (List.mem_of_getElem? (i := 31) rfl)
theorem m_92 : .fieldLink R_Pas 68 "GradientCoder$Pass" "b" "I" ∈ TS := TS_1_in _ (List.mem_of_getElem? (i := 32) rfl)
theorem m_93 : .code y_Pas_rebuiltOrNothing b_Pas_rebuiltOrNothing 3 (some .int) ∈ TS := TS_1_in _ (List.mem_of_getElem? (i := 33) rfl)
theorem m_94 : .methodLink R_Pas 65 y_Pas_rebuiltOrNothing ∈ TS := TS_1_in _ (List.mem_of_getElem? (i := 34) rfl)
theorem m_95 : .sameMethod R_Pas R_Pas "rebuiltOrNothing" "(II)I" ∈ TS := TS_1_in _ (List.mem_of_getElem? (i := 35) rfl)
theorem m_96 : .selects R_Cod y_Pas_rebuiltOrNothing y_Pas_rebuiltOrNothing ∈ TS := TS_1_in _ (List.mem_of_getElem? (i := 36) rfl)
theorem m_97 : .instanceMethod y_Pas_rebuiltOrNothing ∈ TS := TS_1_in _ (List.mem_of_getElem? (i := 37) rfl)
theorem m_98 : .initialized R_Pas ∈ TS := TS_1_in _ (List.mem_of_getElem? (i := 38) rfl)
theorem m_99 : .fieldLink R_Pas 59 "GradientCoder$Pass" "a" "I" ∈ TS := TS_1_in _ (List.mem_of_getElem? (i := 39) rfl)
theorem m_100 : .code y_Pic_isNear b_Pic_isNear 2 (some .boolean) ∈ TS := TS_1_in _ (List.mem_of_getElem? (i := 40) rfl)
theorem m_101 : .methodLink R_Pas 77 y_Pic_isNear ∈ TS := TS_1_in _ (List.mem_of_getElem? (i := 41) rfl)
theorem m_102 : .instanceMethod y_Pic_isNear ∈ TS := TS_1_in _ (List.mem_of_getElem? (i := 42) rfl)
theorem m_103 : .selects R_Pic y_Pic_isNear y_Pic_isNear ∈ TS := TS_1_in _ (List.mem_of_getElem? (i := 43) rfl)
theorem m_104 : .code y_Pic_level b_Pic_level 2 (some .int) ∈ TS := TS_1_in _ (List.mem_of_getElem? (i := 44) rfl)
theorem m_105 : .methodLink R_Pas 125 y_Pic_level ∈ TS := TS_1_in _ (List.mem_of_getElem? (i := 45) rfl)
theorem m_106 : .instanceMethod y_Pic_level ∈ TS := TS_1_in _ (List.mem_of_getElem? (i := 46) rfl)
theorem m_107 : .selects R_Pic y_Pic_level y_Pic_level ∈ TS := TS_1_in _ (List.mem_of_getElem? (i := 47) rfl)
theorem m_108 : .methodLink R_Pas 128 Lib.Math.min.name ∈ TS := TS_1_in _ (List.mem_of_getElem? (i := 48) rfl)
theorem m_109 : .methodLink R_Pas 131 Lib.Math.max.name ∈ TS := TS_1_in _ (List.mem_of_getElem? (i := 49) rfl)
theorem m_110 : .fieldLink R_Pas 155 "GradientCoder$Picture" "limit" "I" ∈ TS := TS_1_in _ (List.mem_of_getElem? (i := 50) rfl)
theorem m_111 : .fieldLink R_Pas 19 "GradientCoder$Pass" "contexts" "LGradientCoder$Contexts;" ∈ TS := TS_1_in _ (List.mem_of_getElem? (i := 51) rfl)
theorem m_112 : .code y_Ctx_j b_Ctx_j 1 (some .int) ∈ TS := TS_1_in _ (List.mem_of_getElem? (i := 52) rfl)
theorem m_113 : .methodLink R_Pas 158 y_Ctx_j ∈ TS := TS_1_in _ (List.mem_of_getElem? (i := 53) rfl)
theorem m_114 : .instanceMethod y_Ctx_j ∈ TS := TS_1_in _ (List.mem_of_getElem? (i := 54) rfl)
theorem m_115 : .selects R_Ctx y_Ctx_j y_Ctx_j ∈ TS := TS_1_in _ (List.mem_of_getElem? (i := 55) rfl)
theorem m_116 : .fieldLink R_Cod 26 "GradientCoder$Coding" "picture" "LGradientCoder$Picture;" ∈ TS := TS_1_in _ (List.mem_of_getElem? (i := 56) rfl)
theorem m_117 : .sameField "GradientCoder$Coding" "GradientCoder$Pass" "picture" "LGradientCoder$Picture;" ∈ TS := TS_1_in _ (List.mem_of_getElem? (i := 57) rfl)
theorem m_118 : .fieldLink R_Cod 140 "GradientCoder$Coding" "sign" "I" ∈ TS := TS_1_in _ (List.mem_of_getElem? (i := 58) rfl)
theorem m_119 : .sameField "GradientCoder$Coding" "GradientCoder$Pass" "sign" "I" ∈ TS := TS_1_in _ (List.mem_of_getElem? (i := 59) rfl)
theorem m_120 : .fieldLink R_Cod 9 "GradientCoder$Coding" "samples" "[I" ∈ TS := TS_2_in _ (List.mem_of_getElem? (i := 0) rfl)
theorem m_121 : .fieldLink R_Cod 143 "GradientCoder$Coding" "foretold" "I" ∈ TS := TS_2_in _ (List.mem_of_getElem? (i := 1) rfl)
theorem m_122 : .sameField "GradientCoder$Coding" "GradientCoder$Pass" "foretold" "I" ∈ TS := TS_2_in _ (List.mem_of_getElem? (i := 2) rfl)
theorem m_123 : .code y_Pic_divided b_Pic_divided 2 (some .int) ∈ TS := TS_2_in _ (List.mem_of_getElem? (i := 3) rfl)
theorem m_124 : .methodLink R_Cod 146 y_Pic_divided ∈ TS := TS_2_in _ (List.mem_of_getElem? (i := 4) rfl)
theorem m_125 : .instanceMethod y_Pic_divided ∈ TS := TS_2_in _ (List.mem_of_getElem? (i := 5) rfl)
theorem m_126 : .selects R_Pic y_Pic_divided y_Pic_divided ∈ TS := TS_2_in _ (List.mem_of_getElem? (i := 6) rfl)
theorem m_127 : .fieldLink R_Cod 50 "GradientCoder$Coding" "rebuilt" "[I" ∈ TS := TS_2_in _ (List.mem_of_getElem? (i := 7) rfl)
theorem m_128 : .sameField "GradientCoder$Coding" "GradientCoder$Pass" "rebuilt" "[I" ∈ TS := TS_2_in _ (List.mem_of_getElem? (i := 8) rfl)
theorem m_129 : .fieldLink R_Cod 149 "GradientCoder$Picture" "step" "I" ∈ TS := TS_2_in _ (List.mem_of_getElem? (i := 9) rfl)
theorem m_130 : .code y_Pic_bounded b_Pic_bounded 2 (some .int) ∈ TS := TS_2_in _ (List.mem_of_getElem? (i := 10) rfl)
theorem m_131 : .methodLink R_Cod 152 y_Pic_bounded ∈ TS := TS_2_in _ (List.mem_of_getElem? (i := 11) rfl)
theorem m_132 : .instanceMethod y_Pic_bounded ∈ TS := TS_2_in _ (List.mem_of_getElem? (i := 12) rfl)
theorem m_133 : .selects R_Pic y_Pic_bounded y_Pic_bounded ∈ TS := TS_2_in _ (List.mem_of_getElem? (i := 13) rfl)
theorem m_134 : .code y_Pic_reduced b_Pic_reduced 3 (some .int) ∈ TS := TS_2_in _ (List.mem_of_getElem? (i := 14) rfl)
theorem m_135 : .methodLink R_Cod 155 y_Pic_reduced ∈ TS := TS_2_in _ (List.mem_of_getElem? (i := 15) rfl)
theorem m_136 : .instanceMethod y_Pic_reduced ∈ TS := TS_2_in _ (List.mem_of_getElem? (i := 16) rfl)
theorem m_137 : .selects R_Pic y_Pic_reduced y_Pic_reduced ∈ TS := TS_2_in _ (List.mem_of_getElem? (i := 17) rfl)
theorem m_138 : .fieldLink R_Cod 22 "GradientCoder$Coding" "contexts" "LGradientCoder$Contexts;" ∈ TS := TS_2_in _ (List.mem_of_getElem? (i := 18) rfl)
theorem m_139 : .sameField "GradientCoder$Coding" "GradientCoder$Pass" "contexts" "LGradientCoder$Contexts;" ∈ TS := TS_2_in _ (List.mem_of_getElem? (i := 19) rfl)
theorem m_140 : .methodLink R_Cod 103 y_Ctx_j ∈ TS := TS_2_in _ (List.mem_of_getElem? (i := 20) rfl)
theorem m_141 : .fieldLink R_Cod 18 "GradientCoder$Coding" "writer" "LGradientCoder$Writer;" ∈ TS := TS_2_in _ (List.mem_of_getElem? (i := 21) rfl)
theorem m_142 : .methodLink R_Cod 107 y_Wri_writeBits ∈ TS := TS_2_in _ (List.mem_of_getElem? (i := 22) rfl)
theorem m_143 : .code y_Ctx_raiseRunIndex b_Ctx_raiseRunIndex 1 none ∈ TS := TS_2_in _ (List.mem_of_getElem? (i := 23) rfl)
theorem m_144 : .methodLink R_Cod 111 y_Ctx_raiseRunIndex ∈ TS := TS_2_in _ (List.mem_of_getElem? (i := 24) rfl)
theorem m_145 : .instanceMethod y_Ctx_raiseRunIndex ∈ TS := TS_2_in _ (List.mem_of_getElem? (i := 25) rfl)
theorem m_146 : .selects R_Ctx y_Ctx_raiseRunIndex y_Ctx_raiseRunIndex ∈ TS := TS_2_in _ (List.mem_of_getElem? (i := 26) rfl)
theorem m_147 : .fieldLink R_Cod 96 "GradientCoder$Coding" "a" "I" ∈ TS := TS_2_in _ (List.mem_of_getElem? (i := 27) rfl)
theorem m_148 : .sameField "GradientCoder$Coding" "GradientCoder$Pass" "a" "I" ∈ TS := TS_2_in _ (List.mem_of_getElem? (i := 28) rfl)
theorem m_149 : .methodLink R_Cod 99 y_Pic_isNear ∈ TS := TS_2_in _ (List.mem_of_getElem? (i := 29) rfl)
theorem m_150 : .code y_Cod_takeError b_Cod_takeError 3 (some .int) ∈ TS := TS_2_in _ (List.mem_of_getElem? (i := 30) rfl)
theorem m_151 : .methodLink R_Cod 114 y_Cod_takeError ∈ TS := TS_2_in _ (List.mem_of_getElem? (i := 31) rfl)
theorem m_152 : .instanceMethod y_Cod_takeError ∈ TS := TS_2_in _ (List.mem_of_getElem? (i := 32) rfl)
theorem m_153 : .selects R_Cod y_Cod_takeError y_Cod_takeError ∈ TS := TS_2_in _ (List.mem_of_getElem? (i := 33) rfl)
theorem m_154 : .initialized R_Cod ∈ TS := TS_2_in _ (List.mem_of_getElem? (i := 34) rfl)
theorem m_155 : .code y_Fol_foldRegular b_Fol_foldRegular 2 (some .int) ∈ TS := TS_2_in _ (List.mem_of_getElem? (i := 35) rfl)
theorem m_156 : .methodLink R_Cod 118 y_Fol_foldRegular ∈ TS := TS_2_in _ (List.mem_of_getElem? (i := 36) rfl)
theorem m_157 : .static y_Fol_foldRegular ∈ TS := TS_2_in _ (List.mem_of_getElem? (i := 37) rfl)
theorem m_158 : .initialized R_Fol ∈ TS := TS_2_in _ (List.mem_of_getElem? (i := 38) rfl)
theorem m_159 : .fieldLink R_Cod 124 "GradientCoder$Picture" "limit" "I" ∈ TS := TS_2_in _ (List.mem_of_getElem? (i := 39) rfl)
theorem m_160 : .fieldLink R_Cod 127 "GradientCoder$Picture" "qb" "I" ∈ TS := TS_2_in _ (List.mem_of_getElem? (i := 40) rfl)
theorem m_161 : .code y_Wri_writeNumber b_Wri_writeNumber 6 none ∈ TS := TS_2_in _ (List.mem_of_getElem? (i := 41) rfl)
theorem m_162 : .methodLink R_Cod 130 y_Wri_writeNumber ∈ TS := TS_2_in _ (List.mem_of_getElem? (i := 42) rfl)
theorem m_163 : .instanceMethod y_Wri_writeNumber ∈ TS := TS_2_in _ (List.mem_of_getElem? (i := 43) rfl)
theorem m_164 : .selects R_Wri y_Wri_writeNumber y_Wri_writeNumber ∈ TS := TS_2_in _ (List.mem_of_getElem? (i := 44) rfl)
theorem m_165 : .code y_Fol_foldEnd b_Fol_foldEnd 4 (some .int) ∈ TS := TS_2_in _ (List.mem_of_getElem? (i := 45) rfl)
theorem m_166 : .methodLink R_Cod 133 y_Fol_foldEnd ∈ TS := TS_2_in _ (List.mem_of_getElem? (i := 46) rfl)
theorem m_167 : .static y_Fol_foldEnd ∈ TS := TS_2_in _ (List.mem_of_getElem? (i := 47) rfl)
theorem m_168 : .code y_Pas_limitOfEnd b_Pas_limitOfEnd 1 (some .int) ∈ TS := TS_2_in _ (List.mem_of_getElem? (i := 48) rfl)
theorem m_169 : .methodLink R_Cod 137 y_Cod_limitOfEnd ∈ TS := TS_2_in _ (List.mem_of_getElem? (i := 49) rfl)
theorem m_170 : .sameMethod R_Cod R_Pas "limitOfEnd" "()I" ∈ TS := TS_2_in _ (List.mem_of_getElem? (i := 50) rfl)
theorem m_171 : .selects R_Cod y_Cod_limitOfEnd y_Pas_limitOfEnd ∈ TS := TS_2_in _ (List.mem_of_getElem? (i := 51) rfl)
theorem m_172 : .instanceMethod y_Pas_limitOfEnd ∈ TS := TS_2_in _ (List.mem_of_getElem? (i := 52) rfl)
theorem m_173 : .code y_Cod_carryRegular b_Cod_carryRegular 5 (some .int) ∈ TS := TS_2_in _ (List.mem_of_getElem? (i := 53) rfl)
theorem m_174 : .methodLink R_Pas 114 y_Pas_carryRegular ∈ TS := TS_2_in _ (List.mem_of_getElem? (i := 54) rfl)
theorem m_175 : .sameMethod R_Pas R_Pas "carryRegular" "(IIZ)I" ∈ TS := TS_2_in _ (List.mem_of_getElem? (i := 55) rfl)
theorem m_176 : .selects R_Cod y_Pas_carryRegular y_Cod_carryRegular ∈ TS := TS_2_in _ (List.mem_of_getElem? (i := 56) rfl)
theorem m_177 : .instanceMethod y_Cod_carryRegular ∈ TS := TS_2_in _ (List.mem_of_getElem? (i := 57) rfl)
theorem m_178 : .fieldLink R_Pas 118 "GradientCoder$Picture" "step" "I" ∈ TS := TS_2_in _ (List.mem_of_getElem? (i := 58) rfl)
theorem m_179 : .code y_Ctx_learnRegular b_Ctx_learnRegular 4 none ∈ TS := TS_2_in _ (List.mem_of_getElem? (i := 59) rfl)
theorem m_180 : .methodLink R_Pas 121 y_Ctx_learnRegular ∈ TS := TS_3_in _ (List.mem_of_getElem? (i := 0) rfl)
theorem m_181 : .instanceMethod y_Ctx_learnRegular ∈ TS := TS_3_in _ (List.mem_of_getElem? (i := 1) rfl)
theorem m_182 : .selects R_Ctx y_Ctx_learnRegular y_Ctx_learnRegular ∈ TS := TS_3_in _ (List.mem_of_getElem? (i := 2) rfl)
theorem m_183 : .fieldLink R_Pas 85 "GradientCoder$Pass" "sign" "I" ∈ TS := TS_3_in _ (List.mem_of_getElem? (i := 3) rfl)
theorem m_184 : .methodLink R_Pas 88 Lib.Math.abs.name ∈ TS := TS_3_in _ (List.mem_of_getElem? (i := 4) rfl)
theorem m_185 : .code y_Pas_foretoldByNeighbours b_Pas_foretoldByNeighbours 3 (some .int) ∈ TS := TS_3_in _ (List.mem_of_getElem? (i := 5) rfl)
theorem m_186 : .methodLink R_Pas 94 y_Pas_foretoldByNeighbours ∈ TS := TS_3_in _ (List.mem_of_getElem? (i := 6) rfl)
theorem m_187 : .sameMethod R_Pas R_Pas "foretoldByNeighbours" "()I" ∈ TS := TS_3_in _ (List.mem_of_getElem? (i := 7) rfl)
theorem m_188 : .selects R_Cod y_Pas_foretoldByNeighbours y_Pas_foretoldByNeighbours ∈ TS := TS_3_in _ (List.mem_of_getElem? (i := 8) rfl)
theorem m_189 : .instanceMethod y_Pas_foretoldByNeighbours ∈ TS := TS_3_in _ (List.mem_of_getElem? (i := 9) rfl)
theorem m_190 : .fieldLink R_Pas 97 "GradientCoder$Contexts" "c" "[I" ∈ TS := TS_3_in _ (List.mem_of_getElem? (i := 10) rfl)
theorem m_191 : .methodLink R_Pas 99 y_Pic_bounded ∈ TS := TS_3_in _ (List.mem_of_getElem? (i := 11) rfl)
theorem m_192 : .fieldLink R_Pas 102 "GradientCoder$Pass" "foretold" "I" ∈ TS := TS_3_in _ (List.mem_of_getElem? (i := 12) rfl)
theorem m_193 : .code y_Ctx_kOfRegular b_Ctx_kOfRegular 2 (some .int) ∈ TS := TS_3_in _ (List.mem_of_getElem? (i := 13) rfl)
theorem m_194 : .methodLink R_Pas 105 y_Ctx_kOfRegular ∈ TS := TS_3_in _ (List.mem_of_getElem? (i := 14) rfl)
theorem m_195 : .instanceMethod y_Ctx_kOfRegular ∈ TS := TS_3_in _ (List.mem_of_getElem? (i := 15) rfl)
theorem m_196 : .selects R_Ctx y_Ctx_kOfRegular y_Ctx_kOfRegular ∈ TS := TS_3_in _ (List.mem_of_getElem? (i := 16) rfl)
theorem m_197 : .fieldLink R_Pas 108 "GradientCoder$Picture" "near" "I" ∈ TS := TS_3_in _ (List.mem_of_getElem? (i := 17) rfl)
theorem m_198 : .code y_Ctx_leansDown b_Ctx_leansDown 2 (some .boolean) ∈ TS := TS_3_in _ (List.mem_of_getElem? (i := 18) rfl)
theorem m_199 : .methodLink R_Pas 111 y_Ctx_leansDown ∈ TS := TS_3_in _ (List.mem_of_getElem? (i := 19) rfl)
theorem m_200 : .instanceMethod y_Ctx_leansDown ∈ TS := TS_3_in _ (List.mem_of_getElem? (i := 20) rfl)
theorem m_201 : .selects R_Ctx y_Ctx_leansDown y_Ctx_leansDown ∈ TS := TS_3_in _ (List.mem_of_getElem? (i := 21) rfl)
theorem m_202 : .code y_Pas_signedContext b_Pas_signedContext 1 (some .int) ∈ TS := TS_3_in _ (List.mem_of_getElem? (i := 22) rfl)
theorem m_203 : .methodLink R_Pas 81 y_Pas_signedContext ∈ TS := TS_3_in _ (List.mem_of_getElem? (i := 23) rfl)
theorem m_204 : .sameMethod R_Pas R_Pas "signedContext" "()I" ∈ TS := TS_3_in _ (List.mem_of_getElem? (i := 24) rfl)
theorem m_205 : .selects R_Cod y_Pas_signedContext y_Pas_signedContext ∈ TS := TS_3_in _ (List.mem_of_getElem? (i := 25) rfl)
theorem m_206 : .instanceMethod y_Pas_signedContext ∈ TS := TS_3_in _ (List.mem_of_getElem? (i := 26) rfl)
theorem m_207 : .code y_Cod_carryEnd b_Cod_carryEnd 6 (some .int) ∈ TS := TS_3_in _ (List.mem_of_getElem? (i := 27) rfl)
theorem m_208 : .methodLink R_Pas 140 y_Pas_carryEnd ∈ TS := TS_3_in _ (List.mem_of_getElem? (i := 28) rfl)
theorem m_209 : .sameMethod R_Pas R_Pas "carryEnd" "(IIIZ)I" ∈ TS := TS_3_in _ (List.mem_of_getElem? (i := 29) rfl)
theorem m_210 : .selects R_Cod y_Pas_carryEnd y_Cod_carryEnd ∈ TS := TS_3_in _ (List.mem_of_getElem? (i := 30) rfl)
theorem m_211 : .instanceMethod y_Cod_carryEnd ∈ TS := TS_3_in _ (List.mem_of_getElem? (i := 31) rfl)
theorem m_212 : .methodLink R_Pas 144 y_Fol_foldEnd ∈ TS := TS_3_in _ (List.mem_of_getElem? (i := 32) rfl)
theorem m_213 : .code y_Ctx_learnEnd b_Ctx_learnEnd 4 none ∈ TS := TS_3_in _ (List.mem_of_getElem? (i := 33) rfl)
theorem m_214 : .methodLink R_Pas 149 y_Ctx_learnEnd ∈ TS := TS_3_in _ (List.mem_of_getElem? (i := 34) rfl)
theorem m_215 : .instanceMethod y_Ctx_learnEnd ∈ TS := TS_3_in _ (List.mem_of_getElem? (i := 35) rfl)
theorem m_216 : .selects R_Ctx y_Ctx_learnEnd y_Ctx_learnEnd ∈ TS := TS_3_in _ (List.mem_of_getElem? (i := 36) rfl)
theorem m_217 : .code y_Ctx_lowerRunIndex b_Ctx_lowerRunIndex 1 none ∈ TS := TS_3_in _ (List.mem_of_getElem? (i := 37) rfl)
theorem m_218 : .methodLink R_Pas 152 y_Ctx_lowerRunIndex ∈ TS := TS_3_in _ (List.mem_of_getElem? (i := 38) rfl)
theorem m_219 : .instanceMethod y_Ctx_lowerRunIndex ∈ TS := TS_3_in _ (List.mem_of_getElem? (i := 39) rfl)
theorem m_220 : .selects R_Ctx y_Ctx_lowerRunIndex y_Ctx_lowerRunIndex ∈ TS := TS_3_in _ (List.mem_of_getElem? (i := 40) rfl)
theorem m_221 : .code y_Ctx_kOfEnd b_Ctx_kOfEnd 2 (some .int) ∈ TS := TS_3_in _ (List.mem_of_getElem? (i := 41) rfl)
theorem m_222 : .methodLink R_Pas 134 y_Ctx_kOfEnd ∈ TS := TS_3_in _ (List.mem_of_getElem? (i := 42) rfl)
theorem m_223 : .instanceMethod y_Ctx_kOfEnd ∈ TS := TS_3_in _ (List.mem_of_getElem? (i := 43) rfl)
theorem m_224 : .selects R_Ctx y_Ctx_kOfEnd y_Ctx_kOfEnd ∈ TS := TS_3_in _ (List.mem_of_getElem? (i := 44) rfl)
theorem m_225 : .code y_Ctx_isMostlyBelow b_Ctx_isMostlyBelow 2 (some .boolean) ∈ TS := TS_3_in _ (List.mem_of_getElem? (i := 45) rfl)
theorem m_226 : .methodLink R_Pas 137 y_Ctx_isMostlyBelow ∈ TS := TS_3_in _ (List.mem_of_getElem? (i := 46) rfl)
theorem m_227 : .instanceMethod y_Ctx_isMostlyBelow ∈ TS := TS_3_in _ (List.mem_of_getElem? (i := 47) rfl)
theorem m_228 : .selects R_Ctx y_Ctx_isMostlyBelow y_Ctx_isMostlyBelow ∈ TS := TS_3_in _ (List.mem_of_getElem? (i := 48) rfl)
theorem m_229 : .code y_Pas_overEnd b_Pas_overEnd 7 none ∈ TS := TS_3_in _ (List.mem_of_getElem? (i := 49) rfl)
theorem m_230 : .methodLink R_Pas 62 y_Pas_overEnd ∈ TS := TS_3_in _ (List.mem_of_getElem? (i := 50) rfl)
theorem m_231 : .sameMethod R_Pas R_Pas "overEnd" "(I)V" ∈ TS := TS_3_in _ (List.mem_of_getElem? (i := 51) rfl)
theorem m_232 : .selects R_Cod y_Pas_overEnd y_Pas_overEnd ∈ TS := TS_3_in _ (List.mem_of_getElem? (i := 52) rfl)
theorem m_233 : .instanceMethod y_Pas_overEnd ∈ TS := TS_3_in _ (List.mem_of_getElem? (i := 53) rfl)
theorem m_234 : .code y_Pas_overRegular b_Pas_overRegular 7 none ∈ TS := TS_3_in _ (List.mem_of_getElem? (i := 54) rfl)
theorem m_235 : .methodLink R_Pas 56 y_Pas_overRegular ∈ TS := TS_3_in _ (List.mem_of_getElem? (i := 55) rfl)
theorem m_236 : .sameMethod R_Pas R_Pas "overRegular" "(I)V" ∈ TS := TS_3_in _ (List.mem_of_getElem? (i := 56) rfl)
theorem m_237 : .selects R_Cod y_Pas_overRegular y_Pas_overRegular ∈ TS := TS_3_in _ (List.mem_of_getElem? (i := 57) rfl)
theorem m_238 : .instanceMethod y_Pas_overRegular ∈ TS := TS_3_in _ (List.mem_of_getElem? (i := 58) rfl)
theorem m_239 : .code y_Pas_lookAround b_Pas_lookAround 3 none ∈ TS := TS_3_in _ (List.mem_of_getElem? (i := 59) rfl)
theorem m_240 : .methodLink R_Pas 45 y_Pas_lookAround ∈ TS := TS_4_in _ (List.mem_of_getElem? (i := 0) rfl)
theorem m_241 : .sameMethod R_Pas R_Pas "lookAround" "(II)V" ∈ TS := TS_4_in _ (List.mem_of_getElem? (i := 1) rfl)
theorem m_242 : .selects R_Cod y_Pas_lookAround y_Pas_lookAround ∈ TS := TS_4_in _ (List.mem_of_getElem? (i := 2) rfl)
theorem m_243 : .instanceMethod y_Pas_lookAround ∈ TS := TS_4_in _ (List.mem_of_getElem? (i := 3) rfl)
theorem m_244 : .code y_Pas_isEven b_Pas_isEven 1 (some .boolean) ∈ TS := TS_4_in _ (List.mem_of_getElem? (i := 4) rfl)
theorem m_245 : .methodLink R_Pas 49 y_Pas_isEven ∈ TS := TS_4_in _ (List.mem_of_getElem? (i := 5) rfl)
theorem m_246 : .sameMethod R_Pas R_Pas "isEven" "()Z" ∈ TS := TS_4_in _ (List.mem_of_getElem? (i := 6) rfl)
theorem m_247 : .selects R_Cod y_Pas_isEven y_Pas_isEven ∈ TS := TS_4_in _ (List.mem_of_getElem? (i := 7) rfl)
theorem m_248 : .instanceMethod y_Pas_isEven ∈ TS := TS_4_in _ (List.mem_of_getElem? (i := 8) rfl)
theorem m_249 : .code y_Cod_carryRun b_Cod_carryRun 5 (some .int) ∈ TS := TS_4_in _ (List.mem_of_getElem? (i := 9) rfl)
theorem m_250 : .methodLink R_Pas 53 y_Pas_carryRun ∈ TS := TS_4_in _ (List.mem_of_getElem? (i := 10) rfl)
theorem m_251 : .sameMethod R_Pas R_Pas "carryRun" "(II)I" ∈ TS := TS_4_in _ (List.mem_of_getElem? (i := 11) rfl)
theorem m_252 : .selects R_Cod y_Pas_carryRun y_Cod_carryRun ∈ TS := TS_4_in _ (List.mem_of_getElem? (i := 12) rfl)
theorem m_253 : .instanceMethod y_Cod_carryRun ∈ TS := TS_4_in _ (List.mem_of_getElem? (i := 13) rfl)
theorem m_254 : .fieldLink R_Pas 35 "GradientCoder$Picture" "height" "I" ∈ TS := TS_4_in _ (List.mem_of_getElem? (i := 14) rfl)
theorem m_255 : .fieldLink R_Pas 27 "GradientCoder$Picture" "range" "I" ∈ TS := TS_4_in _ (List.mem_of_getElem? (i := 15) rfl)
theorem m_256 : .code y_Ctx_restart b_Ctx_restart 2 none ∈ TS := TS_4_in _ (List.mem_of_getElem? (i := 16) rfl)
theorem m_257 : .methodLink R_Pas 31 y_Ctx_restart ∈ TS := TS_4_in _ (List.mem_of_getElem? (i := 17) rfl)
theorem m_258 : .instanceMethod y_Ctx_restart ∈ TS := TS_4_in _ (List.mem_of_getElem? (i := 18) rfl)
theorem m_259 : .selects R_Ctx y_Ctx_restart y_Ctx_restart ∈ TS := TS_4_in _ (List.mem_of_getElem? (i := 19) rfl)
theorem m_260 : .fieldLink R_Cod 56 "GradientCoder$Picture" "width" "I" ∈ TS := TS_4_in _ (List.mem_of_getElem? (i := 20) rfl)
theorem m_261 : .methodLink R_Cod 66 y_Pic_place ∈ TS := TS_4_in _ (List.mem_of_getElem? (i := 21) rfl)
theorem m_262 : .code y_Cod_sampleIn b_Cod_sampleIn 3 (some .int) ∈ TS := TS_4_in _ (List.mem_of_getElem? (i := 22) rfl)
theorem m_263 : .methodLink R_Cod 59 y_Cod_sampleIn ∈ TS := TS_4_in _ (List.mem_of_getElem? (i := 23) rfl)
theorem m_264 : .static y_Cod_sampleIn ∈ TS := TS_4_in _ (List.mem_of_getElem? (i := 24) rfl)
theorem m_265 : .fieldLink R_Cod 63 "GradientCoder$Picture" "maxval" "I" ∈ TS := TS_4_in _ (List.mem_of_getElem? (i := 25) rfl)
theorem m_266 : .code y_Wri_restart b_Wri_restart 1 none ∈ TS := TS_4_in _ (List.mem_of_getElem? (i := 26) rfl)
theorem m_267 : .methodLink R_Cod 91 y_Wri_restart ∈ TS := TS_4_in _ (List.mem_of_getElem? (i := 27) rfl)
theorem m_268 : .instanceMethod y_Wri_restart ∈ TS := TS_4_in _ (List.mem_of_getElem? (i := 28) rfl)
theorem m_269 : .selects R_Wri y_Wri_restart y_Wri_restart ∈ TS := TS_4_in _ (List.mem_of_getElem? (i := 29) rfl)
theorem m_270 : .methodLink R_Cod 93 y_Wri_writeByte ∈ TS := TS_4_in _ (List.mem_of_getElem? (i := 30) rfl)
theorem m_271 : .fieldLink R_Cod 73 "GradientCoder$Picture" "height" "I" ∈ TS := TS_4_in _ (List.mem_of_getElem? (i := 31) rfl)
theorem m_272 : .fieldLink R_Cod 76 "GradientCoder$Picture" "near" "I" ∈ TS := TS_4_in _ (List.mem_of_getElem? (i := 32) rfl)
theorem m_273 : .code y_Pic_become b_Pic_become 6 none ∈ TS := TS_4_in _ (List.mem_of_getElem? (i := 33) rfl)
theorem m_274 : .methodLink R_Cod 40 y_Pic_become ∈ TS := TS_4_in _ (List.mem_of_getElem? (i := 34) rfl)
theorem m_275 : .instanceMethod y_Pic_become ∈ TS := TS_4_in _ (List.mem_of_getElem? (i := 35) rfl)
theorem m_276 : .selects R_Pic y_Pic_become y_Pic_become ∈ TS := TS_4_in _ (List.mem_of_getElem? (i := 36) rfl)
theorem m_277 : .fieldLink R_Cod 30 "GradientCoder$Picture" "range" "I" ∈ TS := TS_4_in _ (List.mem_of_getElem? (i := 37) rfl)
theorem m_278 : .methodLink R_Cod 34 y_Ctx_restart ∈ TS := TS_4_in _ (List.mem_of_getElem? (i := 38) rfl)
theorem m_279 : .methodLink R_Cod 44 y_Arrs_fill_102 ∈ TS := TS_4_in _ (List.mem_of_getElem? (i := 39) rfl)
theorem m_280 : .fieldLink R_Cod 53 "GradientCoder$Writer" "size" "I" ∈ TS := TS_4_in _ (List.mem_of_getElem? (i := 40) rfl)
theorem m_281 : .fieldLink R_Cod 70 "GradientCoder$Reading" "picture" "LGradientCoder$Picture;" ∈ TS := TS_4_in _ (List.mem_of_getElem? (i := 41) rfl)
theorem m_282 : .sameField "GradientCoder$Reading" "GradientCoder$Pass" "picture" "LGradientCoder$Picture;" ∈ TS := TS_4_in _ (List.mem_of_getElem? (i := 42) rfl)
theorem m_283 : .fieldLink R_Cod 79 "GradientCoder$Reading" "contexts" "LGradientCoder$Contexts;" ∈ TS := TS_4_in _ (List.mem_of_getElem? (i := 43) rfl)
theorem m_284 : .sameField "GradientCoder$Reading" "GradientCoder$Pass" "contexts" "LGradientCoder$Contexts;" ∈ TS := TS_4_in _ (List.mem_of_getElem? (i := 44) rfl)
theorem m_285 : .code y_Ctx_takeOver b_Ctx_takeOver 2 none ∈ TS := TS_4_in _ (List.mem_of_getElem? (i := 45) rfl)
theorem m_286 : .methodLink R_Cod 80 y_Ctx_takeOver ∈ TS := TS_4_in _ (List.mem_of_getElem? (i := 46) rfl)
theorem m_287 : .instanceMethod y_Ctx_takeOver ∈ TS := TS_4_in _ (List.mem_of_getElem? (i := 47) rfl)
theorem m_288 : .selects R_Ctx y_Ctx_takeOver y_Ctx_takeOver ∈ TS := TS_4_in _ (List.mem_of_getElem? (i := 48) rfl)
theorem m_289 : .fieldLink R_Cod 84 "GradientCoder$Reading" "rebuilt" "[I" ∈ TS := TS_4_in _ (List.mem_of_getElem? (i := 49) rfl)
theorem m_290 : .sameField "GradientCoder$Reading" "GradientCoder$Pass" "rebuilt" "[I" ∈ TS := TS_4_in _ (List.mem_of_getElem? (i := 50) rfl)
theorem m_291 : .methodLink R_Cod 85 arraycopyName ∈ TS := TS_4_in _ (List.mem_of_getElem? (i := 51) rfl)
theorem m_292 : .fieldLink R_Grc 10 "GradientCoder" "coding" "LGradientCoder$Coding;" ∈ TS := TS_4_in _ (List.mem_of_getElem? (i := 52) rfl)
theorem m_293 : .fieldLink R_Grc 51 "GradientCoder$Coding" "writer" "LGradientCoder$Writer;" ∈ TS := TS_4_in _ (List.mem_of_getElem? (i := 53) rfl)
theorem m_294 : .fieldLink R_Grc 60 "GradientCoder$Writer" "size" "I" ∈ TS := TS_4_in _ (List.mem_of_getElem? (i := 54) rfl)
theorem m_295 : .code y_Pic_fits b_Pic_fits 4 (some .boolean) ∈ TS := TS_4_in _ (List.mem_of_getElem? (i := 55) rfl)
theorem m_296 : .methodLink R_Grc 23 y_Pic_fits ∈ TS := TS_4_in _ (List.mem_of_getElem? (i := 56) rfl)
theorem m_297 : .static y_Pic_fits ∈ TS := TS_4_in _ (List.mem_of_getElem? (i := 57) rfl)
theorem m_298 : .code y_Cod_beginPicture b_Cod_beginPicture 5 none ∈ TS := TS_4_in _ (List.mem_of_getElem? (i := 58) rfl)
theorem m_299 : .methodLink R_Grc 29 y_Cod_beginPicture ∈ TS := TS_4_in _ (List.mem_of_getElem? (i := 59) rfl)
theorem m_300 : .instanceMethod y_Cod_beginPicture ∈ TS := TS_5_in _ (List.mem_of_getElem? (i := 0) rfl)
theorem m_301 : .selects R_Cod y_Cod_beginPicture y_Cod_beginPicture ∈ TS := TS_5_in _ (List.mem_of_getElem? (i := 1) rfl)
theorem m_302 : .fieldLink R_Grc 33 "GradientCoder$Coding" "picture" "LGradientCoder$Picture;" ∈ TS := TS_5_in _ (List.mem_of_getElem? (i := 2) rfl)
theorem m_303 : .fieldLink R_Grc 37 "GradientCoder$Picture" "height" "I" ∈ TS := TS_5_in _ (List.mem_of_getElem? (i := 3) rfl)
theorem m_304 : .code y_Cod_takeRow b_Cod_takeRow 5 (some .boolean) ∈ TS := TS_5_in _ (List.mem_of_getElem? (i := 4) rfl)
theorem m_305 : .methodLink R_Grc 41 y_Cod_takeRow ∈ TS := TS_5_in _ (List.mem_of_getElem? (i := 5) rfl)
theorem m_306 : .instanceMethod y_Cod_takeRow ∈ TS := TS_5_in _ (List.mem_of_getElem? (i := 6) rfl)
theorem m_307 : .selects R_Cod y_Cod_takeRow y_Cod_takeRow ∈ TS := TS_5_in _ (List.mem_of_getElem? (i := 7) rfl)
theorem m_308 : .code y_Cod_writeHead b_Cod_writeHead 1 none ∈ TS := TS_5_in _ (List.mem_of_getElem? (i := 8) rfl)
theorem m_309 : .methodLink R_Grc 45 y_Cod_writeHead ∈ TS := TS_5_in _ (List.mem_of_getElem? (i := 9) rfl)
theorem m_310 : .instanceMethod y_Cod_writeHead ∈ TS := TS_5_in _ (List.mem_of_getElem? (i := 10) rfl)
theorem m_311 : .selects R_Cod y_Cod_writeHead y_Cod_writeHead ∈ TS := TS_5_in _ (List.mem_of_getElem? (i := 11) rfl)
theorem m_312 : .code y_Pas_overAll b_Pas_overAll 6 none ∈ TS := TS_5_in _ (List.mem_of_getElem? (i := 12) rfl)
theorem m_313 : .methodLink R_Grc 48 y_Cod_overAll ∈ TS := TS_5_in _ (List.mem_of_getElem? (i := 13) rfl)
theorem m_314 : .sameMethod R_Cod R_Pas "overAll" "()V" ∈ TS := TS_5_in _ (List.mem_of_getElem? (i := 14) rfl)
theorem m_315 : .selects R_Cod y_Cod_overAll y_Pas_overAll ∈ TS := TS_5_in _ (List.mem_of_getElem? (i := 15) rfl)
theorem m_316 : .instanceMethod y_Pas_overAll ∈ TS := TS_5_in _ (List.mem_of_getElem? (i := 16) rfl)
theorem m_317 : .code y_Wri_writeEnd b_Wri_writeEnd 1 none ∈ TS := TS_5_in _ (List.mem_of_getElem? (i := 17) rfl)
theorem m_318 : .methodLink R_Grc 55 y_Wri_writeEnd ∈ TS := TS_5_in _ (List.mem_of_getElem? (i := 18) rfl)
theorem m_319 : .instanceMethod y_Wri_writeEnd ∈ TS := TS_5_in _ (List.mem_of_getElem? (i := 19) rfl)
theorem m_320 : .selects R_Wri y_Wri_writeEnd y_Wri_writeEnd ∈ TS := TS_5_in _ (List.mem_of_getElem? (i := 20) rfl)
theorem m_321 : .code y_Grc_hasByte b_Grc_hasByte 2 (some .boolean) ∈ TS := TS_5_in _ (List.mem_of_getElem? (i := 21) rfl)
theorem m_322 : .methodLink R_Grc 63 y_Grc_hasByte ∈ TS := TS_5_in _ (List.mem_of_getElem? (i := 22) rfl)
theorem m_323 : .instanceMethod y_Grc_hasByte ∈ TS := TS_5_in _ (List.mem_of_getElem? (i := 23) rfl)
theorem m_324 : .selects R_Grc y_Grc_hasByte y_Grc_hasByte ∈ TS := TS_5_in _ (List.mem_of_getElem? (i := 24) rfl)
theorem m_325 : .initialized R_Grc ∈ TS := TS_5_in _ (List.mem_of_getElem? (i := 25) rfl)
theorem m_326 : .fieldLink R_Grc 67 "GradientCoder$Writer" "bytes" "[I" ∈ TS := TS_5_in _ (List.mem_of_getElem? (i := 26) rfl)
theorem m_327 : .fieldLink R_Grc 89 "GradientCoder$Picture" "width" "I" ∈ TS := TS_5_in _ (List.mem_of_getElem? (i := 27) rfl)
theorem m_328 : .fieldLink R_Grc 92 "GradientCoder$Picture" "maxval" "I" ∈ TS := TS_5_in _ (List.mem_of_getElem? (i := 28) rfl)
theorem m_329 : .fieldLink R_Grc 95 "GradientCoder$Picture" "near" "I" ∈ TS := TS_5_in _ (List.mem_of_getElem? (i := 29) rfl)
theorem m_330 : .fieldLink R_Grc 98 "GradientCoder$Picture" "range" "I" ∈ TS := TS_5_in _ (List.mem_of_getElem? (i := 30) rfl)
theorem m_331 : .fieldLink R_Grc 101 "GradientCoder$Picture" "qb" "I" ∈ TS := TS_5_in _ (List.mem_of_getElem? (i := 31) rfl)
theorem m_332 : .fieldLink R_Grc 104 "GradientCoder$Picture" "limit" "I" ∈ TS := TS_5_in _ (List.mem_of_getElem? (i := 32) rfl)
theorem m_333 : .fieldLink R_Grc 107 "GradientCoder$Picture" "t1" "I" ∈ TS := TS_5_in _ (List.mem_of_getElem? (i := 33) rfl)
theorem m_334 : .fieldLink R_Grc 110 "GradientCoder$Picture" "t2" "I" ∈ TS := TS_5_in _ (List.mem_of_getElem? (i := 34) rfl)
theorem m_335 : .fieldLink R_Grc 113 "GradientCoder$Picture" "t3" "I" ∈ TS := TS_5_in _ (List.mem_of_getElem? (i := 35) rfl)
theorem m_336 : .code y_Pic_hasPlace b_Pic_hasPlace 3 (some .boolean) ∈ TS := TS_5_in _ (List.mem_of_getElem? (i := 36) rfl)
theorem m_337 : .methodLink R_Grc 116 y_Pic_hasPlace ∈ TS := TS_5_in _ (List.mem_of_getElem? (i := 37) rfl)
theorem m_338 : .instanceMethod y_Pic_hasPlace ∈ TS := TS_5_in _ (List.mem_of_getElem? (i := 38) rfl)
theorem m_339 : .selects R_Pic y_Pic_hasPlace y_Pic_hasPlace ∈ TS := TS_5_in _ (List.mem_of_getElem? (i := 39) rfl)
theorem m_340 : .fieldLink R_Grc 120 "GradientCoder$Coding" "samples" "[I" ∈ TS := TS_5_in _ (List.mem_of_getElem? (i := 40) rfl)
theorem m_341 : .methodLink R_Grc 123 y_Pic_place ∈ TS := TS_5_in _ (List.mem_of_getElem? (i := 41) rfl)
theorem m_342 : .fieldLink R_Grc 127 "GradientCoder$Coding" "rebuilt" "[I" ∈ TS := TS_5_in _ (List.mem_of_getElem? (i := 42) rfl)
theorem m_343 : .constant R_Grc 132 (-1000000) ∈ TS := TS_5_in _ (List.mem_of_getElem? (i := 43) rfl)
theorem m_344 : .fieldLink R_Grc 133 "GradientCoder$Coding" "contexts" "LGradientCoder$Contexts;" ∈ TS := TS_5_in _ (List.mem_of_getElem? (i := 44) rfl)
theorem m_345 : .fieldLink R_Grc 137 "GradientCoder$Contexts" "a" "[I" ∈ TS := TS_5_in _ (List.mem_of_getElem? (i := 45) rfl)
theorem m_346 : .fieldLink R_Grc 140 "GradientCoder$Contexts" "b" "[I" ∈ TS := TS_5_in _ (List.mem_of_getElem? (i := 46) rfl)
theorem m_347 : .fieldLink R_Grc 143 "GradientCoder$Contexts" "c" "[I" ∈ TS := TS_5_in _ (List.mem_of_getElem? (i := 47) rfl)
theorem m_348 : .fieldLink R_Grc 146 "GradientCoder$Contexts" "n" "[I" ∈ TS := TS_5_in _ (List.mem_of_getElem? (i := 48) rfl)
theorem m_349 : .fieldLink R_Grc 149 "GradientCoder$Contexts" "m" "[I" ∈ TS := TS_5_in _ (List.mem_of_getElem? (i := 49) rfl)
theorem m_350 : .fieldLink R_Grc 152 "GradientCoder$Contexts" "runIndex" "I" ∈ TS := TS_5_in _ (List.mem_of_getElem? (i := 50) rfl)
theorem m_351 : .fieldLink R_Mod 47 "GradientCoderModel" "thrown" "I" ∈ TS := TS_5_in _ (List.mem_of_getElem? (i := 51) rfl)
theorem m_352 : .fieldLink R_Mod 16 "GradientCoderModel" "maxval" "I" ∈ TS := TS_5_in _ (List.mem_of_getElem? (i := 52) rfl)
theorem m_353 : .fieldLink R_Mod 50 "GradientCoderModel" "near" "I" ∈ TS := TS_5_in _ (List.mem_of_getElem? (i := 53) rfl)
theorem m_354 : .fieldLink R_Mod 53 "GradientCoderModel" "step" "I" ∈ TS := TS_5_in _ (List.mem_of_getElem? (i := 54) rfl)
theorem m_355 : .fieldLink R_Mod 56 "GradientCoderModel" "range" "I" ∈ TS := TS_5_in _ (List.mem_of_getElem? (i := 55) rfl)
theorem m_356 : .code y_Mod_powerFor b_Mod_powerFor 3 (some .int) ∈ TS := TS_5_in _ (List.mem_of_getElem? (i := 56) rfl)
theorem m_357 : .methodLink R_Mod 59 y_Mod_powerFor ∈ TS := TS_5_in _ (List.mem_of_getElem? (i := 57) rfl)
theorem m_358 : .static y_Mod_powerFor ∈ TS := TS_5_in _ (List.mem_of_getElem? (i := 58) rfl)
theorem m_359 : .initialized R_Mod ∈ TS := TS_5_in _ (List.mem_of_getElem? (i := 59) rfl)
theorem m_360 : .fieldLink R_Mod 63 "GradientCoderModel" "qb" "I" ∈ TS := TS_6_in _ (List.mem_of_getElem? (i := 0) rfl)
theorem m_361 : .code y_Mod_greater b_Mod_greater 2 (some .int) ∈ TS := TS_6_in _ (List.mem_of_getElem? (i := 1) rfl)
theorem m_362 : .methodLink R_Mod 66 y_Mod_greater ∈ TS := TS_6_in _ (List.mem_of_getElem? (i := 2) rfl)
theorem m_363 : .static y_Mod_greater ∈ TS := TS_6_in _ (List.mem_of_getElem? (i := 3) rfl)
theorem m_364 : .fieldLink R_Mod 69 "GradientCoderModel" "limit" "I" ∈ TS := TS_6_in _ (List.mem_of_getElem? (i := 4) rfl)
theorem m_365 : .code y_Mod_clamp b_Mod_clamp 3 (some .int) ∈ TS := TS_6_in _ (List.mem_of_getElem? (i := 5) rfl)
theorem m_366 : .methodLink R_Mod 72 y_Mod_clamp ∈ TS := TS_6_in _ (List.mem_of_getElem? (i := 6) rfl)
theorem m_367 : .instanceMethod y_Mod_clamp ∈ TS := TS_6_in _ (List.mem_of_getElem? (i := 7) rfl)
theorem m_368 : .selects R_Mod y_Mod_clamp y_Mod_clamp ∈ TS := TS_6_in _ (List.mem_of_getElem? (i := 8) rfl)
theorem m_369 : .fieldLink R_Mod 75 "GradientCoderModel" "t1" "I" ∈ TS := TS_6_in _ (List.mem_of_getElem? (i := 9) rfl)
theorem m_370 : .fieldLink R_Mod 78 "GradientCoderModel" "t2" "I" ∈ TS := TS_6_in _ (List.mem_of_getElem? (i := 10) rfl)
theorem m_371 : .fieldLink R_Mod 81 "GradientCoderModel" "t3" "I" ∈ TS := TS_6_in _ (List.mem_of_getElem? (i := 11) rfl)
theorem m_372 : .fieldLink R_Mod 23 "GradientCoderModel" "rebuilt" "[I" ∈ TS := TS_6_in _ (List.mem_of_getElem? (i := 12) rfl)
theorem m_373 : .fieldLink R_Mod 84 "GradientCoderModel" "runIndex" "I" ∈ TS := TS_6_in _ (List.mem_of_getElem? (i := 13) rfl)
theorem m_374 : .fieldLink R_Mod 26 "GradientCoderModel" "contexts" "[I" ∈ TS := TS_6_in _ (List.mem_of_getElem? (i := 14) rfl)
theorem m_375 : .fieldLink R_Mod 91 "GradientCoderModel" "size" "I" ∈ TS := TS_6_in _ (List.mem_of_getElem? (i := 15) rfl)
theorem m_376 : .fieldLink R_Mod 19 "GradientCoderModel" "sample" "[I" ∈ TS := TS_6_in _ (List.mem_of_getElem? (i := 16) rfl)
theorem m_377 : .code y_Mod_fits b_Mod_fits 4 (some .boolean) ∈ TS := TS_6_in _ (List.mem_of_getElem? (i := 17) rfl)
theorem m_378 : .methodLink R_Mod 87 y_Mod_fits ∈ TS := TS_6_in _ (List.mem_of_getElem? (i := 18) rfl)
theorem m_379 : .static y_Mod_fits ∈ TS := TS_6_in _ (List.mem_of_getElem? (i := 19) rfl)
theorem m_380 : .fieldLink R_Mod 7 "GradientCoderModel" "width" "I" ∈ TS := TS_6_in _ (List.mem_of_getElem? (i := 20) rfl)
theorem m_381 : .fieldLink R_Mod 13 "GradientCoderModel" "height" "I" ∈ TS := TS_6_in _ (List.mem_of_getElem? (i := 21) rfl)
theorem m_382 : .code y_Mod_prepare b_Mod_prepare 3 none ∈ TS := TS_6_in _ (List.mem_of_getElem? (i := 22) rfl)
theorem m_383 : .methodLink R_Mod 41 y_Mod_prepare ∈ TS := TS_6_in _ (List.mem_of_getElem? (i := 23) rfl)
theorem m_384 : .instanceMethod y_Mod_prepare ∈ TS := TS_6_in _ (List.mem_of_getElem? (i := 24) rfl)
theorem m_385 : .selects R_Mod y_Mod_prepare y_Mod_prepare ∈ TS := TS_6_in _ (List.mem_of_getElem? (i := 25) rfl)
theorem m_386 : .code y_Mod_forget b_Mod_forget 2 none ∈ TS := TS_6_in _ (List.mem_of_getElem? (i := 26) rfl)
theorem m_387 : .methodLink R_Mod 44 y_Mod_forget ∈ TS := TS_6_in _ (List.mem_of_getElem? (i := 27) rfl)
theorem m_388 : .instanceMethod y_Mod_forget ∈ TS := TS_6_in _ (List.mem_of_getElem? (i := 28) rfl)
theorem m_389 : .selects R_Mod y_Mod_forget y_Mod_forget ∈ TS := TS_6_in _ (List.mem_of_getElem? (i := 29) rfl)
theorem m_390 : .constantLong R_Mod 94 255 ∈ TS := TS_6_in _ (List.mem_of_getElem? (i := 30) rfl)
theorem m_391 : .fieldLink R_Mod 29 "GradientCoderModel" "code" "[I" ∈ TS := TS_6_in _ (List.mem_of_getElem? (i := 31) rfl)
theorem m_392 : .fieldLink R_Mod 99 "GradientCoderModel" "bits" "I" ∈ TS := TS_6_in _ (List.mem_of_getElem? (i := 32) rfl)
theorem m_393 : .fieldLink R_Mod 96 "GradientCoderModel" "begun" "I" ∈ TS := TS_6_in _ (List.mem_of_getElem? (i := 33) rfl)
theorem m_394 : .code y_Mod_say b_Mod_say 2 none ∈ TS := TS_6_in _ (List.mem_of_getElem? (i := 34) rfl)
theorem m_395 : .methodLink R_Mod 102 y_Mod_say ∈ TS := TS_6_in _ (List.mem_of_getElem? (i := 35) rfl)
theorem m_396 : .instanceMethod y_Mod_say ∈ TS := TS_6_in _ (List.mem_of_getElem? (i := 36) rfl)
theorem m_397 : .selects R_Mod y_Mod_say y_Mod_say ∈ TS := TS_6_in _ (List.mem_of_getElem? (i := 37) rfl)
theorem m_398 : .code y_Mod_put b_Mod_put 2 none ∈ TS := TS_6_in _ (List.mem_of_getElem? (i := 38) rfl)
theorem m_399 : .methodLink R_Mod 106 y_Mod_put ∈ TS := TS_6_in _ (List.mem_of_getElem? (i := 39) rfl)
theorem m_400 : .instanceMethod y_Mod_put ∈ TS := TS_6_in _ (List.mem_of_getElem? (i := 40) rfl)
theorem m_401 : .selects R_Mod y_Mod_put y_Mod_put ∈ TS := TS_6_in _ (List.mem_of_getElem? (i := 41) rfl)
theorem m_402 : .fieldLink R_Mod 109 "GradientCoderModel" "left" "I" ∈ TS := TS_6_in _ (List.mem_of_getElem? (i := 42) rfl)
theorem m_403 : .fieldLink R_Mod 112 "GradientCoderModel" "now" "I" ∈ TS := TS_6_in _ (List.mem_of_getElem? (i := 43) rfl)
theorem m_404 : .fieldLink R_Mod 115 "GradientCoderModel" "at" "I" ∈ TS := TS_6_in _ (List.mem_of_getElem? (i := 44) rfl)
theorem m_405 : .fieldLink R_Mod 118 "GradientCoderModel" "good" "Z" ∈ TS := TS_6_in _ (List.mem_of_getElem? (i := 45) rfl)
theorem m_406 : .code y_Mod_get b_Mod_get 2 (some .int) ∈ TS := TS_6_in _ (List.mem_of_getElem? (i := 46) rfl)
theorem m_407 : .methodLink R_Mod 122 y_Mod_get ∈ TS := TS_6_in _ (List.mem_of_getElem? (i := 47) rfl)
theorem m_408 : .instanceMethod y_Mod_get ∈ TS := TS_6_in _ (List.mem_of_getElem? (i := 48) rfl)
theorem m_409 : .selects R_Mod y_Mod_get y_Mod_get ∈ TS := TS_6_in _ (List.mem_of_getElem? (i := 49) rfl)
theorem m_410 : .code y_Mod_putMany b_Mod_putMany 4 none ∈ TS := TS_6_in _ (List.mem_of_getElem? (i := 50) rfl)
theorem m_411 : .methodLink R_Mod 126 y_Mod_putMany ∈ TS := TS_6_in _ (List.mem_of_getElem? (i := 51) rfl)
theorem m_412 : .instanceMethod y_Mod_putMany ∈ TS := TS_6_in _ (List.mem_of_getElem? (i := 52) rfl)
theorem m_413 : .selects R_Mod y_Mod_putMany y_Mod_putMany ∈ TS := TS_6_in _ (List.mem_of_getElem? (i := 53) rfl)
theorem m_414 : .code y_Mod_getMany b_Mod_getMany 4 (some .int) ∈ TS := TS_6_in _ (List.mem_of_getElem? (i := 54) rfl)
theorem m_415 : .methodLink R_Mod 130 y_Mod_getMany ∈ TS := TS_6_in _ (List.mem_of_getElem? (i := 55) rfl)
theorem m_416 : .instanceMethod y_Mod_getMany ∈ TS := TS_6_in _ (List.mem_of_getElem? (i := 56) rfl)
theorem m_417 : .selects R_Mod y_Mod_getMany y_Mod_getMany ∈ TS := TS_6_in _ (List.mem_of_getElem? (i := 57) rfl)
theorem m_418 : .code y_Mod_value b_Mod_value 3 (some .int) ∈ TS := TS_6_in _ (List.mem_of_getElem? (i := 58) rfl)
theorem m_419 : .methodLink R_Mod 134 y_Mod_value ∈ TS := TS_6_in _ (List.mem_of_getElem? (i := 59) rfl)
theorem m_420 : .instanceMethod y_Mod_value ∈ TS := TS_7_in _ (List.mem_of_getElem? (i := 0) rfl)
theorem m_421 : .selects R_Mod y_Mod_value y_Mod_value ∈ TS := TS_7_in _ (List.mem_of_getElem? (i := 1) rfl)
theorem m_422 : .code y_Mod_above b_Mod_above 3 (some .int) ∈ TS := TS_7_in _ (List.mem_of_getElem? (i := 2) rfl)
theorem m_423 : .methodLink R_Mod 137 y_Mod_above ∈ TS := TS_7_in _ (List.mem_of_getElem? (i := 3) rfl)
theorem m_424 : .instanceMethod y_Mod_above ∈ TS := TS_7_in _ (List.mem_of_getElem? (i := 4) rfl)
theorem m_425 : .selects R_Mod y_Mod_above y_Mod_above ∈ TS := TS_7_in _ (List.mem_of_getElem? (i := 5) rfl)
theorem m_426 : .code y_Mod_before b_Mod_before 3 (some .int) ∈ TS := TS_7_in _ (List.mem_of_getElem? (i := 6) rfl)
theorem m_427 : .methodLink R_Mod 140 y_Mod_before ∈ TS := TS_7_in _ (List.mem_of_getElem? (i := 7) rfl)
theorem m_428 : .instanceMethod y_Mod_before ∈ TS := TS_7_in _ (List.mem_of_getElem? (i := 8) rfl)
theorem m_429 : .selects R_Mod y_Mod_before y_Mod_before ∈ TS := TS_7_in _ (List.mem_of_getElem? (i := 9) rfl)
theorem m_430 : .code y_Mod_divided b_Mod_divided 2 (some .int) ∈ TS := TS_7_in _ (List.mem_of_getElem? (i := 10) rfl)
theorem m_431 : .methodLink R_Mod 143 y_Mod_divided ∈ TS := TS_7_in _ (List.mem_of_getElem? (i := 11) rfl)
theorem m_432 : .instanceMethod y_Mod_divided ∈ TS := TS_7_in _ (List.mem_of_getElem? (i := 12) rfl)
theorem m_433 : .selects R_Mod y_Mod_divided y_Mod_divided ∈ TS := TS_7_in _ (List.mem_of_getElem? (i := 13) rfl)
theorem m_434 : .code y_Mod_held b_Mod_held 2 (some .int) ∈ TS := TS_7_in _ (List.mem_of_getElem? (i := 14) rfl)
theorem m_435 : .methodLink R_Mod 146 y_Mod_held ∈ TS := TS_7_in _ (List.mem_of_getElem? (i := 15) rfl)
theorem m_436 : .instanceMethod y_Mod_held ∈ TS := TS_7_in _ (List.mem_of_getElem? (i := 16) rfl)
theorem m_437 : .selects R_Mod y_Mod_held y_Mod_held ∈ TS := TS_7_in _ (List.mem_of_getElem? (i := 17) rfl)
theorem m_438 : .code y_Mod_reduced b_Mod_reduced 3 (some .int) ∈ TS := TS_7_in _ (List.mem_of_getElem? (i := 18) rfl)
theorem m_439 : .methodLink R_Mod 149 y_Mod_reduced ∈ TS := TS_7_in _ (List.mem_of_getElem? (i := 19) rfl)
theorem m_440 : .instanceMethod y_Mod_reduced ∈ TS := TS_7_in _ (List.mem_of_getElem? (i := 20) rfl)
theorem m_441 : .selects R_Mod y_Mod_reduced y_Mod_reduced ∈ TS := TS_7_in _ (List.mem_of_getElem? (i := 21) rfl)
theorem m_442 : .code y_Mod_half b_Mod_half 1 (some .int) ∈ TS := TS_7_in _ (List.mem_of_getElem? (i := 22) rfl)
theorem m_443 : .methodLink R_Mod 188 y_Mod_half ∈ TS := TS_7_in _ (List.mem_of_getElem? (i := 23) rfl)
theorem m_444 : .static y_Mod_half ∈ TS := TS_7_in _ (List.mem_of_getElem? (i := 24) rfl)
theorem m_445 : .code y_Mod_learn b_Mod_learn 6 none ∈ TS := TS_7_in _ (List.mem_of_getElem? (i := 25) rfl)
theorem m_446 : .methodLink R_Mod 185 y_Mod_learn ∈ TS := TS_7_in _ (List.mem_of_getElem? (i := 26) rfl)
theorem m_447 : .instanceMethod y_Mod_learn ∈ TS := TS_7_in _ (List.mem_of_getElem? (i := 27) rfl)
theorem m_448 : .selects R_Mod y_Mod_learn y_Mod_learn ∈ TS := TS_7_in _ (List.mem_of_getElem? (i := 28) rfl)
theorem m_449 : .code y_Mod_write b_Mod_write 6 none ∈ TS := TS_7_in _ (List.mem_of_getElem? (i := 29) rfl)
theorem m_450 : .methodLink R_Mod 181 y_Mod_write ∈ TS := TS_7_in _ (List.mem_of_getElem? (i := 30) rfl)
theorem m_451 : .instanceMethod y_Mod_write ∈ TS := TS_7_in _ (List.mem_of_getElem? (i := 31) rfl)
theorem m_452 : .selects R_Mod y_Mod_write y_Mod_write ∈ TS := TS_7_in _ (List.mem_of_getElem? (i := 32) rfl)
theorem m_453 : .code y_Mod_settle b_Mod_settle 7 none ∈ TS := TS_7_in _ (List.mem_of_getElem? (i := 33) rfl)
theorem m_454 : .methodLink R_Mod 173 y_Mod_settle ∈ TS := TS_7_in _ (List.mem_of_getElem? (i := 34) rfl)
theorem m_455 : .instanceMethod y_Mod_settle ∈ TS := TS_7_in _ (List.mem_of_getElem? (i := 35) rfl)
theorem m_456 : .selects R_Mod y_Mod_settle y_Mod_settle ∈ TS := TS_7_in _ (List.mem_of_getElem? (i := 36) rfl)
theorem m_457 : .fieldLink R_Mod 167 "GradientCoderModel" "reading" "Z" ∈ TS := TS_7_in _ (List.mem_of_getElem? (i := 37) rfl)
theorem m_458 : .code y_Mod_errorOf b_Mod_errorOf 6 (some .int) ∈ TS := TS_7_in _ (List.mem_of_getElem? (i := 38) rfl)
theorem m_459 : .methodLink R_Mod 177 y_Mod_errorOf ∈ TS := TS_7_in _ (List.mem_of_getElem? (i := 39) rfl)
theorem m_460 : .instanceMethod y_Mod_errorOf ∈ TS := TS_7_in _ (List.mem_of_getElem? (i := 40) rfl)
theorem m_461 : .selects R_Mod y_Mod_errorOf y_Mod_errorOf ∈ TS := TS_7_in _ (List.mem_of_getElem? (i := 41) rfl)
theorem m_462 : .code y_Mod_read b_Mod_read 5 (some .int) ∈ TS := TS_7_in _ (List.mem_of_getElem? (i := 42) rfl)
theorem m_463 : .methodLink R_Mod 170 y_Mod_read ∈ TS := TS_7_in _ (List.mem_of_getElem? (i := 43) rfl)
theorem m_464 : .instanceMethod y_Mod_read ∈ TS := TS_7_in _ (List.mem_of_getElem? (i := 44) rfl)
theorem m_465 : .selects R_Mod y_Mod_read y_Mod_read ∈ TS := TS_7_in _ (List.mem_of_getElem? (i := 45) rfl)
theorem m_466 : .code y_Mod_kFor b_Mod_kFor 3 (some .int) ∈ TS := TS_7_in _ (List.mem_of_getElem? (i := 46) rfl)
theorem m_467 : .methodLink R_Mod 164 y_Mod_kFor ∈ TS := TS_7_in _ (List.mem_of_getElem? (i := 47) rfl)
theorem m_468 : .static y_Mod_kFor ∈ TS := TS_7_in _ (List.mem_of_getElem? (i := 48) rfl)
theorem m_469 : .code y_Mod_lesser b_Mod_lesser 2 (some .int) ∈ TS := TS_7_in _ (List.mem_of_getElem? (i := 49) rfl)
theorem m_470 : .methodLink R_Mod 161 y_Mod_lesser ∈ TS := TS_7_in _ (List.mem_of_getElem? (i := 50) rfl)
theorem m_471 : .static y_Mod_lesser ∈ TS := TS_7_in _ (List.mem_of_getElem? (i := 51) rfl)
theorem m_472 : .code y_Mod_corner b_Mod_corner 3 (some .int) ∈ TS := TS_7_in _ (List.mem_of_getElem? (i := 52) rfl)
theorem m_473 : .methodLink R_Mod 152 y_Mod_corner ∈ TS := TS_7_in _ (List.mem_of_getElem? (i := 53) rfl)
theorem m_474 : .instanceMethod y_Mod_corner ∈ TS := TS_7_in _ (List.mem_of_getElem? (i := 54) rfl)
theorem m_475 : .selects R_Mod y_Mod_corner y_Mod_corner ∈ TS := TS_7_in _ (List.mem_of_getElem? (i := 55) rfl)
theorem m_476 : .code y_Mod_beyond b_Mod_beyond 3 (some .int) ∈ TS := TS_7_in _ (List.mem_of_getElem? (i := 56) rfl)
theorem m_477 : .methodLink R_Mod 155 y_Mod_beyond ∈ TS := TS_7_in _ (List.mem_of_getElem? (i := 57) rfl)
theorem m_478 : .instanceMethod y_Mod_beyond ∈ TS := TS_7_in _ (List.mem_of_getElem? (i := 58) rfl)
theorem m_479 : .selects R_Mod y_Mod_beyond y_Mod_beyond ∈ TS := TS_7_in _ (List.mem_of_getElem? (i := 59) rfl)
theorem m_480 : .code y_Mod_quantized b_Mod_quantized 2 (some .int) ∈ TS := TS_8_in _ (List.mem_of_getElem? (i := 0) rfl)
theorem m_481 : .methodLink R_Mod 158 y_Mod_quantized ∈ TS := TS_8_in _ (List.mem_of_getElem? (i := 1) rfl)
theorem m_482 : .instanceMethod y_Mod_quantized ∈ TS := TS_8_in _ (List.mem_of_getElem? (i := 2) rfl)
theorem m_483 : .selects R_Mod y_Mod_quantized y_Mod_quantized ∈ TS := TS_8_in _ (List.mem_of_getElem? (i := 3) rfl)
theorem m_484 : .code y_Mod_isNear b_Mod_isNear 2 (some .boolean) ∈ TS := TS_8_in _ (List.mem_of_getElem? (i := 4) rfl)
theorem m_485 : .methodLink R_Mod 191 y_Mod_isNear ∈ TS := TS_8_in _ (List.mem_of_getElem? (i := 5) rfl)
theorem m_486 : .instanceMethod y_Mod_isNear ∈ TS := TS_8_in _ (List.mem_of_getElem? (i := 6) rfl)
theorem m_487 : .selects R_Mod y_Mod_isNear y_Mod_isNear ∈ TS := TS_8_in _ (List.mem_of_getElem? (i := 7) rfl)
theorem m_488 : .code y_Mod_jOf b_Mod_jOf 2 (some .int) ∈ TS := TS_8_in _ (List.mem_of_getElem? (i := 8) rfl)
theorem m_489 : .methodLink R_Mod 195 y_Mod_jOf ∈ TS := TS_8_in _ (List.mem_of_getElem? (i := 9) rfl)
theorem m_490 : .instanceMethod y_Mod_jOf ∈ TS := TS_8_in _ (List.mem_of_getElem? (i := 10) rfl)
theorem m_491 : .selects R_Mod y_Mod_jOf y_Mod_jOf ∈ TS := TS_8_in _ (List.mem_of_getElem? (i := 11) rfl)
theorem m_492 : .code y_Mod_endRun b_Mod_endRun 17 none ∈ TS := TS_8_in _ (List.mem_of_getElem? (i := 12) rfl)
theorem m_493 : .methodLink R_Mod 198 y_Mod_endRun ∈ TS := TS_8_in _ (List.mem_of_getElem? (i := 13) rfl)
theorem m_494 : .instanceMethod y_Mod_endRun ∈ TS := TS_8_in _ (List.mem_of_getElem? (i := 14) rfl)
theorem m_495 : .selects R_Mod y_Mod_endRun y_Mod_endRun ∈ TS := TS_8_in _ (List.mem_of_getElem? (i := 15) rfl)
theorem m_496 : .code y_Mod_regular b_Mod_regular 16 none ∈ TS := TS_8_in _ (List.mem_of_getElem? (i := 16) rfl)
theorem m_497 : .methodLink R_Mod 207 y_Mod_regular ∈ TS := TS_8_in _ (List.mem_of_getElem? (i := 17) rfl)
theorem m_498 : .instanceMethod y_Mod_regular ∈ TS := TS_8_in _ (List.mem_of_getElem? (i := 18) rfl)
theorem m_499 : .selects R_Mod y_Mod_regular y_Mod_regular ∈ TS := TS_8_in _ (List.mem_of_getElem? (i := 19) rfl)
theorem m_500 : .code y_Mod_writeRun b_Mod_writeRun 6 (some .int) ∈ TS := TS_8_in _ (List.mem_of_getElem? (i := 20) rfl)
theorem m_501 : .methodLink R_Mod 204 y_Mod_writeRun ∈ TS := TS_8_in _ (List.mem_of_getElem? (i := 21) rfl)
theorem m_502 : .instanceMethod y_Mod_writeRun ∈ TS := TS_8_in _ (List.mem_of_getElem? (i := 22) rfl)
theorem m_503 : .selects R_Mod y_Mod_writeRun y_Mod_writeRun ∈ TS := TS_8_in _ (List.mem_of_getElem? (i := 23) rfl)
theorem m_504 : .code y_Mod_readRun b_Mod_readRun 8 (some .int) ∈ TS := TS_8_in _ (List.mem_of_getElem? (i := 24) rfl)
theorem m_505 : .methodLink R_Mod 201 y_Mod_readRun ∈ TS := TS_8_in _ (List.mem_of_getElem? (i := 25) rfl)
theorem m_506 : .instanceMethod y_Mod_readRun ∈ TS := TS_8_in _ (List.mem_of_getElem? (i := 26) rfl)
theorem m_507 : .selects R_Mod y_Mod_readRun y_Mod_readRun ∈ TS := TS_8_in _ (List.mem_of_getElem? (i := 27) rfl)
theorem m_508 : .code y_Mod_walk b_Mod_walk 6 none ∈ TS := TS_8_in _ (List.mem_of_getElem? (i := 28) rfl)
theorem m_509 : .methodLink R_Mod 210 y_Mod_walk ∈ TS := TS_8_in _ (List.mem_of_getElem? (i := 29) rfl)
theorem m_510 : .instanceMethod y_Mod_walk ∈ TS := TS_8_in _ (List.mem_of_getElem? (i := 30) rfl)
theorem m_511 : .selects R_Mod y_Mod_walk y_Mod_walk ∈ TS := TS_8_in _ (List.mem_of_getElem? (i := 31) rfl)
theorem m_512 : .fieldLink R_Mod 38 "GradientCoderModel" "oldContexts" "[I" ∈ TS := TS_8_in _ (List.mem_of_getElem? (i := 32) rfl)
theorem m_513 : .fieldLink R_Mod 32 "GradientCoderModel" "oldSample" "[I" ∈ TS := TS_8_in _ (List.mem_of_getElem? (i := 33) rfl)
theorem m_514 : .fieldLink R_Mod 35 "GradientCoderModel" "oldRebuilt" "[I" ∈ TS := TS_8_in _ (List.mem_of_getElem? (i := 34) rfl)
theorem m_515 : .code y_Mod_putBack b_Mod_putBack 7 none ∈ TS := TS_8_in _ (List.mem_of_getElem? (i := 35) rfl)
theorem m_516 : .methodLink R_Mod 220 y_Mod_putBack ∈ TS := TS_8_in _ (List.mem_of_getElem? (i := 36) rfl)
theorem m_517 : .instanceMethod y_Mod_putBack ∈ TS := TS_8_in _ (List.mem_of_getElem? (i := 37) rfl)
theorem m_518 : .selects R_Mod y_Mod_putBack y_Mod_putBack ∈ TS := TS_8_in _ (List.mem_of_getElem? (i := 38) rfl)
theorem m_519 : .code y_Mod_endsWell b_Mod_endsWell 1 (some .boolean) ∈ TS := TS_8_in _ (List.mem_of_getElem? (i := 39) rfl)
theorem m_520 : .methodLink R_Mod 216 y_Mod_endsWell ∈ TS := TS_8_in _ (List.mem_of_getElem? (i := 40) rfl)
theorem m_521 : .instanceMethod y_Mod_endsWell ∈ TS := TS_8_in _ (List.mem_of_getElem? (i := 41) rfl)
theorem m_522 : .selects R_Mod y_Mod_endsWell y_Mod_endsWell ∈ TS := TS_8_in _ (List.mem_of_getElem? (i := 42) rfl)
theorem m_523 : .code y_Mod_keep b_Mod_keep 2 none ∈ TS := TS_8_in _ (List.mem_of_getElem? (i := 43) rfl)
theorem m_524 : .methodLink R_Mod 213 y_Mod_keep ∈ TS := TS_8_in _ (List.mem_of_getElem? (i := 44) rfl)
theorem m_525 : .instanceMethod y_Mod_keep ∈ TS := TS_8_in _ (List.mem_of_getElem? (i := 45) rfl)
theorem m_526 : .selects R_Mod y_Mod_keep y_Mod_keep ∈ TS := TS_8_in _ (List.mem_of_getElem? (i := 46) rfl)
theorem m_527 : .code y_Mod_isPlace b_Mod_isPlace 3 (some .boolean) ∈ TS := TS_8_in _ (List.mem_of_getElem? (i := 47) rfl)
theorem m_528 : .methodLink R_Mod 223 y_Mod_isPlace ∈ TS := TS_8_in _ (List.mem_of_getElem? (i := 48) rfl)
theorem m_529 : .instanceMethod y_Mod_isPlace ∈ TS := TS_8_in _ (List.mem_of_getElem? (i := 49) rfl)
theorem m_530 : .selects R_Mod y_Mod_isPlace y_Mod_isPlace ∈ TS := TS_8_in _ (List.mem_of_getElem? (i := 50) rfl)
theorem m_531 : .constant R_Mod 227 (-1000000) ∈ TS := TS_8_in _ (List.mem_of_getElem? (i := 51) rfl)
theorem m_532 : .laysFinal R_Grc "GradientCoder" "coding" "LGradientCoder$Coding;" ∈ TS := TS_8_in _ (List.mem_of_getElem? (i := 52) rfl)
theorem m_533 : .laysFinal R_Grc "GradientCoder" "reading" "LGradientCoder$Reading;" ∈ TS := TS_8_in _ (List.mem_of_getElem? (i := 53) rfl)
theorem m_534 : .lays R_Pic "GradientCoder$Picture" "width" "I" ∈ TS := TS_8_in _ (List.mem_of_getElem? (i := 54) rfl)
theorem m_535 : .lays R_Pic "GradientCoder$Picture" "height" "I" ∈ TS := TS_8_in _ (List.mem_of_getElem? (i := 55) rfl)
theorem m_536 : .lays R_Pic "GradientCoder$Picture" "maxval" "I" ∈ TS := TS_8_in _ (List.mem_of_getElem? (i := 56) rfl)
theorem m_537 : .lays R_Pic "GradientCoder$Picture" "near" "I" ∈ TS := TS_8_in _ (List.mem_of_getElem? (i := 57) rfl)
theorem m_538 : .lays R_Pic "GradientCoder$Picture" "step" "I" ∈ TS := TS_8_in _ (List.mem_of_getElem? (i := 58) rfl)
theorem m_539 : .lays R_Pic "GradientCoder$Picture" "range" "I" ∈ TS := TS_8_in _ (List.mem_of_getElem? (i := 59) rfl)
theorem m_540 : .lays R_Pic "GradientCoder$Picture" "qb" "I" ∈ TS := TS_9_in _ (List.mem_of_getElem? (i := 0) rfl)
theorem m_541 : .lays R_Pic "GradientCoder$Picture" "limit" "I" ∈ TS := TS_9_in _ (List.mem_of_getElem? (i := 1) rfl)
theorem m_542 : .lays R_Pic "GradientCoder$Picture" "t1" "I" ∈ TS := TS_9_in _ (List.mem_of_getElem? (i := 2) rfl)
theorem m_543 : .lays R_Pic "GradientCoder$Picture" "t2" "I" ∈ TS := TS_9_in _ (List.mem_of_getElem? (i := 3) rfl)
theorem m_544 : .lays R_Pic "GradientCoder$Picture" "t3" "I" ∈ TS := TS_9_in _ (List.mem_of_getElem? (i := 4) rfl)
theorem m_545 : .laysFinal R_Ctx "GradientCoder$Contexts" "a" "[I" ∈ TS := TS_9_in _ (List.mem_of_getElem? (i := 5) rfl)
theorem m_546 : .laysFinal R_Ctx "GradientCoder$Contexts" "b" "[I" ∈ TS := TS_9_in _ (List.mem_of_getElem? (i := 6) rfl)
theorem m_547 : .laysFinal R_Ctx "GradientCoder$Contexts" "c" "[I" ∈ TS := TS_9_in _ (List.mem_of_getElem? (i := 7) rfl)
theorem m_548 : .laysFinal R_Ctx "GradientCoder$Contexts" "n" "[I" ∈ TS := TS_9_in _ (List.mem_of_getElem? (i := 8) rfl)
theorem m_549 : .laysFinal R_Ctx "GradientCoder$Contexts" "m" "[I" ∈ TS := TS_9_in _ (List.mem_of_getElem? (i := 9) rfl)
theorem m_550 : .lays R_Ctx "GradientCoder$Contexts" "runIndex" "I" ∈ TS := TS_9_in _ (List.mem_of_getElem? (i := 10) rfl)
theorem m_551 : .laysFinal R_Cod "GradientCoder$Pass" "picture" "LGradientCoder$Picture;" ∈ TS := TS_9_in _ (List.mem_of_getElem? (i := 11) rfl)
theorem m_552 : .laysFinal R_Cod "GradientCoder$Pass" "contexts" "LGradientCoder$Contexts;" ∈ TS := TS_9_in _ (List.mem_of_getElem? (i := 12) rfl)
theorem m_553 : .laysFinal R_Cod "GradientCoder$Pass" "rebuilt" "[I" ∈ TS := TS_9_in _ (List.mem_of_getElem? (i := 13) rfl)
theorem m_554 : .lays R_Cod "GradientCoder$Pass" "a" "I" ∈ TS := TS_9_in _ (List.mem_of_getElem? (i := 14) rfl)
theorem m_555 : .lays R_Cod "GradientCoder$Pass" "b" "I" ∈ TS := TS_9_in _ (List.mem_of_getElem? (i := 15) rfl)
theorem m_556 : .lays R_Cod "GradientCoder$Pass" "c" "I" ∈ TS := TS_9_in _ (List.mem_of_getElem? (i := 16) rfl)
theorem m_557 : .lays R_Cod "GradientCoder$Pass" "d" "I" ∈ TS := TS_9_in _ (List.mem_of_getElem? (i := 17) rfl)
theorem m_558 : .lays R_Cod "GradientCoder$Pass" "sign" "I" ∈ TS := TS_9_in _ (List.mem_of_getElem? (i := 18) rfl)
theorem m_559 : .lays R_Cod "GradientCoder$Pass" "foretold" "I" ∈ TS := TS_9_in _ (List.mem_of_getElem? (i := 19) rfl)
theorem m_560 : .laysFinal R_Cod "GradientCoder$Coding" "samples" "[I" ∈ TS := TS_9_in _ (List.mem_of_getElem? (i := 20) rfl)
theorem m_561 : .laysFinal R_Cod "GradientCoder$Coding" "writer" "LGradientCoder$Writer;" ∈ TS := TS_9_in _ (List.mem_of_getElem? (i := 21) rfl)
theorem m_562 : .laysFinal R_Rdg "GradientCoder$Pass" "picture" "LGradientCoder$Picture;" ∈ TS := TS_9_in _ (List.mem_of_getElem? (i := 22) rfl)
theorem m_563 : .laysFinal R_Rdg "GradientCoder$Pass" "contexts" "LGradientCoder$Contexts;" ∈ TS := TS_9_in _ (List.mem_of_getElem? (i := 23) rfl)
theorem m_564 : .laysFinal R_Rdg "GradientCoder$Pass" "rebuilt" "[I" ∈ TS := TS_9_in _ (List.mem_of_getElem? (i := 24) rfl)
theorem m_565 : .lays R_Rdg "GradientCoder$Pass" "a" "I" ∈ TS := TS_9_in _ (List.mem_of_getElem? (i := 25) rfl)
theorem m_566 : .lays R_Rdg "GradientCoder$Pass" "b" "I" ∈ TS := TS_9_in _ (List.mem_of_getElem? (i := 26) rfl)
theorem m_567 : .lays R_Rdg "GradientCoder$Pass" "c" "I" ∈ TS := TS_9_in _ (List.mem_of_getElem? (i := 27) rfl)
theorem m_568 : .lays R_Rdg "GradientCoder$Pass" "d" "I" ∈ TS := TS_9_in _ (List.mem_of_getElem? (i := 28) rfl)
theorem m_569 : .lays R_Rdg "GradientCoder$Pass" "sign" "I" ∈ TS := TS_9_in _ (List.mem_of_getElem? (i := 29) rfl)
theorem m_570 : .lays R_Rdg "GradientCoder$Pass" "foretold" "I" ∈ TS := TS_9_in _ (List.mem_of_getElem? (i := 30) rfl)
theorem m_571 : .laysFinal R_Rdg "GradientCoder$Reading" "reader" "LGradientCoder$Reader;" ∈ TS := TS_9_in _ (List.mem_of_getElem? (i := 31) rfl)
theorem m_572 : .laysFinal R_Wri "GradientCoder$Writer" "bytes" "[I" ∈ TS := TS_9_in _ (List.mem_of_getElem? (i := 32) rfl)
theorem m_573 : .lays R_Wri "GradientCoder$Writer" "size" "I" ∈ TS := TS_9_in _ (List.mem_of_getElem? (i := 33) rfl)
theorem m_574 : .lays R_Wri "GradientCoder$Writer" "bitsFree" "I" ∈ TS := TS_9_in _ (List.mem_of_getElem? (i := 34) rfl)
theorem m_575 : .laysFinal R_Rea "GradientCoder$Reader" "bytes" "[I" ∈ TS := TS_9_in _ (List.mem_of_getElem? (i := 35) rfl)
theorem m_576 : .lays R_Rea "GradientCoder$Reader" "end" "I" ∈ TS := TS_9_in _ (List.mem_of_getElem? (i := 36) rfl)
theorem m_577 : .lays R_Rea "GradientCoder$Reader" "next" "I" ∈ TS := TS_9_in _ (List.mem_of_getElem? (i := 37) rfl)
theorem m_578 : .lays R_Rea "GradientCoder$Reader" "bitsLeft" "I" ∈ TS := TS_9_in _ (List.mem_of_getElem? (i := 38) rfl)
theorem m_579 : .lays R_Mod "GradientCoderModel" "thrown" "I" ∈ TS := TS_9_in _ (List.mem_of_getElem? (i := 39) rfl)
theorem m_580 : .lays R_Mod "GradientCoderModel" "width" "I" ∈ TS := TS_9_in _ (List.mem_of_getElem? (i := 40) rfl)
theorem m_581 : .lays R_Mod "GradientCoderModel" "height" "I" ∈ TS := TS_9_in _ (List.mem_of_getElem? (i := 41) rfl)
theorem m_582 : .lays R_Mod "GradientCoderModel" "maxval" "I" ∈ TS := TS_9_in _ (List.mem_of_getElem? (i := 42) rfl)
theorem m_583 : .lays R_Mod "GradientCoderModel" "near" "I" ∈ TS := TS_9_in _ (List.mem_of_getElem? (i := 43) rfl)
theorem m_584 : .lays R_Mod "GradientCoderModel" "step" "I" ∈ TS := TS_9_in _ (List.mem_of_getElem? (i := 44) rfl)
theorem m_585 : .lays R_Mod "GradientCoderModel" "range" "I" ∈ TS := TS_9_in _ (List.mem_of_getElem? (i := 45) rfl)
theorem m_586 : .lays R_Mod "GradientCoderModel" "qb" "I" ∈ TS := TS_9_in _ (List.mem_of_getElem? (i := 46) rfl)
theorem m_587 : .lays R_Mod "GradientCoderModel" "limit" "I" ∈ TS := TS_9_in _ (List.mem_of_getElem? (i := 47) rfl)
theorem m_588 : .lays R_Mod "GradientCoderModel" "t1" "I" ∈ TS := TS_9_in _ (List.mem_of_getElem? (i := 48) rfl)
theorem m_589 : .lays R_Mod "GradientCoderModel" "t2" "I" ∈ TS := TS_9_in _ (List.mem_of_getElem? (i := 49) rfl)
theorem m_590 : .lays R_Mod "GradientCoderModel" "t3" "I" ∈ TS := TS_9_in _ (List.mem_of_getElem? (i := 50) rfl)
theorem m_591 : .laysFinal R_Mod "GradientCoderModel" "sample" "[I" ∈ TS := TS_9_in _ (List.mem_of_getElem? (i := 51) rfl)
theorem m_592 : .laysFinal R_Mod "GradientCoderModel" "rebuilt" "[I" ∈ TS := TS_9_in _ (List.mem_of_getElem? (i := 52) rfl)
theorem m_593 : .laysFinal R_Mod "GradientCoderModel" "contexts" "[I" ∈ TS := TS_9_in _ (List.mem_of_getElem? (i := 53) rfl)
theorem m_594 : .lays R_Mod "GradientCoderModel" "runIndex" "I" ∈ TS := TS_9_in _ (List.mem_of_getElem? (i := 54) rfl)
theorem m_595 : .laysFinal R_Mod "GradientCoderModel" "code" "[I" ∈ TS := TS_9_in _ (List.mem_of_getElem? (i := 55) rfl)
theorem m_596 : .lays R_Mod "GradientCoderModel" "size" "I" ∈ TS := TS_9_in _ (List.mem_of_getElem? (i := 56) rfl)
theorem m_597 : .lays R_Mod "GradientCoderModel" "begun" "I" ∈ TS := TS_9_in _ (List.mem_of_getElem? (i := 57) rfl)
theorem m_598 : .lays R_Mod "GradientCoderModel" "bits" "I" ∈ TS := TS_9_in _ (List.mem_of_getElem? (i := 58) rfl)
theorem m_599 : .lays R_Mod "GradientCoderModel" "reading" "Z" ∈ TS := TS_9_in _ (List.mem_of_getElem? (i := 59) rfl)
theorem m_600 : .lays R_Mod "GradientCoderModel" "at" "I" ∈ TS := TS_10_in _ (List.mem_of_getElem? (i := 0) rfl)
theorem m_601 : .lays R_Mod "GradientCoderModel" "now" "I" ∈ TS := TS_10_in _ (List.mem_of_getElem? (i := 1) rfl)
theorem m_602 : .lays R_Mod "GradientCoderModel" "left" "I" ∈ TS := TS_10_in _ (List.mem_of_getElem? (i := 2) rfl)
theorem m_603 : .lays R_Mod "GradientCoderModel" "good" "Z" ∈ TS := TS_10_in _ (List.mem_of_getElem? (i := 3) rfl)
theorem m_604 : .laysFinal R_Mod "GradientCoderModel" "oldSample" "[I" ∈ TS := TS_10_in _ (List.mem_of_getElem? (i := 4) rfl)
theorem m_605 : .laysFinal R_Mod "GradientCoderModel" "oldRebuilt" "[I" ∈ TS := TS_10_in _ (List.mem_of_getElem? (i := 5) rfl)
theorem m_606 : .laysFinal R_Mod "GradientCoderModel" "oldContexts" "[I" ∈ TS := TS_10_in _ (List.mem_of_getElem? (i := 6) rfl)
theorem TS_0_ok : TS_0.all goodWord = true := by decide +kernel
theorem TS_1_ok : TS_1.all goodWord = true := by decide +kernel
theorem TS_2_ok : TS_2.all goodWord = true := by decide +kernel
theorem TS_3_ok : TS_3.all goodWord = true := by decide +kernel
theorem TS_4_ok : TS_4.all goodWord = true := by decide +kernel
theorem TS_5_ok : TS_5.all goodWord = true := by decide +kernel
theorem TS_6_ok : TS_6.all goodWord = true := by decide +kernel
theorem TS_7_ok : TS_7.all goodWord = true := by decide +kernel
theorem TS_8_ok : TS_8.all goodWord = true := by decide +kernel
theorem TS_9_ok : TS_9.all goodWord = true := by decide +kernel
theorem TS_10_ok : TS_10.all goodWord = true := by decide +kernel
theorem TS_good : ∀ w ∈ TS, goodWord w = true := by
  intro w h
  unfold TS at h
  rcases List.mem_append.mp h with h | h
  · exact List.all_eq_true.mp TS_0_ok w h
  rcases List.mem_append.mp h with h | h
  · exact List.all_eq_true.mp TS_1_ok w h
  rcases List.mem_append.mp h with h | h
  · exact List.all_eq_true.mp TS_2_ok w h
  rcases List.mem_append.mp h with h | h
  · exact List.all_eq_true.mp TS_3_ok w h
  rcases List.mem_append.mp h with h | h
  · exact List.all_eq_true.mp TS_4_ok w h
  rcases List.mem_append.mp h with h | h
  · exact List.all_eq_true.mp TS_5_ok w h
  rcases List.mem_append.mp h with h | h
  · exact List.all_eq_true.mp TS_6_ok w h
  rcases List.mem_append.mp h with h | h
  · exact List.all_eq_true.mp TS_7_ok w h
  rcases List.mem_append.mp h with h | h
  · exact List.all_eq_true.mp TS_8_ok w h
  rcases List.mem_append.mp h with h | h
  · exact List.all_eq_true.mp TS_9_ok w h
  exact List.all_eq_true.mp TS_10_ok w h
theorem TS_ok : GoodIn TS TS := fun w h => ⟨h, good_of_word (TS_good w h)⟩
theorem in_Grc : ∀ w ∈ u_ws R_Grc F_Grc 2, w ∈ TS := by
  intro w h
  obtain ⟨k, hk, rfl⟩ := List.mem_map.mp h
  have hk := List.mem_range.mp hk
  match k, hk with
  | 0, _ => exact m_532
  | 1, _ => exact m_533
  | n + 2, hk => omega
theorem in_Pic : ∀ w ∈ u_ws R_Pic F_Pic 11, w ∈ TS := by
  intro w h
  obtain ⟨k, hk, rfl⟩ := List.mem_map.mp h
  have hk := List.mem_range.mp hk
  match k, hk with
  | 0, _ => exact m_534
  | 1, _ => exact m_535
  | 2, _ => exact m_536
  | 3, _ => exact m_537
  | 4, _ => exact m_538
  | 5, _ => exact m_539
  | 6, _ => exact m_540
  | 7, _ => exact m_541
  | 8, _ => exact m_542
  | 9, _ => exact m_543
  | 10, _ => exact m_544
  | n + 11, hk => omega
theorem in_Ctx : ∀ w ∈ u_ws R_Ctx F_Ctx 6, w ∈ TS := by
  intro w h
  obtain ⟨k, hk, rfl⟩ := List.mem_map.mp h
  have hk := List.mem_range.mp hk
  match k, hk with
  | 0, _ => exact m_545
  | 1, _ => exact m_546
  | 2, _ => exact m_547
  | 3, _ => exact m_548
  | 4, _ => exact m_549
  | 5, _ => exact m_550
  | n + 6, hk => omega
theorem in_Cod : ∀ w ∈ u_ws R_Cod F_Cod 11, w ∈ TS := by
  intro w h
  obtain ⟨k, hk, rfl⟩ := List.mem_map.mp h
  have hk := List.mem_range.mp hk
  match k, hk with
  | 0, _ => exact m_551
  | 1, _ => exact m_552
  | 2, _ => exact m_553
  | 3, _ => exact m_554
  | 4, _ => exact m_555
  | 5, _ => exact m_556
  | 6, _ => exact m_557
  | 7, _ => exact m_558
  | 8, _ => exact m_559
  | 9, _ => exact m_560
  | 10, _ => exact m_561
  | n + 11, hk => omega
theorem in_Rdg : ∀ w ∈ u_ws R_Rdg F_Rdg 10, w ∈ TS := by
  intro w h
  obtain ⟨k, hk, rfl⟩ := List.mem_map.mp h
  have hk := List.mem_range.mp hk
  match k, hk with
  | 0, _ => exact m_562
  | 1, _ => exact m_563
  | 2, _ => exact m_564
  | 3, _ => exact m_565
  | 4, _ => exact m_566
  | 5, _ => exact m_567
  | 6, _ => exact m_568
  | 7, _ => exact m_569
  | 8, _ => exact m_570
  | 9, _ => exact m_571
  | n + 10, hk => omega
theorem in_Wri : ∀ w ∈ u_ws R_Wri F_Wri 3, w ∈ TS := by
  intro w h
  obtain ⟨k, hk, rfl⟩ := List.mem_map.mp h
  have hk := List.mem_range.mp hk
  match k, hk with
  | 0, _ => exact m_572
  | 1, _ => exact m_573
  | 2, _ => exact m_574
  | n + 3, hk => omega
theorem in_Rea : ∀ w ∈ u_ws R_Rea F_Rea 4, w ∈ TS := by
  intro w h
  obtain ⟨k, hk, rfl⟩ := List.mem_map.mp h
  have hk := List.mem_range.mp hk
  match k, hk with
  | 0, _ => exact m_575
  | 1, _ => exact m_576
  | 2, _ => exact m_577
  | 3, _ => exact m_578
  | n + 4, hk => omega
theorem in_Mod : ∀ w ∈ u_ws R_Mod F_Mod 28, w ∈ TS := by
  intro w h
  obtain ⟨k, hk, rfl⟩ := List.mem_map.mp h
  have hk := List.mem_range.mp hk
  match k, hk with
  | 0, _ => exact m_579
  | 1, _ => exact m_580
  | 2, _ => exact m_581
  | 3, _ => exact m_582
  | 4, _ => exact m_583
  | 5, _ => exact m_584
  | 6, _ => exact m_585
  | 7, _ => exact m_586
  | 8, _ => exact m_587
  | 9, _ => exact m_588
  | 10, _ => exact m_589
  | 11, _ => exact m_590
  | 12, _ => exact m_591
  | 13, _ => exact m_592
  | 14, _ => exact m_593
  | 15, _ => exact m_594
  | 16, _ => exact m_595
  | 17, _ => exact m_596
  | 18, _ => exact m_597
  | 19, _ => exact m_598
  | 20, _ => exact m_599
  | 21, _ => exact m_600
  | 22, _ => exact m_601
  | 23, _ => exact m_602
  | 24, _ => exact m_603
  | 25, _ => exact m_604
  | 26, _ => exact m_605
  | 27, _ => exact m_606
  | n + 28, hk => omega
