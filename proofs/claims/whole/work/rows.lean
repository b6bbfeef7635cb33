section
def R_Grc : String := "GradientCoder"
def R_Pic : String := "GradientCoder$Picture"
def R_Ctx : String := "GradientCoder$Contexts"
def R_Fol : String := "GradientCoder$Folding"
def R_Pas : String := "GradientCoder$Pass"
def R_Cod : String := "GradientCoder$Coding"
def R_Rdg : String := "GradientCoder$Reading"
def R_Wri : String := "GradientCoder$Writer"
def R_Rea : String := "GradientCoder$Reader"
def R_Mod : String := "GradientCoderModel"
def R_Arrs : String := "java/util/Arrays"
def F_Grc : u_T := fun k => match k with
  | 0 => ("GradientCoder", "coding", "LGradientCoder$Coding;", true)
  | _ => ("GradientCoder", "reading", "LGradientCoder$Reading;", true)
def t_Grc : Nat → FieldType := fun k => match k with
  | 0 => .object "GradientCoder$Coding"
  | _ => .object "GradientCoder$Reading"
theorem n_Grc : ∀ a, a < 2 → ∀ b, b < 2 → a ≠ b → (F_Grc a).2.1 ≠ (F_Grc b).2.1 := by decide +kernel
theorem t_Grc_ok : ∀ k, k < 2 → parseFieldDescriptor (F_Grc k).2.2.1 = some (t_Grc k) := by decide +kernel
def F_Pic : u_T := fun k => match k with
  | 0 => ("GradientCoder$Picture", "width", "I", false)
  | 1 => ("GradientCoder$Picture", "height", "I", false)
  | 2 => ("GradientCoder$Picture", "maxval", "I", false)
  | 3 => ("GradientCoder$Picture", "near", "I", false)
  | 4 => ("GradientCoder$Picture", "step", "I", false)
  | 5 => ("GradientCoder$Picture", "range", "I", false)
  | 6 => ("GradientCoder$Picture", "qb", "I", false)
  | 7 => ("GradientCoder$Picture", "limit", "I", false)
  | 8 => ("GradientCoder$Picture", "t1", "I", false)
  | 9 => ("GradientCoder$Picture", "t2", "I", false)
  | _ => ("GradientCoder$Picture", "t3", "I", false)
def t_Pic : Nat → FieldType := fun k => match k with
  | 0 => .int
  | 1 => .int
  | 2 => .int
  | 3 => .int
  | 4 => .int
  | 5 => .int
  | 6 => .int
  | 7 => .int
  | 8 => .int
  | 9 => .int
  | _ => .int
theorem n_Pic : ∀ a, a < 11 → ∀ b, b < 11 → a ≠ b → (F_Pic a).2.1 ≠ (F_Pic b).2.1 := by decide +kernel
theorem t_Pic_ok : ∀ k, k < 11 → parseFieldDescriptor (F_Pic k).2.2.1 = some (t_Pic k) := by decide +kernel
def F_Ctx : u_T := fun k => match k with
  | 0 => ("GradientCoder$Contexts", "a", "[I", true)
  | 1 => ("GradientCoder$Contexts", "b", "[I", true)
  | 2 => ("GradientCoder$Contexts", "c", "[I", true)
  | 3 => ("GradientCoder$Contexts", "n", "[I", true)
  | 4 => ("GradientCoder$Contexts", "m", "[I", true)
  | _ => ("GradientCoder$Contexts", "runIndex", "I", false)
def t_Ctx : Nat → FieldType := fun k => match k with
  | 0 => .array .int
  | 1 => .array .int
  | 2 => .array .int
  | 3 => .array .int
  | 4 => .array .int
  | _ => .int
theorem n_Ctx : ∀ a, a < 6 → ∀ b, b < 6 → a ≠ b → (F_Ctx a).2.1 ≠ (F_Ctx b).2.1 := by decide +kernel
theorem t_Ctx_ok : ∀ k, k < 6 → parseFieldDescriptor (F_Ctx k).2.2.1 = some (t_Ctx k) := by decide +kernel
def F_Cod : u_T := fun k => match k with
  | 0 => ("GradientCoder$Pass", "picture", "LGradientCoder$Picture;", true)
  | 1 => ("GradientCoder$Pass", "contexts", "LGradientCoder$Contexts;", true)
  | 2 => ("GradientCoder$Pass", "rebuilt", "[I", true)
  | 3 => ("GradientCoder$Pass", "a", "I", false)
  | 4 => ("GradientCoder$Pass", "b", "I", false)
  | 5 => ("GradientCoder$Pass", "c", "I", false)
  | 6 => ("GradientCoder$Pass", "d", "I", false)
  | 7 => ("GradientCoder$Pass", "sign", "I", false)
  | 8 => ("GradientCoder$Pass", "foretold", "I", false)
  | 9 => ("GradientCoder$Coding", "samples", "[I", true)
  | _ => ("GradientCoder$Coding", "writer", "LGradientCoder$Writer;", true)
def t_Cod : Nat → FieldType := fun k => match k with
  | 0 => .object "GradientCoder$Picture"
  | 1 => .object "GradientCoder$Contexts"
  | 2 => .array .int
  | 3 => .int
  | 4 => .int
  | 5 => .int
  | 6 => .int
  | 7 => .int
  | 8 => .int
  | 9 => .array .int
  | _ => .object "GradientCoder$Writer"
theorem n_Cod : ∀ a, a < 11 → ∀ b, b < 11 → a ≠ b → (F_Cod a).2.1 ≠ (F_Cod b).2.1 := by decide +kernel
theorem t_Cod_ok : ∀ k, k < 11 → parseFieldDescriptor (F_Cod k).2.2.1 = some (t_Cod k) := by decide +kernel
def F_Rdg : u_T := fun k => match k with
  | 0 => ("GradientCoder$Pass", "picture", "LGradientCoder$Picture;", true)
  | 1 => ("GradientCoder$Pass", "contexts", "LGradientCoder$Contexts;", true)
  | 2 => ("GradientCoder$Pass", "rebuilt", "[I", true)
  | 3 => ("GradientCoder$Pass", "a", "I", false)
  | 4 => ("GradientCoder$Pass", "b", "I", false)
  | 5 => ("GradientCoder$Pass", "c", "I", false)
  | 6 => ("GradientCoder$Pass", "d", "I", false)
  | 7 => ("GradientCoder$Pass", "sign", "I", false)
  | 8 => ("GradientCoder$Pass", "foretold", "I", false)
  | _ => ("GradientCoder$Reading", "reader", "LGradientCoder$Reader;", true)
def t_Rdg : Nat → FieldType := fun k => match k with
  | 0 => .object "GradientCoder$Picture"
  | 1 => .object "GradientCoder$Contexts"
  | 2 => .array .int
  | 3 => .int
  | 4 => .int
  | 5 => .int
  | 6 => .int
  | 7 => .int
  | 8 => .int
  | _ => .object "GradientCoder$Reader"
theorem n_Rdg : ∀ a, a < 10 → ∀ b, b < 10 → a ≠ b → (F_Rdg a).2.1 ≠ (F_Rdg b).2.1 := by decide +kernel
theorem t_Rdg_ok : ∀ k, k < 10 → parseFieldDescriptor (F_Rdg k).2.2.1 = some (t_Rdg k) := by decide +kernel
def F_Wri : u_T := fun k => match k with
  | 0 => ("GradientCoder$Writer", "bytes", "[I", true)
  | 1 => ("GradientCoder$Writer", "size", "I", false)
  | _ => ("GradientCoder$Writer", "bitsFree", "I", false)
def t_Wri : Nat → FieldType := fun k => match k with
  | 0 => .array .int
  | 1 => .int
  | _ => .int
theorem n_Wri : ∀ a, a < 3 → ∀ b, b < 3 → a ≠ b → (F_Wri a).2.1 ≠ (F_Wri b).2.1 := by decide +kernel
theorem t_Wri_ok : ∀ k, k < 3 → parseFieldDescriptor (F_Wri k).2.2.1 = some (t_Wri k) := by decide +kernel
def F_Rea : u_T := fun k => match k with
  | 0 => ("GradientCoder$Reader", "bytes", "[I", true)
  | 1 => ("GradientCoder$Reader", "end", "I", false)
  | 2 => ("GradientCoder$Reader", "next", "I", false)
  | _ => ("GradientCoder$Reader", "bitsLeft", "I", false)
def t_Rea : Nat → FieldType := fun k => match k with
  | 0 => .array .int
  | 1 => .int
  | 2 => .int
  | _ => .int
theorem n_Rea : ∀ a, a < 4 → ∀ b, b < 4 → a ≠ b → (F_Rea a).2.1 ≠ (F_Rea b).2.1 := by decide +kernel
theorem t_Rea_ok : ∀ k, k < 4 → parseFieldDescriptor (F_Rea k).2.2.1 = some (t_Rea k) := by decide +kernel
def F_Mod : u_T := fun k => match k with
  | 0 => ("GradientCoderModel", "thrown", "I", false)
  | 1 => ("GradientCoderModel", "width", "I", false)
  | 2 => ("GradientCoderModel", "height", "I", false)
  | 3 => ("GradientCoderModel", "maxval", "I", false)
  | 4 => ("GradientCoderModel", "near", "I", false)
  | 5 => ("GradientCoderModel", "step", "I", false)
  | 6 => ("GradientCoderModel", "range", "I", false)
  | 7 => ("GradientCoderModel", "qb", "I", false)
  | 8 => ("GradientCoderModel", "limit", "I", false)
  | 9 => ("GradientCoderModel", "t1", "I", false)
  | 10 => ("GradientCoderModel", "t2", "I", false)
  | 11 => ("GradientCoderModel", "t3", "I", false)
  | 12 => ("GradientCoderModel", "sample", "[I", true)
  | 13 => ("GradientCoderModel", "rebuilt", "[I", true)
  | 14 => ("GradientCoderModel", "contexts", "[I", true)
  | 15 => ("GradientCoderModel", "runIndex", "I", false)
  | 16 => ("GradientCoderModel", "code", "[I", true)
  | 17 => ("GradientCoderModel", "size", "I", false)
  | 18 => ("GradientCoderModel", "begun", "I", false)
  | 19 => ("GradientCoderModel", "bits", "I", false)
  | 20 => ("GradientCoderModel", "reading", "Z", false)
  | 21 => ("GradientCoderModel", "at", "I", false)
  | 22 => ("GradientCoderModel", "now", "I", false)
  | 23 => ("GradientCoderModel", "left", "I", false)
  | 24 => ("GradientCoderModel", "good", "Z", false)
  | 25 => ("GradientCoderModel", "oldSample", "[I", true)
  | 26 => ("GradientCoderModel", "oldRebuilt", "[I", true)
  | _ => ("GradientCoderModel", "oldContexts", "[I", true)
def t_Mod : Nat → FieldType := fun k => match k with
  | 0 => .int
  | 1 => .int
  | 2 => .int
  | 3 => .int
  | 4 => .int
  | 5 => .int
  | 6 => .int
  | 7 => .int
  | 8 => .int
  | 9 => .int
  | 10 => .int
  | 11 => .int
  | 12 => .array .int
  | 13 => .array .int
  | 14 => .array .int
  | 15 => .int
  | 16 => .array .int
  | 17 => .int
  | 18 => .int
  | 19 => .int
  | 20 => .boolean
  | 21 => .int
  | 22 => .int
  | 23 => .int
  | 24 => .boolean
  | 25 => .array .int
  | 26 => .array .int
  | _ => .array .int
theorem n_Mod : ∀ a, a < 28 → ∀ b, b < 28 → a ≠ b → (F_Mod a).2.1 ≠ (F_Mod b).2.1 := by decide +kernel
theorem t_Mod_ok : ∀ k, k < 28 → parseFieldDescriptor (F_Mod k).2.2.1 = some (t_Mod k) := by decide +kernel
abbrev cls : List vw_C := [(R_Grc, F_Grc, 2), (R_Pic, F_Pic, 11), (R_Ctx, F_Ctx, 6), (R_Cod, F_Cod, 11), (R_Rdg, F_Rdg, 10), (R_Wri, F_Wri, 3), (R_Rea, F_Rea, 4), (R_Mod, F_Mod, 28)]
def y_Arrs_fill_102 : MethodName := ⟨R_Arrs, "fill", "([II)V"⟩
abbrev b_Arrs_fill_102 : ByteArray := prog_19_method_103_code
def y_Cod_beginPicture : MethodName := ⟨R_Cod, "beginPicture", "(IIII)V"⟩
abbrev b_Cod_beginPicture : ByteArray := prog_2_method_2_code
def y_Cod_carryEnd : MethodName := ⟨R_Cod, "carryEnd", "(IIIZ)I"⟩
abbrev b_Cod_carryEnd : ByteArray := prog_2_method_9_code
def y_Cod_carryRegular : MethodName := ⟨R_Cod, "carryRegular", "(IIZ)I"⟩
abbrev b_Cod_carryRegular : ByteArray := prog_2_method_8_code
def y_Cod_carryRun : MethodName := ⟨R_Cod, "carryRun", "(II)I"⟩
abbrev b_Cod_carryRun : ByteArray := prog_2_method_7_code
def y_Cod_sampleIn : MethodName := ⟨R_Cod, "sampleIn", "(JI)I"⟩
abbrev b_Cod_sampleIn : ByteArray := prog_2_method_4_code
def y_Cod_takeError : MethodName := ⟨R_Cod, "takeError", "(I)I"⟩
abbrev b_Cod_takeError : ByteArray := prog_2_method_10_code
def y_Cod_takeOver : MethodName := ⟨R_Cod, "takeOver", "(LGradientCoder$Reading;)V"⟩
abbrev b_Cod_takeOver : ByteArray := prog_2_method_5_code
def y_Cod_takeRow : MethodName := ⟨R_Cod, "takeRow", "(IJ)Z"⟩
abbrev b_Cod_takeRow : ByteArray := prog_2_method_3_code
def y_Cod_writeHead : MethodName := ⟨R_Cod, "writeHead", "()V"⟩
abbrev b_Cod_writeHead : ByteArray := prog_2_method_6_code
def y_Ctx_correctDown : MethodName := ⟨R_Ctx, "correctDown", "(I)V"⟩
abbrev b_Ctx_correctDown : ByteArray := prog_3_method_13_code
def y_Ctx_correctUp : MethodName := ⟨R_Ctx, "correctUp", "(I)V"⟩
abbrev b_Ctx_correctUp : ByteArray := prog_3_method_14_code
def y_Ctx_isMostlyBelow : MethodName := ⟨R_Ctx, "isMostlyBelow", "(I)Z"⟩
abbrev b_Ctx_isMostlyBelow : ByteArray := prog_3_method_11_code
def y_Ctx_j : MethodName := ⟨R_Ctx, "j", "()I"⟩
abbrev b_Ctx_j : ByteArray := prog_3_method_4_code
def y_Ctx_kOfEnd : MethodName := ⟨R_Ctx, "kOfEnd", "(I)I"⟩
abbrev b_Ctx_kOfEnd : ByteArray := prog_3_method_8_code
def y_Ctx_kOfRegular : MethodName := ⟨R_Ctx, "kOfRegular", "(I)I"⟩
abbrev b_Ctx_kOfRegular : ByteArray := prog_3_method_7_code
def y_Ctx_leansDown : MethodName := ⟨R_Ctx, "leansDown", "(I)Z"⟩
abbrev b_Ctx_leansDown : ByteArray := prog_3_method_10_code
def y_Ctx_learnEnd : MethodName := ⟨R_Ctx, "learnEnd", "(III)V"⟩
abbrev b_Ctx_learnEnd : ByteArray := prog_3_method_15_code
def y_Ctx_learnRegular : MethodName := ⟨R_Ctx, "learnRegular", "(III)V"⟩
abbrev b_Ctx_learnRegular : ByteArray := prog_3_method_12_code
def y_Ctx_leastK : MethodName := ⟨R_Ctx, "leastK", "(II)I"⟩
abbrev b_Ctx_leastK : ByteArray := prog_3_method_9_code
def y_Ctx_lowerRunIndex : MethodName := ⟨R_Ctx, "lowerRunIndex", "()V"⟩
abbrev b_Ctx_lowerRunIndex : ByteArray := prog_3_method_6_code
def y_Ctx_raiseRunIndex : MethodName := ⟨R_Ctx, "raiseRunIndex", "()V"⟩
abbrev b_Ctx_raiseRunIndex : ByteArray := prog_3_method_5_code
def y_Ctx_restart : MethodName := ⟨R_Ctx, "restart", "(I)V"⟩
abbrev b_Ctx_restart : ByteArray := prog_3_method_2_code
def y_Ctx_takeOver : MethodName := ⟨R_Ctx, "takeOver", "(LGradientCoder$Contexts;)V"⟩
abbrev b_Ctx_takeOver : ByteArray := prog_3_method_3_code
def y_Fol_foldEnd : MethodName := ⟨R_Fol, "foldEnd", "(IIZ)I"⟩
abbrev b_Fol_foldEnd : ByteArray := prog_4_method_4_code
def y_Fol_foldRegular : MethodName := ⟨R_Fol, "foldRegular", "(IZ)I"⟩
abbrev b_Fol_foldRegular : ByteArray := prog_4_method_2_code
def y_Fol_unfoldEnd : MethodName := ⟨R_Fol, "unfoldEnd", "(IIZ)I"⟩
abbrev b_Fol_unfoldEnd : ByteArray := prog_4_method_5_code
def y_Fol_unfoldRegular : MethodName := ⟨R_Fol, "unfoldRegular", "(IZ)I"⟩
abbrev b_Fol_unfoldRegular : ByteArray := prog_4_method_3_code
def y_Grc_code : MethodName := ⟨R_Grc, "code", "(I)I"⟩
abbrev b_Grc_code : ByteArray := prog_1_method_6_code
def y_Grc_context : MethodName := ⟨R_Grc, "context", "(II)I"⟩
abbrev b_Grc_context : ByteArray := prog_1_method_13_code
def y_Grc_cut : MethodName := ⟨R_Grc, "cut", "(I)Z"⟩
abbrev b_Grc_cut : ByteArray := prog_1_method_8_code
def y_Grc_encode : MethodName := ⟨R_Grc, "encode", "()I"⟩
abbrev b_Grc_encode : ByteArray := prog_1_method_4_code
def y_Grc_frame : MethodName := ⟨R_Grc, "frame", "(IIII)Z"⟩
abbrev b_Grc_frame : ByteArray := prog_1_method_2_code
def y_Grc_hasByte : MethodName := ⟨R_Grc, "hasByte", "(I)Z"⟩
abbrev b_Grc_hasByte : ByteArray := prog_1_method_15_code
def y_Grc_number : MethodName := ⟨R_Grc, "number", "(I)I"⟩
abbrev b_Grc_number : ByteArray := prog_1_method_10_code
def y_Grc_poke : MethodName := ⟨R_Grc, "poke", "(II)Z"⟩
abbrev b_Grc_poke : ByteArray := prog_1_method_7_code
def y_Grc_rebuilt : MethodName := ⟨R_Grc, "rebuilt", "(II)I"⟩
abbrev b_Grc_rebuilt : ByteArray := prog_1_method_12_code
def y_Grc_row : MethodName := ⟨R_Grc, "row", "(IJ)Z"⟩
abbrev b_Grc_row : ByteArray := prog_1_method_3_code
def y_Grc_runIndex : MethodName := ⟨R_Grc, "runIndex", "()I"⟩
abbrev b_Grc_runIndex : ByteArray := prog_1_method_14_code
def y_Grc_sample : MethodName := ⟨R_Grc, "sample", "(II)I"⟩
abbrev b_Grc_sample : ByteArray := prog_1_method_11_code
def y_Grc_size : MethodName := ⟨R_Grc, "size", "()I"⟩
abbrev b_Grc_size : ByteArray := prog_1_method_5_code
def y_Mod_above : MethodName := ⟨R_Mod, "above", "(II)I"⟩
abbrev b_Mod_above : ByteArray := prog_11_method_20_code
def y_Mod_before : MethodName := ⟨R_Mod, "before", "(II)I"⟩
abbrev b_Mod_before : ByteArray := prog_11_method_21_code
def y_Mod_beyond : MethodName := ⟨R_Mod, "beyond", "(II)I"⟩
abbrev b_Mod_beyond : ByteArray := prog_11_method_23_code
def y_Mod_clamp : MethodName := ⟨R_Mod, "clamp", "(II)I"⟩
abbrev b_Mod_clamp : ByteArray := prog_11_method_5_code
def y_Mod_code : MethodName := ⟨R_Mod, "code", "(I)I"⟩
abbrev b_Mod_code : ByteArray := prog_11_method_46_code
def y_Mod_context : MethodName := ⟨R_Mod, "context", "(II)I"⟩
abbrev b_Mod_context : ByteArray := prog_11_method_53_code
def y_Mod_corner : MethodName := ⟨R_Mod, "corner", "(II)I"⟩
abbrev b_Mod_corner : ByteArray := prog_11_method_22_code
def y_Mod_cut : MethodName := ⟨R_Mod, "cut", "(I)Z"⟩
abbrev b_Mod_cut : ByteArray := prog_11_method_48_code
def y_Mod_decode : MethodName := ⟨R_Mod, "decode", "()I"⟩
abbrev b_Mod_decode : ByteArray := prog_11_method_44_code
def y_Mod_divided : MethodName := ⟨R_Mod, "divided", "(I)I"⟩
abbrev b_Mod_divided : ByteArray := prog_11_method_26_code
def y_Mod_encode : MethodName := ⟨R_Mod, "encode", "()I"⟩
abbrev b_Mod_encode : ByteArray := prog_11_method_40_code
def y_Mod_endRun : MethodName := ⟨R_Mod, "endRun", "(III)V"⟩
abbrev b_Mod_endRun : ByteArray := prog_11_method_36_code
def y_Mod_endsWell : MethodName := ⟨R_Mod, "endsWell", "()Z"⟩
abbrev b_Mod_endsWell : ByteArray := prog_11_method_43_code
def y_Mod_errorOf : MethodName := ⟨R_Mod, "errorOf", "(IIII)I"⟩
abbrev b_Mod_errorOf : ByteArray := prog_11_method_29_code
def y_Mod_fits : MethodName := ⟨R_Mod, "fits", "(IIII)Z"⟩
abbrev b_Mod_fits : ByteArray := prog_11_method_9_code
def y_Mod_forget : MethodName := ⟨R_Mod, "forget", "()V"⟩
abbrev b_Mod_forget : ByteArray := prog_11_method_8_code
def y_Mod_frame : MethodName := ⟨R_Mod, "frame", "(IIII)Z"⟩
abbrev b_Mod_frame : ByteArray := prog_11_method_10_code
def y_Mod_get : MethodName := ⟨R_Mod, "get", "()I"⟩
abbrev b_Mod_get : ByteArray := prog_11_method_15_code
def y_Mod_getMany : MethodName := ⟨R_Mod, "getMany", "(I)I"⟩
abbrev b_Mod_getMany : ByteArray := prog_11_method_16_code
def y_Mod_greater : MethodName := ⟨R_Mod, "greater", "(II)I"⟩
abbrev b_Mod_greater : ByteArray := prog_11_method_3_code
def y_Mod_half : MethodName := ⟨R_Mod, "half", "(I)I"⟩
abbrev b_Mod_half : ByteArray := prog_11_method_28_code
def y_Mod_held : MethodName := ⟨R_Mod, "held", "(I)I"⟩
abbrev b_Mod_held : ByteArray := prog_11_method_25_code
def y_Mod_isNear : MethodName := ⟨R_Mod, "isNear", "(I)Z"⟩
abbrev b_Mod_isNear : ByteArray := prog_11_method_24_code
def y_Mod_isPlace : MethodName := ⟨R_Mod, "isPlace", "(II)Z"⟩
abbrev b_Mod_isPlace : ByteArray := prog_11_method_50_code
def y_Mod_jOf : MethodName := ⟨R_Mod, "jOf", "(I)I"⟩
abbrev b_Mod_jOf : ByteArray := prog_11_method_35_code
def y_Mod_kFor : MethodName := ⟨R_Mod, "kFor", "(II)I"⟩
abbrev b_Mod_kFor : ByteArray := prog_11_method_31_code
def y_Mod_keep : MethodName := ⟨R_Mod, "keep", "()V"⟩
abbrev b_Mod_keep : ByteArray := prog_11_method_41_code
def y_Mod_learn : MethodName := ⟨R_Mod, "learn", "(II)V"⟩
abbrev b_Mod_learn : ByteArray := prog_11_method_34_code
def y_Mod_lesser : MethodName := ⟨R_Mod, "lesser", "(II)I"⟩
abbrev b_Mod_lesser : ByteArray := prog_11_method_4_code
def y_Mod_number : MethodName := ⟨R_Mod, "number", "(I)I"⟩
abbrev b_Mod_number : ByteArray := prog_11_method_49_code
def y_Mod_poke : MethodName := ⟨R_Mod, "poke", "(II)Z"⟩
abbrev b_Mod_poke : ByteArray := prog_11_method_47_code
def y_Mod_powerFor : MethodName := ⟨R_Mod, "powerFor", "(II)I"⟩
abbrev b_Mod_powerFor : ByteArray := prog_11_method_6_code
def y_Mod_prepare : MethodName := ⟨R_Mod, "prepare", "()V"⟩
abbrev b_Mod_prepare : ByteArray := prog_11_method_7_code
def y_Mod_put : MethodName := ⟨R_Mod, "put", "(I)V"⟩
abbrev b_Mod_put : ByteArray := prog_11_method_13_code
def y_Mod_putBack : MethodName := ⟨R_Mod, "putBack", "(IIIII)V"⟩
abbrev b_Mod_putBack : ByteArray := prog_11_method_42_code
def y_Mod_putMany : MethodName := ⟨R_Mod, "putMany", "(II)V"⟩
abbrev b_Mod_putMany : ByteArray := prog_11_method_14_code
def y_Mod_quantized : MethodName := ⟨R_Mod, "quantized", "(I)I"⟩
abbrev b_Mod_quantized : ByteArray := prog_11_method_32_code
def y_Mod_read : MethodName := ⟨R_Mod, "read", "(II)I"⟩
abbrev b_Mod_read : ByteArray := prog_11_method_18_code
def y_Mod_readRun : MethodName := ⟨R_Mod, "readRun", "(II)I"⟩
abbrev b_Mod_readRun : ByteArray := prog_11_method_38_code
def y_Mod_rebuilt : MethodName := ⟨R_Mod, "rebuilt", "(II)I"⟩
abbrev b_Mod_rebuilt : ByteArray := prog_11_method_52_code
def y_Mod_reduced : MethodName := ⟨R_Mod, "reduced", "(I)I"⟩
abbrev b_Mod_reduced : ByteArray := prog_11_method_27_code
def y_Mod_regular : MethodName := ⟨R_Mod, "regular", "(II)V"⟩
abbrev b_Mod_regular : ByteArray := prog_11_method_33_code
def y_Mod_row : MethodName := ⟨R_Mod, "row", "(IJ)Z"⟩
abbrev b_Mod_row : ByteArray := prog_11_method_11_code
def y_Mod_runIndex : MethodName := ⟨R_Mod, "runIndex", "()I"⟩
abbrev b_Mod_runIndex : ByteArray := prog_11_method_54_code
def y_Mod_sample : MethodName := ⟨R_Mod, "sample", "(II)I"⟩
abbrev b_Mod_sample : ByteArray := prog_11_method_51_code
def y_Mod_say : MethodName := ⟨R_Mod, "say", "(I)V"⟩
abbrev b_Mod_say : ByteArray := prog_11_method_12_code
def y_Mod_settle : MethodName := ⟨R_Mod, "settle", "(IIIII)V"⟩
abbrev b_Mod_settle : ByteArray := prog_11_method_30_code
def y_Mod_size : MethodName := ⟨R_Mod, "size", "()I"⟩
abbrev b_Mod_size : ByteArray := prog_11_method_45_code
def y_Mod_thrown : MethodName := ⟨R_Mod, "thrown", "()I"⟩
abbrev b_Mod_thrown : ByteArray := prog_11_method_2_code
def y_Mod_value : MethodName := ⟨R_Mod, "value", "(II)I"⟩
abbrev b_Mod_value : ByteArray := prog_11_method_19_code
def y_Mod_walk : MethodName := ⟨R_Mod, "walk", "()V"⟩
abbrev b_Mod_walk : ByteArray := prog_11_method_39_code
def y_Mod_write : MethodName := ⟨R_Mod, "write", "(III)V"⟩
abbrev b_Mod_write : ByteArray := prog_11_method_17_code
def y_Mod_writeRun : MethodName := ⟨R_Mod, "writeRun", "(II)I"⟩
abbrev b_Mod_writeRun : ByteArray := prog_11_method_37_code
def y_Pas_carryEnd : MethodName := ⟨R_Pas, "carryEnd", "(IIIZ)I"⟩
def y_Pas_carryRegular : MethodName := ⟨R_Pas, "carryRegular", "(IIZ)I"⟩
def y_Pas_carryRun : MethodName := ⟨R_Pas, "carryRun", "(II)I"⟩
def y_Pas_foretoldByNeighbours : MethodName := ⟨R_Pas, "foretoldByNeighbours", "()I"⟩
abbrev b_Pas_foretoldByNeighbours : ByteArray := prog_5_method_11_code
def y_Pas_isEven : MethodName := ⟨R_Pas, "isEven", "()Z"⟩
abbrev b_Pas_isEven : ByteArray := prog_5_method_8_code
def y_Pas_limitOfEnd : MethodName := ⟨R_Pas, "limitOfEnd", "()I"⟩
abbrev b_Pas_limitOfEnd : ByteArray := prog_5_method_13_code
def y_Pas_lookAround : MethodName := ⟨R_Pas, "lookAround", "(II)V"⟩
abbrev b_Pas_lookAround : ByteArray := prog_5_method_6_code
def y_Pas_overAll : MethodName := ⟨R_Pas, "overAll", "()V"⟩
abbrev b_Pas_overAll : ByteArray := prog_5_method_5_code
def y_Pas_overEnd : MethodName := ⟨R_Pas, "overEnd", "(I)V"⟩
abbrev b_Pas_overEnd : ByteArray := prog_5_method_12_code
def y_Pas_overRegular : MethodName := ⟨R_Pas, "overRegular", "(I)V"⟩
abbrev b_Pas_overRegular : ByteArray := prog_5_method_9_code
def y_Pas_rebuiltOrNothing : MethodName := ⟨R_Pas, "rebuiltOrNothing", "(II)I"⟩
abbrev b_Pas_rebuiltOrNothing : ByteArray := prog_5_method_7_code
def y_Pas_signedContext : MethodName := ⟨R_Pas, "signedContext", "()I"⟩
abbrev b_Pas_signedContext : ByteArray := prog_5_method_10_code
def y_Pic_become : MethodName := ⟨R_Pic, "become", "(IIII)V"⟩
abbrev b_Pic_become : ByteArray := prog_6_method_4_code
def y_Pic_becomeCoarse : MethodName := ⟨R_Pic, "becomeCoarse", "(I)V"⟩
abbrev b_Pic_becomeCoarse : ByteArray := prog_6_method_6_code
def y_Pic_becomeFine : MethodName := ⟨R_Pic, "becomeFine", "(I)V"⟩
abbrev b_Pic_becomeFine : ByteArray := prog_6_method_5_code
def y_Pic_bounded : MethodName := ⟨R_Pic, "bounded", "(I)I"⟩
abbrev b_Pic_bounded : ByteArray := prog_6_method_11_code
def y_Pic_clamp : MethodName := ⟨R_Pic, "clamp", "(II)I"⟩
abbrev b_Pic_clamp : ByteArray := prog_6_method_7_code
def y_Pic_divided : MethodName := ⟨R_Pic, "divided", "(I)I"⟩
abbrev b_Pic_divided : ByteArray := prog_6_method_13_code
def y_Pic_fits : MethodName := ⟨R_Pic, "fits", "(IIII)Z"⟩
abbrev b_Pic_fits : ByteArray := prog_6_method_2_code
def y_Pic_hasPlace : MethodName := ⟨R_Pic, "hasPlace", "(II)Z"⟩
abbrev b_Pic_hasPlace : ByteArray := prog_6_method_9_code
def y_Pic_isNear : MethodName := ⟨R_Pic, "isNear", "(I)Z"⟩
abbrev b_Pic_isNear : ByteArray := prog_6_method_10_code
def y_Pic_isReduced : MethodName := ⟨R_Pic, "isReduced", "(I)Z"⟩
abbrev b_Pic_isReduced : ByteArray := prog_6_method_15_code
def y_Pic_leastPower : MethodName := ⟨R_Pic, "leastPower", "(II)I"⟩
abbrev b_Pic_leastPower : ByteArray := prog_6_method_8_code
def y_Pic_level : MethodName := ⟨R_Pic, "level", "(I)I"⟩
abbrev b_Pic_level : ByteArray := prog_6_method_12_code
def y_Pic_place : MethodName := ⟨R_Pic, "place", "(II)I"⟩
abbrev b_Pic_place : ByteArray := prog_6_method_3_code
def y_Pic_reduced : MethodName := ⟨R_Pic, "reduced", "(I)I"⟩
abbrev b_Pic_reduced : ByteArray := prog_6_method_14_code
def y_Pic_unreduced : MethodName := ⟨R_Pic, "unreduced", "(I)I"⟩
abbrev b_Pic_unreduced : ByteArray := prog_6_method_16_code
def y_Wri_endsWith255 : MethodName := ⟨R_Wri, "endsWith255", "()Z"⟩
abbrev b_Wri_endsWith255 : ByteArray := prog_9_method_4_code
def y_Wri_restart : MethodName := ⟨R_Wri, "restart", "()V"⟩
abbrev b_Wri_restart : ByteArray := prog_9_method_2_code
def y_Wri_writeBits : MethodName := ⟨R_Wri, "writeBits", "(II)V"⟩
abbrev b_Wri_writeBits : ByteArray := prog_9_method_5_code
def y_Wri_writeByte : MethodName := ⟨R_Wri, "writeByte", "(I)V"⟩
abbrev b_Wri_writeByte : ByteArray := prog_9_method_3_code
def y_Wri_writeEnd : MethodName := ⟨R_Wri, "writeEnd", "()V"⟩
abbrev b_Wri_writeEnd : ByteArray := prog_9_method_7_code
def y_Wri_writeNumber : MethodName := ⟨R_Wri, "writeNumber", "(IIII)V"⟩
abbrev b_Wri_writeNumber : ByteArray := prog_9_method_6_code
def y_Cod_limitOfEnd : MethodName := ⟨R_Cod, "limitOfEnd", "()I"⟩
def y_Cod_overAll : MethodName := ⟨R_Cod, "overAll", "()V"⟩
end
section
theorem d_Arrs_fill_102_0 : decode b_Arrs_fill_102 0 = .ok (.iconst 0, 1) := by decide +kernel
theorem d_Arrs_fill_102_1 : decode b_Arrs_fill_102 1 = .ok (.istore_n 2, 1) := by decide +kernel
theorem d_Arrs_fill_102_2 : decode b_Arrs_fill_102 2 = .ok (.aload_n 0, 1) := by decide +kernel
theorem d_Arrs_fill_102_3 : decode b_Arrs_fill_102 3 = .ok (.arraylength, 1) := by decide +kernel
theorem d_Arrs_fill_102_4 : decode b_Arrs_fill_102 4 = .ok (.istore_n 3, 1) := by decide +kernel
theorem d_Arrs_fill_102_5 : decode b_Arrs_fill_102 5 = .ok (.iload_n 2, 1) := by decide +kernel
theorem d_Arrs_fill_102_6 : decode b_Arrs_fill_102 6 = .ok (.iload_n 3, 1) := by decide +kernel
theorem d_Arrs_fill_102_7 : decode b_Arrs_fill_102 7 = .ok (.if_icmp .ge 13, 3) := by decide +kernel
theorem d_Arrs_fill_102_10 : decode b_Arrs_fill_102 10 = .ok (.aload_n 0, 1) := by decide +kernel
theorem d_Arrs_fill_102_11 : decode b_Arrs_fill_102 11 = .ok (.iload_n 2, 1) := by decide +kernel
theorem d_Arrs_fill_102_12 : decode b_Arrs_fill_102 12 = .ok (.iload_n 1, 1) := by decide +kernel
theorem d_Arrs_fill_102_13 : decode b_Arrs_fill_102 13 = .ok (.iastore, 1) := by decide +kernel
theorem d_Arrs_fill_102_14 : decode b_Arrs_fill_102 14 = .ok (.iinc 2 1, 3) := by decide +kernel
theorem d_Arrs_fill_102_17 : decode b_Arrs_fill_102 17 = .ok (.goto (-12), 3) := by decide +kernel
theorem d_Arrs_fill_102_20 : decode b_Arrs_fill_102 20 = .ok (.return_, 1) := by decide +kernel
theorem d_Cod_beginPicture_0 : decode b_Cod_beginPicture 0 = .ok (.aload_n 0, 1) := by decide +kernel
theorem d_Cod_beginPicture_1 : decode b_Cod_beginPicture 1 = .ok (.getfield 26, 3) := by decide +kernel
theorem d_Cod_beginPicture_4 : decode b_Cod_beginPicture 4 = .ok (.iload_n 1, 1) := by decide +kernel
theorem d_Cod_beginPicture_5 : decode b_Cod_beginPicture 5 = .ok (.iload_n 2, 1) := by decide +kernel
theorem d_Cod_beginPicture_6 : decode b_Cod_beginPicture 6 = .ok (.iload_n 3, 1) := by decide +kernel
theorem d_Cod_beginPicture_7 : decode b_Cod_beginPicture 7 = .ok (.iload 4, 2) := by decide +kernel
theorem d_Cod_beginPicture_9 : decode b_Cod_beginPicture 9 = .ok (.invokevirtual 40, 3) := by decide +kernel
theorem d_Cod_beginPicture_12 : decode b_Cod_beginPicture 12 = .ok (.aload_n 0, 1) := by decide +kernel
theorem d_Cod_beginPicture_13 : decode b_Cod_beginPicture 13 = .ok (.getfield 22, 3) := by decide +kernel
theorem d_Cod_beginPicture_16 : decode b_Cod_beginPicture 16 = .ok (.aload_n 0, 1) := by decide +kernel
theorem d_Cod_beginPicture_17 : decode b_Cod_beginPicture 17 = .ok (.getfield 26, 3) := by decide +kernel
theorem d_Cod_beginPicture_20 : decode b_Cod_beginPicture 20 = .ok (.getfield 30, 3) := by decide +kernel
theorem d_Cod_beginPicture_23 : decode b_Cod_beginPicture 23 = .ok (.invokevirtual 34, 3) := by decide +kernel
theorem d_Cod_beginPicture_26 : decode b_Cod_beginPicture 26 = .ok (.aload_n 0, 1) := by decide +kernel
theorem d_Cod_beginPicture_27 : decode b_Cod_beginPicture 27 = .ok (.getfield 9, 3) := by decide +kernel
theorem d_Cod_beginPicture_30 : decode b_Cod_beginPicture 30 = .ok (.iconst 0, 1) := by decide +kernel
theorem d_Cod_beginPicture_31 : decode b_Cod_beginPicture 31 = .ok (.invokestatic 44, 3) := by decide +kernel
theorem d_Cod_beginPicture_34 : decode b_Cod_beginPicture 34 = .ok (.aload_n 0, 1) := by decide +kernel
theorem d_Cod_beginPicture_35 : decode b_Cod_beginPicture 35 = .ok (.getfield 50, 3) := by decide +kernel
theorem d_Cod_beginPicture_38 : decode b_Cod_beginPicture 38 = .ok (.iconst 0, 1) := by decide +kernel
theorem d_Cod_beginPicture_39 : decode b_Cod_beginPicture 39 = .ok (.invokestatic 44, 3) := by decide +kernel
theorem d_Cod_beginPicture_42 : decode b_Cod_beginPicture 42 = .ok (.aload_n 0, 1) := by decide +kernel
theorem d_Cod_beginPicture_43 : decode b_Cod_beginPicture 43 = .ok (.getfield 18, 3) := by decide +kernel
theorem d_Cod_beginPicture_46 : decode b_Cod_beginPicture 46 = .ok (.iconst 0, 1) := by decide +kernel
theorem d_Cod_beginPicture_47 : decode b_Cod_beginPicture 47 = .ok (.putfield 53, 3) := by decide +kernel
theorem d_Cod_beginPicture_50 : decode b_Cod_beginPicture 50 = .ok (.return_, 1) := by decide +kernel
theorem d_Cod_carryEnd_0 : decode b_Cod_carryEnd 0 = .ok (.aload_n 0, 1) := by decide +kernel
theorem d_Cod_carryEnd_1 : decode b_Cod_carryEnd 1 = .ok (.iload_n 1, 1) := by decide +kernel
theorem d_Cod_carryEnd_2 : decode b_Cod_carryEnd 2 = .ok (.invokevirtual 114, 3) := by decide +kernel
theorem d_Cod_carryEnd_5 : decode b_Cod_carryEnd 5 = .ok (.istore 5, 2) := by decide +kernel
theorem d_Cod_carryEnd_7 : decode b_Cod_carryEnd 7 = .ok (.aload_n 0, 1) := by decide +kernel
theorem d_Cod_carryEnd_8 : decode b_Cod_carryEnd 8 = .ok (.getfield 18, 3) := by decide +kernel
theorem d_Cod_carryEnd_11 : decode b_Cod_carryEnd 11 = .ok (.iload 5, 2) := by decide +kernel
theorem d_Cod_carryEnd_13 : decode b_Cod_carryEnd 13 = .ok (.iload_n 2, 1) := by decide +kernel
theorem d_Cod_carryEnd_14 : decode b_Cod_carryEnd 14 = .ok (.iload 4, 2) := by decide +kernel
theorem d_Cod_carryEnd_16 : decode b_Cod_carryEnd 16 = .ok (.invokestatic 133, 3) := by decide +kernel
theorem d_Cod_carryEnd_19 : decode b_Cod_carryEnd 19 = .ok (.iload_n 3, 1) := by decide +kernel
theorem d_Cod_carryEnd_20 : decode b_Cod_carryEnd 20 = .ok (.aload_n 0, 1) := by decide +kernel
theorem d_Cod_carryEnd_21 : decode b_Cod_carryEnd 21 = .ok (.invokevirtual 137, 3) := by decide +kernel
theorem d_Cod_carryEnd_24 : decode b_Cod_carryEnd 24 = .ok (.aload_n 0, 1) := by decide +kernel
theorem d_Cod_carryEnd_25 : decode b_Cod_carryEnd 25 = .ok (.getfield 26, 3) := by decide +kernel
theorem d_Cod_carryEnd_28 : decode b_Cod_carryEnd 28 = .ok (.getfield 127, 3) := by decide +kernel
theorem d_Cod_carryEnd_31 : decode b_Cod_carryEnd 31 = .ok (.invokevirtual 130, 3) := by decide +kernel
theorem d_Cod_carryEnd_34 : decode b_Cod_carryEnd 34 = .ok (.iload 5, 2) := by decide +kernel
theorem d_Cod_carryEnd_36 : decode b_Cod_carryEnd 36 = .ok (.ireturn, 1) := by decide +kernel
theorem d_Cod_carryRegular_0 : decode b_Cod_carryRegular 0 = .ok (.aload_n 0, 1) := by decide +kernel
theorem d_Cod_carryRegular_1 : decode b_Cod_carryRegular 1 = .ok (.iload_n 1, 1) := by decide +kernel
theorem d_Cod_carryRegular_2 : decode b_Cod_carryRegular 2 = .ok (.invokevirtual 114, 3) := by decide +kernel
theorem d_Cod_carryRegular_5 : decode b_Cod_carryRegular 5 = .ok (.istore 4, 2) := by decide +kernel
theorem d_Cod_carryRegular_7 : decode b_Cod_carryRegular 7 = .ok (.aload_n 0, 1) := by decide +kernel
theorem d_Cod_carryRegular_8 : decode b_Cod_carryRegular 8 = .ok (.getfield 18, 3) := by decide +kernel
theorem d_Cod_carryRegular_11 : decode b_Cod_carryRegular 11 = .ok (.iload 4, 2) := by decide +kernel
theorem d_Cod_carryRegular_13 : decode b_Cod_carryRegular 13 = .ok (.iload_n 3, 1) := by decide +kernel
theorem d_Cod_carryRegular_14 : decode b_Cod_carryRegular 14 = .ok (.invokestatic 118, 3) := by decide +kernel
theorem d_Cod_carryRegular_17 : decode b_Cod_carryRegular 17 = .ok (.iload_n 2, 1) := by decide +kernel
theorem d_Cod_carryRegular_18 : decode b_Cod_carryRegular 18 = .ok (.aload_n 0, 1) := by decide +kernel
theorem d_Cod_carryRegular_19 : decode b_Cod_carryRegular 19 = .ok (.getfield 26, 3) := by decide +kernel
theorem d_Cod_carryRegular_22 : decode b_Cod_carryRegular 22 = .ok (.getfield 124, 3) := by decide +kernel
theorem d_Cod_carryRegular_25 : decode b_Cod_carryRegular 25 = .ok (.aload_n 0, 1) := by decide +kernel
theorem d_Cod_carryRegular_26 : decode b_Cod_carryRegular 26 = .ok (.getfield 26, 3) := by decide +kernel
theorem d_Cod_carryRegular_29 : decode b_Cod_carryRegular 29 = .ok (.getfield 127, 3) := by decide +kernel
theorem d_Cod_carryRegular_32 : decode b_Cod_carryRegular 32 = .ok (.invokevirtual 130, 3) := by decide +kernel
theorem d_Cod_carryRegular_35 : decode b_Cod_carryRegular 35 = .ok (.iload 4, 2) := by decide +kernel
theorem d_Cod_carryRegular_37 : decode b_Cod_carryRegular 37 = .ok (.ireturn, 1) := by decide +kernel
theorem d_Cod_carryRun_0 : decode b_Cod_carryRun 0 = .ok (.iconst 0, 1) := by decide +kernel
theorem d_Cod_carryRun_1 : decode b_Cod_carryRun 1 = .ok (.istore_n 3, 1) := by decide +kernel
theorem d_Cod_carryRun_2 : decode b_Cod_carryRun 2 = .ok (.iload_n 3, 1) := by decide +kernel
theorem d_Cod_carryRun_3 : decode b_Cod_carryRun 3 = .ok (.iload_n 2, 1) := by decide +kernel
theorem d_Cod_carryRun_4 : decode b_Cod_carryRun 4 = .ok (.if_icmp .ge 32, 3) := by decide +kernel
theorem d_Cod_carryRun_7 : decode b_Cod_carryRun 7 = .ok (.aload_n 0, 1) := by decide +kernel
theorem d_Cod_carryRun_8 : decode b_Cod_carryRun 8 = .ok (.getfield 26, 3) := by decide +kernel
theorem d_Cod_carryRun_11 : decode b_Cod_carryRun 11 = .ok (.aload_n 0, 1) := by decide +kernel
theorem d_Cod_carryRun_12 : decode b_Cod_carryRun 12 = .ok (.getfield 9, 3) := by decide +kernel
theorem d_Cod_carryRun_15 : decode b_Cod_carryRun 15 = .ok (.iload_n 1, 1) := by decide +kernel
theorem d_Cod_carryRun_16 : decode b_Cod_carryRun 16 = .ok (.iload_n 3, 1) := by decide +kernel
theorem d_Cod_carryRun_17 : decode b_Cod_carryRun 17 = .ok (.iadd, 1) := by decide +kernel
theorem d_Cod_carryRun_18 : decode b_Cod_carryRun 18 = .ok (.iaload, 1) := by decide +kernel
theorem d_Cod_carryRun_19 : decode b_Cod_carryRun 19 = .ok (.aload_n 0, 1) := by decide +kernel
theorem d_Cod_carryRun_20 : decode b_Cod_carryRun 20 = .ok (.getfield 96, 3) := by decide +kernel
theorem d_Cod_carryRun_23 : decode b_Cod_carryRun 23 = .ok (.isub, 1) := by decide +kernel
theorem d_Cod_carryRun_24 : decode b_Cod_carryRun 24 = .ok (.invokevirtual 99, 3) := by decide +kernel
theorem d_Cod_carryRun_27 : decode b_Cod_carryRun 27 = .ok (.ifCond .eq 9, 3) := by decide +kernel
theorem d_Cod_carryRun_30 : decode b_Cod_carryRun 30 = .ok (.iinc 3 1, 3) := by decide +kernel
theorem d_Cod_carryRun_33 : decode b_Cod_carryRun 33 = .ok (.goto (-31), 3) := by decide +kernel
theorem d_Cod_carryRun_36 : decode b_Cod_carryRun 36 = .ok (.iload_n 3, 1) := by decide +kernel
theorem d_Cod_carryRun_37 : decode b_Cod_carryRun 37 = .ok (.istore 4, 2) := by decide +kernel
theorem d_Cod_carryRun_39 : decode b_Cod_carryRun 39 = .ok (.iload 4, 2) := by decide +kernel
theorem d_Cod_carryRun_41 : decode b_Cod_carryRun 41 = .ok (.iconst 1, 1) := by decide +kernel
theorem d_Cod_carryRun_42 : decode b_Cod_carryRun 42 = .ok (.aload_n 0, 1) := by decide +kernel
theorem d_Cod_carryRun_43 : decode b_Cod_carryRun 43 = .ok (.getfield 22, 3) := by decide +kernel
theorem d_Cod_carryRun_46 : decode b_Cod_carryRun 46 = .ok (.invokevirtual 103, 3) := by decide +kernel
theorem d_Cod_carryRun_49 : decode b_Cod_carryRun 49 = .ok (.ishl, 1) := by decide +kernel
theorem d_Cod_carryRun_50 : decode b_Cod_carryRun 50 = .ok (.if_icmp .lt 36, 3) := by decide +kernel
theorem d_Cod_carryRun_53 : decode b_Cod_carryRun 53 = .ok (.aload_n 0, 1) := by decide +kernel
theorem d_Cod_carryRun_54 : decode b_Cod_carryRun 54 = .ok (.getfield 18, 3) := by decide +kernel
theorem d_Cod_carryRun_57 : decode b_Cod_carryRun 57 = .ok (.iconst 1, 1) := by decide +kernel
theorem d_Cod_carryRun_58 : decode b_Cod_carryRun 58 = .ok (.iconst 1, 1) := by decide +kernel
theorem d_Cod_carryRun_59 : decode b_Cod_carryRun 59 = .ok (.invokevirtual 107, 3) := by decide +kernel
theorem d_Cod_carryRun_62 : decode b_Cod_carryRun 62 = .ok (.iload 4, 2) := by decide +kernel
theorem d_Cod_carryRun_64 : decode b_Cod_carryRun 64 = .ok (.iconst 1, 1) := by decide +kernel
theorem d_Cod_carryRun_65 : decode b_Cod_carryRun 65 = .ok (.aload_n 0, 1) := by decide +kernel
theorem d_Cod_carryRun_66 : decode b_Cod_carryRun 66 = .ok (.getfield 22, 3) := by decide +kernel
theorem d_Cod_carryRun_69 : decode b_Cod_carryRun 69 = .ok (.invokevirtual 103, 3) := by decide +kernel
theorem d_Cod_carryRun_72 : decode b_Cod_carryRun 72 = .ok (.ishl, 1) := by decide +kernel
theorem d_Cod_carryRun_73 : decode b_Cod_carryRun 73 = .ok (.isub, 1) := by decide +kernel
theorem d_Cod_carryRun_74 : decode b_Cod_carryRun 74 = .ok (.istore 4, 2) := by decide +kernel
theorem d_Cod_carryRun_76 : decode b_Cod_carryRun 76 = .ok (.aload_n 0, 1) := by decide +kernel
theorem d_Cod_carryRun_77 : decode b_Cod_carryRun 77 = .ok (.getfield 22, 3) := by decide +kernel
theorem d_Cod_carryRun_80 : decode b_Cod_carryRun 80 = .ok (.invokevirtual 111, 3) := by decide +kernel
theorem d_Cod_carryRun_83 : decode b_Cod_carryRun 83 = .ok (.goto (-44), 3) := by decide +kernel
theorem d_Cod_carryRun_86 : decode b_Cod_carryRun 86 = .ok (.iload_n 3, 1) := by decide +kernel
theorem d_Cod_carryRun_87 : decode b_Cod_carryRun 87 = .ok (.iload_n 2, 1) := by decide +kernel
theorem d_Cod_carryRun_88 : decode b_Cod_carryRun 88 = .ok (.if_icmp .ge 31, 3) := by decide +kernel
theorem d_Cod_carryRun_91 : decode b_Cod_carryRun 91 = .ok (.aload_n 0, 1) := by decide +kernel
theorem d_Cod_carryRun_92 : decode b_Cod_carryRun 92 = .ok (.getfield 18, 3) := by decide +kernel
theorem d_Cod_carryRun_95 : decode b_Cod_carryRun 95 = .ok (.iconst 0, 1) := by decide +kernel
theorem d_Cod_carryRun_96 : decode b_Cod_carryRun 96 = .ok (.iconst 1, 1) := by decide +kernel
theorem d_Cod_carryRun_97 : decode b_Cod_carryRun 97 = .ok (.invokevirtual 107, 3) := by decide +kernel
theorem d_Cod_carryRun_100 : decode b_Cod_carryRun 100 = .ok (.aload_n 0, 1) := by decide +kernel
theorem d_Cod_carryRun_101 : decode b_Cod_carryRun 101 = .ok (.getfield 18, 3) := by decide +kernel
theorem d_Cod_carryRun_104 : decode b_Cod_carryRun 104 = .ok (.iload 4, 2) := by decide +kernel
theorem d_Cod_carryRun_106 : decode b_Cod_carryRun 106 = .ok (.aload_n 0, 1) := by decide +kernel
theorem d_Cod_carryRun_107 : decode b_Cod_carryRun 107 = .ok (.getfield 22, 3) := by decide +kernel
theorem d_Cod_carryRun_110 : decode b_Cod_carryRun 110 = .ok (.invokevirtual 103, 3) := by decide +kernel
theorem d_Cod_carryRun_113 : decode b_Cod_carryRun 113 = .ok (.invokevirtual 107, 3) := by decide +kernel
theorem d_Cod_carryRun_116 : decode b_Cod_carryRun 116 = .ok (.goto 17, 3) := by decide +kernel
theorem d_Cod_carryRun_119 : decode b_Cod_carryRun 119 = .ok (.iload 4, 2) := by decide +kernel
theorem d_Cod_carryRun_121 : decode b_Cod_carryRun 121 = .ok (.ifCond .le 12, 3) := by decide +kernel
theorem d_Cod_carryRun_124 : decode b_Cod_carryRun 124 = .ok (.aload_n 0, 1) := by decide +kernel
theorem d_Cod_carryRun_125 : decode b_Cod_carryRun 125 = .ok (.getfield 18, 3) := by decide +kernel
theorem d_Cod_carryRun_128 : decode b_Cod_carryRun 128 = .ok (.iconst 1, 1) := by decide +kernel
theorem d_Cod_carryRun_129 : decode b_Cod_carryRun 129 = .ok (.iconst 1, 1) := by decide +kernel
theorem d_Cod_carryRun_130 : decode b_Cod_carryRun 130 = .ok (.invokevirtual 107, 3) := by decide +kernel
theorem d_Cod_carryRun_133 : decode b_Cod_carryRun 133 = .ok (.iload_n 3, 1) := by decide +kernel
theorem d_Cod_carryRun_134 : decode b_Cod_carryRun 134 = .ok (.ireturn, 1) := by decide +kernel
theorem d_Cod_sampleIn_0 : decode b_Cod_sampleIn 0 = .ok (.lload_n 0, 1) := by decide +kernel
theorem d_Cod_sampleIn_1 : decode b_Cod_sampleIn 1 = .ok (.bipush 56, 2) := by decide +kernel
theorem d_Cod_sampleIn_3 : decode b_Cod_sampleIn 3 = .ok (.bipush 8, 2) := by decide +kernel
theorem d_Cod_sampleIn_5 : decode b_Cod_sampleIn 5 = .ok (.iload_n 2, 1) := by decide +kernel
theorem d_Cod_sampleIn_6 : decode b_Cod_sampleIn 6 = .ok (.imul, 1) := by decide +kernel
theorem d_Cod_sampleIn_7 : decode b_Cod_sampleIn 7 = .ok (.isub, 1) := by decide +kernel
theorem d_Cod_sampleIn_8 : decode b_Cod_sampleIn 8 = .ok (.lushr, 1) := by decide +kernel
theorem d_Cod_sampleIn_9 : decode b_Cod_sampleIn 9 = .ok (.l2i, 1) := by decide +kernel
theorem d_Cod_sampleIn_10 : decode b_Cod_sampleIn 10 = .ok (.sipush 255, 3) := by decide +kernel
theorem d_Cod_sampleIn_13 : decode b_Cod_sampleIn 13 = .ok (.iand, 1) := by decide +kernel
theorem d_Cod_sampleIn_14 : decode b_Cod_sampleIn 14 = .ok (.ireturn, 1) := by decide +kernel
theorem d_Cod_takeError_0 : decode b_Cod_takeError 0 = .ok (.aload_n 0, 1) := by decide +kernel
theorem d_Cod_takeError_1 : decode b_Cod_takeError 1 = .ok (.getfield 26, 3) := by decide +kernel
theorem d_Cod_takeError_4 : decode b_Cod_takeError 4 = .ok (.aload_n 0, 1) := by decide +kernel
theorem d_Cod_takeError_5 : decode b_Cod_takeError 5 = .ok (.getfield 140, 3) := by decide +kernel
theorem d_Cod_takeError_8 : decode b_Cod_takeError 8 = .ok (.aload_n 0, 1) := by decide +kernel
theorem d_Cod_takeError_9 : decode b_Cod_takeError 9 = .ok (.getfield 9, 3) := by decide +kernel
theorem d_Cod_takeError_12 : decode b_Cod_takeError 12 = .ok (.iload_n 1, 1) := by decide +kernel
theorem d_Cod_takeError_13 : decode b_Cod_takeError 13 = .ok (.iaload, 1) := by decide +kernel
theorem d_Cod_takeError_14 : decode b_Cod_takeError 14 = .ok (.aload_n 0, 1) := by decide +kernel
theorem d_Cod_takeError_15 : decode b_Cod_takeError 15 = .ok (.getfield 143, 3) := by decide +kernel
theorem d_Cod_takeError_18 : decode b_Cod_takeError 18 = .ok (.isub, 1) := by decide +kernel
theorem d_Cod_takeError_19 : decode b_Cod_takeError 19 = .ok (.imul, 1) := by decide +kernel
theorem d_Cod_takeError_20 : decode b_Cod_takeError 20 = .ok (.invokevirtual 146, 3) := by decide +kernel
theorem d_Cod_takeError_23 : decode b_Cod_takeError 23 = .ok (.istore_n 2, 1) := by decide +kernel
theorem d_Cod_takeError_24 : decode b_Cod_takeError 24 = .ok (.aload_n 0, 1) := by decide +kernel
theorem d_Cod_takeError_25 : decode b_Cod_takeError 25 = .ok (.getfield 50, 3) := by decide +kernel
theorem d_Cod_takeError_28 : decode b_Cod_takeError 28 = .ok (.iload_n 1, 1) := by decide +kernel
theorem d_Cod_takeError_29 : decode b_Cod_takeError 29 = .ok (.aload_n 0, 1) := by decide +kernel
theorem d_Cod_takeError_30 : decode b_Cod_takeError 30 = .ok (.getfield 26, 3) := by decide +kernel
theorem d_Cod_takeError_33 : decode b_Cod_takeError 33 = .ok (.aload_n 0, 1) := by decide +kernel
theorem d_Cod_takeError_34 : decode b_Cod_takeError 34 = .ok (.getfield 143, 3) := by decide +kernel
theorem d_Cod_takeError_37 : decode b_Cod_takeError 37 = .ok (.aload_n 0, 1) := by decide +kernel
theorem d_Cod_takeError_38 : decode b_Cod_takeError 38 = .ok (.getfield 140, 3) := by decide +kernel
theorem d_Cod_takeError_41 : decode b_Cod_takeError 41 = .ok (.iload_n 2, 1) := by decide +kernel
theorem d_Cod_takeError_42 : decode b_Cod_takeError 42 = .ok (.imul, 1) := by decide +kernel
theorem d_Cod_takeError_43 : decode b_Cod_takeError 43 = .ok (.aload_n 0, 1) := by decide +kernel
theorem d_Cod_takeError_44 : decode b_Cod_takeError 44 = .ok (.getfield 26, 3) := by decide +kernel
theorem d_Cod_takeError_47 : decode b_Cod_takeError 47 = .ok (.getfield 149, 3) := by decide +kernel
theorem d_Cod_takeError_50 : decode b_Cod_takeError 50 = .ok (.imul, 1) := by decide +kernel
theorem d_Cod_takeError_51 : decode b_Cod_takeError 51 = .ok (.iadd, 1) := by decide +kernel
theorem d_Cod_takeError_52 : decode b_Cod_takeError 52 = .ok (.invokevirtual 152, 3) := by decide +kernel
theorem d_Cod_takeError_55 : decode b_Cod_takeError 55 = .ok (.iastore, 1) := by decide +kernel
theorem d_Cod_takeError_56 : decode b_Cod_takeError 56 = .ok (.aload_n 0, 1) := by decide +kernel
theorem d_Cod_takeError_57 : decode b_Cod_takeError 57 = .ok (.getfield 26, 3) := by decide +kernel
theorem d_Cod_takeError_60 : decode b_Cod_takeError 60 = .ok (.iload_n 2, 1) := by decide +kernel
theorem d_Cod_takeError_61 : decode b_Cod_takeError 61 = .ok (.invokevirtual 155, 3) := by decide +kernel
theorem d_Cod_takeError_64 : decode b_Cod_takeError 64 = .ok (.ireturn, 1) := by decide +kernel
theorem d_Cod_takeOver_0 : decode b_Cod_takeOver 0 = .ok (.aload_n 1, 1) := by decide +kernel
theorem d_Cod_takeOver_1 : decode b_Cod_takeOver 1 = .ok (.getfield 70, 3) := by decide +kernel
theorem d_Cod_takeOver_4 : decode b_Cod_takeOver 4 = .ok (.astore_n 2, 1) := by decide +kernel
theorem d_Cod_takeOver_5 : decode b_Cod_takeOver 5 = .ok (.aload_n 0, 1) := by decide +kernel
theorem d_Cod_takeOver_6 : decode b_Cod_takeOver 6 = .ok (.getfield 26, 3) := by decide +kernel
theorem d_Cod_takeOver_9 : decode b_Cod_takeOver 9 = .ok (.aload_n 2, 1) := by decide +kernel
theorem d_Cod_takeOver_10 : decode b_Cod_takeOver 10 = .ok (.getfield 56, 3) := by decide +kernel
theorem d_Cod_takeOver_13 : decode b_Cod_takeOver 13 = .ok (.aload_n 2, 1) := by decide +kernel
theorem d_Cod_takeOver_14 : decode b_Cod_takeOver 14 = .ok (.getfield 73, 3) := by decide +kernel
theorem d_Cod_takeOver_17 : decode b_Cod_takeOver 17 = .ok (.aload_n 2, 1) := by decide +kernel
theorem d_Cod_takeOver_18 : decode b_Cod_takeOver 18 = .ok (.getfield 63, 3) := by decide +kernel
theorem d_Cod_takeOver_21 : decode b_Cod_takeOver 21 = .ok (.aload_n 2, 1) := by decide +kernel
theorem d_Cod_takeOver_22 : decode b_Cod_takeOver 22 = .ok (.getfield 76, 3) := by decide +kernel
theorem d_Cod_takeOver_25 : decode b_Cod_takeOver 25 = .ok (.invokevirtual 40, 3) := by decide +kernel
theorem d_Cod_takeOver_28 : decode b_Cod_takeOver 28 = .ok (.aload_n 0, 1) := by decide +kernel
theorem d_Cod_takeOver_29 : decode b_Cod_takeOver 29 = .ok (.getfield 22, 3) := by decide +kernel
theorem d_Cod_takeOver_32 : decode b_Cod_takeOver 32 = .ok (.aload_n 1, 1) := by decide +kernel
theorem d_Cod_takeOver_33 : decode b_Cod_takeOver 33 = .ok (.getfield 79, 3) := by decide +kernel
theorem d_Cod_takeOver_36 : decode b_Cod_takeOver 36 = .ok (.invokevirtual 80, 3) := by decide +kernel
theorem d_Cod_takeOver_39 : decode b_Cod_takeOver 39 = .ok (.aload_n 1, 1) := by decide +kernel
theorem d_Cod_takeOver_40 : decode b_Cod_takeOver 40 = .ok (.getfield 84, 3) := by decide +kernel
theorem d_Cod_takeOver_43 : decode b_Cod_takeOver 43 = .ok (.iconst 0, 1) := by decide +kernel
theorem d_Cod_takeOver_44 : decode b_Cod_takeOver 44 = .ok (.aload_n 0, 1) := by decide +kernel
theorem d_Cod_takeOver_45 : decode b_Cod_takeOver 45 = .ok (.getfield 50, 3) := by decide +kernel
theorem d_Cod_takeOver_48 : decode b_Cod_takeOver 48 = .ok (.iconst 0, 1) := by decide +kernel
theorem d_Cod_takeOver_49 : decode b_Cod_takeOver 49 = .ok (.bipush 64, 2) := by decide +kernel
theorem d_Cod_takeOver_51 : decode b_Cod_takeOver 51 = .ok (.invokestatic 85, 3) := by decide +kernel
theorem d_Cod_takeOver_54 : decode b_Cod_takeOver 54 = .ok (.aload_n 1, 1) := by decide +kernel
theorem d_Cod_takeOver_55 : decode b_Cod_takeOver 55 = .ok (.getfield 84, 3) := by decide +kernel
theorem d_Cod_takeOver_58 : decode b_Cod_takeOver 58 = .ok (.iconst 0, 1) := by decide +kernel
theorem d_Cod_takeOver_59 : decode b_Cod_takeOver 59 = .ok (.aload_n 0, 1) := by decide +kernel
theorem d_Cod_takeOver_60 : decode b_Cod_takeOver 60 = .ok (.getfield 9, 3) := by decide +kernel
theorem d_Cod_takeOver_63 : decode b_Cod_takeOver 63 = .ok (.iconst 0, 1) := by decide +kernel
theorem d_Cod_takeOver_64 : decode b_Cod_takeOver 64 = .ok (.bipush 64, 2) := by decide +kernel
theorem d_Cod_takeOver_66 : decode b_Cod_takeOver 66 = .ok (.invokestatic 85, 3) := by decide +kernel
theorem d_Cod_takeOver_69 : decode b_Cod_takeOver 69 = .ok (.return_, 1) := by decide +kernel
theorem d_Cod_takeRow_0 : decode b_Cod_takeRow 0 = .ok (.iconst 0, 1) := by decide +kernel
theorem d_Cod_takeRow_1 : decode b_Cod_takeRow 1 = .ok (.istore 4, 2) := by decide +kernel
theorem d_Cod_takeRow_3 : decode b_Cod_takeRow 3 = .ok (.iload 4, 2) := by decide +kernel
theorem d_Cod_takeRow_5 : decode b_Cod_takeRow 5 = .ok (.aload_n 0, 1) := by decide +kernel
theorem d_Cod_takeRow_6 : decode b_Cod_takeRow 6 = .ok (.getfield 26, 3) := by decide +kernel
theorem d_Cod_takeRow_9 : decode b_Cod_takeRow 9 = .ok (.getfield 56, 3) := by decide +kernel
theorem d_Cod_takeRow_12 : decode b_Cod_takeRow 12 = .ok (.if_icmp .ge 27, 3) := by decide +kernel
theorem d_Cod_takeRow_15 : decode b_Cod_takeRow 15 = .ok (.lload_n 2, 1) := by decide +kernel
theorem d_Cod_takeRow_16 : decode b_Cod_takeRow 16 = .ok (.iload 4, 2) := by decide +kernel
theorem d_Cod_takeRow_18 : decode b_Cod_takeRow 18 = .ok (.invokestatic 59, 3) := by decide +kernel
theorem d_Cod_takeRow_21 : decode b_Cod_takeRow 21 = .ok (.aload_n 0, 1) := by decide +kernel
theorem d_Cod_takeRow_22 : decode b_Cod_takeRow 22 = .ok (.getfield 26, 3) := by decide +kernel
theorem d_Cod_takeRow_25 : decode b_Cod_takeRow 25 = .ok (.getfield 63, 3) := by decide +kernel
theorem d_Cod_takeRow_28 : decode b_Cod_takeRow 28 = .ok (.if_icmp .le 5, 3) := by decide +kernel
theorem d_Cod_takeRow_31 : decode b_Cod_takeRow 31 = .ok (.iconst 0, 1) := by decide +kernel
theorem d_Cod_takeRow_32 : decode b_Cod_takeRow 32 = .ok (.ireturn, 1) := by decide +kernel
theorem d_Cod_takeRow_33 : decode b_Cod_takeRow 33 = .ok (.iinc 4 1, 3) := by decide +kernel
theorem d_Cod_takeRow_36 : decode b_Cod_takeRow 36 = .ok (.goto (-33), 3) := by decide +kernel
theorem d_Cod_takeRow_39 : decode b_Cod_takeRow 39 = .ok (.iconst 0, 1) := by decide +kernel
theorem d_Cod_takeRow_40 : decode b_Cod_takeRow 40 = .ok (.istore 4, 2) := by decide +kernel
theorem d_Cod_takeRow_42 : decode b_Cod_takeRow 42 = .ok (.iload 4, 2) := by decide +kernel
theorem d_Cod_takeRow_44 : decode b_Cod_takeRow 44 = .ok (.aload_n 0, 1) := by decide +kernel
theorem d_Cod_takeRow_45 : decode b_Cod_takeRow 45 = .ok (.getfield 26, 3) := by decide +kernel
theorem d_Cod_takeRow_48 : decode b_Cod_takeRow 48 = .ok (.getfield 56, 3) := by decide +kernel
theorem d_Cod_takeRow_51 : decode b_Cod_takeRow 51 = .ok (.if_icmp .ge 26, 3) := by decide +kernel
theorem d_Cod_takeRow_54 : decode b_Cod_takeRow 54 = .ok (.aload_n 0, 1) := by decide +kernel
theorem d_Cod_takeRow_55 : decode b_Cod_takeRow 55 = .ok (.getfield 9, 3) := by decide +kernel
theorem d_Cod_takeRow_58 : decode b_Cod_takeRow 58 = .ok (.iload 4, 2) := by decide +kernel
theorem d_Cod_takeRow_60 : decode b_Cod_takeRow 60 = .ok (.iload_n 1, 1) := by decide +kernel
theorem d_Cod_takeRow_61 : decode b_Cod_takeRow 61 = .ok (.invokestatic 66, 3) := by decide +kernel
theorem d_Cod_takeRow_64 : decode b_Cod_takeRow 64 = .ok (.lload_n 2, 1) := by decide +kernel
theorem d_Cod_takeRow_65 : decode b_Cod_takeRow 65 = .ok (.iload 4, 2) := by decide +kernel
theorem d_Cod_takeRow_67 : decode b_Cod_takeRow 67 = .ok (.invokestatic 59, 3) := by decide +kernel
theorem d_Cod_takeRow_70 : decode b_Cod_takeRow 70 = .ok (.iastore, 1) := by decide +kernel
theorem d_Cod_takeRow_71 : decode b_Cod_takeRow 71 = .ok (.iinc 4 1, 3) := by decide +kernel
theorem d_Cod_takeRow_74 : decode b_Cod_takeRow 74 = .ok (.goto (-32), 3) := by decide +kernel
theorem d_Cod_takeRow_77 : decode b_Cod_takeRow 77 = .ok (.iconst 1, 1) := by decide +kernel
theorem d_Cod_takeRow_78 : decode b_Cod_takeRow 78 = .ok (.ireturn, 1) := by decide +kernel
theorem d_Cod_writeHead_0 : decode b_Cod_writeHead 0 = .ok (.aload_n 0, 1) := by decide +kernel
theorem d_Cod_writeHead_1 : decode b_Cod_writeHead 1 = .ok (.getfield 18, 3) := by decide +kernel
theorem d_Cod_writeHead_4 : decode b_Cod_writeHead 4 = .ok (.invokevirtual 91, 3) := by decide +kernel
theorem d_Cod_writeHead_7 : decode b_Cod_writeHead 7 = .ok (.aload_n 0, 1) := by decide +kernel
theorem d_Cod_writeHead_8 : decode b_Cod_writeHead 8 = .ok (.getfield 18, 3) := by decide +kernel
theorem d_Cod_writeHead_11 : decode b_Cod_writeHead 11 = .ok (.sipush 255, 3) := by decide +kernel
theorem d_Cod_writeHead_14 : decode b_Cod_writeHead 14 = .ok (.invokevirtual 93, 3) := by decide +kernel
theorem d_Cod_writeHead_17 : decode b_Cod_writeHead 17 = .ok (.aload_n 0, 1) := by decide +kernel
theorem d_Cod_writeHead_18 : decode b_Cod_writeHead 18 = .ok (.getfield 18, 3) := by decide +kernel
theorem d_Cod_writeHead_21 : decode b_Cod_writeHead 21 = .ok (.sipush 216, 3) := by decide +kernel
theorem d_Cod_writeHead_24 : decode b_Cod_writeHead 24 = .ok (.invokevirtual 93, 3) := by decide +kernel
theorem d_Cod_writeHead_27 : decode b_Cod_writeHead 27 = .ok (.aload_n 0, 1) := by decide +kernel
theorem d_Cod_writeHead_28 : decode b_Cod_writeHead 28 = .ok (.getfield 18, 3) := by decide +kernel
theorem d_Cod_writeHead_31 : decode b_Cod_writeHead 31 = .ok (.aload_n 0, 1) := by decide +kernel
theorem d_Cod_writeHead_32 : decode b_Cod_writeHead 32 = .ok (.getfield 26, 3) := by decide +kernel
theorem d_Cod_writeHead_35 : decode b_Cod_writeHead 35 = .ok (.getfield 56, 3) := by decide +kernel
theorem d_Cod_writeHead_38 : decode b_Cod_writeHead 38 = .ok (.invokevirtual 93, 3) := by decide +kernel
theorem d_Cod_writeHead_41 : decode b_Cod_writeHead 41 = .ok (.aload_n 0, 1) := by decide +kernel
theorem d_Cod_writeHead_42 : decode b_Cod_writeHead 42 = .ok (.getfield 18, 3) := by decide +kernel
theorem d_Cod_writeHead_45 : decode b_Cod_writeHead 45 = .ok (.aload_n 0, 1) := by decide +kernel
theorem d_Cod_writeHead_46 : decode b_Cod_writeHead 46 = .ok (.getfield 26, 3) := by decide +kernel
theorem d_Cod_writeHead_49 : decode b_Cod_writeHead 49 = .ok (.getfield 73, 3) := by decide +kernel
theorem d_Cod_writeHead_52 : decode b_Cod_writeHead 52 = .ok (.invokevirtual 93, 3) := by decide +kernel
theorem d_Cod_writeHead_55 : decode b_Cod_writeHead 55 = .ok (.aload_n 0, 1) := by decide +kernel
theorem d_Cod_writeHead_56 : decode b_Cod_writeHead 56 = .ok (.getfield 18, 3) := by decide +kernel
theorem d_Cod_writeHead_59 : decode b_Cod_writeHead 59 = .ok (.aload_n 0, 1) := by decide +kernel
theorem d_Cod_writeHead_60 : decode b_Cod_writeHead 60 = .ok (.getfield 26, 3) := by decide +kernel
theorem d_Cod_writeHead_63 : decode b_Cod_writeHead 63 = .ok (.getfield 63, 3) := by decide +kernel
theorem d_Cod_writeHead_66 : decode b_Cod_writeHead 66 = .ok (.invokevirtual 93, 3) := by decide +kernel
theorem d_Cod_writeHead_69 : decode b_Cod_writeHead 69 = .ok (.aload_n 0, 1) := by decide +kernel
theorem d_Cod_writeHead_70 : decode b_Cod_writeHead 70 = .ok (.getfield 18, 3) := by decide +kernel
theorem d_Cod_writeHead_73 : decode b_Cod_writeHead 73 = .ok (.aload_n 0, 1) := by decide +kernel
theorem d_Cod_writeHead_74 : decode b_Cod_writeHead 74 = .ok (.getfield 26, 3) := by decide +kernel
theorem d_Cod_writeHead_77 : decode b_Cod_writeHead 77 = .ok (.getfield 76, 3) := by decide +kernel
theorem d_Cod_writeHead_80 : decode b_Cod_writeHead 80 = .ok (.invokevirtual 93, 3) := by decide +kernel
theorem d_Cod_writeHead_83 : decode b_Cod_writeHead 83 = .ok (.return_, 1) := by decide +kernel
theorem d_Ctx_correctDown_0 : decode b_Ctx_correctDown 0 = .ok (.aload_n 0, 1) := by decide +kernel
theorem d_Ctx_correctDown_1 : decode b_Ctx_correctDown 1 = .ok (.getfield 13, 3) := by decide +kernel
theorem d_Ctx_correctDown_4 : decode b_Ctx_correctDown 4 = .ok (.iload_n 1, 1) := by decide +kernel
theorem d_Ctx_correctDown_5 : decode b_Ctx_correctDown 5 = .ok (.aload_n 0, 1) := by decide +kernel
theorem d_Ctx_correctDown_6 : decode b_Ctx_correctDown 6 = .ok (.getfield 13, 3) := by decide +kernel
theorem d_Ctx_correctDown_9 : decode b_Ctx_correctDown 9 = .ok (.iload_n 1, 1) := by decide +kernel
theorem d_Ctx_correctDown_10 : decode b_Ctx_correctDown 10 = .ok (.iaload, 1) := by decide +kernel
theorem d_Ctx_correctDown_11 : decode b_Ctx_correctDown 11 = .ok (.aload_n 0, 1) := by decide +kernel
theorem d_Ctx_correctDown_12 : decode b_Ctx_correctDown 12 = .ok (.getfield 19, 3) := by decide +kernel
theorem d_Ctx_correctDown_15 : decode b_Ctx_correctDown 15 = .ok (.iload_n 1, 1) := by decide +kernel
theorem d_Ctx_correctDown_16 : decode b_Ctx_correctDown 16 = .ok (.iaload, 1) := by decide +kernel
theorem d_Ctx_correctDown_17 : decode b_Ctx_correctDown 17 = .ok (.iadd, 1) := by decide +kernel
theorem d_Ctx_correctDown_18 : decode b_Ctx_correctDown 18 = .ok (.iconst 1, 1) := by decide +kernel
theorem d_Ctx_correctDown_19 : decode b_Ctx_correctDown 19 = .ok (.aload_n 0, 1) := by decide +kernel
theorem d_Ctx_correctDown_20 : decode b_Ctx_correctDown 20 = .ok (.getfield 19, 3) := by decide +kernel
theorem d_Ctx_correctDown_23 : decode b_Ctx_correctDown 23 = .ok (.iload_n 1, 1) := by decide +kernel
theorem d_Ctx_correctDown_24 : decode b_Ctx_correctDown 24 = .ok (.iaload, 1) := by decide +kernel
theorem d_Ctx_correctDown_25 : decode b_Ctx_correctDown 25 = .ok (.isub, 1) := by decide +kernel
theorem d_Ctx_correctDown_26 : decode b_Ctx_correctDown 26 = .ok (.invokestatic 25, 3) := by decide +kernel
theorem d_Ctx_correctDown_29 : decode b_Ctx_correctDown 29 = .ok (.iastore, 1) := by decide +kernel
theorem d_Ctx_correctDown_30 : decode b_Ctx_correctDown 30 = .ok (.aload_n 0, 1) := by decide +kernel
theorem d_Ctx_correctDown_31 : decode b_Ctx_correctDown 31 = .ok (.getfield 16, 3) := by decide +kernel
theorem d_Ctx_correctDown_34 : decode b_Ctx_correctDown 34 = .ok (.iload_n 1, 1) := by decide +kernel
theorem d_Ctx_correctDown_35 : decode b_Ctx_correctDown 35 = .ok (.aload_n 0, 1) := by decide +kernel
theorem d_Ctx_correctDown_36 : decode b_Ctx_correctDown 36 = .ok (.getfield 16, 3) := by decide +kernel
theorem d_Ctx_correctDown_39 : decode b_Ctx_correctDown 39 = .ok (.iload_n 1, 1) := by decide +kernel
theorem d_Ctx_correctDown_40 : decode b_Ctx_correctDown 40 = .ok (.iaload, 1) := by decide +kernel
theorem d_Ctx_correctDown_41 : decode b_Ctx_correctDown 41 = .ok (.iconst 1, 1) := by decide +kernel
theorem d_Ctx_correctDown_42 : decode b_Ctx_correctDown 42 = .ok (.isub, 1) := by decide +kernel
theorem d_Ctx_correctDown_43 : decode b_Ctx_correctDown 43 = .ok (.bipush (-128), 2) := by decide +kernel
theorem d_Ctx_correctDown_45 : decode b_Ctx_correctDown 45 = .ok (.invokestatic 25, 3) := by decide +kernel
theorem d_Ctx_correctDown_48 : decode b_Ctx_correctDown 48 = .ok (.iastore, 1) := by decide +kernel
theorem d_Ctx_correctDown_49 : decode b_Ctx_correctDown 49 = .ok (.return_, 1) := by decide +kernel
theorem d_Ctx_correctUp_0 : decode b_Ctx_correctUp 0 = .ok (.aload_n 0, 1) := by decide +kernel
theorem d_Ctx_correctUp_1 : decode b_Ctx_correctUp 1 = .ok (.getfield 13, 3) := by decide +kernel
theorem d_Ctx_correctUp_4 : decode b_Ctx_correctUp 4 = .ok (.iload_n 1, 1) := by decide +kernel
theorem d_Ctx_correctUp_5 : decode b_Ctx_correctUp 5 = .ok (.aload_n 0, 1) := by decide +kernel
theorem d_Ctx_correctUp_6 : decode b_Ctx_correctUp 6 = .ok (.getfield 13, 3) := by decide +kernel
theorem d_Ctx_correctUp_9 : decode b_Ctx_correctUp 9 = .ok (.iload_n 1, 1) := by decide +kernel
theorem d_Ctx_correctUp_10 : decode b_Ctx_correctUp 10 = .ok (.iaload, 1) := by decide +kernel
theorem d_Ctx_correctUp_11 : decode b_Ctx_correctUp 11 = .ok (.aload_n 0, 1) := by decide +kernel
theorem d_Ctx_correctUp_12 : decode b_Ctx_correctUp 12 = .ok (.getfield 19, 3) := by decide +kernel
theorem d_Ctx_correctUp_15 : decode b_Ctx_correctUp 15 = .ok (.iload_n 1, 1) := by decide +kernel
theorem d_Ctx_correctUp_16 : decode b_Ctx_correctUp 16 = .ok (.iaload, 1) := by decide +kernel
theorem d_Ctx_correctUp_17 : decode b_Ctx_correctUp 17 = .ok (.isub, 1) := by decide +kernel
theorem d_Ctx_correctUp_18 : decode b_Ctx_correctUp 18 = .ok (.iconst 0, 1) := by decide +kernel
theorem d_Ctx_correctUp_19 : decode b_Ctx_correctUp 19 = .ok (.invokestatic 64, 3) := by decide +kernel
theorem d_Ctx_correctUp_22 : decode b_Ctx_correctUp 22 = .ok (.iastore, 1) := by decide +kernel
theorem d_Ctx_correctUp_23 : decode b_Ctx_correctUp 23 = .ok (.aload_n 0, 1) := by decide +kernel
theorem d_Ctx_correctUp_24 : decode b_Ctx_correctUp 24 = .ok (.getfield 16, 3) := by decide +kernel
theorem d_Ctx_correctUp_27 : decode b_Ctx_correctUp 27 = .ok (.iload_n 1, 1) := by decide +kernel
theorem d_Ctx_correctUp_28 : decode b_Ctx_correctUp 28 = .ok (.aload_n 0, 1) := by decide +kernel
theorem d_Ctx_correctUp_29 : decode b_Ctx_correctUp 29 = .ok (.getfield 16, 3) := by decide +kernel
theorem d_Ctx_correctUp_32 : decode b_Ctx_correctUp 32 = .ok (.iload_n 1, 1) := by decide +kernel
theorem d_Ctx_correctUp_33 : decode b_Ctx_correctUp 33 = .ok (.iaload, 1) := by decide +kernel
theorem d_Ctx_correctUp_34 : decode b_Ctx_correctUp 34 = .ok (.iconst 1, 1) := by decide +kernel
theorem d_Ctx_correctUp_35 : decode b_Ctx_correctUp 35 = .ok (.iadd, 1) := by decide +kernel
theorem d_Ctx_correctUp_36 : decode b_Ctx_correctUp 36 = .ok (.bipush 127, 2) := by decide +kernel
theorem d_Ctx_correctUp_38 : decode b_Ctx_correctUp 38 = .ok (.invokestatic 64, 3) := by decide +kernel
theorem d_Ctx_correctUp_41 : decode b_Ctx_correctUp 41 = .ok (.iastore, 1) := by decide +kernel
theorem d_Ctx_correctUp_42 : decode b_Ctx_correctUp 42 = .ok (.return_, 1) := by decide +kernel
theorem d_Ctx_isMostlyBelow_0 : decode b_Ctx_isMostlyBelow 0 = .ok (.iconst 2, 1) := by decide +kernel
theorem d_Ctx_isMostlyBelow_1 : decode b_Ctx_isMostlyBelow 1 = .ok (.aload_n 0, 1) := by decide +kernel
theorem d_Ctx_isMostlyBelow_2 : decode b_Ctx_isMostlyBelow 2 = .ok (.getfield 22, 3) := by decide +kernel
theorem d_Ctx_isMostlyBelow_5 : decode b_Ctx_isMostlyBelow 5 = .ok (.iload_n 1, 1) := by decide +kernel
theorem d_Ctx_isMostlyBelow_6 : decode b_Ctx_isMostlyBelow 6 = .ok (.iaload, 1) := by decide +kernel
theorem d_Ctx_isMostlyBelow_7 : decode b_Ctx_isMostlyBelow 7 = .ok (.imul, 1) := by decide +kernel
theorem d_Ctx_isMostlyBelow_8 : decode b_Ctx_isMostlyBelow 8 = .ok (.aload_n 0, 1) := by decide +kernel
theorem d_Ctx_isMostlyBelow_9 : decode b_Ctx_isMostlyBelow 9 = .ok (.getfield 19, 3) := by decide +kernel
theorem d_Ctx_isMostlyBelow_12 : decode b_Ctx_isMostlyBelow 12 = .ok (.iload_n 1, 1) := by decide +kernel
theorem d_Ctx_isMostlyBelow_13 : decode b_Ctx_isMostlyBelow 13 = .ok (.iaload, 1) := by decide +kernel
theorem d_Ctx_isMostlyBelow_14 : decode b_Ctx_isMostlyBelow 14 = .ok (.if_icmp .lt 7, 3) := by decide +kernel
theorem d_Ctx_isMostlyBelow_17 : decode b_Ctx_isMostlyBelow 17 = .ok (.iconst 1, 1) := by decide +kernel
theorem d_Ctx_isMostlyBelow_18 : decode b_Ctx_isMostlyBelow 18 = .ok (.goto 4, 3) := by decide +kernel
theorem d_Ctx_isMostlyBelow_21 : decode b_Ctx_isMostlyBelow 21 = .ok (.iconst 0, 1) := by decide +kernel
theorem d_Ctx_isMostlyBelow_22 : decode b_Ctx_isMostlyBelow 22 = .ok (.ireturn, 1) := by decide +kernel
theorem d_Ctx_j_0 : decode b_Ctx_j 0 = .ok (.getstatic 47, 3) := by decide +kernel
theorem d_Ctx_j_3 : decode b_Ctx_j 3 = .ok (.aload_n 0, 1) := by decide +kernel
theorem d_Ctx_j_4 : decode b_Ctx_j 4 = .ok (.getfield 37, 3) := by decide +kernel
theorem d_Ctx_j_7 : decode b_Ctx_j 7 = .ok (.iaload, 1) := by decide +kernel
theorem d_Ctx_j_8 : decode b_Ctx_j 8 = .ok (.ireturn, 1) := by decide +kernel
theorem d_Ctx_kOfEnd_0 : decode b_Ctx_kOfEnd 0 = .ok (.aload_n 0, 1) := by decide +kernel
theorem d_Ctx_kOfEnd_1 : decode b_Ctx_kOfEnd 1 = .ok (.iload_n 1, 1) := by decide +kernel
theorem d_Ctx_kOfEnd_2 : decode b_Ctx_kOfEnd 2 = .ok (.aload_n 0, 1) := by decide +kernel
theorem d_Ctx_kOfEnd_3 : decode b_Ctx_kOfEnd 3 = .ok (.getfield 9, 3) := by decide +kernel
theorem d_Ctx_kOfEnd_6 : decode b_Ctx_kOfEnd 6 = .ok (.iload_n 1, 1) := by decide +kernel
theorem d_Ctx_kOfEnd_7 : decode b_Ctx_kOfEnd 7 = .ok (.iaload, 1) := by decide +kernel
theorem d_Ctx_kOfEnd_8 : decode b_Ctx_kOfEnd 8 = .ok (.iload_n 1, 1) := by decide +kernel
theorem d_Ctx_kOfEnd_9 : decode b_Ctx_kOfEnd 9 = .ok (.sipush 365, 3) := by decide +kernel
theorem d_Ctx_kOfEnd_12 : decode b_Ctx_kOfEnd 12 = .ok (.isub, 1) := by decide +kernel
theorem d_Ctx_kOfEnd_13 : decode b_Ctx_kOfEnd 13 = .ok (.aload_n 0, 1) := by decide +kernel
theorem d_Ctx_kOfEnd_14 : decode b_Ctx_kOfEnd 14 = .ok (.getfield 19, 3) := by decide +kernel
theorem d_Ctx_kOfEnd_17 : decode b_Ctx_kOfEnd 17 = .ok (.iload_n 1, 1) := by decide +kernel
theorem d_Ctx_kOfEnd_18 : decode b_Ctx_kOfEnd 18 = .ok (.iaload, 1) := by decide +kernel
theorem d_Ctx_kOfEnd_19 : decode b_Ctx_kOfEnd 19 = .ok (.iconst 2, 1) := by decide +kernel
theorem d_Ctx_kOfEnd_20 : decode b_Ctx_kOfEnd 20 = .ok (.idiv, 1) := by decide +kernel
theorem d_Ctx_kOfEnd_21 : decode b_Ctx_kOfEnd 21 = .ok (.imul, 1) := by decide +kernel
theorem d_Ctx_kOfEnd_22 : decode b_Ctx_kOfEnd 22 = .ok (.iadd, 1) := by decide +kernel
theorem d_Ctx_kOfEnd_23 : decode b_Ctx_kOfEnd 23 = .ok (.invokevirtual 50, 3) := by decide +kernel
theorem d_Ctx_kOfEnd_26 : decode b_Ctx_kOfEnd 26 = .ok (.ireturn, 1) := by decide +kernel
theorem d_Ctx_kOfRegular_0 : decode b_Ctx_kOfRegular 0 = .ok (.aload_n 0, 1) := by decide +kernel
theorem d_Ctx_kOfRegular_1 : decode b_Ctx_kOfRegular 1 = .ok (.iload_n 1, 1) := by decide +kernel
theorem d_Ctx_kOfRegular_2 : decode b_Ctx_kOfRegular 2 = .ok (.aload_n 0, 1) := by decide +kernel
theorem d_Ctx_kOfRegular_3 : decode b_Ctx_kOfRegular 3 = .ok (.getfield 9, 3) := by decide +kernel
theorem d_Ctx_kOfRegular_6 : decode b_Ctx_kOfRegular 6 = .ok (.iload_n 1, 1) := by decide +kernel
theorem d_Ctx_kOfRegular_7 : decode b_Ctx_kOfRegular 7 = .ok (.iaload, 1) := by decide +kernel
theorem d_Ctx_kOfRegular_8 : decode b_Ctx_kOfRegular 8 = .ok (.invokevirtual 50, 3) := by decide +kernel
theorem d_Ctx_kOfRegular_11 : decode b_Ctx_kOfRegular 11 = .ok (.ireturn, 1) := by decide +kernel
theorem d_Ctx_leansDown_0 : decode b_Ctx_leansDown 0 = .ok (.iconst 2, 1) := by decide +kernel
theorem d_Ctx_leansDown_1 : decode b_Ctx_leansDown 1 = .ok (.aload_n 0, 1) := by decide +kernel
theorem d_Ctx_leansDown_2 : decode b_Ctx_leansDown 2 = .ok (.getfield 13, 3) := by decide +kernel
theorem d_Ctx_leansDown_5 : decode b_Ctx_leansDown 5 = .ok (.iload_n 1, 1) := by decide +kernel
theorem d_Ctx_leansDown_6 : decode b_Ctx_leansDown 6 = .ok (.iaload, 1) := by decide +kernel
theorem d_Ctx_leansDown_7 : decode b_Ctx_leansDown 7 = .ok (.imul, 1) := by decide +kernel
theorem d_Ctx_leansDown_8 : decode b_Ctx_leansDown 8 = .ok (.aload_n 0, 1) := by decide +kernel
theorem d_Ctx_leansDown_9 : decode b_Ctx_leansDown 9 = .ok (.getfield 19, 3) := by decide +kernel
theorem d_Ctx_leansDown_12 : decode b_Ctx_leansDown 12 = .ok (.iload_n 1, 1) := by decide +kernel
theorem d_Ctx_leansDown_13 : decode b_Ctx_leansDown 13 = .ok (.iaload, 1) := by decide +kernel
theorem d_Ctx_leansDown_14 : decode b_Ctx_leansDown 14 = .ok (.ineg, 1) := by decide +kernel
theorem d_Ctx_leansDown_15 : decode b_Ctx_leansDown 15 = .ok (.if_icmp .gt 7, 3) := by decide +kernel
theorem d_Ctx_leansDown_18 : decode b_Ctx_leansDown 18 = .ok (.iconst 1, 1) := by decide +kernel
theorem d_Ctx_leansDown_19 : decode b_Ctx_leansDown 19 = .ok (.goto 4, 3) := by decide +kernel
theorem d_Ctx_leansDown_22 : decode b_Ctx_leansDown 22 = .ok (.iconst 0, 1) := by decide +kernel
theorem d_Ctx_leansDown_23 : decode b_Ctx_leansDown 23 = .ok (.ireturn, 1) := by decide +kernel
theorem d_Ctx_learnEnd_0 : decode b_Ctx_learnEnd 0 = .ok (.iload_n 2, 1) := by decide +kernel
theorem d_Ctx_learnEnd_1 : decode b_Ctx_learnEnd 1 = .ok (.ifCond .ge 13, 3) := by decide +kernel
theorem d_Ctx_learnEnd_4 : decode b_Ctx_learnEnd 4 = .ok (.aload_n 0, 1) := by decide +kernel
theorem d_Ctx_learnEnd_5 : decode b_Ctx_learnEnd 5 = .ok (.getfield 22, 3) := by decide +kernel
theorem d_Ctx_learnEnd_8 : decode b_Ctx_learnEnd 8 = .ok (.iload_n 1, 1) := by decide +kernel
theorem d_Ctx_learnEnd_9 : decode b_Ctx_learnEnd 9 = .ok (.dup2, 1) := by decide +kernel
theorem d_Ctx_learnEnd_10 : decode b_Ctx_learnEnd 10 = .ok (.iaload, 1) := by decide +kernel
theorem d_Ctx_learnEnd_11 : decode b_Ctx_learnEnd 11 = .ok (.iconst 1, 1) := by decide +kernel
theorem d_Ctx_learnEnd_12 : decode b_Ctx_learnEnd 12 = .ok (.iadd, 1) := by decide +kernel
theorem d_Ctx_learnEnd_13 : decode b_Ctx_learnEnd 13 = .ok (.iastore, 1) := by decide +kernel
theorem d_Ctx_learnEnd_14 : decode b_Ctx_learnEnd 14 = .ok (.aload_n 0, 1) := by decide +kernel
theorem d_Ctx_learnEnd_15 : decode b_Ctx_learnEnd 15 = .ok (.getfield 9, 3) := by decide +kernel
theorem d_Ctx_learnEnd_18 : decode b_Ctx_learnEnd 18 = .ok (.iload_n 1, 1) := by decide +kernel
theorem d_Ctx_learnEnd_19 : decode b_Ctx_learnEnd 19 = .ok (.dup2, 1) := by decide +kernel
theorem d_Ctx_learnEnd_20 : decode b_Ctx_learnEnd 20 = .ok (.iaload, 1) := by decide +kernel
theorem d_Ctx_learnEnd_21 : decode b_Ctx_learnEnd 21 = .ok (.iload_n 3, 1) := by decide +kernel
theorem d_Ctx_learnEnd_22 : decode b_Ctx_learnEnd 22 = .ok (.iconst 1, 1) := by decide +kernel
theorem d_Ctx_learnEnd_23 : decode b_Ctx_learnEnd 23 = .ok (.iadd, 1) := by decide +kernel
theorem d_Ctx_learnEnd_24 : decode b_Ctx_learnEnd 24 = .ok (.iload_n 1, 1) := by decide +kernel
theorem d_Ctx_learnEnd_25 : decode b_Ctx_learnEnd 25 = .ok (.sipush 365, 3) := by decide +kernel
theorem d_Ctx_learnEnd_28 : decode b_Ctx_learnEnd 28 = .ok (.isub, 1) := by decide +kernel
theorem d_Ctx_learnEnd_29 : decode b_Ctx_learnEnd 29 = .ok (.isub, 1) := by decide +kernel
theorem d_Ctx_learnEnd_30 : decode b_Ctx_learnEnd 30 = .ok (.iconst 2, 1) := by decide +kernel
theorem d_Ctx_learnEnd_31 : decode b_Ctx_learnEnd 31 = .ok (.idiv, 1) := by decide +kernel
theorem d_Ctx_learnEnd_32 : decode b_Ctx_learnEnd 32 = .ok (.iadd, 1) := by decide +kernel
theorem d_Ctx_learnEnd_33 : decode b_Ctx_learnEnd 33 = .ok (.iastore, 1) := by decide +kernel
theorem d_Ctx_learnEnd_34 : decode b_Ctx_learnEnd 34 = .ok (.aload_n 0, 1) := by decide +kernel
theorem d_Ctx_learnEnd_35 : decode b_Ctx_learnEnd 35 = .ok (.getfield 19, 3) := by decide +kernel
theorem d_Ctx_learnEnd_38 : decode b_Ctx_learnEnd 38 = .ok (.iload_n 1, 1) := by decide +kernel
theorem d_Ctx_learnEnd_39 : decode b_Ctx_learnEnd 39 = .ok (.iaload, 1) := by decide +kernel
theorem d_Ctx_learnEnd_40 : decode b_Ctx_learnEnd 40 = .ok (.bipush 64, 2) := by decide +kernel
theorem d_Ctx_learnEnd_42 : decode b_Ctx_learnEnd 42 = .ok (.if_icmp .ne 33, 3) := by decide +kernel
theorem d_Ctx_learnEnd_45 : decode b_Ctx_learnEnd 45 = .ok (.aload_n 0, 1) := by decide +kernel
theorem d_Ctx_learnEnd_46 : decode b_Ctx_learnEnd 46 = .ok (.getfield 9, 3) := by decide +kernel
theorem d_Ctx_learnEnd_49 : decode b_Ctx_learnEnd 49 = .ok (.iload_n 1, 1) := by decide +kernel
theorem d_Ctx_learnEnd_50 : decode b_Ctx_learnEnd 50 = .ok (.dup2, 1) := by decide +kernel
theorem d_Ctx_learnEnd_51 : decode b_Ctx_learnEnd 51 = .ok (.iaload, 1) := by decide +kernel
theorem d_Ctx_learnEnd_52 : decode b_Ctx_learnEnd 52 = .ok (.iconst 1, 1) := by decide +kernel
theorem d_Ctx_learnEnd_53 : decode b_Ctx_learnEnd 53 = .ok (.ishr, 1) := by decide +kernel
theorem d_Ctx_learnEnd_54 : decode b_Ctx_learnEnd 54 = .ok (.iastore, 1) := by decide +kernel
theorem d_Ctx_learnEnd_55 : decode b_Ctx_learnEnd 55 = .ok (.aload_n 0, 1) := by decide +kernel
theorem d_Ctx_learnEnd_56 : decode b_Ctx_learnEnd 56 = .ok (.getfield 19, 3) := by decide +kernel
theorem d_Ctx_learnEnd_59 : decode b_Ctx_learnEnd 59 = .ok (.iload_n 1, 1) := by decide +kernel
theorem d_Ctx_learnEnd_60 : decode b_Ctx_learnEnd 60 = .ok (.dup2, 1) := by decide +kernel
theorem d_Ctx_learnEnd_61 : decode b_Ctx_learnEnd 61 = .ok (.iaload, 1) := by decide +kernel
theorem d_Ctx_learnEnd_62 : decode b_Ctx_learnEnd 62 = .ok (.iconst 1, 1) := by decide +kernel
theorem d_Ctx_learnEnd_63 : decode b_Ctx_learnEnd 63 = .ok (.ishr, 1) := by decide +kernel
theorem d_Ctx_learnEnd_64 : decode b_Ctx_learnEnd 64 = .ok (.iastore, 1) := by decide +kernel
theorem d_Ctx_learnEnd_65 : decode b_Ctx_learnEnd 65 = .ok (.aload_n 0, 1) := by decide +kernel
theorem d_Ctx_learnEnd_66 : decode b_Ctx_learnEnd 66 = .ok (.getfield 22, 3) := by decide +kernel
theorem d_Ctx_learnEnd_69 : decode b_Ctx_learnEnd 69 = .ok (.iload_n 1, 1) := by decide +kernel
theorem d_Ctx_learnEnd_70 : decode b_Ctx_learnEnd 70 = .ok (.dup2, 1) := by decide +kernel
theorem d_Ctx_learnEnd_71 : decode b_Ctx_learnEnd 71 = .ok (.iaload, 1) := by decide +kernel
theorem d_Ctx_learnEnd_72 : decode b_Ctx_learnEnd 72 = .ok (.iconst 1, 1) := by decide +kernel
theorem d_Ctx_learnEnd_73 : decode b_Ctx_learnEnd 73 = .ok (.ishr, 1) := by decide +kernel
theorem d_Ctx_learnEnd_74 : decode b_Ctx_learnEnd 74 = .ok (.iastore, 1) := by decide +kernel
theorem d_Ctx_learnEnd_75 : decode b_Ctx_learnEnd 75 = .ok (.aload_n 0, 1) := by decide +kernel
theorem d_Ctx_learnEnd_76 : decode b_Ctx_learnEnd 76 = .ok (.getfield 19, 3) := by decide +kernel
theorem d_Ctx_learnEnd_79 : decode b_Ctx_learnEnd 79 = .ok (.iload_n 1, 1) := by decide +kernel
theorem d_Ctx_learnEnd_80 : decode b_Ctx_learnEnd 80 = .ok (.dup2, 1) := by decide +kernel
theorem d_Ctx_learnEnd_81 : decode b_Ctx_learnEnd 81 = .ok (.iaload, 1) := by decide +kernel
theorem d_Ctx_learnEnd_82 : decode b_Ctx_learnEnd 82 = .ok (.iconst 1, 1) := by decide +kernel
theorem d_Ctx_learnEnd_83 : decode b_Ctx_learnEnd 83 = .ok (.iadd, 1) := by decide +kernel
theorem d_Ctx_learnEnd_84 : decode b_Ctx_learnEnd 84 = .ok (.iastore, 1) := by decide +kernel
theorem d_Ctx_learnEnd_85 : decode b_Ctx_learnEnd 85 = .ok (.return_, 1) := by decide +kernel
theorem d_Ctx_learnRegular_0 : decode b_Ctx_learnRegular 0 = .ok (.aload_n 0, 1) := by decide +kernel
theorem d_Ctx_learnRegular_1 : decode b_Ctx_learnRegular 1 = .ok (.getfield 13, 3) := by decide +kernel
theorem d_Ctx_learnRegular_4 : decode b_Ctx_learnRegular 4 = .ok (.iload_n 1, 1) := by decide +kernel
theorem d_Ctx_learnRegular_5 : decode b_Ctx_learnRegular 5 = .ok (.dup2, 1) := by decide +kernel
theorem d_Ctx_learnRegular_6 : decode b_Ctx_learnRegular 6 = .ok (.iaload, 1) := by decide +kernel
theorem d_Ctx_learnRegular_7 : decode b_Ctx_learnRegular 7 = .ok (.iload_n 2, 1) := by decide +kernel
theorem d_Ctx_learnRegular_8 : decode b_Ctx_learnRegular 8 = .ok (.iload_n 3, 1) := by decide +kernel
theorem d_Ctx_learnRegular_9 : decode b_Ctx_learnRegular 9 = .ok (.imul, 1) := by decide +kernel
theorem d_Ctx_learnRegular_10 : decode b_Ctx_learnRegular 10 = .ok (.iadd, 1) := by decide +kernel
theorem d_Ctx_learnRegular_11 : decode b_Ctx_learnRegular 11 = .ok (.iastore, 1) := by decide +kernel
theorem d_Ctx_learnRegular_12 : decode b_Ctx_learnRegular 12 = .ok (.aload_n 0, 1) := by decide +kernel
theorem d_Ctx_learnRegular_13 : decode b_Ctx_learnRegular 13 = .ok (.getfield 9, 3) := by decide +kernel
theorem d_Ctx_learnRegular_16 : decode b_Ctx_learnRegular 16 = .ok (.iload_n 1, 1) := by decide +kernel
theorem d_Ctx_learnRegular_17 : decode b_Ctx_learnRegular 17 = .ok (.dup2, 1) := by decide +kernel
theorem d_Ctx_learnRegular_18 : decode b_Ctx_learnRegular 18 = .ok (.iaload, 1) := by decide +kernel
theorem d_Ctx_learnRegular_19 : decode b_Ctx_learnRegular 19 = .ok (.iload_n 2, 1) := by decide +kernel
theorem d_Ctx_learnRegular_20 : decode b_Ctx_learnRegular 20 = .ok (.invokestatic 53, 3) := by decide +kernel
theorem d_Ctx_learnRegular_23 : decode b_Ctx_learnRegular 23 = .ok (.iadd, 1) := by decide +kernel
theorem d_Ctx_learnRegular_24 : decode b_Ctx_learnRegular 24 = .ok (.iastore, 1) := by decide +kernel
theorem d_Ctx_learnRegular_25 : decode b_Ctx_learnRegular 25 = .ok (.aload_n 0, 1) := by decide +kernel
theorem d_Ctx_learnRegular_26 : decode b_Ctx_learnRegular 26 = .ok (.getfield 19, 3) := by decide +kernel
theorem d_Ctx_learnRegular_29 : decode b_Ctx_learnRegular 29 = .ok (.iload_n 1, 1) := by decide +kernel
theorem d_Ctx_learnRegular_30 : decode b_Ctx_learnRegular 30 = .ok (.iaload, 1) := by decide +kernel
theorem d_Ctx_learnRegular_31 : decode b_Ctx_learnRegular 31 = .ok (.bipush 64, 2) := by decide +kernel
theorem d_Ctx_learnRegular_33 : decode b_Ctx_learnRegular 33 = .ok (.if_icmp .ne 33, 3) := by decide +kernel
theorem d_Ctx_learnRegular_36 : decode b_Ctx_learnRegular 36 = .ok (.aload_n 0, 1) := by decide +kernel
theorem d_Ctx_learnRegular_37 : decode b_Ctx_learnRegular 37 = .ok (.getfield 9, 3) := by decide +kernel
theorem d_Ctx_learnRegular_40 : decode b_Ctx_learnRegular 40 = .ok (.iload_n 1, 1) := by decide +kernel
theorem d_Ctx_learnRegular_41 : decode b_Ctx_learnRegular 41 = .ok (.dup2, 1) := by decide +kernel
theorem d_Ctx_learnRegular_42 : decode b_Ctx_learnRegular 42 = .ok (.iaload, 1) := by decide +kernel
theorem d_Ctx_learnRegular_43 : decode b_Ctx_learnRegular 43 = .ok (.iconst 1, 1) := by decide +kernel
theorem d_Ctx_learnRegular_44 : decode b_Ctx_learnRegular 44 = .ok (.ishr, 1) := by decide +kernel
theorem d_Ctx_learnRegular_45 : decode b_Ctx_learnRegular 45 = .ok (.iastore, 1) := by decide +kernel
theorem d_Ctx_learnRegular_46 : decode b_Ctx_learnRegular 46 = .ok (.aload_n 0, 1) := by decide +kernel
theorem d_Ctx_learnRegular_47 : decode b_Ctx_learnRegular 47 = .ok (.getfield 13, 3) := by decide +kernel
theorem d_Ctx_learnRegular_50 : decode b_Ctx_learnRegular 50 = .ok (.iload_n 1, 1) := by decide +kernel
theorem d_Ctx_learnRegular_51 : decode b_Ctx_learnRegular 51 = .ok (.dup2, 1) := by decide +kernel
theorem d_Ctx_learnRegular_52 : decode b_Ctx_learnRegular 52 = .ok (.iaload, 1) := by decide +kernel
theorem d_Ctx_learnRegular_53 : decode b_Ctx_learnRegular 53 = .ok (.iconst 1, 1) := by decide +kernel
theorem d_Ctx_learnRegular_54 : decode b_Ctx_learnRegular 54 = .ok (.ishr, 1) := by decide +kernel
theorem d_Ctx_learnRegular_55 : decode b_Ctx_learnRegular 55 = .ok (.iastore, 1) := by decide +kernel
theorem d_Ctx_learnRegular_56 : decode b_Ctx_learnRegular 56 = .ok (.aload_n 0, 1) := by decide +kernel
theorem d_Ctx_learnRegular_57 : decode b_Ctx_learnRegular 57 = .ok (.getfield 19, 3) := by decide +kernel
theorem d_Ctx_learnRegular_60 : decode b_Ctx_learnRegular 60 = .ok (.iload_n 1, 1) := by decide +kernel
theorem d_Ctx_learnRegular_61 : decode b_Ctx_learnRegular 61 = .ok (.dup2, 1) := by decide +kernel
theorem d_Ctx_learnRegular_62 : decode b_Ctx_learnRegular 62 = .ok (.iaload, 1) := by decide +kernel
theorem d_Ctx_learnRegular_63 : decode b_Ctx_learnRegular 63 = .ok (.iconst 1, 1) := by decide +kernel
theorem d_Ctx_learnRegular_64 : decode b_Ctx_learnRegular 64 = .ok (.ishr, 1) := by decide +kernel
theorem d_Ctx_learnRegular_65 : decode b_Ctx_learnRegular 65 = .ok (.iastore, 1) := by decide +kernel
theorem d_Ctx_learnRegular_66 : decode b_Ctx_learnRegular 66 = .ok (.aload_n 0, 1) := by decide +kernel
theorem d_Ctx_learnRegular_67 : decode b_Ctx_learnRegular 67 = .ok (.getfield 19, 3) := by decide +kernel
theorem d_Ctx_learnRegular_70 : decode b_Ctx_learnRegular 70 = .ok (.iload_n 1, 1) := by decide +kernel
theorem d_Ctx_learnRegular_71 : decode b_Ctx_learnRegular 71 = .ok (.dup2, 1) := by decide +kernel
theorem d_Ctx_learnRegular_72 : decode b_Ctx_learnRegular 72 = .ok (.iaload, 1) := by decide +kernel
theorem d_Ctx_learnRegular_73 : decode b_Ctx_learnRegular 73 = .ok (.iconst 1, 1) := by decide +kernel
theorem d_Ctx_learnRegular_74 : decode b_Ctx_learnRegular 74 = .ok (.iadd, 1) := by decide +kernel
theorem d_Ctx_learnRegular_75 : decode b_Ctx_learnRegular 75 = .ok (.iastore, 1) := by decide +kernel
theorem d_Ctx_learnRegular_76 : decode b_Ctx_learnRegular 76 = .ok (.aload_n 0, 1) := by decide +kernel
theorem d_Ctx_learnRegular_77 : decode b_Ctx_learnRegular 77 = .ok (.getfield 13, 3) := by decide +kernel
theorem d_Ctx_learnRegular_80 : decode b_Ctx_learnRegular 80 = .ok (.iload_n 1, 1) := by decide +kernel
theorem d_Ctx_learnRegular_81 : decode b_Ctx_learnRegular 81 = .ok (.iaload, 1) := by decide +kernel
theorem d_Ctx_learnRegular_82 : decode b_Ctx_learnRegular 82 = .ok (.aload_n 0, 1) := by decide +kernel
theorem d_Ctx_learnRegular_83 : decode b_Ctx_learnRegular 83 = .ok (.getfield 19, 3) := by decide +kernel
theorem d_Ctx_learnRegular_86 : decode b_Ctx_learnRegular 86 = .ok (.iload_n 1, 1) := by decide +kernel
theorem d_Ctx_learnRegular_87 : decode b_Ctx_learnRegular 87 = .ok (.iaload, 1) := by decide +kernel
theorem d_Ctx_learnRegular_88 : decode b_Ctx_learnRegular 88 = .ok (.ineg, 1) := by decide +kernel
theorem d_Ctx_learnRegular_89 : decode b_Ctx_learnRegular 89 = .ok (.if_icmp .gt 11, 3) := by decide +kernel
theorem d_Ctx_learnRegular_92 : decode b_Ctx_learnRegular 92 = .ok (.aload_n 0, 1) := by decide +kernel
theorem d_Ctx_learnRegular_93 : decode b_Ctx_learnRegular 93 = .ok (.iload_n 1, 1) := by decide +kernel
theorem d_Ctx_learnRegular_94 : decode b_Ctx_learnRegular 94 = .ok (.invokevirtual 57, 3) := by decide +kernel
theorem d_Ctx_learnRegular_97 : decode b_Ctx_learnRegular 97 = .ok (.goto 17, 3) := by decide +kernel
theorem d_Ctx_learnRegular_100 : decode b_Ctx_learnRegular 100 = .ok (.aload_n 0, 1) := by decide +kernel
theorem d_Ctx_learnRegular_101 : decode b_Ctx_learnRegular 101 = .ok (.getfield 13, 3) := by decide +kernel
theorem d_Ctx_learnRegular_104 : decode b_Ctx_learnRegular 104 = .ok (.iload_n 1, 1) := by decide +kernel
theorem d_Ctx_learnRegular_105 : decode b_Ctx_learnRegular 105 = .ok (.iaload, 1) := by decide +kernel
theorem d_Ctx_learnRegular_106 : decode b_Ctx_learnRegular 106 = .ok (.ifCond .le 8, 3) := by decide +kernel
theorem d_Ctx_learnRegular_109 : decode b_Ctx_learnRegular 109 = .ok (.aload_n 0, 1) := by decide +kernel
theorem d_Ctx_learnRegular_110 : decode b_Ctx_learnRegular 110 = .ok (.iload_n 1, 1) := by decide +kernel
theorem d_Ctx_learnRegular_111 : decode b_Ctx_learnRegular 111 = .ok (.invokevirtual 61, 3) := by decide +kernel
theorem d_Ctx_learnRegular_114 : decode b_Ctx_learnRegular 114 = .ok (.return_, 1) := by decide +kernel
theorem d_Ctx_leastK_0 : decode b_Ctx_leastK 0 = .ok (.iconst 0, 1) := by decide +kernel
theorem d_Ctx_leastK_1 : decode b_Ctx_leastK 1 = .ok (.istore_n 3, 1) := by decide +kernel
theorem d_Ctx_leastK_2 : decode b_Ctx_leastK 2 = .ok (.iload_n 3, 1) := by decide +kernel
theorem d_Ctx_leastK_3 : decode b_Ctx_leastK 3 = .ok (.bipush 24, 2) := by decide +kernel
theorem d_Ctx_leastK_5 : decode b_Ctx_leastK 5 = .ok (.if_icmp .ge 21, 3) := by decide +kernel
theorem d_Ctx_leastK_8 : decode b_Ctx_leastK 8 = .ok (.aload_n 0, 1) := by decide +kernel
theorem d_Ctx_leastK_9 : decode b_Ctx_leastK 9 = .ok (.getfield 19, 3) := by decide +kernel
theorem d_Ctx_leastK_12 : decode b_Ctx_leastK 12 = .ok (.iload_n 1, 1) := by decide +kernel
theorem d_Ctx_leastK_13 : decode b_Ctx_leastK 13 = .ok (.iaload, 1) := by decide +kernel
theorem d_Ctx_leastK_14 : decode b_Ctx_leastK 14 = .ok (.iload_n 3, 1) := by decide +kernel
theorem d_Ctx_leastK_15 : decode b_Ctx_leastK 15 = .ok (.ishl, 1) := by decide +kernel
theorem d_Ctx_leastK_16 : decode b_Ctx_leastK 16 = .ok (.iload_n 2, 1) := by decide +kernel
theorem d_Ctx_leastK_17 : decode b_Ctx_leastK 17 = .ok (.if_icmp .ge 9, 3) := by decide +kernel
theorem d_Ctx_leastK_20 : decode b_Ctx_leastK 20 = .ok (.iinc 3 1, 3) := by decide +kernel
theorem d_Ctx_leastK_23 : decode b_Ctx_leastK 23 = .ok (.goto (-21), 3) := by decide +kernel
theorem d_Ctx_leastK_26 : decode b_Ctx_leastK 26 = .ok (.iload_n 3, 1) := by decide +kernel
theorem d_Ctx_leastK_27 : decode b_Ctx_leastK 27 = .ok (.ireturn, 1) := by decide +kernel
theorem d_Ctx_lowerRunIndex_0 : decode b_Ctx_lowerRunIndex 0 = .ok (.aload_n 0, 1) := by decide +kernel
theorem d_Ctx_lowerRunIndex_1 : decode b_Ctx_lowerRunIndex 1 = .ok (.getfield 37, 3) := by decide +kernel
theorem d_Ctx_lowerRunIndex_4 : decode b_Ctx_lowerRunIndex 4 = .ok (.ifCond .le 13, 3) := by decide +kernel
theorem d_Ctx_lowerRunIndex_7 : decode b_Ctx_lowerRunIndex 7 = .ok (.aload_n 0, 1) := by decide +kernel
theorem d_Ctx_lowerRunIndex_8 : decode b_Ctx_lowerRunIndex 8 = .ok (.dup, 1) := by decide +kernel
theorem d_Ctx_lowerRunIndex_9 : decode b_Ctx_lowerRunIndex 9 = .ok (.getfield 37, 3) := by decide +kernel
theorem d_Ctx_lowerRunIndex_12 : decode b_Ctx_lowerRunIndex 12 = .ok (.iconst 1, 1) := by decide +kernel
theorem d_Ctx_lowerRunIndex_13 : decode b_Ctx_lowerRunIndex 13 = .ok (.isub, 1) := by decide +kernel
theorem d_Ctx_lowerRunIndex_14 : decode b_Ctx_lowerRunIndex 14 = .ok (.putfield 37, 3) := by decide +kernel
theorem d_Ctx_lowerRunIndex_17 : decode b_Ctx_lowerRunIndex 17 = .ok (.return_, 1) := by decide +kernel
theorem d_Ctx_raiseRunIndex_0 : decode b_Ctx_raiseRunIndex 0 = .ok (.aload_n 0, 1) := by decide +kernel
theorem d_Ctx_raiseRunIndex_1 : decode b_Ctx_raiseRunIndex 1 = .ok (.getfield 37, 3) := by decide +kernel
theorem d_Ctx_raiseRunIndex_4 : decode b_Ctx_raiseRunIndex 4 = .ok (.bipush 31, 2) := by decide +kernel
theorem d_Ctx_raiseRunIndex_6 : decode b_Ctx_raiseRunIndex 6 = .ok (.if_icmp .ge 13, 3) := by decide +kernel
theorem d_Ctx_raiseRunIndex_9 : decode b_Ctx_raiseRunIndex 9 = .ok (.aload_n 0, 1) := by decide +kernel
theorem d_Ctx_raiseRunIndex_10 : decode b_Ctx_raiseRunIndex 10 = .ok (.dup, 1) := by decide +kernel
theorem d_Ctx_raiseRunIndex_11 : decode b_Ctx_raiseRunIndex 11 = .ok (.getfield 37, 3) := by decide +kernel
theorem d_Ctx_raiseRunIndex_14 : decode b_Ctx_raiseRunIndex 14 = .ok (.iconst 1, 1) := by decide +kernel
theorem d_Ctx_raiseRunIndex_15 : decode b_Ctx_raiseRunIndex 15 = .ok (.iadd, 1) := by decide +kernel
theorem d_Ctx_raiseRunIndex_16 : decode b_Ctx_raiseRunIndex 16 = .ok (.putfield 37, 3) := by decide +kernel
theorem d_Ctx_raiseRunIndex_19 : decode b_Ctx_raiseRunIndex 19 = .ok (.return_, 1) := by decide +kernel
theorem d_Ctx_restart_0 : decode b_Ctx_restart 0 = .ok (.aload_n 0, 1) := by decide +kernel
theorem d_Ctx_restart_1 : decode b_Ctx_restart 1 = .ok (.getfield 9, 3) := by decide +kernel
theorem d_Ctx_restart_4 : decode b_Ctx_restart 4 = .ok (.iconst 2, 1) := by decide +kernel
theorem d_Ctx_restart_5 : decode b_Ctx_restart 5 = .ok (.iload_n 1, 1) := by decide +kernel
theorem d_Ctx_restart_6 : decode b_Ctx_restart 6 = .ok (.bipush 32, 2) := by decide +kernel
theorem d_Ctx_restart_8 : decode b_Ctx_restart 8 = .ok (.iadd, 1) := by decide +kernel
theorem d_Ctx_restart_9 : decode b_Ctx_restart 9 = .ok (.bipush 64, 2) := by decide +kernel
theorem d_Ctx_restart_11 : decode b_Ctx_restart 11 = .ok (.idiv, 1) := by decide +kernel
theorem d_Ctx_restart_12 : decode b_Ctx_restart 12 = .ok (.invokestatic 25, 3) := by decide +kernel
theorem d_Ctx_restart_15 : decode b_Ctx_restart 15 = .ok (.invokestatic 31, 3) := by decide +kernel
theorem d_Ctx_restart_18 : decode b_Ctx_restart 18 = .ok (.aload_n 0, 1) := by decide +kernel
theorem d_Ctx_restart_19 : decode b_Ctx_restart 19 = .ok (.getfield 13, 3) := by decide +kernel
theorem d_Ctx_restart_22 : decode b_Ctx_restart 22 = .ok (.iconst 0, 1) := by decide +kernel
theorem d_Ctx_restart_23 : decode b_Ctx_restart 23 = .ok (.invokestatic 31, 3) := by decide +kernel
theorem d_Ctx_restart_26 : decode b_Ctx_restart 26 = .ok (.aload_n 0, 1) := by decide +kernel
theorem d_Ctx_restart_27 : decode b_Ctx_restart 27 = .ok (.getfield 16, 3) := by decide +kernel
theorem d_Ctx_restart_30 : decode b_Ctx_restart 30 = .ok (.iconst 0, 1) := by decide +kernel
theorem d_Ctx_restart_31 : decode b_Ctx_restart 31 = .ok (.invokestatic 31, 3) := by decide +kernel
theorem d_Ctx_restart_34 : decode b_Ctx_restart 34 = .ok (.aload_n 0, 1) := by decide +kernel
theorem d_Ctx_restart_35 : decode b_Ctx_restart 35 = .ok (.getfield 19, 3) := by decide +kernel
theorem d_Ctx_restart_38 : decode b_Ctx_restart 38 = .ok (.iconst 1, 1) := by decide +kernel
theorem d_Ctx_restart_39 : decode b_Ctx_restart 39 = .ok (.invokestatic 31, 3) := by decide +kernel
theorem d_Ctx_restart_42 : decode b_Ctx_restart 42 = .ok (.aload_n 0, 1) := by decide +kernel
theorem d_Ctx_restart_43 : decode b_Ctx_restart 43 = .ok (.getfield 22, 3) := by decide +kernel
theorem d_Ctx_restart_46 : decode b_Ctx_restart 46 = .ok (.iconst 0, 1) := by decide +kernel
theorem d_Ctx_restart_47 : decode b_Ctx_restart 47 = .ok (.invokestatic 31, 3) := by decide +kernel
theorem d_Ctx_restart_50 : decode b_Ctx_restart 50 = .ok (.aload_n 0, 1) := by decide +kernel
theorem d_Ctx_restart_51 : decode b_Ctx_restart 51 = .ok (.iconst 0, 1) := by decide +kernel
theorem d_Ctx_restart_52 : decode b_Ctx_restart 52 = .ok (.putfield 37, 3) := by decide +kernel
theorem d_Ctx_restart_55 : decode b_Ctx_restart 55 = .ok (.return_, 1) := by decide +kernel
theorem d_Ctx_takeOver_0 : decode b_Ctx_takeOver 0 = .ok (.aload_n 1, 1) := by decide +kernel
theorem d_Ctx_takeOver_1 : decode b_Ctx_takeOver 1 = .ok (.getfield 9, 3) := by decide +kernel
theorem d_Ctx_takeOver_4 : decode b_Ctx_takeOver 4 = .ok (.iconst 0, 1) := by decide +kernel
theorem d_Ctx_takeOver_5 : decode b_Ctx_takeOver 5 = .ok (.aload_n 0, 1) := by decide +kernel
theorem d_Ctx_takeOver_6 : decode b_Ctx_takeOver 6 = .ok (.getfield 9, 3) := by decide +kernel
theorem d_Ctx_takeOver_9 : decode b_Ctx_takeOver 9 = .ok (.iconst 0, 1) := by decide +kernel
theorem d_Ctx_takeOver_10 : decode b_Ctx_takeOver 10 = .ok (.sipush 367, 3) := by decide +kernel
theorem d_Ctx_takeOver_13 : decode b_Ctx_takeOver 13 = .ok (.invokestatic 41, 3) := by decide +kernel
theorem d_Ctx_takeOver_16 : decode b_Ctx_takeOver 16 = .ok (.aload_n 1, 1) := by decide +kernel
theorem d_Ctx_takeOver_17 : decode b_Ctx_takeOver 17 = .ok (.getfield 13, 3) := by decide +kernel
theorem d_Ctx_takeOver_20 : decode b_Ctx_takeOver 20 = .ok (.iconst 0, 1) := by decide +kernel
theorem d_Ctx_takeOver_21 : decode b_Ctx_takeOver 21 = .ok (.aload_n 0, 1) := by decide +kernel
theorem d_Ctx_takeOver_22 : decode b_Ctx_takeOver 22 = .ok (.getfield 13, 3) := by decide +kernel
theorem d_Ctx_takeOver_25 : decode b_Ctx_takeOver 25 = .ok (.iconst 0, 1) := by decide +kernel
theorem d_Ctx_takeOver_26 : decode b_Ctx_takeOver 26 = .ok (.sipush 367, 3) := by decide +kernel
theorem d_Ctx_takeOver_29 : decode b_Ctx_takeOver 29 = .ok (.invokestatic 41, 3) := by decide +kernel
theorem d_Ctx_takeOver_32 : decode b_Ctx_takeOver 32 = .ok (.aload_n 1, 1) := by decide +kernel
theorem d_Ctx_takeOver_33 : decode b_Ctx_takeOver 33 = .ok (.getfield 16, 3) := by decide +kernel
theorem d_Ctx_takeOver_36 : decode b_Ctx_takeOver 36 = .ok (.iconst 0, 1) := by decide +kernel
theorem d_Ctx_takeOver_37 : decode b_Ctx_takeOver 37 = .ok (.aload_n 0, 1) := by decide +kernel
theorem d_Ctx_takeOver_38 : decode b_Ctx_takeOver 38 = .ok (.getfield 16, 3) := by decide +kernel
theorem d_Ctx_takeOver_41 : decode b_Ctx_takeOver 41 = .ok (.iconst 0, 1) := by decide +kernel
theorem d_Ctx_takeOver_42 : decode b_Ctx_takeOver 42 = .ok (.sipush 367, 3) := by decide +kernel
theorem d_Ctx_takeOver_45 : decode b_Ctx_takeOver 45 = .ok (.invokestatic 41, 3) := by decide +kernel
theorem d_Ctx_takeOver_48 : decode b_Ctx_takeOver 48 = .ok (.aload_n 1, 1) := by decide +kernel
theorem d_Ctx_takeOver_49 : decode b_Ctx_takeOver 49 = .ok (.getfield 19, 3) := by decide +kernel
theorem d_Ctx_takeOver_52 : decode b_Ctx_takeOver 52 = .ok (.iconst 0, 1) := by decide +kernel
theorem d_Ctx_takeOver_53 : decode b_Ctx_takeOver 53 = .ok (.aload_n 0, 1) := by decide +kernel
theorem d_Ctx_takeOver_54 : decode b_Ctx_takeOver 54 = .ok (.getfield 19, 3) := by decide +kernel
theorem d_Ctx_takeOver_57 : decode b_Ctx_takeOver 57 = .ok (.iconst 0, 1) := by decide +kernel
theorem d_Ctx_takeOver_58 : decode b_Ctx_takeOver 58 = .ok (.sipush 367, 3) := by decide +kernel
theorem d_Ctx_takeOver_61 : decode b_Ctx_takeOver 61 = .ok (.invokestatic 41, 3) := by decide +kernel
theorem d_Ctx_takeOver_64 : decode b_Ctx_takeOver 64 = .ok (.aload_n 1, 1) := by decide +kernel
theorem d_Ctx_takeOver_65 : decode b_Ctx_takeOver 65 = .ok (.getfield 22, 3) := by decide +kernel
theorem d_Ctx_takeOver_68 : decode b_Ctx_takeOver 68 = .ok (.iconst 0, 1) := by decide +kernel
theorem d_Ctx_takeOver_69 : decode b_Ctx_takeOver 69 = .ok (.aload_n 0, 1) := by decide +kernel
theorem d_Ctx_takeOver_70 : decode b_Ctx_takeOver 70 = .ok (.getfield 22, 3) := by decide +kernel
theorem d_Ctx_takeOver_73 : decode b_Ctx_takeOver 73 = .ok (.iconst 0, 1) := by decide +kernel
theorem d_Ctx_takeOver_74 : decode b_Ctx_takeOver 74 = .ok (.sipush 367, 3) := by decide +kernel
theorem d_Ctx_takeOver_77 : decode b_Ctx_takeOver 77 = .ok (.invokestatic 41, 3) := by decide +kernel
theorem d_Ctx_takeOver_80 : decode b_Ctx_takeOver 80 = .ok (.aload_n 0, 1) := by decide +kernel
theorem d_Ctx_takeOver_81 : decode b_Ctx_takeOver 81 = .ok (.aload_n 1, 1) := by decide +kernel
theorem d_Ctx_takeOver_82 : decode b_Ctx_takeOver 82 = .ok (.getfield 37, 3) := by decide +kernel
theorem d_Ctx_takeOver_85 : decode b_Ctx_takeOver 85 = .ok (.putfield 37, 3) := by decide +kernel
theorem d_Ctx_takeOver_88 : decode b_Ctx_takeOver 88 = .ok (.return_, 1) := by decide +kernel
end
section
theorem d_Fol_foldEnd_0 : decode b_Fol_foldEnd 0 = .ok (.iload_n 0, 1) := by decide +kernel
theorem d_Fol_foldEnd_1 : decode b_Fol_foldEnd 1 = .ok (.ifCond .eq 20, 3) := by decide +kernel
theorem d_Fol_foldEnd_4 : decode b_Fol_foldEnd 4 = .ok (.iload_n 0, 1) := by decide +kernel
theorem d_Fol_foldEnd_5 : decode b_Fol_foldEnd 5 = .ok (.ifCond .ge 7, 3) := by decide +kernel
theorem d_Fol_foldEnd_8 : decode b_Fol_foldEnd 8 = .ok (.iconst 1, 1) := by decide +kernel
theorem d_Fol_foldEnd_9 : decode b_Fol_foldEnd 9 = .ok (.goto 4, 3) := by decide +kernel
theorem d_Fol_foldEnd_12 : decode b_Fol_foldEnd 12 = .ok (.iconst 0, 1) := by decide +kernel
theorem d_Fol_foldEnd_13 : decode b_Fol_foldEnd 13 = .ok (.iload_n 2, 1) := by decide +kernel
theorem d_Fol_foldEnd_14 : decode b_Fol_foldEnd 14 = .ok (.if_icmp .ne 7, 3) := by decide +kernel
theorem d_Fol_foldEnd_17 : decode b_Fol_foldEnd 17 = .ok (.iconst 1, 1) := by decide +kernel
theorem d_Fol_foldEnd_18 : decode b_Fol_foldEnd 18 = .ok (.goto 4, 3) := by decide +kernel
theorem d_Fol_foldEnd_21 : decode b_Fol_foldEnd 21 = .ok (.iconst 0, 1) := by decide +kernel
theorem d_Fol_foldEnd_22 : decode b_Fol_foldEnd 22 = .ok (.istore_n 3, 1) := by decide +kernel
theorem d_Fol_foldEnd_23 : decode b_Fol_foldEnd 23 = .ok (.iconst 2, 1) := by decide +kernel
theorem d_Fol_foldEnd_24 : decode b_Fol_foldEnd 24 = .ok (.iload_n 0, 1) := by decide +kernel
theorem d_Fol_foldEnd_25 : decode b_Fol_foldEnd 25 = .ok (.invokestatic 7, 3) := by decide +kernel
theorem d_Fol_foldEnd_28 : decode b_Fol_foldEnd 28 = .ok (.imul, 1) := by decide +kernel
theorem d_Fol_foldEnd_29 : decode b_Fol_foldEnd 29 = .ok (.iload_n 1, 1) := by decide +kernel
theorem d_Fol_foldEnd_30 : decode b_Fol_foldEnd 30 = .ok (.isub, 1) := by decide +kernel
theorem d_Fol_foldEnd_31 : decode b_Fol_foldEnd 31 = .ok (.iload_n 3, 1) := by decide +kernel
theorem d_Fol_foldEnd_32 : decode b_Fol_foldEnd 32 = .ok (.isub, 1) := by decide +kernel
theorem d_Fol_foldEnd_33 : decode b_Fol_foldEnd 33 = .ok (.ireturn, 1) := by decide +kernel
theorem d_Fol_foldRegular_0 : decode b_Fol_foldRegular 0 = .ok (.iload_n 1, 1) := by decide +kernel
theorem d_Fol_foldRegular_1 : decode b_Fol_foldRegular 1 = .ok (.ifCond .eq 22, 3) := by decide +kernel
theorem d_Fol_foldRegular_4 : decode b_Fol_foldRegular 4 = .ok (.iload_n 0, 1) := by decide +kernel
theorem d_Fol_foldRegular_5 : decode b_Fol_foldRegular 5 = .ok (.ifCond .lt 11, 3) := by decide +kernel
theorem d_Fol_foldRegular_8 : decode b_Fol_foldRegular 8 = .ok (.iconst 2, 1) := by decide +kernel
theorem d_Fol_foldRegular_9 : decode b_Fol_foldRegular 9 = .ok (.iload_n 0, 1) := by decide +kernel
theorem d_Fol_foldRegular_10 : decode b_Fol_foldRegular 10 = .ok (.imul, 1) := by decide +kernel
theorem d_Fol_foldRegular_11 : decode b_Fol_foldRegular 11 = .ok (.iconst 1, 1) := by decide +kernel
theorem d_Fol_foldRegular_12 : decode b_Fol_foldRegular 12 = .ok (.iadd, 1) := by decide +kernel
theorem d_Fol_foldRegular_13 : decode b_Fol_foldRegular 13 = .ok (.goto 9, 3) := by decide +kernel
theorem d_Fol_foldRegular_16 : decode b_Fol_foldRegular 16 = .ok (.bipush (-2), 2) := by decide +kernel
theorem d_Fol_foldRegular_18 : decode b_Fol_foldRegular 18 = .ok (.iload_n 0, 1) := by decide +kernel
theorem d_Fol_foldRegular_19 : decode b_Fol_foldRegular 19 = .ok (.iconst 1, 1) := by decide +kernel
theorem d_Fol_foldRegular_20 : decode b_Fol_foldRegular 20 = .ok (.iadd, 1) := by decide +kernel
theorem d_Fol_foldRegular_21 : decode b_Fol_foldRegular 21 = .ok (.imul, 1) := by decide +kernel
theorem d_Fol_foldRegular_22 : decode b_Fol_foldRegular 22 = .ok (.ireturn, 1) := by decide +kernel
theorem d_Fol_foldRegular_23 : decode b_Fol_foldRegular 23 = .ok (.iload_n 0, 1) := by decide +kernel
theorem d_Fol_foldRegular_24 : decode b_Fol_foldRegular 24 = .ok (.ifCond .lt 9, 3) := by decide +kernel
theorem d_Fol_foldRegular_27 : decode b_Fol_foldRegular 27 = .ok (.iconst 2, 1) := by decide +kernel
theorem d_Fol_foldRegular_28 : decode b_Fol_foldRegular 28 = .ok (.iload_n 0, 1) := by decide +kernel
theorem d_Fol_foldRegular_29 : decode b_Fol_foldRegular 29 = .ok (.imul, 1) := by decide +kernel
theorem d_Fol_foldRegular_30 : decode b_Fol_foldRegular 30 = .ok (.goto 9, 3) := by decide +kernel
theorem d_Fol_foldRegular_33 : decode b_Fol_foldRegular 33 = .ok (.bipush (-2), 2) := by decide +kernel
theorem d_Fol_foldRegular_35 : decode b_Fol_foldRegular 35 = .ok (.iload_n 0, 1) := by decide +kernel
theorem d_Fol_foldRegular_36 : decode b_Fol_foldRegular 36 = .ok (.imul, 1) := by decide +kernel
theorem d_Fol_foldRegular_37 : decode b_Fol_foldRegular 37 = .ok (.iconst 1, 1) := by decide +kernel
theorem d_Fol_foldRegular_38 : decode b_Fol_foldRegular 38 = .ok (.isub, 1) := by decide +kernel
theorem d_Fol_foldRegular_39 : decode b_Fol_foldRegular 39 = .ok (.ireturn, 1) := by decide +kernel
theorem d_Fol_unfoldEnd_0 : decode b_Fol_unfoldEnd 0 = .ok (.iload_n 0, 1) := by decide +kernel
theorem d_Fol_unfoldEnd_1 : decode b_Fol_unfoldEnd 1 = .ok (.iload_n 1, 1) := by decide +kernel
theorem d_Fol_unfoldEnd_2 : decode b_Fol_unfoldEnd 2 = .ok (.iadd, 1) := by decide +kernel
theorem d_Fol_unfoldEnd_3 : decode b_Fol_unfoldEnd 3 = .ok (.iconst 1, 1) := by decide +kernel
theorem d_Fol_unfoldEnd_4 : decode b_Fol_unfoldEnd 4 = .ok (.iand, 1) := by decide +kernel
theorem d_Fol_unfoldEnd_5 : decode b_Fol_unfoldEnd 5 = .ok (.istore_n 3, 1) := by decide +kernel
theorem d_Fol_unfoldEnd_6 : decode b_Fol_unfoldEnd 6 = .ok (.iload_n 0, 1) := by decide +kernel
theorem d_Fol_unfoldEnd_7 : decode b_Fol_unfoldEnd 7 = .ok (.iload_n 1, 1) := by decide +kernel
theorem d_Fol_unfoldEnd_8 : decode b_Fol_unfoldEnd 8 = .ok (.iadd, 1) := by decide +kernel
theorem d_Fol_unfoldEnd_9 : decode b_Fol_unfoldEnd 9 = .ok (.iload_n 3, 1) := by decide +kernel
theorem d_Fol_unfoldEnd_10 : decode b_Fol_unfoldEnd 10 = .ok (.iadd, 1) := by decide +kernel
theorem d_Fol_unfoldEnd_11 : decode b_Fol_unfoldEnd 11 = .ok (.iconst 2, 1) := by decide +kernel
theorem d_Fol_unfoldEnd_12 : decode b_Fol_unfoldEnd 12 = .ok (.idiv, 1) := by decide +kernel
theorem d_Fol_unfoldEnd_13 : decode b_Fol_unfoldEnd 13 = .ok (.istore 4, 2) := by decide +kernel
theorem d_Fol_unfoldEnd_15 : decode b_Fol_unfoldEnd 15 = .ok (.iload_n 3, 1) := by decide +kernel
theorem d_Fol_unfoldEnd_16 : decode b_Fol_unfoldEnd 16 = .ok (.iconst 1, 1) := by decide +kernel
theorem d_Fol_unfoldEnd_17 : decode b_Fol_unfoldEnd 17 = .ok (.if_icmp .ne 7, 3) := by decide +kernel
theorem d_Fol_unfoldEnd_20 : decode b_Fol_unfoldEnd 20 = .ok (.iconst 1, 1) := by decide +kernel
theorem d_Fol_unfoldEnd_21 : decode b_Fol_unfoldEnd 21 = .ok (.goto 4, 3) := by decide +kernel
theorem d_Fol_unfoldEnd_24 : decode b_Fol_unfoldEnd 24 = .ok (.iconst 0, 1) := by decide +kernel
theorem d_Fol_unfoldEnd_25 : decode b_Fol_unfoldEnd 25 = .ok (.iload_n 2, 1) := by decide +kernel
theorem d_Fol_unfoldEnd_26 : decode b_Fol_unfoldEnd 26 = .ok (.if_icmp .ne 9, 3) := by decide +kernel
theorem d_Fol_unfoldEnd_29 : decode b_Fol_unfoldEnd 29 = .ok (.iload 4, 2) := by decide +kernel
theorem d_Fol_unfoldEnd_31 : decode b_Fol_unfoldEnd 31 = .ok (.ineg, 1) := by decide +kernel
theorem d_Fol_unfoldEnd_32 : decode b_Fol_unfoldEnd 32 = .ok (.goto 5, 3) := by decide +kernel
theorem d_Fol_unfoldEnd_35 : decode b_Fol_unfoldEnd 35 = .ok (.iload 4, 2) := by decide +kernel
theorem d_Fol_unfoldEnd_37 : decode b_Fol_unfoldEnd 37 = .ok (.ireturn, 1) := by decide +kernel
theorem d_Fol_unfoldRegular_0 : decode b_Fol_unfoldRegular 0 = .ok (.iload_n 0, 1) := by decide +kernel
theorem d_Fol_unfoldRegular_1 : decode b_Fol_unfoldRegular 1 = .ok (.iconst 1, 1) := by decide +kernel
theorem d_Fol_unfoldRegular_2 : decode b_Fol_unfoldRegular 2 = .ok (.iand, 1) := by decide +kernel
theorem d_Fol_unfoldRegular_3 : decode b_Fol_unfoldRegular 3 = .ok (.iconst 1, 1) := by decide +kernel
theorem d_Fol_unfoldRegular_4 : decode b_Fol_unfoldRegular 4 = .ok (.if_icmp .ne 7, 3) := by decide +kernel
theorem d_Fol_unfoldRegular_7 : decode b_Fol_unfoldRegular 7 = .ok (.iconst 1, 1) := by decide +kernel
theorem d_Fol_unfoldRegular_8 : decode b_Fol_unfoldRegular 8 = .ok (.goto 4, 3) := by decide +kernel
theorem d_Fol_unfoldRegular_11 : decode b_Fol_unfoldRegular 11 = .ok (.iconst 0, 1) := by decide +kernel
theorem d_Fol_unfoldRegular_12 : decode b_Fol_unfoldRegular 12 = .ok (.istore_n 2, 1) := by decide +kernel
theorem d_Fol_unfoldRegular_13 : decode b_Fol_unfoldRegular 13 = .ok (.iload_n 1, 1) := by decide +kernel
theorem d_Fol_unfoldRegular_14 : decode b_Fol_unfoldRegular 14 = .ok (.ifCond .eq 20, 3) := by decide +kernel
theorem d_Fol_unfoldRegular_17 : decode b_Fol_unfoldRegular 17 = .ok (.iload_n 2, 1) := by decide +kernel
theorem d_Fol_unfoldRegular_18 : decode b_Fol_unfoldRegular 18 = .ok (.ifCond .eq 9, 3) := by decide +kernel
theorem d_Fol_unfoldRegular_21 : decode b_Fol_unfoldRegular 21 = .ok (.iload_n 0, 1) := by decide +kernel
theorem d_Fol_unfoldRegular_22 : decode b_Fol_unfoldRegular 22 = .ok (.iconst 2, 1) := by decide +kernel
theorem d_Fol_unfoldRegular_23 : decode b_Fol_unfoldRegular 23 = .ok (.idiv, 1) := by decide +kernel
theorem d_Fol_unfoldRegular_24 : decode b_Fol_unfoldRegular 24 = .ok (.goto 9, 3) := by decide +kernel
theorem d_Fol_unfoldRegular_27 : decode b_Fol_unfoldRegular 27 = .ok (.iload_n 0, 1) := by decide +kernel
theorem d_Fol_unfoldRegular_28 : decode b_Fol_unfoldRegular 28 = .ok (.iconst 2, 1) := by decide +kernel
theorem d_Fol_unfoldRegular_29 : decode b_Fol_unfoldRegular 29 = .ok (.idiv, 1) := by decide +kernel
theorem d_Fol_unfoldRegular_30 : decode b_Fol_unfoldRegular 30 = .ok (.ineg, 1) := by decide +kernel
theorem d_Fol_unfoldRegular_31 : decode b_Fol_unfoldRegular 31 = .ok (.iconst 1, 1) := by decide +kernel
theorem d_Fol_unfoldRegular_32 : decode b_Fol_unfoldRegular 32 = .ok (.isub, 1) := by decide +kernel
theorem d_Fol_unfoldRegular_33 : decode b_Fol_unfoldRegular 33 = .ok (.ireturn, 1) := by decide +kernel
theorem d_Fol_unfoldRegular_34 : decode b_Fol_unfoldRegular 34 = .ok (.iload_n 2, 1) := by decide +kernel
theorem d_Fol_unfoldRegular_35 : decode b_Fol_unfoldRegular 35 = .ok (.ifCond .eq 12, 3) := by decide +kernel
theorem d_Fol_unfoldRegular_38 : decode b_Fol_unfoldRegular 38 = .ok (.iload_n 0, 1) := by decide +kernel
theorem d_Fol_unfoldRegular_39 : decode b_Fol_unfoldRegular 39 = .ok (.iconst 2, 1) := by decide +kernel
theorem d_Fol_unfoldRegular_40 : decode b_Fol_unfoldRegular 40 = .ok (.idiv, 1) := by decide +kernel
theorem d_Fol_unfoldRegular_41 : decode b_Fol_unfoldRegular 41 = .ok (.ineg, 1) := by decide +kernel
theorem d_Fol_unfoldRegular_42 : decode b_Fol_unfoldRegular 42 = .ok (.iconst 1, 1) := by decide +kernel
theorem d_Fol_unfoldRegular_43 : decode b_Fol_unfoldRegular 43 = .ok (.isub, 1) := by decide +kernel
theorem d_Fol_unfoldRegular_44 : decode b_Fol_unfoldRegular 44 = .ok (.goto 6, 3) := by decide +kernel
theorem d_Fol_unfoldRegular_47 : decode b_Fol_unfoldRegular 47 = .ok (.iload_n 0, 1) := by decide +kernel
theorem d_Fol_unfoldRegular_48 : decode b_Fol_unfoldRegular 48 = .ok (.iconst 2, 1) := by decide +kernel
theorem d_Fol_unfoldRegular_49 : decode b_Fol_unfoldRegular 49 = .ok (.idiv, 1) := by decide +kernel
theorem d_Fol_unfoldRegular_50 : decode b_Fol_unfoldRegular 50 = .ok (.ireturn, 1) := by decide +kernel
theorem d_Grc_code_0 : decode b_Grc_code 0 = .ok (.aload_n 0, 1) := by decide +kernel
theorem d_Grc_code_1 : decode b_Grc_code 1 = .ok (.iload_n 1, 1) := by decide +kernel
theorem d_Grc_code_2 : decode b_Grc_code 2 = .ok (.invokevirtual 63, 3) := by decide +kernel
theorem d_Grc_code_5 : decode b_Grc_code 5 = .ok (.ifCond .eq 18, 3) := by decide +kernel
theorem d_Grc_code_8 : decode b_Grc_code 8 = .ok (.aload_n 0, 1) := by decide +kernel
theorem d_Grc_code_9 : decode b_Grc_code 9 = .ok (.getfield 10, 3) := by decide +kernel
theorem d_Grc_code_12 : decode b_Grc_code 12 = .ok (.getfield 51, 3) := by decide +kernel
theorem d_Grc_code_15 : decode b_Grc_code 15 = .ok (.getfield 67, 3) := by decide +kernel
theorem d_Grc_code_18 : decode b_Grc_code 18 = .ok (.iload_n 1, 1) := by decide +kernel
theorem d_Grc_code_19 : decode b_Grc_code 19 = .ok (.iaload, 1) := by decide +kernel
theorem d_Grc_code_20 : decode b_Grc_code 20 = .ok (.goto 4, 3) := by decide +kernel
theorem d_Grc_code_23 : decode b_Grc_code 23 = .ok (.iconst (-1), 1) := by decide +kernel
theorem d_Grc_code_24 : decode b_Grc_code 24 = .ok (.ireturn, 1) := by decide +kernel
theorem d_Grc_context_0 : decode b_Grc_context 0 = .ok (.iload_n 1, 1) := by decide +kernel
theorem d_Grc_context_1 : decode b_Grc_context 1 = .ok (.ifCond .lt 10, 3) := by decide +kernel
theorem d_Grc_context_4 : decode b_Grc_context 4 = .ok (.iload_n 1, 1) := by decide +kernel
theorem d_Grc_context_5 : decode b_Grc_context 5 = .ok (.sipush 367, 3) := by decide +kernel
theorem d_Grc_context_8 : decode b_Grc_context 8 = .ok (.if_icmp .lt 6, 3) := by decide +kernel
theorem d_Grc_context_11 : decode b_Grc_context 11 = .ok (.ldc 132, 2) := by decide +kernel
theorem d_Grc_context_13 : decode b_Grc_context 13 = .ok (.ireturn, 1) := by decide +kernel
theorem d_Grc_context_14 : decode b_Grc_context 14 = .ok (.aload_n 0, 1) := by decide +kernel
theorem d_Grc_context_15 : decode b_Grc_context 15 = .ok (.getfield 10, 3) := by decide +kernel
theorem d_Grc_context_18 : decode b_Grc_context 18 = .ok (.getfield 133, 3) := by decide +kernel
theorem d_Grc_context_21 : decode b_Grc_context 21 = .ok (.astore_n 3, 1) := by decide +kernel
theorem d_Grc_context_22 : decode b_Grc_context 22 = .ok (.iload_n 2, 1) := by decide +kernel
theorem d_Grc_context_23 : decode b_Grc_context 23 = .ok (.tableswitch 68 0 4 #[33, 40, 47, 54, 61], 33) := by decide +kernel
theorem d_Grc_context_56 : decode b_Grc_context 56 = .ok (.aload_n 3, 1) := by decide +kernel
theorem d_Grc_context_57 : decode b_Grc_context 57 = .ok (.getfield 137, 3) := by decide +kernel
theorem d_Grc_context_60 : decode b_Grc_context 60 = .ok (.iload_n 1, 1) := by decide +kernel
theorem d_Grc_context_61 : decode b_Grc_context 61 = .ok (.iaload, 1) := by decide +kernel
theorem d_Grc_context_62 : decode b_Grc_context 62 = .ok (.ireturn, 1) := by decide +kernel
theorem d_Grc_context_63 : decode b_Grc_context 63 = .ok (.aload_n 3, 1) := by decide +kernel
theorem d_Grc_context_64 : decode b_Grc_context 64 = .ok (.getfield 140, 3) := by decide +kernel
theorem d_Grc_context_67 : decode b_Grc_context 67 = .ok (.iload_n 1, 1) := by decide +kernel
theorem d_Grc_context_68 : decode b_Grc_context 68 = .ok (.iaload, 1) := by decide +kernel
theorem d_Grc_context_69 : decode b_Grc_context 69 = .ok (.ireturn, 1) := by decide +kernel
theorem d_Grc_context_70 : decode b_Grc_context 70 = .ok (.aload_n 3, 1) := by decide +kernel
theorem d_Grc_context_71 : decode b_Grc_context 71 = .ok (.getfield 143, 3) := by decide +kernel
theorem d_Grc_context_74 : decode b_Grc_context 74 = .ok (.iload_n 1, 1) := by decide +kernel
theorem d_Grc_context_75 : decode b_Grc_context 75 = .ok (.iaload, 1) := by decide +kernel
theorem d_Grc_context_76 : decode b_Grc_context 76 = .ok (.ireturn, 1) := by decide +kernel
theorem d_Grc_context_77 : decode b_Grc_context 77 = .ok (.aload_n 3, 1) := by decide +kernel
theorem d_Grc_context_78 : decode b_Grc_context 78 = .ok (.getfield 146, 3) := by decide +kernel
theorem d_Grc_context_81 : decode b_Grc_context 81 = .ok (.iload_n 1, 1) := by decide +kernel
theorem d_Grc_context_82 : decode b_Grc_context 82 = .ok (.iaload, 1) := by decide +kernel
theorem d_Grc_context_83 : decode b_Grc_context 83 = .ok (.ireturn, 1) := by decide +kernel
theorem d_Grc_context_84 : decode b_Grc_context 84 = .ok (.aload_n 3, 1) := by decide +kernel
theorem d_Grc_context_85 : decode b_Grc_context 85 = .ok (.getfield 149, 3) := by decide +kernel
theorem d_Grc_context_88 : decode b_Grc_context 88 = .ok (.iload_n 1, 1) := by decide +kernel
theorem d_Grc_context_89 : decode b_Grc_context 89 = .ok (.iaload, 1) := by decide +kernel
theorem d_Grc_context_90 : decode b_Grc_context 90 = .ok (.ireturn, 1) := by decide +kernel
theorem d_Grc_context_91 : decode b_Grc_context 91 = .ok (.ldc 132, 2) := by decide +kernel
theorem d_Grc_context_93 : decode b_Grc_context 93 = .ok (.ireturn, 1) := by decide +kernel
theorem d_Grc_cut_0 : decode b_Grc_cut 0 = .ok (.iload_n 1, 1) := by decide +kernel
theorem d_Grc_cut_1 : decode b_Grc_cut 1 = .ok (.ifCond .lt 17, 3) := by decide +kernel
theorem d_Grc_cut_4 : decode b_Grc_cut 4 = .ok (.iload_n 1, 1) := by decide +kernel
theorem d_Grc_cut_5 : decode b_Grc_cut 5 = .ok (.aload_n 0, 1) := by decide +kernel
theorem d_Grc_cut_6 : decode b_Grc_cut 6 = .ok (.getfield 10, 3) := by decide +kernel
theorem d_Grc_cut_9 : decode b_Grc_cut 9 = .ok (.getfield 51, 3) := by decide +kernel
theorem d_Grc_cut_12 : decode b_Grc_cut 12 = .ok (.getfield 60, 3) := by decide +kernel
theorem d_Grc_cut_15 : decode b_Grc_cut 15 = .ok (.if_icmp .le 5, 3) := by decide +kernel
theorem d_Grc_cut_18 : decode b_Grc_cut 18 = .ok (.iconst 0, 1) := by decide +kernel
theorem d_Grc_cut_19 : decode b_Grc_cut 19 = .ok (.ireturn, 1) := by decide +kernel
theorem d_Grc_cut_20 : decode b_Grc_cut 20 = .ok (.aload_n 0, 1) := by decide +kernel
theorem d_Grc_cut_21 : decode b_Grc_cut 21 = .ok (.getfield 10, 3) := by decide +kernel
theorem d_Grc_cut_24 : decode b_Grc_cut 24 = .ok (.getfield 51, 3) := by decide +kernel
theorem d_Grc_cut_27 : decode b_Grc_cut 27 = .ok (.iload_n 1, 1) := by decide +kernel
theorem d_Grc_cut_28 : decode b_Grc_cut 28 = .ok (.putfield 60, 3) := by decide +kernel
theorem d_Grc_cut_31 : decode b_Grc_cut 31 = .ok (.iconst 1, 1) := by decide +kernel
theorem d_Grc_cut_32 : decode b_Grc_cut 32 = .ok (.ireturn, 1) := by decide +kernel
theorem d_Grc_encode_0 : decode b_Grc_encode 0 = .ok (.aload_n 0, 1) := by decide +kernel
theorem d_Grc_encode_1 : decode b_Grc_encode 1 = .ok (.getfield 10, 3) := by decide +kernel
theorem d_Grc_encode_4 : decode b_Grc_encode 4 = .ok (.invokevirtual 45, 3) := by decide +kernel
theorem d_Grc_encode_7 : decode b_Grc_encode 7 = .ok (.aload_n 0, 1) := by decide +kernel
theorem d_Grc_encode_8 : decode b_Grc_encode 8 = .ok (.getfield 10, 3) := by decide +kernel
theorem d_Grc_encode_11 : decode b_Grc_encode 11 = .ok (.invokevirtual 48, 3) := by decide +kernel
theorem d_Grc_encode_14 : decode b_Grc_encode 14 = .ok (.aload_n 0, 1) := by decide +kernel
theorem d_Grc_encode_15 : decode b_Grc_encode 15 = .ok (.getfield 10, 3) := by decide +kernel
theorem d_Grc_encode_18 : decode b_Grc_encode 18 = .ok (.getfield 51, 3) := by decide +kernel
theorem d_Grc_encode_21 : decode b_Grc_encode 21 = .ok (.invokevirtual 55, 3) := by decide +kernel
theorem d_Grc_encode_24 : decode b_Grc_encode 24 = .ok (.aload_n 0, 1) := by decide +kernel
theorem d_Grc_encode_25 : decode b_Grc_encode 25 = .ok (.getfield 10, 3) := by decide +kernel
theorem d_Grc_encode_28 : decode b_Grc_encode 28 = .ok (.getfield 51, 3) := by decide +kernel
theorem d_Grc_encode_31 : decode b_Grc_encode 31 = .ok (.getfield 60, 3) := by decide +kernel
theorem d_Grc_encode_34 : decode b_Grc_encode 34 = .ok (.ireturn, 1) := by decide +kernel
theorem d_Grc_frame_0 : decode b_Grc_frame 0 = .ok (.iload_n 1, 1) := by decide +kernel
theorem d_Grc_frame_1 : decode b_Grc_frame 1 = .ok (.iload_n 2, 1) := by decide +kernel
theorem d_Grc_frame_2 : decode b_Grc_frame 2 = .ok (.iload_n 3, 1) := by decide +kernel
theorem d_Grc_frame_3 : decode b_Grc_frame 3 = .ok (.iload 4, 2) := by decide +kernel
theorem d_Grc_frame_5 : decode b_Grc_frame 5 = .ok (.invokestatic 23, 3) := by decide +kernel
theorem d_Grc_frame_8 : decode b_Grc_frame 8 = .ok (.ifCond .ne 5, 3) := by decide +kernel
theorem d_Grc_frame_11 : decode b_Grc_frame 11 = .ok (.iconst 0, 1) := by decide +kernel
theorem d_Grc_frame_12 : decode b_Grc_frame 12 = .ok (.ireturn, 1) := by decide +kernel
theorem d_Grc_frame_13 : decode b_Grc_frame 13 = .ok (.aload_n 0, 1) := by decide +kernel
theorem d_Grc_frame_14 : decode b_Grc_frame 14 = .ok (.getfield 10, 3) := by decide +kernel
theorem d_Grc_frame_17 : decode b_Grc_frame 17 = .ok (.iload_n 1, 1) := by decide +kernel
theorem d_Grc_frame_18 : decode b_Grc_frame 18 = .ok (.iload_n 2, 1) := by decide +kernel
theorem d_Grc_frame_19 : decode b_Grc_frame 19 = .ok (.iload_n 3, 1) := by decide +kernel
theorem d_Grc_frame_20 : decode b_Grc_frame 20 = .ok (.iload 4, 2) := by decide +kernel
theorem d_Grc_frame_22 : decode b_Grc_frame 22 = .ok (.invokevirtual 29, 3) := by decide +kernel
theorem d_Grc_frame_25 : decode b_Grc_frame 25 = .ok (.iconst 1, 1) := by decide +kernel
theorem d_Grc_frame_26 : decode b_Grc_frame 26 = .ok (.ireturn, 1) := by decide +kernel
theorem d_Grc_hasByte_0 : decode b_Grc_hasByte 0 = .ok (.iload_n 1, 1) := by decide +kernel
theorem d_Grc_hasByte_1 : decode b_Grc_hasByte 1 = .ok (.ifCond .lt 21, 3) := by decide +kernel
theorem d_Grc_hasByte_4 : decode b_Grc_hasByte 4 = .ok (.iload_n 1, 1) := by decide +kernel
theorem d_Grc_hasByte_5 : decode b_Grc_hasByte 5 = .ok (.aload_n 0, 1) := by decide +kernel
theorem d_Grc_hasByte_6 : decode b_Grc_hasByte 6 = .ok (.getfield 10, 3) := by decide +kernel
theorem d_Grc_hasByte_9 : decode b_Grc_hasByte 9 = .ok (.getfield 51, 3) := by decide +kernel
theorem d_Grc_hasByte_12 : decode b_Grc_hasByte 12 = .ok (.getfield 60, 3) := by decide +kernel
theorem d_Grc_hasByte_15 : decode b_Grc_hasByte 15 = .ok (.if_icmp .ge 7, 3) := by decide +kernel
theorem d_Grc_hasByte_18 : decode b_Grc_hasByte 18 = .ok (.iconst 1, 1) := by decide +kernel
theorem d_Grc_hasByte_19 : decode b_Grc_hasByte 19 = .ok (.goto 4, 3) := by decide +kernel
theorem d_Grc_hasByte_22 : decode b_Grc_hasByte 22 = .ok (.iconst 0, 1) := by decide +kernel
theorem d_Grc_hasByte_23 : decode b_Grc_hasByte 23 = .ok (.ireturn, 1) := by decide +kernel
theorem d_Grc_number_0 : decode b_Grc_number 0 = .ok (.aload_n 0, 1) := by decide +kernel
theorem d_Grc_number_1 : decode b_Grc_number 1 = .ok (.getfield 10, 3) := by decide +kernel
theorem d_Grc_number_4 : decode b_Grc_number 4 = .ok (.getfield 33, 3) := by decide +kernel
theorem d_Grc_number_7 : decode b_Grc_number 7 = .ok (.astore_n 2, 1) := by decide +kernel
theorem d_Grc_number_8 : decode b_Grc_number 8 = .ok (.iload_n 1, 1) := by decide +kernel
theorem d_Grc_number_9 : decode b_Grc_number 9 = .ok (.tableswitch 105 0 9 #[55, 60, 65, 70, 75, 80, 85, 90, 95, 100], 55) := by decide +kernel
theorem d_Grc_number_64 : decode b_Grc_number 64 = .ok (.aload_n 2, 1) := by decide +kernel
theorem d_Grc_number_65 : decode b_Grc_number 65 = .ok (.getfield 89, 3) := by decide +kernel
theorem d_Grc_number_68 : decode b_Grc_number 68 = .ok (.ireturn, 1) := by decide +kernel
theorem d_Grc_number_69 : decode b_Grc_number 69 = .ok (.aload_n 2, 1) := by decide +kernel
theorem d_Grc_number_70 : decode b_Grc_number 70 = .ok (.getfield 37, 3) := by decide +kernel
theorem d_Grc_number_73 : decode b_Grc_number 73 = .ok (.ireturn, 1) := by decide +kernel
theorem d_Grc_number_74 : decode b_Grc_number 74 = .ok (.aload_n 2, 1) := by decide +kernel
theorem d_Grc_number_75 : decode b_Grc_number 75 = .ok (.getfield 92, 3) := by decide +kernel
theorem d_Grc_number_78 : decode b_Grc_number 78 = .ok (.ireturn, 1) := by decide +kernel
theorem d_Grc_number_79 : decode b_Grc_number 79 = .ok (.aload_n 2, 1) := by decide +kernel
theorem d_Grc_number_80 : decode b_Grc_number 80 = .ok (.getfield 95, 3) := by decide +kernel
theorem d_Grc_number_83 : decode b_Grc_number 83 = .ok (.ireturn, 1) := by decide +kernel
theorem d_Grc_number_84 : decode b_Grc_number 84 = .ok (.aload_n 2, 1) := by decide +kernel
theorem d_Grc_number_85 : decode b_Grc_number 85 = .ok (.getfield 98, 3) := by decide +kernel
theorem d_Grc_number_88 : decode b_Grc_number 88 = .ok (.ireturn, 1) := by decide +kernel
theorem d_Grc_number_89 : decode b_Grc_number 89 = .ok (.aload_n 2, 1) := by decide +kernel
theorem d_Grc_number_90 : decode b_Grc_number 90 = .ok (.getfield 101, 3) := by decide +kernel
theorem d_Grc_number_93 : decode b_Grc_number 93 = .ok (.ireturn, 1) := by decide +kernel
theorem d_Grc_number_94 : decode b_Grc_number 94 = .ok (.aload_n 2, 1) := by decide +kernel
theorem d_Grc_number_95 : decode b_Grc_number 95 = .ok (.getfield 104, 3) := by decide +kernel
theorem d_Grc_number_98 : decode b_Grc_number 98 = .ok (.ireturn, 1) := by decide +kernel
theorem d_Grc_number_99 : decode b_Grc_number 99 = .ok (.aload_n 2, 1) := by decide +kernel
theorem d_Grc_number_100 : decode b_Grc_number 100 = .ok (.getfield 107, 3) := by decide +kernel
theorem d_Grc_number_103 : decode b_Grc_number 103 = .ok (.ireturn, 1) := by decide +kernel
theorem d_Grc_number_104 : decode b_Grc_number 104 = .ok (.aload_n 2, 1) := by decide +kernel
theorem d_Grc_number_105 : decode b_Grc_number 105 = .ok (.getfield 110, 3) := by decide +kernel
theorem d_Grc_number_108 : decode b_Grc_number 108 = .ok (.ireturn, 1) := by decide +kernel
theorem d_Grc_number_109 : decode b_Grc_number 109 = .ok (.aload_n 2, 1) := by decide +kernel
theorem d_Grc_number_110 : decode b_Grc_number 110 = .ok (.getfield 113, 3) := by decide +kernel
theorem d_Grc_number_113 : decode b_Grc_number 113 = .ok (.ireturn, 1) := by decide +kernel
theorem d_Grc_number_114 : decode b_Grc_number 114 = .ok (.iconst (-1), 1) := by decide +kernel
theorem d_Grc_number_115 : decode b_Grc_number 115 = .ok (.ireturn, 1) := by decide +kernel
theorem d_Grc_poke_0 : decode b_Grc_poke 0 = .ok (.aload_n 0, 1) := by decide +kernel
theorem d_Grc_poke_1 : decode b_Grc_poke 1 = .ok (.iload_n 1, 1) := by decide +kernel
theorem d_Grc_poke_2 : decode b_Grc_poke 2 = .ok (.invokevirtual 63, 3) := by decide +kernel
theorem d_Grc_poke_5 : decode b_Grc_poke 5 = .ok (.ifCond .eq 14, 3) := by decide +kernel
theorem d_Grc_poke_8 : decode b_Grc_poke 8 = .ok (.iload_n 2, 1) := by decide +kernel
theorem d_Grc_poke_9 : decode b_Grc_poke 9 = .ok (.ifCond .lt 10, 3) := by decide +kernel
theorem d_Grc_poke_12 : decode b_Grc_poke 12 = .ok (.iload_n 2, 1) := by decide +kernel
theorem d_Grc_poke_13 : decode b_Grc_poke 13 = .ok (.sipush 255, 3) := by decide +kernel
theorem d_Grc_poke_16 : decode b_Grc_poke 16 = .ok (.if_icmp .le 5, 3) := by decide +kernel
theorem d_Grc_poke_19 : decode b_Grc_poke 19 = .ok (.iconst 0, 1) := by decide +kernel
theorem d_Grc_poke_20 : decode b_Grc_poke 20 = .ok (.ireturn, 1) := by decide +kernel
theorem d_Grc_poke_21 : decode b_Grc_poke 21 = .ok (.aload_n 0, 1) := by decide +kernel
theorem d_Grc_poke_22 : decode b_Grc_poke 22 = .ok (.getfield 10, 3) := by decide +kernel
theorem d_Grc_poke_25 : decode b_Grc_poke 25 = .ok (.getfield 51, 3) := by decide +kernel
theorem d_Grc_poke_28 : decode b_Grc_poke 28 = .ok (.getfield 67, 3) := by decide +kernel
theorem d_Grc_poke_31 : decode b_Grc_poke 31 = .ok (.iload_n 1, 1) := by decide +kernel
theorem d_Grc_poke_32 : decode b_Grc_poke 32 = .ok (.iload_n 2, 1) := by decide +kernel
theorem d_Grc_poke_33 : decode b_Grc_poke 33 = .ok (.iastore, 1) := by decide +kernel
theorem d_Grc_poke_34 : decode b_Grc_poke 34 = .ok (.iconst 1, 1) := by decide +kernel
theorem d_Grc_poke_35 : decode b_Grc_poke 35 = .ok (.ireturn, 1) := by decide +kernel
theorem d_Grc_rebuilt_0 : decode b_Grc_rebuilt 0 = .ok (.aload_n 0, 1) := by decide +kernel
theorem d_Grc_rebuilt_1 : decode b_Grc_rebuilt 1 = .ok (.getfield 10, 3) := by decide +kernel
theorem d_Grc_rebuilt_4 : decode b_Grc_rebuilt 4 = .ok (.getfield 33, 3) := by decide +kernel
theorem d_Grc_rebuilt_7 : decode b_Grc_rebuilt 7 = .ok (.iload_n 1, 1) := by decide +kernel
theorem d_Grc_rebuilt_8 : decode b_Grc_rebuilt 8 = .ok (.iload_n 2, 1) := by decide +kernel
theorem d_Grc_rebuilt_9 : decode b_Grc_rebuilt 9 = .ok (.invokevirtual 116, 3) := by decide +kernel
theorem d_Grc_rebuilt_12 : decode b_Grc_rebuilt 12 = .ok (.ifCond .eq 19, 3) := by decide +kernel
theorem d_Grc_rebuilt_15 : decode b_Grc_rebuilt 15 = .ok (.aload_n 0, 1) := by decide +kernel
theorem d_Grc_rebuilt_16 : decode b_Grc_rebuilt 16 = .ok (.getfield 10, 3) := by decide +kernel
theorem d_Grc_rebuilt_19 : decode b_Grc_rebuilt 19 = .ok (.getfield 127, 3) := by decide +kernel
theorem d_Grc_rebuilt_22 : decode b_Grc_rebuilt 22 = .ok (.iload_n 1, 1) := by decide +kernel
theorem d_Grc_rebuilt_23 : decode b_Grc_rebuilt 23 = .ok (.iload_n 2, 1) := by decide +kernel
theorem d_Grc_rebuilt_24 : decode b_Grc_rebuilt 24 = .ok (.invokestatic 123, 3) := by decide +kernel
theorem d_Grc_rebuilt_27 : decode b_Grc_rebuilt 27 = .ok (.iaload, 1) := by decide +kernel
theorem d_Grc_rebuilt_28 : decode b_Grc_rebuilt 28 = .ok (.goto 4, 3) := by decide +kernel
theorem d_Grc_rebuilt_31 : decode b_Grc_rebuilt 31 = .ok (.iconst (-1), 1) := by decide +kernel
theorem d_Grc_rebuilt_32 : decode b_Grc_rebuilt 32 = .ok (.ireturn, 1) := by decide +kernel
theorem d_Grc_row_0 : decode b_Grc_row 0 = .ok (.iload_n 1, 1) := by decide +kernel
theorem d_Grc_row_1 : decode b_Grc_row 1 = .ok (.ifCond .lt 17, 3) := by decide +kernel
theorem d_Grc_row_4 : decode b_Grc_row 4 = .ok (.iload_n 1, 1) := by decide +kernel
theorem d_Grc_row_5 : decode b_Grc_row 5 = .ok (.aload_n 0, 1) := by decide +kernel
theorem d_Grc_row_6 : decode b_Grc_row 6 = .ok (.getfield 10, 3) := by decide +kernel
theorem d_Grc_row_9 : decode b_Grc_row 9 = .ok (.getfield 33, 3) := by decide +kernel
theorem d_Grc_row_12 : decode b_Grc_row 12 = .ok (.getfield 37, 3) := by decide +kernel
theorem d_Grc_row_15 : decode b_Grc_row 15 = .ok (.if_icmp .lt 5, 3) := by decide +kernel
theorem d_Grc_row_18 : decode b_Grc_row 18 = .ok (.iconst 0, 1) := by decide +kernel
theorem d_Grc_row_19 : decode b_Grc_row 19 = .ok (.ireturn, 1) := by decide +kernel
theorem d_Grc_row_20 : decode b_Grc_row 20 = .ok (.aload_n 0, 1) := by decide +kernel
theorem d_Grc_row_21 : decode b_Grc_row 21 = .ok (.getfield 10, 3) := by decide +kernel
theorem d_Grc_row_24 : decode b_Grc_row 24 = .ok (.iload_n 1, 1) := by decide +kernel
theorem d_Grc_row_25 : decode b_Grc_row 25 = .ok (.lload_n 2, 1) := by decide +kernel
theorem d_Grc_row_26 : decode b_Grc_row 26 = .ok (.invokevirtual 41, 3) := by decide +kernel
theorem d_Grc_row_29 : decode b_Grc_row 29 = .ok (.ireturn, 1) := by decide +kernel
theorem d_Grc_runIndex_0 : decode b_Grc_runIndex 0 = .ok (.aload_n 0, 1) := by decide +kernel
theorem d_Grc_runIndex_1 : decode b_Grc_runIndex 1 = .ok (.getfield 10, 3) := by decide +kernel
theorem d_Grc_runIndex_4 : decode b_Grc_runIndex 4 = .ok (.getfield 133, 3) := by decide +kernel
theorem d_Grc_runIndex_7 : decode b_Grc_runIndex 7 = .ok (.getfield 152, 3) := by decide +kernel
theorem d_Grc_runIndex_10 : decode b_Grc_runIndex 10 = .ok (.ireturn, 1) := by decide +kernel
theorem d_Grc_sample_0 : decode b_Grc_sample 0 = .ok (.aload_n 0, 1) := by decide +kernel
theorem d_Grc_sample_1 : decode b_Grc_sample 1 = .ok (.getfield 10, 3) := by decide +kernel
theorem d_Grc_sample_4 : decode b_Grc_sample 4 = .ok (.getfield 33, 3) := by decide +kernel
theorem d_Grc_sample_7 : decode b_Grc_sample 7 = .ok (.iload_n 1, 1) := by decide +kernel
theorem d_Grc_sample_8 : decode b_Grc_sample 8 = .ok (.iload_n 2, 1) := by decide +kernel
theorem d_Grc_sample_9 : decode b_Grc_sample 9 = .ok (.invokevirtual 116, 3) := by decide +kernel
theorem d_Grc_sample_12 : decode b_Grc_sample 12 = .ok (.ifCond .eq 19, 3) := by decide +kernel
theorem d_Grc_sample_15 : decode b_Grc_sample 15 = .ok (.aload_n 0, 1) := by decide +kernel
theorem d_Grc_sample_16 : decode b_Grc_sample 16 = .ok (.getfield 10, 3) := by decide +kernel
theorem d_Grc_sample_19 : decode b_Grc_sample 19 = .ok (.getfield 120, 3) := by decide +kernel
theorem d_Grc_sample_22 : decode b_Grc_sample 22 = .ok (.iload_n 1, 1) := by decide +kernel
theorem d_Grc_sample_23 : decode b_Grc_sample 23 = .ok (.iload_n 2, 1) := by decide +kernel
theorem d_Grc_sample_24 : decode b_Grc_sample 24 = .ok (.invokestatic 123, 3) := by decide +kernel
theorem d_Grc_sample_27 : decode b_Grc_sample 27 = .ok (.iaload, 1) := by decide +kernel
theorem d_Grc_sample_28 : decode b_Grc_sample 28 = .ok (.goto 4, 3) := by decide +kernel
theorem d_Grc_sample_31 : decode b_Grc_sample 31 = .ok (.iconst (-1), 1) := by decide +kernel
theorem d_Grc_sample_32 : decode b_Grc_sample 32 = .ok (.ireturn, 1) := by decide +kernel
theorem d_Grc_size_0 : decode b_Grc_size 0 = .ok (.aload_n 0, 1) := by decide +kernel
theorem d_Grc_size_1 : decode b_Grc_size 1 = .ok (.getfield 10, 3) := by decide +kernel
theorem d_Grc_size_4 : decode b_Grc_size 4 = .ok (.getfield 51, 3) := by decide +kernel
theorem d_Grc_size_7 : decode b_Grc_size 7 = .ok (.getfield 60, 3) := by decide +kernel
theorem d_Grc_size_10 : decode b_Grc_size 10 = .ok (.ireturn, 1) := by decide +kernel
theorem d_Mod_above_0 : decode b_Mod_above 0 = .ok (.aload_n 0, 1) := by decide +kernel
theorem d_Mod_above_1 : decode b_Mod_above 1 = .ok (.iload_n 1, 1) := by decide +kernel
theorem d_Mod_above_2 : decode b_Mod_above 2 = .ok (.iload_n 2, 1) := by decide +kernel
theorem d_Mod_above_3 : decode b_Mod_above 3 = .ok (.iconst 1, 1) := by decide +kernel
theorem d_Mod_above_4 : decode b_Mod_above 4 = .ok (.isub, 1) := by decide +kernel
theorem d_Mod_above_5 : decode b_Mod_above 5 = .ok (.invokevirtual 134, 3) := by decide +kernel
theorem d_Mod_above_8 : decode b_Mod_above 8 = .ok (.ireturn, 1) := by decide +kernel
theorem d_Mod_before_0 : decode b_Mod_before 0 = .ok (.iload_n 1, 1) := by decide +kernel
theorem d_Mod_before_1 : decode b_Mod_before 1 = .ok (.ifCond .le 14, 3) := by decide +kernel
theorem d_Mod_before_4 : decode b_Mod_before 4 = .ok (.aload_n 0, 1) := by decide +kernel
theorem d_Mod_before_5 : decode b_Mod_before 5 = .ok (.iload_n 1, 1) := by decide +kernel
theorem d_Mod_before_6 : decode b_Mod_before 6 = .ok (.iconst 1, 1) := by decide +kernel
theorem d_Mod_before_7 : decode b_Mod_before 7 = .ok (.isub, 1) := by decide +kernel
theorem d_Mod_before_8 : decode b_Mod_before 8 = .ok (.iload_n 2, 1) := by decide +kernel
theorem d_Mod_before_9 : decode b_Mod_before 9 = .ok (.invokevirtual 134, 3) := by decide +kernel
theorem d_Mod_before_12 : decode b_Mod_before 12 = .ok (.goto 9, 3) := by decide +kernel
theorem d_Mod_before_15 : decode b_Mod_before 15 = .ok (.aload_n 0, 1) := by decide +kernel
theorem d_Mod_before_16 : decode b_Mod_before 16 = .ok (.iconst 0, 1) := by decide +kernel
theorem d_Mod_before_17 : decode b_Mod_before 17 = .ok (.iload_n 2, 1) := by decide +kernel
theorem d_Mod_before_18 : decode b_Mod_before 18 = .ok (.invokevirtual 137, 3) := by decide +kernel
theorem d_Mod_before_21 : decode b_Mod_before 21 = .ok (.ireturn, 1) := by decide +kernel
theorem d_Mod_beyond_0 : decode b_Mod_beyond 0 = .ok (.iload_n 1, 1) := by decide +kernel
theorem d_Mod_beyond_1 : decode b_Mod_beyond 1 = .ok (.aload_n 0, 1) := by decide +kernel
theorem d_Mod_beyond_2 : decode b_Mod_beyond 2 = .ok (.getfield 7, 3) := by decide +kernel
theorem d_Mod_beyond_5 : decode b_Mod_beyond 5 = .ok (.iconst 1, 1) := by decide +kernel
theorem d_Mod_beyond_6 : decode b_Mod_beyond 6 = .ok (.isub, 1) := by decide +kernel
theorem d_Mod_beyond_7 : decode b_Mod_beyond 7 = .ok (.if_icmp .ge 16, 3) := by decide +kernel
theorem d_Mod_beyond_10 : decode b_Mod_beyond 10 = .ok (.aload_n 0, 1) := by decide +kernel
theorem d_Mod_beyond_11 : decode b_Mod_beyond 11 = .ok (.iload_n 1, 1) := by decide +kernel
theorem d_Mod_beyond_12 : decode b_Mod_beyond 12 = .ok (.iconst 1, 1) := by decide +kernel
theorem d_Mod_beyond_13 : decode b_Mod_beyond 13 = .ok (.iadd, 1) := by decide +kernel
theorem d_Mod_beyond_14 : decode b_Mod_beyond 14 = .ok (.iload_n 2, 1) := by decide +kernel
theorem d_Mod_beyond_15 : decode b_Mod_beyond 15 = .ok (.iconst 1, 1) := by decide +kernel
theorem d_Mod_beyond_16 : decode b_Mod_beyond 16 = .ok (.isub, 1) := by decide +kernel
theorem d_Mod_beyond_17 : decode b_Mod_beyond 17 = .ok (.invokevirtual 134, 3) := by decide +kernel
theorem d_Mod_beyond_20 : decode b_Mod_beyond 20 = .ok (.goto 9, 3) := by decide +kernel
theorem d_Mod_beyond_23 : decode b_Mod_beyond 23 = .ok (.aload_n 0, 1) := by decide +kernel
theorem d_Mod_beyond_24 : decode b_Mod_beyond 24 = .ok (.iload_n 1, 1) := by decide +kernel
theorem d_Mod_beyond_25 : decode b_Mod_beyond 25 = .ok (.iload_n 2, 1) := by decide +kernel
theorem d_Mod_beyond_26 : decode b_Mod_beyond 26 = .ok (.invokevirtual 137, 3) := by decide +kernel
theorem d_Mod_beyond_29 : decode b_Mod_beyond 29 = .ok (.ireturn, 1) := by decide +kernel
theorem d_Mod_clamp_0 : decode b_Mod_clamp 0 = .ok (.iload_n 1, 1) := by decide +kernel
theorem d_Mod_clamp_1 : decode b_Mod_clamp 1 = .ok (.aload_n 0, 1) := by decide +kernel
theorem d_Mod_clamp_2 : decode b_Mod_clamp 2 = .ok (.getfield 16, 3) := by decide +kernel
theorem d_Mod_clamp_5 : decode b_Mod_clamp 5 = .ok (.if_icmp .gt 8, 3) := by decide +kernel
theorem d_Mod_clamp_8 : decode b_Mod_clamp 8 = .ok (.iload_n 1, 1) := by decide +kernel
theorem d_Mod_clamp_9 : decode b_Mod_clamp 9 = .ok (.iload_n 2, 1) := by decide +kernel
theorem d_Mod_clamp_10 : decode b_Mod_clamp 10 = .ok (.if_icmp .ge 7, 3) := by decide +kernel
theorem d_Mod_clamp_13 : decode b_Mod_clamp 13 = .ok (.iload_n 2, 1) := by decide +kernel
theorem d_Mod_clamp_14 : decode b_Mod_clamp 14 = .ok (.goto 4, 3) := by decide +kernel
theorem d_Mod_clamp_17 : decode b_Mod_clamp 17 = .ok (.iload_n 1, 1) := by decide +kernel
theorem d_Mod_clamp_18 : decode b_Mod_clamp 18 = .ok (.ireturn, 1) := by decide +kernel
theorem d_Mod_code_0 : decode b_Mod_code 0 = .ok (.aload_n 0, 1) := by decide +kernel
theorem d_Mod_code_1 : decode b_Mod_code 1 = .ok (.iconst 0, 1) := by decide +kernel
theorem d_Mod_code_2 : decode b_Mod_code 2 = .ok (.putfield 47, 3) := by decide +kernel
theorem d_Mod_code_5 : decode b_Mod_code 5 = .ok (.iload_n 1, 1) := by decide +kernel
theorem d_Mod_code_6 : decode b_Mod_code 6 = .ok (.ifCond .lt 20, 3) := by decide +kernel
theorem d_Mod_code_9 : decode b_Mod_code 9 = .ok (.iload_n 1, 1) := by decide +kernel
theorem d_Mod_code_10 : decode b_Mod_code 10 = .ok (.aload_n 0, 1) := by decide +kernel
theorem d_Mod_code_11 : decode b_Mod_code 11 = .ok (.getfield 91, 3) := by decide +kernel
theorem d_Mod_code_14 : decode b_Mod_code 14 = .ok (.if_icmp .ge 12, 3) := by decide +kernel
theorem d_Mod_code_17 : decode b_Mod_code 17 = .ok (.aload_n 0, 1) := by decide +kernel
theorem d_Mod_code_18 : decode b_Mod_code 18 = .ok (.getfield 29, 3) := by decide +kernel
theorem d_Mod_code_21 : decode b_Mod_code 21 = .ok (.iload_n 1, 1) := by decide +kernel
theorem d_Mod_code_22 : decode b_Mod_code 22 = .ok (.iaload, 1) := by decide +kernel
theorem d_Mod_code_23 : decode b_Mod_code 23 = .ok (.goto 4, 3) := by decide +kernel
theorem d_Mod_code_26 : decode b_Mod_code 26 = .ok (.iconst (-1), 1) := by decide +kernel
theorem d_Mod_code_27 : decode b_Mod_code 27 = .ok (.ireturn, 1) := by decide +kernel
theorem d_Mod_context_0 : decode b_Mod_context 0 = .ok (.aload_n 0, 1) := by decide +kernel
theorem d_Mod_context_1 : decode b_Mod_context 1 = .ok (.iconst 0, 1) := by decide +kernel
theorem d_Mod_context_2 : decode b_Mod_context 2 = .ok (.putfield 47, 3) := by decide +kernel
theorem d_Mod_context_5 : decode b_Mod_context 5 = .ok (.iload_n 1, 1) := by decide +kernel
theorem d_Mod_context_6 : decode b_Mod_context 6 = .ok (.ifCond .lt 32, 3) := by decide +kernel
theorem d_Mod_context_9 : decode b_Mod_context 9 = .ok (.iload_n 1, 1) := by decide +kernel
theorem d_Mod_context_10 : decode b_Mod_context 10 = .ok (.sipush 367, 3) := by decide +kernel
theorem d_Mod_context_13 : decode b_Mod_context 13 = .ok (.if_icmp .ge 25, 3) := by decide +kernel
theorem d_Mod_context_16 : decode b_Mod_context 16 = .ok (.iload_n 2, 1) := by decide +kernel
theorem d_Mod_context_17 : decode b_Mod_context 17 = .ok (.ifCond .lt 21, 3) := by decide +kernel
theorem d_Mod_context_20 : decode b_Mod_context 20 = .ok (.iload_n 2, 1) := by decide +kernel
theorem d_Mod_context_21 : decode b_Mod_context 21 = .ok (.iconst 5, 1) := by decide +kernel
theorem d_Mod_context_22 : decode b_Mod_context 22 = .ok (.if_icmp .ge 16, 3) := by decide +kernel
theorem d_Mod_context_25 : decode b_Mod_context 25 = .ok (.aload_n 0, 1) := by decide +kernel
theorem d_Mod_context_26 : decode b_Mod_context 26 = .ok (.getfield 26, 3) := by decide +kernel
theorem d_Mod_context_29 : decode b_Mod_context 29 = .ok (.iconst 5, 1) := by decide +kernel
theorem d_Mod_context_30 : decode b_Mod_context 30 = .ok (.iload_n 1, 1) := by decide +kernel
theorem d_Mod_context_31 : decode b_Mod_context 31 = .ok (.imul, 1) := by decide +kernel
theorem d_Mod_context_32 : decode b_Mod_context 32 = .ok (.iload_n 2, 1) := by decide +kernel
theorem d_Mod_context_33 : decode b_Mod_context 33 = .ok (.iadd, 1) := by decide +kernel
theorem d_Mod_context_34 : decode b_Mod_context 34 = .ok (.iaload, 1) := by decide +kernel
theorem d_Mod_context_35 : decode b_Mod_context 35 = .ok (.goto 5, 3) := by decide +kernel
theorem d_Mod_context_38 : decode b_Mod_context 38 = .ok (.ldc 227, 2) := by decide +kernel
theorem d_Mod_context_40 : decode b_Mod_context 40 = .ok (.ireturn, 1) := by decide +kernel
theorem d_Mod_corner_0 : decode b_Mod_corner 0 = .ok (.iload_n 1, 1) := by decide +kernel
theorem d_Mod_corner_1 : decode b_Mod_corner 1 = .ok (.ifCond .le 16, 3) := by decide +kernel
theorem d_Mod_corner_4 : decode b_Mod_corner 4 = .ok (.aload_n 0, 1) := by decide +kernel
theorem d_Mod_corner_5 : decode b_Mod_corner 5 = .ok (.iload_n 1, 1) := by decide +kernel
theorem d_Mod_corner_6 : decode b_Mod_corner 6 = .ok (.iconst 1, 1) := by decide +kernel
theorem d_Mod_corner_7 : decode b_Mod_corner 7 = .ok (.isub, 1) := by decide +kernel
theorem d_Mod_corner_8 : decode b_Mod_corner 8 = .ok (.iload_n 2, 1) := by decide +kernel
theorem d_Mod_corner_9 : decode b_Mod_corner 9 = .ok (.iconst 1, 1) := by decide +kernel
theorem d_Mod_corner_10 : decode b_Mod_corner 10 = .ok (.isub, 1) := by decide +kernel
theorem d_Mod_corner_11 : decode b_Mod_corner 11 = .ok (.invokevirtual 134, 3) := by decide +kernel
theorem d_Mod_corner_14 : decode b_Mod_corner 14 = .ok (.goto 19, 3) := by decide +kernel
theorem d_Mod_corner_17 : decode b_Mod_corner 17 = .ok (.iload_n 2, 1) := by decide +kernel
theorem d_Mod_corner_18 : decode b_Mod_corner 18 = .ok (.ifCond .le 14, 3) := by decide +kernel
theorem d_Mod_corner_21 : decode b_Mod_corner 21 = .ok (.aload_n 0, 1) := by decide +kernel
theorem d_Mod_corner_22 : decode b_Mod_corner 22 = .ok (.iconst 0, 1) := by decide +kernel
theorem d_Mod_corner_23 : decode b_Mod_corner 23 = .ok (.iload_n 2, 1) := by decide +kernel
theorem d_Mod_corner_24 : decode b_Mod_corner 24 = .ok (.iconst 1, 1) := by decide +kernel
theorem d_Mod_corner_25 : decode b_Mod_corner 25 = .ok (.isub, 1) := by decide +kernel
theorem d_Mod_corner_26 : decode b_Mod_corner 26 = .ok (.invokevirtual 140, 3) := by decide +kernel
theorem d_Mod_corner_29 : decode b_Mod_corner 29 = .ok (.goto 4, 3) := by decide +kernel
theorem d_Mod_corner_32 : decode b_Mod_corner 32 = .ok (.iconst 0, 1) := by decide +kernel
theorem d_Mod_corner_33 : decode b_Mod_corner 33 = .ok (.ireturn, 1) := by decide +kernel
theorem d_Mod_cut_0 : decode b_Mod_cut 0 = .ok (.aload_n 0, 1) := by decide +kernel
theorem d_Mod_cut_1 : decode b_Mod_cut 1 = .ok (.iconst 0, 1) := by decide +kernel
theorem d_Mod_cut_2 : decode b_Mod_cut 2 = .ok (.putfield 47, 3) := by decide +kernel
theorem d_Mod_cut_5 : decode b_Mod_cut 5 = .ok (.iload_n 1, 1) := by decide +kernel
theorem d_Mod_cut_6 : decode b_Mod_cut 6 = .ok (.ifCond .lt 11, 3) := by decide +kernel
theorem d_Mod_cut_9 : decode b_Mod_cut 9 = .ok (.iload_n 1, 1) := by decide +kernel
theorem d_Mod_cut_10 : decode b_Mod_cut 10 = .ok (.aload_n 0, 1) := by decide +kernel
theorem d_Mod_cut_11 : decode b_Mod_cut 11 = .ok (.getfield 91, 3) := by decide +kernel
theorem d_Mod_cut_14 : decode b_Mod_cut 14 = .ok (.if_icmp .le 5, 3) := by decide +kernel
theorem d_Mod_cut_17 : decode b_Mod_cut 17 = .ok (.iconst 0, 1) := by decide +kernel
theorem d_Mod_cut_18 : decode b_Mod_cut 18 = .ok (.ireturn, 1) := by decide +kernel
theorem d_Mod_cut_19 : decode b_Mod_cut 19 = .ok (.aload_n 0, 1) := by decide +kernel
theorem d_Mod_cut_20 : decode b_Mod_cut 20 = .ok (.iload_n 1, 1) := by decide +kernel
theorem d_Mod_cut_21 : decode b_Mod_cut 21 = .ok (.putfield 91, 3) := by decide +kernel
theorem d_Mod_cut_24 : decode b_Mod_cut 24 = .ok (.iconst 1, 1) := by decide +kernel
theorem d_Mod_cut_25 : decode b_Mod_cut 25 = .ok (.ireturn, 1) := by decide +kernel
theorem d_Mod_decode_0 : decode b_Mod_decode 0 = .ok (.aload_n 0, 1) := by decide +kernel
theorem d_Mod_decode_1 : decode b_Mod_decode 1 = .ok (.iconst 0, 1) := by decide +kernel
theorem d_Mod_decode_2 : decode b_Mod_decode 2 = .ok (.putfield 47, 3) := by decide +kernel
theorem d_Mod_decode_5 : decode b_Mod_decode 5 = .ok (.aload_n 0, 1) := by decide +kernel
theorem d_Mod_decode_6 : decode b_Mod_decode 6 = .ok (.getfield 91, 3) := by decide +kernel
theorem d_Mod_decode_9 : decode b_Mod_decode 9 = .ok (.bipush 8, 2) := by decide +kernel
theorem d_Mod_decode_11 : decode b_Mod_decode 11 = .ok (.if_icmp .lt 61, 3) := by decide +kernel
theorem d_Mod_decode_14 : decode b_Mod_decode 14 = .ok (.aload_n 0, 1) := by decide +kernel
theorem d_Mod_decode_15 : decode b_Mod_decode 15 = .ok (.getfield 29, 3) := by decide +kernel
theorem d_Mod_decode_18 : decode b_Mod_decode 18 = .ok (.iconst 0, 1) := by decide +kernel
theorem d_Mod_decode_19 : decode b_Mod_decode 19 = .ok (.iaload, 1) := by decide +kernel
theorem d_Mod_decode_20 : decode b_Mod_decode 20 = .ok (.sipush 255, 3) := by decide +kernel
theorem d_Mod_decode_23 : decode b_Mod_decode 23 = .ok (.if_icmp .ne 49, 3) := by decide +kernel
theorem d_Mod_decode_26 : decode b_Mod_decode 26 = .ok (.aload_n 0, 1) := by decide +kernel
theorem d_Mod_decode_27 : decode b_Mod_decode 27 = .ok (.getfield 29, 3) := by decide +kernel
theorem d_Mod_decode_30 : decode b_Mod_decode 30 = .ok (.iconst 1, 1) := by decide +kernel
theorem d_Mod_decode_31 : decode b_Mod_decode 31 = .ok (.iaload, 1) := by decide +kernel
theorem d_Mod_decode_32 : decode b_Mod_decode 32 = .ok (.sipush 216, 3) := by decide +kernel
theorem d_Mod_decode_35 : decode b_Mod_decode 35 = .ok (.if_icmp .ne 37, 3) := by decide +kernel
theorem d_Mod_decode_38 : decode b_Mod_decode 38 = .ok (.aload_n 0, 1) := by decide +kernel
theorem d_Mod_decode_39 : decode b_Mod_decode 39 = .ok (.getfield 29, 3) := by decide +kernel
theorem d_Mod_decode_42 : decode b_Mod_decode 42 = .ok (.iconst 2, 1) := by decide +kernel
theorem d_Mod_decode_43 : decode b_Mod_decode 43 = .ok (.iaload, 1) := by decide +kernel
theorem d_Mod_decode_44 : decode b_Mod_decode 44 = .ok (.aload_n 0, 1) := by decide +kernel
theorem d_Mod_decode_45 : decode b_Mod_decode 45 = .ok (.getfield 29, 3) := by decide +kernel
theorem d_Mod_decode_48 : decode b_Mod_decode 48 = .ok (.iconst 3, 1) := by decide +kernel
theorem d_Mod_decode_49 : decode b_Mod_decode 49 = .ok (.iaload, 1) := by decide +kernel
theorem d_Mod_decode_50 : decode b_Mod_decode 50 = .ok (.aload_n 0, 1) := by decide +kernel
theorem d_Mod_decode_51 : decode b_Mod_decode 51 = .ok (.getfield 29, 3) := by decide +kernel
theorem d_Mod_decode_54 : decode b_Mod_decode 54 = .ok (.iconst 4, 1) := by decide +kernel
theorem d_Mod_decode_55 : decode b_Mod_decode 55 = .ok (.iaload, 1) := by decide +kernel
theorem d_Mod_decode_56 : decode b_Mod_decode 56 = .ok (.aload_n 0, 1) := by decide +kernel
theorem d_Mod_decode_57 : decode b_Mod_decode 57 = .ok (.getfield 29, 3) := by decide +kernel
theorem d_Mod_decode_60 : decode b_Mod_decode 60 = .ok (.iconst 5, 1) := by decide +kernel
theorem d_Mod_decode_61 : decode b_Mod_decode 61 = .ok (.iaload, 1) := by decide +kernel
theorem d_Mod_decode_62 : decode b_Mod_decode 62 = .ok (.invokestatic 87, 3) := by decide +kernel
theorem d_Mod_decode_65 : decode b_Mod_decode 65 = .ok (.ifCond .eq 7, 3) := by decide +kernel
theorem d_Mod_decode_68 : decode b_Mod_decode 68 = .ok (.iconst 1, 1) := by decide +kernel
theorem d_Mod_decode_69 : decode b_Mod_decode 69 = .ok (.goto 4, 3) := by decide +kernel
theorem d_Mod_decode_72 : decode b_Mod_decode 72 = .ok (.iconst 0, 1) := by decide +kernel
theorem d_Mod_decode_73 : decode b_Mod_decode 73 = .ok (.istore_n 1, 1) := by decide +kernel
theorem d_Mod_decode_74 : decode b_Mod_decode 74 = .ok (.iload_n 1, 1) := by decide +kernel
theorem d_Mod_decode_75 : decode b_Mod_decode 75 = .ok (.ifCond .ne 10, 3) := by decide +kernel
theorem d_Mod_decode_78 : decode b_Mod_decode 78 = .ok (.aload_n 0, 1) := by decide +kernel
theorem d_Mod_decode_79 : decode b_Mod_decode 79 = .ok (.iconst 1, 1) := by decide +kernel
theorem d_Mod_decode_80 : decode b_Mod_decode 80 = .ok (.putfield 47, 3) := by decide +kernel
theorem d_Mod_decode_83 : decode b_Mod_decode 83 = .ok (.iconst 0, 1) := by decide +kernel
theorem d_Mod_decode_84 : decode b_Mod_decode 84 = .ok (.ireturn, 1) := by decide +kernel
theorem d_Mod_decode_85 : decode b_Mod_decode 85 = .ok (.aload_n 0, 1) := by decide +kernel
theorem d_Mod_decode_86 : decode b_Mod_decode 86 = .ok (.invokevirtual 213, 3) := by decide +kernel
theorem d_Mod_decode_89 : decode b_Mod_decode 89 = .ok (.aload_n 0, 1) := by decide +kernel
theorem d_Mod_decode_90 : decode b_Mod_decode 90 = .ok (.getfield 7, 3) := by decide +kernel
theorem d_Mod_decode_93 : decode b_Mod_decode 93 = .ok (.istore_n 2, 1) := by decide +kernel
theorem d_Mod_decode_94 : decode b_Mod_decode 94 = .ok (.aload_n 0, 1) := by decide +kernel
theorem d_Mod_decode_95 : decode b_Mod_decode 95 = .ok (.getfield 13, 3) := by decide +kernel
theorem d_Mod_decode_98 : decode b_Mod_decode 98 = .ok (.istore_n 3, 1) := by decide +kernel
theorem d_Mod_decode_99 : decode b_Mod_decode 99 = .ok (.aload_n 0, 1) := by decide +kernel
theorem d_Mod_decode_100 : decode b_Mod_decode 100 = .ok (.getfield 16, 3) := by decide +kernel
theorem d_Mod_decode_103 : decode b_Mod_decode 103 = .ok (.istore 4, 2) := by decide +kernel
theorem d_Mod_decode_105 : decode b_Mod_decode 105 = .ok (.aload_n 0, 1) := by decide +kernel
theorem d_Mod_decode_106 : decode b_Mod_decode 106 = .ok (.getfield 50, 3) := by decide +kernel
theorem d_Mod_decode_109 : decode b_Mod_decode 109 = .ok (.istore 5, 2) := by decide +kernel
theorem d_Mod_decode_111 : decode b_Mod_decode 111 = .ok (.aload_n 0, 1) := by decide +kernel
theorem d_Mod_decode_112 : decode b_Mod_decode 112 = .ok (.getfield 84, 3) := by decide +kernel
theorem d_Mod_decode_115 : decode b_Mod_decode 115 = .ok (.istore 6, 2) := by decide +kernel
theorem d_Mod_decode_117 : decode b_Mod_decode 117 = .ok (.aload_n 0, 1) := by decide +kernel
theorem d_Mod_decode_118 : decode b_Mod_decode 118 = .ok (.aload_n 0, 1) := by decide +kernel
theorem d_Mod_decode_119 : decode b_Mod_decode 119 = .ok (.getfield 29, 3) := by decide +kernel
theorem d_Mod_decode_122 : decode b_Mod_decode 122 = .ok (.iconst 2, 1) := by decide +kernel
theorem d_Mod_decode_123 : decode b_Mod_decode 123 = .ok (.iaload, 1) := by decide +kernel
theorem d_Mod_decode_124 : decode b_Mod_decode 124 = .ok (.putfield 7, 3) := by decide +kernel
theorem d_Mod_decode_127 : decode b_Mod_decode 127 = .ok (.aload_n 0, 1) := by decide +kernel
theorem d_Mod_decode_128 : decode b_Mod_decode 128 = .ok (.aload_n 0, 1) := by decide +kernel
theorem d_Mod_decode_129 : decode b_Mod_decode 129 = .ok (.getfield 29, 3) := by decide +kernel
theorem d_Mod_decode_132 : decode b_Mod_decode 132 = .ok (.iconst 3, 1) := by decide +kernel
theorem d_Mod_decode_133 : decode b_Mod_decode 133 = .ok (.iaload, 1) := by decide +kernel
theorem d_Mod_decode_134 : decode b_Mod_decode 134 = .ok (.putfield 13, 3) := by decide +kernel
theorem d_Mod_decode_137 : decode b_Mod_decode 137 = .ok (.aload_n 0, 1) := by decide +kernel
theorem d_Mod_decode_138 : decode b_Mod_decode 138 = .ok (.aload_n 0, 1) := by decide +kernel
theorem d_Mod_decode_139 : decode b_Mod_decode 139 = .ok (.getfield 29, 3) := by decide +kernel
theorem d_Mod_decode_142 : decode b_Mod_decode 142 = .ok (.iconst 4, 1) := by decide +kernel
theorem d_Mod_decode_143 : decode b_Mod_decode 143 = .ok (.iaload, 1) := by decide +kernel
theorem d_Mod_decode_144 : decode b_Mod_decode 144 = .ok (.putfield 16, 3) := by decide +kernel
theorem d_Mod_decode_147 : decode b_Mod_decode 147 = .ok (.aload_n 0, 1) := by decide +kernel
theorem d_Mod_decode_148 : decode b_Mod_decode 148 = .ok (.aload_n 0, 1) := by decide +kernel
theorem d_Mod_decode_149 : decode b_Mod_decode 149 = .ok (.getfield 29, 3) := by decide +kernel
theorem d_Mod_decode_152 : decode b_Mod_decode 152 = .ok (.iconst 5, 1) := by decide +kernel
theorem d_Mod_decode_153 : decode b_Mod_decode 153 = .ok (.iaload, 1) := by decide +kernel
theorem d_Mod_decode_154 : decode b_Mod_decode 154 = .ok (.putfield 50, 3) := by decide +kernel
theorem d_Mod_decode_157 : decode b_Mod_decode 157 = .ok (.aload_n 0, 1) := by decide +kernel
theorem d_Mod_decode_158 : decode b_Mod_decode 158 = .ok (.invokevirtual 41, 3) := by decide +kernel
theorem d_Mod_decode_161 : decode b_Mod_decode 161 = .ok (.aload_n 0, 1) := by decide +kernel
theorem d_Mod_decode_162 : decode b_Mod_decode 162 = .ok (.invokevirtual 44, 3) := by decide +kernel
theorem d_Mod_decode_165 : decode b_Mod_decode 165 = .ok (.iconst 0, 1) := by decide +kernel
theorem d_Mod_decode_166 : decode b_Mod_decode 166 = .ok (.istore 7, 2) := by decide +kernel
theorem d_Mod_decode_168 : decode b_Mod_decode 168 = .ok (.iload 7, 2) := by decide +kernel
theorem d_Mod_decode_170 : decode b_Mod_decode 170 = .ok (.bipush 64, 2) := by decide +kernel
theorem d_Mod_decode_172 : decode b_Mod_decode 172 = .ok (.if_icmp .ge 17, 3) := by decide +kernel
theorem d_Mod_decode_175 : decode b_Mod_decode 175 = .ok (.aload_n 0, 1) := by decide +kernel
theorem d_Mod_decode_176 : decode b_Mod_decode 176 = .ok (.getfield 19, 3) := by decide +kernel
theorem d_Mod_decode_179 : decode b_Mod_decode 179 = .ok (.iload 7, 2) := by decide +kernel
theorem d_Mod_decode_181 : decode b_Mod_decode 181 = .ok (.iconst 0, 1) := by decide +kernel
theorem d_Mod_decode_182 : decode b_Mod_decode 182 = .ok (.iastore, 1) := by decide +kernel
theorem d_Mod_decode_183 : decode b_Mod_decode 183 = .ok (.iinc 7 1, 3) := by decide +kernel
theorem d_Mod_decode_186 : decode b_Mod_decode 186 = .ok (.goto (-18), 3) := by decide +kernel
theorem d_Mod_decode_189 : decode b_Mod_decode 189 = .ok (.aload_n 0, 1) := by decide +kernel
theorem d_Mod_decode_190 : decode b_Mod_decode 190 = .ok (.iconst 1, 1) := by decide +kernel
theorem d_Mod_decode_191 : decode b_Mod_decode 191 = .ok (.putfield 167, 3) := by decide +kernel
theorem d_Mod_decode_194 : decode b_Mod_decode 194 = .ok (.aload_n 0, 1) := by decide +kernel
theorem d_Mod_decode_195 : decode b_Mod_decode 195 = .ok (.iconst 1, 1) := by decide +kernel
theorem d_Mod_decode_196 : decode b_Mod_decode 196 = .ok (.putfield 118, 3) := by decide +kernel
theorem d_Mod_decode_199 : decode b_Mod_decode 199 = .ok (.aload_n 0, 1) := by decide +kernel
theorem d_Mod_decode_200 : decode b_Mod_decode 200 = .ok (.bipush 6, 2) := by decide +kernel
theorem d_Mod_decode_202 : decode b_Mod_decode 202 = .ok (.putfield 115, 3) := by decide +kernel
theorem d_Mod_decode_205 : decode b_Mod_decode 205 = .ok (.aload_n 0, 1) := by decide +kernel
theorem d_Mod_decode_206 : decode b_Mod_decode 206 = .ok (.iconst 0, 1) := by decide +kernel
theorem d_Mod_decode_207 : decode b_Mod_decode 207 = .ok (.putfield 112, 3) := by decide +kernel
theorem d_Mod_decode_210 : decode b_Mod_decode 210 = .ok (.aload_n 0, 1) := by decide +kernel
theorem d_Mod_decode_211 : decode b_Mod_decode 211 = .ok (.iconst 0, 1) := by decide +kernel
theorem d_Mod_decode_212 : decode b_Mod_decode 212 = .ok (.putfield 109, 3) := by decide +kernel
theorem d_Mod_decode_215 : decode b_Mod_decode 215 = .ok (.aload_n 0, 1) := by decide +kernel
theorem d_Mod_decode_216 : decode b_Mod_decode 216 = .ok (.invokevirtual 210, 3) := by decide +kernel
theorem d_Mod_decode_219 : decode b_Mod_decode 219 = .ok (.aload_n 0, 1) := by decide +kernel
theorem d_Mod_decode_220 : decode b_Mod_decode 220 = .ok (.getfield 118, 3) := by decide +kernel
theorem d_Mod_decode_223 : decode b_Mod_decode 223 = .ok (.ifCond .eq 10, 3) := by decide +kernel
theorem d_Mod_decode_226 : decode b_Mod_decode 226 = .ok (.aload_n 0, 1) := by decide +kernel
theorem d_Mod_decode_227 : decode b_Mod_decode 227 = .ok (.invokevirtual 216, 3) := by decide +kernel
theorem d_Mod_decode_230 : decode b_Mod_decode 230 = .ok (.ifCond .ne 22, 3) := by decide +kernel
theorem d_Mod_decode_233 : decode b_Mod_decode 233 = .ok (.aload_n 0, 1) := by decide +kernel
theorem d_Mod_decode_234 : decode b_Mod_decode 234 = .ok (.iload_n 2, 1) := by decide +kernel
theorem d_Mod_decode_235 : decode b_Mod_decode 235 = .ok (.iload_n 3, 1) := by decide +kernel
theorem d_Mod_decode_236 : decode b_Mod_decode 236 = .ok (.iload 4, 2) := by decide +kernel
theorem d_Mod_decode_238 : decode b_Mod_decode 238 = .ok (.iload 5, 2) := by decide +kernel
theorem d_Mod_decode_240 : decode b_Mod_decode 240 = .ok (.iload 6, 2) := by decide +kernel
theorem d_Mod_decode_242 : decode b_Mod_decode 242 = .ok (.invokevirtual 220, 3) := by decide +kernel
theorem d_Mod_decode_245 : decode b_Mod_decode 245 = .ok (.aload_n 0, 1) := by decide +kernel
theorem d_Mod_decode_246 : decode b_Mod_decode 246 = .ok (.iconst 1, 1) := by decide +kernel
theorem d_Mod_decode_247 : decode b_Mod_decode 247 = .ok (.putfield 47, 3) := by decide +kernel
theorem d_Mod_decode_250 : decode b_Mod_decode 250 = .ok (.iconst 0, 1) := by decide +kernel
theorem d_Mod_decode_251 : decode b_Mod_decode 251 = .ok (.ireturn, 1) := by decide +kernel
theorem d_Mod_decode_252 : decode b_Mod_decode 252 = .ok (.aload_n 0, 1) := by decide +kernel
theorem d_Mod_decode_253 : decode b_Mod_decode 253 = .ok (.getfield 7, 3) := by decide +kernel
theorem d_Mod_decode_256 : decode b_Mod_decode 256 = .ok (.aload_n 0, 1) := by decide +kernel
theorem d_Mod_decode_257 : decode b_Mod_decode 257 = .ok (.getfield 13, 3) := by decide +kernel
theorem d_Mod_decode_260 : decode b_Mod_decode 260 = .ok (.imul, 1) := by decide +kernel
theorem d_Mod_decode_261 : decode b_Mod_decode 261 = .ok (.ireturn, 1) := by decide +kernel
theorem d_Mod_divided_0 : decode b_Mod_divided 0 = .ok (.iload_n 1, 1) := by decide +kernel
theorem d_Mod_divided_1 : decode b_Mod_divided 1 = .ok (.ifCond .le 17, 3) := by decide +kernel
theorem d_Mod_divided_4 : decode b_Mod_divided 4 = .ok (.iload_n 1, 1) := by decide +kernel
theorem d_Mod_divided_5 : decode b_Mod_divided 5 = .ok (.aload_n 0, 1) := by decide +kernel
theorem d_Mod_divided_6 : decode b_Mod_divided 6 = .ok (.getfield 50, 3) := by decide +kernel
theorem d_Mod_divided_9 : decode b_Mod_divided 9 = .ok (.iadd, 1) := by decide +kernel
theorem d_Mod_divided_10 : decode b_Mod_divided 10 = .ok (.aload_n 0, 1) := by decide +kernel
theorem d_Mod_divided_11 : decode b_Mod_divided 11 = .ok (.getfield 53, 3) := by decide +kernel
theorem d_Mod_divided_14 : decode b_Mod_divided 14 = .ok (.idiv, 1) := by decide +kernel
theorem d_Mod_divided_15 : decode b_Mod_divided 15 = .ok (.goto 15, 3) := by decide +kernel
theorem d_Mod_divided_18 : decode b_Mod_divided 18 = .ok (.aload_n 0, 1) := by decide +kernel
theorem d_Mod_divided_19 : decode b_Mod_divided 19 = .ok (.getfield 50, 3) := by decide +kernel
theorem d_Mod_divided_22 : decode b_Mod_divided 22 = .ok (.iload_n 1, 1) := by decide +kernel
theorem d_Mod_divided_23 : decode b_Mod_divided 23 = .ok (.isub, 1) := by decide +kernel
theorem d_Mod_divided_24 : decode b_Mod_divided 24 = .ok (.aload_n 0, 1) := by decide +kernel
theorem d_Mod_divided_25 : decode b_Mod_divided 25 = .ok (.getfield 53, 3) := by decide +kernel
theorem d_Mod_divided_28 : decode b_Mod_divided 28 = .ok (.idiv, 1) := by decide +kernel
theorem d_Mod_divided_29 : decode b_Mod_divided 29 = .ok (.ineg, 1) := by decide +kernel
theorem d_Mod_divided_30 : decode b_Mod_divided 30 = .ok (.ireturn, 1) := by decide +kernel
end
section
theorem d_Mod_encode_0 : decode b_Mod_encode 0 = .ok (.aload_n 0, 1) := by decide +kernel
theorem d_Mod_encode_1 : decode b_Mod_encode 1 = .ok (.iconst 0, 1) := by decide +kernel
theorem d_Mod_encode_2 : decode b_Mod_encode 2 = .ok (.putfield 47, 3) := by decide +kernel
theorem d_Mod_encode_5 : decode b_Mod_encode 5 = .ok (.aload_n 0, 1) := by decide +kernel
theorem d_Mod_encode_6 : decode b_Mod_encode 6 = .ok (.invokevirtual 44, 3) := by decide +kernel
theorem d_Mod_encode_9 : decode b_Mod_encode 9 = .ok (.aload_n 0, 1) := by decide +kernel
theorem d_Mod_encode_10 : decode b_Mod_encode 10 = .ok (.iconst 0, 1) := by decide +kernel
theorem d_Mod_encode_11 : decode b_Mod_encode 11 = .ok (.putfield 91, 3) := by decide +kernel
theorem d_Mod_encode_14 : decode b_Mod_encode 14 = .ok (.aload_n 0, 1) := by decide +kernel
theorem d_Mod_encode_15 : decode b_Mod_encode 15 = .ok (.sipush 255, 3) := by decide +kernel
theorem d_Mod_encode_18 : decode b_Mod_encode 18 = .ok (.invokevirtual 102, 3) := by decide +kernel
theorem d_Mod_encode_21 : decode b_Mod_encode 21 = .ok (.aload_n 0, 1) := by decide +kernel
theorem d_Mod_encode_22 : decode b_Mod_encode 22 = .ok (.sipush 216, 3) := by decide +kernel
theorem d_Mod_encode_25 : decode b_Mod_encode 25 = .ok (.invokevirtual 102, 3) := by decide +kernel
theorem d_Mod_encode_28 : decode b_Mod_encode 28 = .ok (.aload_n 0, 1) := by decide +kernel
theorem d_Mod_encode_29 : decode b_Mod_encode 29 = .ok (.aload_n 0, 1) := by decide +kernel
theorem d_Mod_encode_30 : decode b_Mod_encode 30 = .ok (.getfield 7, 3) := by decide +kernel
theorem d_Mod_encode_33 : decode b_Mod_encode 33 = .ok (.invokevirtual 102, 3) := by decide +kernel
theorem d_Mod_encode_36 : decode b_Mod_encode 36 = .ok (.aload_n 0, 1) := by decide +kernel
theorem d_Mod_encode_37 : decode b_Mod_encode 37 = .ok (.aload_n 0, 1) := by decide +kernel
theorem d_Mod_encode_38 : decode b_Mod_encode 38 = .ok (.getfield 13, 3) := by decide +kernel
theorem d_Mod_encode_41 : decode b_Mod_encode 41 = .ok (.invokevirtual 102, 3) := by decide +kernel
theorem d_Mod_encode_44 : decode b_Mod_encode 44 = .ok (.aload_n 0, 1) := by decide +kernel
theorem d_Mod_encode_45 : decode b_Mod_encode 45 = .ok (.aload_n 0, 1) := by decide +kernel
theorem d_Mod_encode_46 : decode b_Mod_encode 46 = .ok (.getfield 16, 3) := by decide +kernel
theorem d_Mod_encode_49 : decode b_Mod_encode 49 = .ok (.invokevirtual 102, 3) := by decide +kernel
theorem d_Mod_encode_52 : decode b_Mod_encode 52 = .ok (.aload_n 0, 1) := by decide +kernel
theorem d_Mod_encode_53 : decode b_Mod_encode 53 = .ok (.aload_n 0, 1) := by decide +kernel
theorem d_Mod_encode_54 : decode b_Mod_encode 54 = .ok (.getfield 50, 3) := by decide +kernel
theorem d_Mod_encode_57 : decode b_Mod_encode 57 = .ok (.invokevirtual 102, 3) := by decide +kernel
theorem d_Mod_encode_60 : decode b_Mod_encode 60 = .ok (.aload_n 0, 1) := by decide +kernel
theorem d_Mod_encode_61 : decode b_Mod_encode 61 = .ok (.iconst 0, 1) := by decide +kernel
theorem d_Mod_encode_62 : decode b_Mod_encode 62 = .ok (.putfield 96, 3) := by decide +kernel
theorem d_Mod_encode_65 : decode b_Mod_encode 65 = .ok (.aload_n 0, 1) := by decide +kernel
theorem d_Mod_encode_66 : decode b_Mod_encode 66 = .ok (.iconst 0, 1) := by decide +kernel
theorem d_Mod_encode_67 : decode b_Mod_encode 67 = .ok (.putfield 99, 3) := by decide +kernel
theorem d_Mod_encode_70 : decode b_Mod_encode 70 = .ok (.aload_n 0, 1) := by decide +kernel
theorem d_Mod_encode_71 : decode b_Mod_encode 71 = .ok (.iconst 0, 1) := by decide +kernel
theorem d_Mod_encode_72 : decode b_Mod_encode 72 = .ok (.putfield 167, 3) := by decide +kernel
theorem d_Mod_encode_75 : decode b_Mod_encode 75 = .ok (.aload_n 0, 1) := by decide +kernel
theorem d_Mod_encode_76 : decode b_Mod_encode 76 = .ok (.iconst 1, 1) := by decide +kernel
theorem d_Mod_encode_77 : decode b_Mod_encode 77 = .ok (.putfield 118, 3) := by decide +kernel
theorem d_Mod_encode_80 : decode b_Mod_encode 80 = .ok (.aload_n 0, 1) := by decide +kernel
theorem d_Mod_encode_81 : decode b_Mod_encode 81 = .ok (.invokevirtual 210, 3) := by decide +kernel
theorem d_Mod_encode_84 : decode b_Mod_encode 84 = .ok (.aload_n 0, 1) := by decide +kernel
theorem d_Mod_encode_85 : decode b_Mod_encode 85 = .ok (.getfield 99, 3) := by decide +kernel
theorem d_Mod_encode_88 : decode b_Mod_encode 88 = .ok (.ifCond .le 15, 3) := by decide +kernel
theorem d_Mod_encode_91 : decode b_Mod_encode 91 = .ok (.aload_n 0, 1) := by decide +kernel
theorem d_Mod_encode_92 : decode b_Mod_encode 92 = .ok (.iconst 0, 1) := by decide +kernel
theorem d_Mod_encode_93 : decode b_Mod_encode 93 = .ok (.bipush 8, 2) := by decide +kernel
theorem d_Mod_encode_95 : decode b_Mod_encode 95 = .ok (.aload_n 0, 1) := by decide +kernel
theorem d_Mod_encode_96 : decode b_Mod_encode 96 = .ok (.getfield 99, 3) := by decide +kernel
theorem d_Mod_encode_99 : decode b_Mod_encode 99 = .ok (.isub, 1) := by decide +kernel
theorem d_Mod_encode_100 : decode b_Mod_encode 100 = .ok (.invokevirtual 126, 3) := by decide +kernel
theorem d_Mod_encode_103 : decode b_Mod_encode 103 = .ok (.aload_n 0, 1) := by decide +kernel
theorem d_Mod_encode_104 : decode b_Mod_encode 104 = .ok (.sipush 255, 3) := by decide +kernel
theorem d_Mod_encode_107 : decode b_Mod_encode 107 = .ok (.invokevirtual 102, 3) := by decide +kernel
theorem d_Mod_encode_110 : decode b_Mod_encode 110 = .ok (.aload_n 0, 1) := by decide +kernel
theorem d_Mod_encode_111 : decode b_Mod_encode 111 = .ok (.sipush 217, 3) := by decide +kernel
theorem d_Mod_encode_114 : decode b_Mod_encode 114 = .ok (.invokevirtual 102, 3) := by decide +kernel
theorem d_Mod_encode_117 : decode b_Mod_encode 117 = .ok (.aload_n 0, 1) := by decide +kernel
theorem d_Mod_encode_118 : decode b_Mod_encode 118 = .ok (.getfield 91, 3) := by decide +kernel
theorem d_Mod_encode_121 : decode b_Mod_encode 121 = .ok (.ireturn, 1) := by decide +kernel
theorem d_Mod_endRun_0 : decode b_Mod_endRun 0 = .ok (.aload_n 0, 1) := by decide +kernel
theorem d_Mod_endRun_1 : decode b_Mod_endRun 1 = .ok (.iload_n 1, 1) := by decide +kernel
theorem d_Mod_endRun_2 : decode b_Mod_endRun 2 = .ok (.iload_n 2, 1) := by decide +kernel
theorem d_Mod_endRun_3 : decode b_Mod_endRun 3 = .ok (.invokevirtual 140, 3) := by decide +kernel
theorem d_Mod_endRun_6 : decode b_Mod_endRun 6 = .ok (.istore 4, 2) := by decide +kernel
theorem d_Mod_endRun_8 : decode b_Mod_endRun 8 = .ok (.aload_n 0, 1) := by decide +kernel
theorem d_Mod_endRun_9 : decode b_Mod_endRun 9 = .ok (.iload_n 1, 1) := by decide +kernel
theorem d_Mod_endRun_10 : decode b_Mod_endRun 10 = .ok (.iload_n 2, 1) := by decide +kernel
theorem d_Mod_endRun_11 : decode b_Mod_endRun 11 = .ok (.invokevirtual 137, 3) := by decide +kernel
theorem d_Mod_endRun_14 : decode b_Mod_endRun 14 = .ok (.istore 5, 2) := by decide +kernel
theorem d_Mod_endRun_16 : decode b_Mod_endRun 16 = .ok (.aload_n 0, 1) := by decide +kernel
theorem d_Mod_endRun_17 : decode b_Mod_endRun 17 = .ok (.iload 4, 2) := by decide +kernel
theorem d_Mod_endRun_19 : decode b_Mod_endRun 19 = .ok (.iload 5, 2) := by decide +kernel
theorem d_Mod_endRun_21 : decode b_Mod_endRun 21 = .ok (.isub, 1) := by decide +kernel
theorem d_Mod_endRun_22 : decode b_Mod_endRun 22 = .ok (.invokevirtual 191, 3) := by decide +kernel
theorem d_Mod_endRun_25 : decode b_Mod_endRun 25 = .ok (.ifCond .eq 7, 3) := by decide +kernel
theorem d_Mod_endRun_28 : decode b_Mod_endRun 28 = .ok (.iconst 1, 1) := by decide +kernel
theorem d_Mod_endRun_29 : decode b_Mod_endRun 29 = .ok (.goto 4, 3) := by decide +kernel
theorem d_Mod_endRun_32 : decode b_Mod_endRun 32 = .ok (.iconst 0, 1) := by decide +kernel
theorem d_Mod_endRun_33 : decode b_Mod_endRun 33 = .ok (.istore 6, 2) := by decide +kernel
theorem d_Mod_endRun_35 : decode b_Mod_endRun 35 = .ok (.iload 6, 2) := by decide +kernel
theorem d_Mod_endRun_37 : decode b_Mod_endRun 37 = .ok (.iconst 1, 1) := by decide +kernel
theorem d_Mod_endRun_38 : decode b_Mod_endRun 38 = .ok (.if_icmp .ne 8, 3) := by decide +kernel
theorem d_Mod_endRun_41 : decode b_Mod_endRun 41 = .ok (.iload 4, 2) := by decide +kernel
theorem d_Mod_endRun_43 : decode b_Mod_endRun 43 = .ok (.goto 5, 3) := by decide +kernel
theorem d_Mod_endRun_46 : decode b_Mod_endRun 46 = .ok (.iload 5, 2) := by decide +kernel
theorem d_Mod_endRun_48 : decode b_Mod_endRun 48 = .ok (.istore 7, 2) := by decide +kernel
theorem d_Mod_endRun_50 : decode b_Mod_endRun 50 = .ok (.iload 6, 2) := by decide +kernel
theorem d_Mod_endRun_52 : decode b_Mod_endRun 52 = .ok (.ifCond .ne 14, 3) := by decide +kernel
theorem d_Mod_endRun_55 : decode b_Mod_endRun 55 = .ok (.iload 4, 2) := by decide +kernel
theorem d_Mod_endRun_57 : decode b_Mod_endRun 57 = .ok (.iload 5, 2) := by decide +kernel
theorem d_Mod_endRun_59 : decode b_Mod_endRun 59 = .ok (.if_icmp .le 7, 3) := by decide +kernel
theorem d_Mod_endRun_62 : decode b_Mod_endRun 62 = .ok (.iconst (-1), 1) := by decide +kernel
theorem d_Mod_endRun_63 : decode b_Mod_endRun 63 = .ok (.goto 4, 3) := by decide +kernel
theorem d_Mod_endRun_66 : decode b_Mod_endRun 66 = .ok (.iconst 1, 1) := by decide +kernel
theorem d_Mod_endRun_67 : decode b_Mod_endRun 67 = .ok (.istore 8, 2) := by decide +kernel
theorem d_Mod_endRun_69 : decode b_Mod_endRun 69 = .ok (.iconst 5, 1) := by decide +kernel
theorem d_Mod_endRun_70 : decode b_Mod_endRun 70 = .ok (.sipush 365, 3) := by decide +kernel
theorem d_Mod_endRun_73 : decode b_Mod_endRun 73 = .ok (.iload 6, 2) := by decide +kernel
theorem d_Mod_endRun_75 : decode b_Mod_endRun 75 = .ok (.iadd, 1) := by decide +kernel
theorem d_Mod_endRun_76 : decode b_Mod_endRun 76 = .ok (.imul, 1) := by decide +kernel
theorem d_Mod_endRun_77 : decode b_Mod_endRun 77 = .ok (.istore 9, 2) := by decide +kernel
theorem d_Mod_endRun_79 : decode b_Mod_endRun 79 = .ok (.aload_n 0, 1) := by decide +kernel
theorem d_Mod_endRun_80 : decode b_Mod_endRun 80 = .ok (.getfield 26, 3) := by decide +kernel
theorem d_Mod_endRun_83 : decode b_Mod_endRun 83 = .ok (.iload 9, 2) := by decide +kernel
theorem d_Mod_endRun_85 : decode b_Mod_endRun 85 = .ok (.iconst 3, 1) := by decide +kernel
theorem d_Mod_endRun_86 : decode b_Mod_endRun 86 = .ok (.iadd, 1) := by decide +kernel
theorem d_Mod_endRun_87 : decode b_Mod_endRun 87 = .ok (.iaload, 1) := by decide +kernel
theorem d_Mod_endRun_88 : decode b_Mod_endRun 88 = .ok (.istore 10, 2) := by decide +kernel
theorem d_Mod_endRun_90 : decode b_Mod_endRun 90 = .ok (.iload 10, 2) := by decide +kernel
theorem d_Mod_endRun_92 : decode b_Mod_endRun 92 = .ok (.aload_n 0, 1) := by decide +kernel
theorem d_Mod_endRun_93 : decode b_Mod_endRun 93 = .ok (.getfield 26, 3) := by decide +kernel
theorem d_Mod_endRun_96 : decode b_Mod_endRun 96 = .ok (.iload 9, 2) := by decide +kernel
theorem d_Mod_endRun_98 : decode b_Mod_endRun 98 = .ok (.iaload, 1) := by decide +kernel
theorem d_Mod_endRun_99 : decode b_Mod_endRun 99 = .ok (.iload 6, 2) := by decide +kernel
theorem d_Mod_endRun_101 : decode b_Mod_endRun 101 = .ok (.iload 10, 2) := by decide +kernel
theorem d_Mod_endRun_103 : decode b_Mod_endRun 103 = .ok (.iconst 2, 1) := by decide +kernel
theorem d_Mod_endRun_104 : decode b_Mod_endRun 104 = .ok (.idiv, 1) := by decide +kernel
theorem d_Mod_endRun_105 : decode b_Mod_endRun 105 = .ok (.imul, 1) := by decide +kernel
theorem d_Mod_endRun_106 : decode b_Mod_endRun 106 = .ok (.iadd, 1) := by decide +kernel
theorem d_Mod_endRun_107 : decode b_Mod_endRun 107 = .ok (.invokestatic 164, 3) := by decide +kernel
theorem d_Mod_endRun_110 : decode b_Mod_endRun 110 = .ok (.istore 11, 2) := by decide +kernel
theorem d_Mod_endRun_112 : decode b_Mod_endRun 112 = .ok (.iload 11, 2) := by decide +kernel
theorem d_Mod_endRun_114 : decode b_Mod_endRun 114 = .ok (.ifCond .ne 19, 3) := by decide +kernel
theorem d_Mod_endRun_117 : decode b_Mod_endRun 117 = .ok (.iconst 2, 1) := by decide +kernel
theorem d_Mod_endRun_118 : decode b_Mod_endRun 118 = .ok (.aload_n 0, 1) := by decide +kernel
theorem d_Mod_endRun_119 : decode b_Mod_endRun 119 = .ok (.getfield 26, 3) := by decide +kernel
theorem d_Mod_endRun_122 : decode b_Mod_endRun 122 = .ok (.iload 9, 2) := by decide +kernel
theorem d_Mod_endRun_124 : decode b_Mod_endRun 124 = .ok (.iconst 4, 1) := by decide +kernel
theorem d_Mod_endRun_125 : decode b_Mod_endRun 125 = .ok (.iadd, 1) := by decide +kernel
theorem d_Mod_endRun_126 : decode b_Mod_endRun 126 = .ok (.iaload, 1) := by decide +kernel
theorem d_Mod_endRun_127 : decode b_Mod_endRun 127 = .ok (.imul, 1) := by decide +kernel
theorem d_Mod_endRun_128 : decode b_Mod_endRun 128 = .ok (.iload 10, 2) := by decide +kernel
theorem d_Mod_endRun_130 : decode b_Mod_endRun 130 = .ok (.if_icmp .lt 7, 3) := by decide +kernel
theorem d_Mod_endRun_133 : decode b_Mod_endRun 133 = .ok (.iconst 1, 1) := by decide +kernel
theorem d_Mod_endRun_134 : decode b_Mod_endRun 134 = .ok (.goto 4, 3) := by decide +kernel
theorem d_Mod_endRun_137 : decode b_Mod_endRun 137 = .ok (.iconst 0, 1) := by decide +kernel
theorem d_Mod_endRun_138 : decode b_Mod_endRun 138 = .ok (.istore 12, 2) := by decide +kernel
theorem d_Mod_endRun_140 : decode b_Mod_endRun 140 = .ok (.aload_n 0, 1) := by decide +kernel
theorem d_Mod_endRun_141 : decode b_Mod_endRun 141 = .ok (.getfield 69, 3) := by decide +kernel
theorem d_Mod_endRun_144 : decode b_Mod_endRun 144 = .ok (.iload_n 3, 1) := by decide +kernel
theorem d_Mod_endRun_145 : decode b_Mod_endRun 145 = .ok (.isub, 1) := by decide +kernel
theorem d_Mod_endRun_146 : decode b_Mod_endRun 146 = .ok (.iconst 1, 1) := by decide +kernel
theorem d_Mod_endRun_147 : decode b_Mod_endRun 147 = .ok (.isub, 1) := by decide +kernel
theorem d_Mod_endRun_148 : decode b_Mod_endRun 148 = .ok (.istore 13, 2) := by decide +kernel
theorem d_Mod_endRun_150 : decode b_Mod_endRun 150 = .ok (.aload_n 0, 1) := by decide +kernel
theorem d_Mod_endRun_151 : decode b_Mod_endRun 151 = .ok (.getfield 167, 3) := by decide +kernel
theorem d_Mod_endRun_154 : decode b_Mod_endRun 154 = .ok (.ifCond .eq 75, 3) := by decide +kernel
theorem d_Mod_endRun_157 : decode b_Mod_endRun 157 = .ok (.aload_n 0, 1) := by decide +kernel
theorem d_Mod_endRun_158 : decode b_Mod_endRun 158 = .ok (.iload 11, 2) := by decide +kernel
theorem d_Mod_endRun_160 : decode b_Mod_endRun 160 = .ok (.iload 13, 2) := by decide +kernel
theorem d_Mod_endRun_162 : decode b_Mod_endRun 162 = .ok (.invokevirtual 170, 3) := by decide +kernel
theorem d_Mod_endRun_165 : decode b_Mod_endRun 165 = .ok (.istore 15, 2) := by decide +kernel
theorem d_Mod_endRun_167 : decode b_Mod_endRun 167 = .ok (.iload 15, 2) := by decide +kernel
theorem d_Mod_endRun_169 : decode b_Mod_endRun 169 = .ok (.iload 6, 2) := by decide +kernel
theorem d_Mod_endRun_171 : decode b_Mod_endRun 171 = .ok (.iadd, 1) := by decide +kernel
theorem d_Mod_endRun_172 : decode b_Mod_endRun 172 = .ok (.iconst 2, 1) := by decide +kernel
theorem d_Mod_endRun_173 : decode b_Mod_endRun 173 = .ok (.irem, 1) := by decide +kernel
theorem d_Mod_endRun_174 : decode b_Mod_endRun 174 = .ok (.istore 16, 2) := by decide +kernel
theorem d_Mod_endRun_176 : decode b_Mod_endRun 176 = .ok (.iload 15, 2) := by decide +kernel
theorem d_Mod_endRun_178 : decode b_Mod_endRun 178 = .ok (.iload 6, 2) := by decide +kernel
theorem d_Mod_endRun_180 : decode b_Mod_endRun 180 = .ok (.iadd, 1) := by decide +kernel
theorem d_Mod_endRun_181 : decode b_Mod_endRun 181 = .ok (.iload 16, 2) := by decide +kernel
theorem d_Mod_endRun_183 : decode b_Mod_endRun 183 = .ok (.iadd, 1) := by decide +kernel
theorem d_Mod_endRun_184 : decode b_Mod_endRun 184 = .ok (.iconst 2, 1) := by decide +kernel
theorem d_Mod_endRun_185 : decode b_Mod_endRun 185 = .ok (.idiv, 1) := by decide +kernel
theorem d_Mod_endRun_186 : decode b_Mod_endRun 186 = .ok (.istore 14, 2) := by decide +kernel
theorem d_Mod_endRun_188 : decode b_Mod_endRun 188 = .ok (.iload 16, 2) := by decide +kernel
theorem d_Mod_endRun_190 : decode b_Mod_endRun 190 = .ok (.iconst 1, 1) := by decide +kernel
theorem d_Mod_endRun_191 : decode b_Mod_endRun 191 = .ok (.if_icmp .ne 7, 3) := by decide +kernel
theorem d_Mod_endRun_194 : decode b_Mod_endRun 194 = .ok (.iconst 1, 1) := by decide +kernel
theorem d_Mod_endRun_195 : decode b_Mod_endRun 195 = .ok (.goto 4, 3) := by decide +kernel
theorem d_Mod_endRun_198 : decode b_Mod_endRun 198 = .ok (.iconst 0, 1) := by decide +kernel
theorem d_Mod_endRun_199 : decode b_Mod_endRun 199 = .ok (.iload 12, 2) := by decide +kernel
theorem d_Mod_endRun_201 : decode b_Mod_endRun 201 = .ok (.if_icmp .ne 9, 3) := by decide +kernel
theorem d_Mod_endRun_204 : decode b_Mod_endRun 204 = .ok (.iload 14, 2) := by decide +kernel
theorem d_Mod_endRun_206 : decode b_Mod_endRun 206 = .ok (.ineg, 1) := by decide +kernel
theorem d_Mod_endRun_207 : decode b_Mod_endRun 207 = .ok (.goto 5, 3) := by decide +kernel
theorem d_Mod_endRun_210 : decode b_Mod_endRun 210 = .ok (.iload 14, 2) := by decide +kernel
theorem d_Mod_endRun_212 : decode b_Mod_endRun 212 = .ok (.istore 14, 2) := by decide +kernel
theorem d_Mod_endRun_214 : decode b_Mod_endRun 214 = .ok (.aload_n 0, 1) := by decide +kernel
theorem d_Mod_endRun_215 : decode b_Mod_endRun 215 = .ok (.iload_n 1, 1) := by decide +kernel
theorem d_Mod_endRun_216 : decode b_Mod_endRun 216 = .ok (.iload_n 2, 1) := by decide +kernel
theorem d_Mod_endRun_217 : decode b_Mod_endRun 217 = .ok (.iload 7, 2) := by decide +kernel
theorem d_Mod_endRun_219 : decode b_Mod_endRun 219 = .ok (.iload 8, 2) := by decide +kernel
theorem d_Mod_endRun_221 : decode b_Mod_endRun 221 = .ok (.iload 14, 2) := by decide +kernel
theorem d_Mod_endRun_223 : decode b_Mod_endRun 223 = .ok (.invokevirtual 173, 3) := by decide +kernel
theorem d_Mod_endRun_226 : decode b_Mod_endRun 226 = .ok (.goto 75, 3) := by decide +kernel
theorem d_Mod_endRun_229 : decode b_Mod_endRun 229 = .ok (.aload_n 0, 1) := by decide +kernel
theorem d_Mod_endRun_230 : decode b_Mod_endRun 230 = .ok (.iload_n 1, 1) := by decide +kernel
theorem d_Mod_endRun_231 : decode b_Mod_endRun 231 = .ok (.iload_n 2, 1) := by decide +kernel
theorem d_Mod_endRun_232 : decode b_Mod_endRun 232 = .ok (.iload 7, 2) := by decide +kernel
theorem d_Mod_endRun_234 : decode b_Mod_endRun 234 = .ok (.iload 8, 2) := by decide +kernel
theorem d_Mod_endRun_236 : decode b_Mod_endRun 236 = .ok (.invokevirtual 177, 3) := by decide +kernel
theorem d_Mod_endRun_239 : decode b_Mod_endRun 239 = .ok (.istore 14, 2) := by decide +kernel
theorem d_Mod_endRun_241 : decode b_Mod_endRun 241 = .ok (.iload 14, 2) := by decide +kernel
theorem d_Mod_endRun_243 : decode b_Mod_endRun 243 = .ok (.ifCond .ge 8, 3) := by decide +kernel
theorem d_Mod_endRun_246 : decode b_Mod_endRun 246 = .ok (.iload 12, 2) := by decide +kernel
theorem d_Mod_endRun_248 : decode b_Mod_endRun 248 = .ok (.ifCond .ne 13, 3) := by decide +kernel
theorem d_Mod_endRun_251 : decode b_Mod_endRun 251 = .ok (.iload 14, 2) := by decide +kernel
theorem d_Mod_endRun_253 : decode b_Mod_endRun 253 = .ok (.ifCond .le 12, 3) := by decide +kernel
theorem d_Mod_endRun_256 : decode b_Mod_endRun 256 = .ok (.iload 12, 2) := by decide +kernel
theorem d_Mod_endRun_258 : decode b_Mod_endRun 258 = .ok (.ifCond .ne 7, 3) := by decide +kernel
theorem d_Mod_endRun_261 : decode b_Mod_endRun 261 = .ok (.iconst 1, 1) := by decide +kernel
theorem d_Mod_endRun_262 : decode b_Mod_endRun 262 = .ok (.goto 4, 3) := by decide +kernel
theorem d_Mod_endRun_265 : decode b_Mod_endRun 265 = .ok (.iconst 0, 1) := by decide +kernel
theorem d_Mod_endRun_266 : decode b_Mod_endRun 266 = .ok (.istore 16, 2) := by decide +kernel
theorem d_Mod_endRun_268 : decode b_Mod_endRun 268 = .ok (.iconst 2, 1) := by decide +kernel
theorem d_Mod_endRun_269 : decode b_Mod_endRun 269 = .ok (.iload 14, 2) := by decide +kernel
theorem d_Mod_endRun_271 : decode b_Mod_endRun 271 = .ok (.ifCond .ge 9, 3) := by decide +kernel
theorem d_Mod_endRun_274 : decode b_Mod_endRun 274 = .ok (.iload 14, 2) := by decide +kernel
theorem d_Mod_endRun_276 : decode b_Mod_endRun 276 = .ok (.ineg, 1) := by decide +kernel
theorem d_Mod_endRun_277 : decode b_Mod_endRun 277 = .ok (.goto 5, 3) := by decide +kernel
theorem d_Mod_endRun_280 : decode b_Mod_endRun 280 = .ok (.iload 14, 2) := by decide +kernel
theorem d_Mod_endRun_282 : decode b_Mod_endRun 282 = .ok (.imul, 1) := by decide +kernel
theorem d_Mod_endRun_283 : decode b_Mod_endRun 283 = .ok (.iload 6, 2) := by decide +kernel
theorem d_Mod_endRun_285 : decode b_Mod_endRun 285 = .ok (.isub, 1) := by decide +kernel
theorem d_Mod_endRun_286 : decode b_Mod_endRun 286 = .ok (.iload 16, 2) := by decide +kernel
theorem d_Mod_endRun_288 : decode b_Mod_endRun 288 = .ok (.isub, 1) := by decide +kernel
theorem d_Mod_endRun_289 : decode b_Mod_endRun 289 = .ok (.istore 15, 2) := by decide +kernel
theorem d_Mod_endRun_291 : decode b_Mod_endRun 291 = .ok (.aload_n 0, 1) := by decide +kernel
theorem d_Mod_endRun_292 : decode b_Mod_endRun 292 = .ok (.iload 15, 2) := by decide +kernel
theorem d_Mod_endRun_294 : decode b_Mod_endRun 294 = .ok (.iload 11, 2) := by decide +kernel
theorem d_Mod_endRun_296 : decode b_Mod_endRun 296 = .ok (.iload 13, 2) := by decide +kernel
theorem d_Mod_endRun_298 : decode b_Mod_endRun 298 = .ok (.invokevirtual 181, 3) := by decide +kernel
theorem d_Mod_endRun_301 : decode b_Mod_endRun 301 = .ok (.aload_n 0, 1) := by decide +kernel
theorem d_Mod_endRun_302 : decode b_Mod_endRun 302 = .ok (.getfield 26, 3) := by decide +kernel
theorem d_Mod_endRun_305 : decode b_Mod_endRun 305 = .ok (.iload 9, 2) := by decide +kernel
theorem d_Mod_endRun_307 : decode b_Mod_endRun 307 = .ok (.iconst 4, 1) := by decide +kernel
theorem d_Mod_endRun_308 : decode b_Mod_endRun 308 = .ok (.iadd, 1) := by decide +kernel
theorem d_Mod_endRun_309 : decode b_Mod_endRun 309 = .ok (.dup2, 1) := by decide +kernel
theorem d_Mod_endRun_310 : decode b_Mod_endRun 310 = .ok (.iaload, 1) := by decide +kernel
theorem d_Mod_endRun_311 : decode b_Mod_endRun 311 = .ok (.iload 14, 2) := by decide +kernel
theorem d_Mod_endRun_313 : decode b_Mod_endRun 313 = .ok (.ifCond .ge 7, 3) := by decide +kernel
theorem d_Mod_endRun_316 : decode b_Mod_endRun 316 = .ok (.iconst 1, 1) := by decide +kernel
theorem d_Mod_endRun_317 : decode b_Mod_endRun 317 = .ok (.goto 4, 3) := by decide +kernel
theorem d_Mod_endRun_320 : decode b_Mod_endRun 320 = .ok (.iconst 0, 1) := by decide +kernel
theorem d_Mod_endRun_321 : decode b_Mod_endRun 321 = .ok (.iadd, 1) := by decide +kernel
theorem d_Mod_endRun_322 : decode b_Mod_endRun 322 = .ok (.iastore, 1) := by decide +kernel
theorem d_Mod_endRun_323 : decode b_Mod_endRun 323 = .ok (.aload_n 0, 1) := by decide +kernel
theorem d_Mod_endRun_324 : decode b_Mod_endRun 324 = .ok (.getfield 26, 3) := by decide +kernel
theorem d_Mod_endRun_327 : decode b_Mod_endRun 327 = .ok (.iload 9, 2) := by decide +kernel
theorem d_Mod_endRun_329 : decode b_Mod_endRun 329 = .ok (.dup2, 1) := by decide +kernel
theorem d_Mod_endRun_330 : decode b_Mod_endRun 330 = .ok (.iaload, 1) := by decide +kernel
theorem d_Mod_endRun_331 : decode b_Mod_endRun 331 = .ok (.iload 15, 2) := by decide +kernel
theorem d_Mod_endRun_333 : decode b_Mod_endRun 333 = .ok (.iconst 1, 1) := by decide +kernel
theorem d_Mod_endRun_334 : decode b_Mod_endRun 334 = .ok (.iadd, 1) := by decide +kernel
theorem d_Mod_endRun_335 : decode b_Mod_endRun 335 = .ok (.iload 6, 2) := by decide +kernel
theorem d_Mod_endRun_337 : decode b_Mod_endRun 337 = .ok (.isub, 1) := by decide +kernel
theorem d_Mod_endRun_338 : decode b_Mod_endRun 338 = .ok (.iconst 2, 1) := by decide +kernel
theorem d_Mod_endRun_339 : decode b_Mod_endRun 339 = .ok (.idiv, 1) := by decide +kernel
theorem d_Mod_endRun_340 : decode b_Mod_endRun 340 = .ok (.iadd, 1) := by decide +kernel
theorem d_Mod_endRun_341 : decode b_Mod_endRun 341 = .ok (.iastore, 1) := by decide +kernel
theorem d_Mod_endRun_342 : decode b_Mod_endRun 342 = .ok (.iload 10, 2) := by decide +kernel
theorem d_Mod_endRun_344 : decode b_Mod_endRun 344 = .ok (.bipush 64, 2) := by decide +kernel
theorem d_Mod_endRun_346 : decode b_Mod_endRun 346 = .ok (.if_icmp .ne 52, 3) := by decide +kernel
theorem d_Mod_endRun_349 : decode b_Mod_endRun 349 = .ok (.aload_n 0, 1) := by decide +kernel
theorem d_Mod_endRun_350 : decode b_Mod_endRun 350 = .ok (.getfield 26, 3) := by decide +kernel
theorem d_Mod_endRun_353 : decode b_Mod_endRun 353 = .ok (.iload 9, 2) := by decide +kernel
theorem d_Mod_endRun_355 : decode b_Mod_endRun 355 = .ok (.aload_n 0, 1) := by decide +kernel
theorem d_Mod_endRun_356 : decode b_Mod_endRun 356 = .ok (.getfield 26, 3) := by decide +kernel
theorem d_Mod_endRun_359 : decode b_Mod_endRun 359 = .ok (.iload 9, 2) := by decide +kernel
theorem d_Mod_endRun_361 : decode b_Mod_endRun 361 = .ok (.iaload, 1) := by decide +kernel
theorem d_Mod_endRun_362 : decode b_Mod_endRun 362 = .ok (.invokestatic 188, 3) := by decide +kernel
theorem d_Mod_endRun_365 : decode b_Mod_endRun 365 = .ok (.iastore, 1) := by decide +kernel
theorem d_Mod_endRun_366 : decode b_Mod_endRun 366 = .ok (.aload_n 0, 1) := by decide +kernel
theorem d_Mod_endRun_367 : decode b_Mod_endRun 367 = .ok (.getfield 26, 3) := by decide +kernel
theorem d_Mod_endRun_370 : decode b_Mod_endRun 370 = .ok (.iload 9, 2) := by decide +kernel
theorem d_Mod_endRun_372 : decode b_Mod_endRun 372 = .ok (.iconst 4, 1) := by decide +kernel
theorem d_Mod_endRun_373 : decode b_Mod_endRun 373 = .ok (.iadd, 1) := by decide +kernel
theorem d_Mod_endRun_374 : decode b_Mod_endRun 374 = .ok (.aload_n 0, 1) := by decide +kernel
theorem d_Mod_endRun_375 : decode b_Mod_endRun 375 = .ok (.getfield 26, 3) := by decide +kernel
theorem d_Mod_endRun_378 : decode b_Mod_endRun 378 = .ok (.iload 9, 2) := by decide +kernel
theorem d_Mod_endRun_380 : decode b_Mod_endRun 380 = .ok (.iconst 4, 1) := by decide +kernel
theorem d_Mod_endRun_381 : decode b_Mod_endRun 381 = .ok (.iadd, 1) := by decide +kernel
theorem d_Mod_endRun_382 : decode b_Mod_endRun 382 = .ok (.iaload, 1) := by decide +kernel
theorem d_Mod_endRun_383 : decode b_Mod_endRun 383 = .ok (.invokestatic 188, 3) := by decide +kernel
theorem d_Mod_endRun_386 : decode b_Mod_endRun 386 = .ok (.iastore, 1) := by decide +kernel
theorem d_Mod_endRun_387 : decode b_Mod_endRun 387 = .ok (.aload_n 0, 1) := by decide +kernel
theorem d_Mod_endRun_388 : decode b_Mod_endRun 388 = .ok (.getfield 26, 3) := by decide +kernel
theorem d_Mod_endRun_391 : decode b_Mod_endRun 391 = .ok (.iload 9, 2) := by decide +kernel
theorem d_Mod_endRun_393 : decode b_Mod_endRun 393 = .ok (.iconst 3, 1) := by decide +kernel
theorem d_Mod_endRun_394 : decode b_Mod_endRun 394 = .ok (.iadd, 1) := by decide +kernel
theorem d_Mod_endRun_395 : decode b_Mod_endRun 395 = .ok (.bipush 32, 2) := by decide +kernel
theorem d_Mod_endRun_397 : decode b_Mod_endRun 397 = .ok (.iastore, 1) := by decide +kernel
theorem d_Mod_endRun_398 : decode b_Mod_endRun 398 = .ok (.aload_n 0, 1) := by decide +kernel
theorem d_Mod_endRun_399 : decode b_Mod_endRun 399 = .ok (.getfield 26, 3) := by decide +kernel
theorem d_Mod_endRun_402 : decode b_Mod_endRun 402 = .ok (.iload 9, 2) := by decide +kernel
theorem d_Mod_endRun_404 : decode b_Mod_endRun 404 = .ok (.iconst 3, 1) := by decide +kernel
theorem d_Mod_endRun_405 : decode b_Mod_endRun 405 = .ok (.iadd, 1) := by decide +kernel
theorem d_Mod_endRun_406 : decode b_Mod_endRun 406 = .ok (.dup2, 1) := by decide +kernel
theorem d_Mod_endRun_407 : decode b_Mod_endRun 407 = .ok (.iaload, 1) := by decide +kernel
theorem d_Mod_endRun_408 : decode b_Mod_endRun 408 = .ok (.iconst 1, 1) := by decide +kernel
theorem d_Mod_endRun_409 : decode b_Mod_endRun 409 = .ok (.iadd, 1) := by decide +kernel
theorem d_Mod_endRun_410 : decode b_Mod_endRun 410 = .ok (.iastore, 1) := by decide +kernel
theorem d_Mod_endRun_411 : decode b_Mod_endRun 411 = .ok (.aload_n 0, 1) := by decide +kernel
theorem d_Mod_endRun_412 : decode b_Mod_endRun 412 = .ok (.aload_n 0, 1) := by decide +kernel
theorem d_Mod_endRun_413 : decode b_Mod_endRun 413 = .ok (.getfield 84, 3) := by decide +kernel
theorem d_Mod_endRun_416 : decode b_Mod_endRun 416 = .ok (.ifCond .le 12, 3) := by decide +kernel
theorem d_Mod_endRun_419 : decode b_Mod_endRun 419 = .ok (.aload_n 0, 1) := by decide +kernel
theorem d_Mod_endRun_420 : decode b_Mod_endRun 420 = .ok (.getfield 84, 3) := by decide +kernel
theorem d_Mod_endRun_423 : decode b_Mod_endRun 423 = .ok (.iconst 1, 1) := by decide +kernel
theorem d_Mod_endRun_424 : decode b_Mod_endRun 424 = .ok (.isub, 1) := by decide +kernel
theorem d_Mod_endRun_425 : decode b_Mod_endRun 425 = .ok (.goto 4, 3) := by decide +kernel
theorem d_Mod_endRun_428 : decode b_Mod_endRun 428 = .ok (.iconst 0, 1) := by decide +kernel
theorem d_Mod_endRun_429 : decode b_Mod_endRun 429 = .ok (.putfield 84, 3) := by decide +kernel
theorem d_Mod_endRun_432 : decode b_Mod_endRun 432 = .ok (.return_, 1) := by decide +kernel
theorem d_Mod_endsWell_0 : decode b_Mod_endsWell 0 = .ok (.aload_n 0, 1) := by decide +kernel
theorem d_Mod_endsWell_1 : decode b_Mod_endsWell 1 = .ok (.getfield 109, 3) := by decide +kernel
theorem d_Mod_endsWell_4 : decode b_Mod_endsWell 4 = .ok (.ifCond .le 13, 3) := by decide +kernel
theorem d_Mod_endsWell_7 : decode b_Mod_endsWell 7 = .ok (.aload_n 0, 1) := by decide +kernel
theorem d_Mod_endsWell_8 : decode b_Mod_endsWell 8 = .ok (.invokevirtual 122, 3) := by decide +kernel
theorem d_Mod_endsWell_11 : decode b_Mod_endsWell 11 = .ok (.iconst 1, 1) := by decide +kernel
theorem d_Mod_endsWell_12 : decode b_Mod_endsWell 12 = .ok (.if_icmp .ne (-12), 3) := by decide +kernel
theorem d_Mod_endsWell_15 : decode b_Mod_endsWell 15 = .ok (.iconst 0, 1) := by decide +kernel
theorem d_Mod_endsWell_16 : decode b_Mod_endsWell 16 = .ok (.ireturn, 1) := by decide +kernel
theorem d_Mod_endsWell_17 : decode b_Mod_endsWell 17 = .ok (.aload_n 0, 1) := by decide +kernel
theorem d_Mod_endsWell_18 : decode b_Mod_endsWell 18 = .ok (.getfield 112, 3) := by decide +kernel
theorem d_Mod_endsWell_21 : decode b_Mod_endsWell 21 = .ok (.sipush 255, 3) := by decide +kernel
theorem d_Mod_endsWell_24 : decode b_Mod_endsWell 24 = .ok (.if_icmp .ne 40, 3) := by decide +kernel
theorem d_Mod_endsWell_27 : decode b_Mod_endsWell 27 = .ok (.aload_n 0, 1) := by decide +kernel
theorem d_Mod_endsWell_28 : decode b_Mod_endsWell 28 = .ok (.getfield 115, 3) := by decide +kernel
theorem d_Mod_endsWell_31 : decode b_Mod_endsWell 31 = .ok (.aload_n 0, 1) := by decide +kernel
theorem d_Mod_endsWell_32 : decode b_Mod_endsWell 32 = .ok (.getfield 91, 3) := by decide +kernel
theorem d_Mod_endsWell_35 : decode b_Mod_endsWell 35 = .ok (.iconst 2, 1) := by decide +kernel
theorem d_Mod_endsWell_36 : decode b_Mod_endsWell 36 = .ok (.isub, 1) := by decide +kernel
theorem d_Mod_endsWell_37 : decode b_Mod_endsWell 37 = .ok (.if_icmp .ge 15, 3) := by decide +kernel
theorem d_Mod_endsWell_40 : decode b_Mod_endsWell 40 = .ok (.aload_n 0, 1) := by decide +kernel
theorem d_Mod_endsWell_41 : decode b_Mod_endsWell 41 = .ok (.getfield 29, 3) := by decide +kernel
theorem d_Mod_endsWell_44 : decode b_Mod_endsWell 44 = .ok (.aload_n 0, 1) := by decide +kernel
theorem d_Mod_endsWell_45 : decode b_Mod_endsWell 45 = .ok (.getfield 115, 3) := by decide +kernel
theorem d_Mod_endsWell_48 : decode b_Mod_endsWell 48 = .ok (.iaload, 1) := by decide +kernel
theorem d_Mod_endsWell_49 : decode b_Mod_endsWell 49 = .ok (.ifCond .eq 5, 3) := by decide +kernel
theorem d_Mod_endsWell_52 : decode b_Mod_endsWell 52 = .ok (.iconst 0, 1) := by decide +kernel
theorem d_Mod_endsWell_53 : decode b_Mod_endsWell 53 = .ok (.ireturn, 1) := by decide +kernel
theorem d_Mod_endsWell_54 : decode b_Mod_endsWell 54 = .ok (.aload_n 0, 1) := by decide +kernel
theorem d_Mod_endsWell_55 : decode b_Mod_endsWell 55 = .ok (.dup, 1) := by decide +kernel
theorem d_Mod_endsWell_56 : decode b_Mod_endsWell 56 = .ok (.getfield 115, 3) := by decide +kernel
theorem d_Mod_endsWell_59 : decode b_Mod_endsWell 59 = .ok (.iconst 1, 1) := by decide +kernel
theorem d_Mod_endsWell_60 : decode b_Mod_endsWell 60 = .ok (.iadd, 1) := by decide +kernel
theorem d_Mod_endsWell_61 : decode b_Mod_endsWell 61 = .ok (.putfield 115, 3) := by decide +kernel
theorem d_Mod_endsWell_64 : decode b_Mod_endsWell 64 = .ok (.aload_n 0, 1) := by decide +kernel
theorem d_Mod_endsWell_65 : decode b_Mod_endsWell 65 = .ok (.getfield 115, 3) := by decide +kernel
theorem d_Mod_endsWell_68 : decode b_Mod_endsWell 68 = .ok (.aload_n 0, 1) := by decide +kernel
theorem d_Mod_endsWell_69 : decode b_Mod_endsWell 69 = .ok (.getfield 91, 3) := by decide +kernel
theorem d_Mod_endsWell_72 : decode b_Mod_endsWell 72 = .ok (.iconst 2, 1) := by decide +kernel
theorem d_Mod_endsWell_73 : decode b_Mod_endsWell 73 = .ok (.isub, 1) := by decide +kernel
theorem d_Mod_endsWell_74 : decode b_Mod_endsWell 74 = .ok (.if_icmp .ne 39, 3) := by decide +kernel
theorem d_Mod_endsWell_77 : decode b_Mod_endsWell 77 = .ok (.aload_n 0, 1) := by decide +kernel
theorem d_Mod_endsWell_78 : decode b_Mod_endsWell 78 = .ok (.getfield 29, 3) := by decide +kernel
theorem d_Mod_endsWell_81 : decode b_Mod_endsWell 81 = .ok (.aload_n 0, 1) := by decide +kernel
theorem d_Mod_endsWell_82 : decode b_Mod_endsWell 82 = .ok (.getfield 115, 3) := by decide +kernel
theorem d_Mod_endsWell_85 : decode b_Mod_endsWell 85 = .ok (.iaload, 1) := by decide +kernel
theorem d_Mod_endsWell_86 : decode b_Mod_endsWell 86 = .ok (.sipush 255, 3) := by decide +kernel
theorem d_Mod_endsWell_89 : decode b_Mod_endsWell 89 = .ok (.if_icmp .ne 24, 3) := by decide +kernel
theorem d_Mod_endsWell_92 : decode b_Mod_endsWell 92 = .ok (.aload_n 0, 1) := by decide +kernel
theorem d_Mod_endsWell_93 : decode b_Mod_endsWell 93 = .ok (.getfield 29, 3) := by decide +kernel
theorem d_Mod_endsWell_96 : decode b_Mod_endsWell 96 = .ok (.aload_n 0, 1) := by decide +kernel
theorem d_Mod_endsWell_97 : decode b_Mod_endsWell 97 = .ok (.getfield 115, 3) := by decide +kernel
theorem d_Mod_endsWell_100 : decode b_Mod_endsWell 100 = .ok (.iconst 1, 1) := by decide +kernel
theorem d_Mod_endsWell_101 : decode b_Mod_endsWell 101 = .ok (.iadd, 1) := by decide +kernel
theorem d_Mod_endsWell_102 : decode b_Mod_endsWell 102 = .ok (.iaload, 1) := by decide +kernel
theorem d_Mod_endsWell_103 : decode b_Mod_endsWell 103 = .ok (.sipush 217, 3) := by decide +kernel
theorem d_Mod_endsWell_106 : decode b_Mod_endsWell 106 = .ok (.if_icmp .ne 7, 3) := by decide +kernel
theorem d_Mod_endsWell_109 : decode b_Mod_endsWell 109 = .ok (.iconst 1, 1) := by decide +kernel
theorem d_Mod_endsWell_110 : decode b_Mod_endsWell 110 = .ok (.goto 4, 3) := by decide +kernel
theorem d_Mod_endsWell_113 : decode b_Mod_endsWell 113 = .ok (.iconst 0, 1) := by decide +kernel
theorem d_Mod_endsWell_114 : decode b_Mod_endsWell 114 = .ok (.ireturn, 1) := by decide +kernel
theorem d_Mod_errorOf_0 : decode b_Mod_errorOf 0 = .ok (.aload_n 0, 1) := by decide +kernel
theorem d_Mod_errorOf_1 : decode b_Mod_errorOf 1 = .ok (.iload 4, 2) := by decide +kernel
theorem d_Mod_errorOf_3 : decode b_Mod_errorOf 3 = .ok (.aload_n 0, 1) := by decide +kernel
theorem d_Mod_errorOf_4 : decode b_Mod_errorOf 4 = .ok (.getfield 19, 3) := by decide +kernel
theorem d_Mod_errorOf_7 : decode b_Mod_errorOf 7 = .ok (.bipush 8, 2) := by decide +kernel
theorem d_Mod_errorOf_9 : decode b_Mod_errorOf 9 = .ok (.iload_n 2, 1) := by decide +kernel
theorem d_Mod_errorOf_10 : decode b_Mod_errorOf 10 = .ok (.imul, 1) := by decide +kernel
theorem d_Mod_errorOf_11 : decode b_Mod_errorOf 11 = .ok (.iload_n 1, 1) := by decide +kernel
theorem d_Mod_errorOf_12 : decode b_Mod_errorOf 12 = .ok (.iadd, 1) := by decide +kernel
theorem d_Mod_errorOf_13 : decode b_Mod_errorOf 13 = .ok (.iaload, 1) := by decide +kernel
theorem d_Mod_errorOf_14 : decode b_Mod_errorOf 14 = .ok (.iload_n 3, 1) := by decide +kernel
theorem d_Mod_errorOf_15 : decode b_Mod_errorOf 15 = .ok (.isub, 1) := by decide +kernel
theorem d_Mod_errorOf_16 : decode b_Mod_errorOf 16 = .ok (.imul, 1) := by decide +kernel
theorem d_Mod_errorOf_17 : decode b_Mod_errorOf 17 = .ok (.invokevirtual 143, 3) := by decide +kernel
theorem d_Mod_errorOf_20 : decode b_Mod_errorOf 20 = .ok (.istore 5, 2) := by decide +kernel
theorem d_Mod_errorOf_22 : decode b_Mod_errorOf 22 = .ok (.aload_n 0, 1) := by decide +kernel
theorem d_Mod_errorOf_23 : decode b_Mod_errorOf 23 = .ok (.getfield 23, 3) := by decide +kernel
theorem d_Mod_errorOf_26 : decode b_Mod_errorOf 26 = .ok (.bipush 8, 2) := by decide +kernel
theorem d_Mod_errorOf_28 : decode b_Mod_errorOf 28 = .ok (.iload_n 2, 1) := by decide +kernel
theorem d_Mod_errorOf_29 : decode b_Mod_errorOf 29 = .ok (.imul, 1) := by decide +kernel
theorem d_Mod_errorOf_30 : decode b_Mod_errorOf 30 = .ok (.iload_n 1, 1) := by decide +kernel
theorem d_Mod_errorOf_31 : decode b_Mod_errorOf 31 = .ok (.iadd, 1) := by decide +kernel
theorem d_Mod_errorOf_32 : decode b_Mod_errorOf 32 = .ok (.aload_n 0, 1) := by decide +kernel
theorem d_Mod_errorOf_33 : decode b_Mod_errorOf 33 = .ok (.iload_n 3, 1) := by decide +kernel
theorem d_Mod_errorOf_34 : decode b_Mod_errorOf 34 = .ok (.iload 4, 2) := by decide +kernel
theorem d_Mod_errorOf_36 : decode b_Mod_errorOf 36 = .ok (.iload 5, 2) := by decide +kernel
theorem d_Mod_errorOf_38 : decode b_Mod_errorOf 38 = .ok (.imul, 1) := by decide +kernel
theorem d_Mod_errorOf_39 : decode b_Mod_errorOf 39 = .ok (.aload_n 0, 1) := by decide +kernel
theorem d_Mod_errorOf_40 : decode b_Mod_errorOf 40 = .ok (.getfield 53, 3) := by decide +kernel
theorem d_Mod_errorOf_43 : decode b_Mod_errorOf 43 = .ok (.imul, 1) := by decide +kernel
theorem d_Mod_errorOf_44 : decode b_Mod_errorOf 44 = .ok (.iadd, 1) := by decide +kernel
theorem d_Mod_errorOf_45 : decode b_Mod_errorOf 45 = .ok (.invokevirtual 146, 3) := by decide +kernel
theorem d_Mod_errorOf_48 : decode b_Mod_errorOf 48 = .ok (.iastore, 1) := by decide +kernel
theorem d_Mod_errorOf_49 : decode b_Mod_errorOf 49 = .ok (.aload_n 0, 1) := by decide +kernel
theorem d_Mod_errorOf_50 : decode b_Mod_errorOf 50 = .ok (.iload 5, 2) := by decide +kernel
theorem d_Mod_errorOf_52 : decode b_Mod_errorOf 52 = .ok (.invokevirtual 149, 3) := by decide +kernel
theorem d_Mod_errorOf_55 : decode b_Mod_errorOf 55 = .ok (.ireturn, 1) := by decide +kernel
theorem d_Mod_fits_0 : decode b_Mod_fits 0 = .ok (.iload_n 0, 1) := by decide +kernel
theorem d_Mod_fits_1 : decode b_Mod_fits 1 = .ok (.iconst 1, 1) := by decide +kernel
theorem d_Mod_fits_2 : decode b_Mod_fits 2 = .ok (.if_icmp .lt 52, 3) := by decide +kernel
theorem d_Mod_fits_5 : decode b_Mod_fits 5 = .ok (.iload_n 0, 1) := by decide +kernel
theorem d_Mod_fits_6 : decode b_Mod_fits 6 = .ok (.bipush 8, 2) := by decide +kernel
theorem d_Mod_fits_8 : decode b_Mod_fits 8 = .ok (.if_icmp .gt 46, 3) := by decide +kernel
theorem d_Mod_fits_11 : decode b_Mod_fits 11 = .ok (.iload_n 1, 1) := by decide +kernel
theorem d_Mod_fits_12 : decode b_Mod_fits 12 = .ok (.iconst 1, 1) := by decide +kernel
theorem d_Mod_fits_13 : decode b_Mod_fits 13 = .ok (.if_icmp .lt 41, 3) := by decide +kernel
theorem d_Mod_fits_16 : decode b_Mod_fits 16 = .ok (.iload_n 1, 1) := by decide +kernel
theorem d_Mod_fits_17 : decode b_Mod_fits 17 = .ok (.bipush 8, 2) := by decide +kernel
theorem d_Mod_fits_19 : decode b_Mod_fits 19 = .ok (.if_icmp .gt 35, 3) := by decide +kernel
theorem d_Mod_fits_22 : decode b_Mod_fits 22 = .ok (.iload_n 2, 1) := by decide +kernel
theorem d_Mod_fits_23 : decode b_Mod_fits 23 = .ok (.iconst 3, 1) := by decide +kernel
theorem d_Mod_fits_24 : decode b_Mod_fits 24 = .ok (.if_icmp .lt 30, 3) := by decide +kernel
theorem d_Mod_fits_27 : decode b_Mod_fits 27 = .ok (.iload_n 2, 1) := by decide +kernel
theorem d_Mod_fits_28 : decode b_Mod_fits 28 = .ok (.sipush 255, 3) := by decide +kernel
theorem d_Mod_fits_31 : decode b_Mod_fits 31 = .ok (.if_icmp .gt 23, 3) := by decide +kernel
theorem d_Mod_fits_34 : decode b_Mod_fits 34 = .ok (.iload_n 3, 1) := by decide +kernel
theorem d_Mod_fits_35 : decode b_Mod_fits 35 = .ok (.ifCond .lt 19, 3) := by decide +kernel
theorem d_Mod_fits_38 : decode b_Mod_fits 38 = .ok (.iload_n 3, 1) := by decide +kernel
theorem d_Mod_fits_39 : decode b_Mod_fits 39 = .ok (.iconst 3, 1) := by decide +kernel
theorem d_Mod_fits_40 : decode b_Mod_fits 40 = .ok (.if_icmp .gt 14, 3) := by decide +kernel
theorem d_Mod_fits_43 : decode b_Mod_fits 43 = .ok (.iload_n 3, 1) := by decide +kernel
theorem d_Mod_fits_44 : decode b_Mod_fits 44 = .ok (.iload_n 2, 1) := by decide +kernel
theorem d_Mod_fits_45 : decode b_Mod_fits 45 = .ok (.iconst 2, 1) := by decide +kernel
theorem d_Mod_fits_46 : decode b_Mod_fits 46 = .ok (.idiv, 1) := by decide +kernel
theorem d_Mod_fits_47 : decode b_Mod_fits 47 = .ok (.if_icmp .gt 7, 3) := by decide +kernel
theorem d_Mod_fits_50 : decode b_Mod_fits 50 = .ok (.iconst 1, 1) := by decide +kernel
theorem d_Mod_fits_51 : decode b_Mod_fits 51 = .ok (.goto 4, 3) := by decide +kernel
theorem d_Mod_fits_54 : decode b_Mod_fits 54 = .ok (.iconst 0, 1) := by decide +kernel
theorem d_Mod_fits_55 : decode b_Mod_fits 55 = .ok (.ireturn, 1) := by decide +kernel
theorem d_Mod_forget_0 : decode b_Mod_forget 0 = .ok (.iconst 0, 1) := by decide +kernel
theorem d_Mod_forget_1 : decode b_Mod_forget 1 = .ok (.istore_n 1, 1) := by decide +kernel
theorem d_Mod_forget_2 : decode b_Mod_forget 2 = .ok (.iload_n 1, 1) := by decide +kernel
theorem d_Mod_forget_3 : decode b_Mod_forget 3 = .ok (.sipush 367, 3) := by decide +kernel
theorem d_Mod_forget_6 : decode b_Mod_forget 6 = .ok (.if_icmp .ge 75, 3) := by decide +kernel
theorem d_Mod_forget_9 : decode b_Mod_forget 9 = .ok (.aload_n 0, 1) := by decide +kernel
theorem d_Mod_forget_10 : decode b_Mod_forget 10 = .ok (.getfield 26, 3) := by decide +kernel
theorem d_Mod_forget_13 : decode b_Mod_forget 13 = .ok (.iconst 5, 1) := by decide +kernel
theorem d_Mod_forget_14 : decode b_Mod_forget 14 = .ok (.iload_n 1, 1) := by decide +kernel
theorem d_Mod_forget_15 : decode b_Mod_forget 15 = .ok (.imul, 1) := by decide +kernel
theorem d_Mod_forget_16 : decode b_Mod_forget 16 = .ok (.iconst 2, 1) := by decide +kernel
theorem d_Mod_forget_17 : decode b_Mod_forget 17 = .ok (.aload_n 0, 1) := by decide +kernel
theorem d_Mod_forget_18 : decode b_Mod_forget 18 = .ok (.getfield 56, 3) := by decide +kernel
theorem d_Mod_forget_21 : decode b_Mod_forget 21 = .ok (.bipush 32, 2) := by decide +kernel
theorem d_Mod_forget_23 : decode b_Mod_forget 23 = .ok (.iadd, 1) := by decide +kernel
theorem d_Mod_forget_24 : decode b_Mod_forget 24 = .ok (.bipush 64, 2) := by decide +kernel
theorem d_Mod_forget_26 : decode b_Mod_forget 26 = .ok (.idiv, 1) := by decide +kernel
theorem d_Mod_forget_27 : decode b_Mod_forget 27 = .ok (.invokestatic 66, 3) := by decide +kernel
theorem d_Mod_forget_30 : decode b_Mod_forget 30 = .ok (.iastore, 1) := by decide +kernel
theorem d_Mod_forget_31 : decode b_Mod_forget 31 = .ok (.aload_n 0, 1) := by decide +kernel
theorem d_Mod_forget_32 : decode b_Mod_forget 32 = .ok (.getfield 26, 3) := by decide +kernel
theorem d_Mod_forget_35 : decode b_Mod_forget 35 = .ok (.iconst 5, 1) := by decide +kernel
theorem d_Mod_forget_36 : decode b_Mod_forget 36 = .ok (.iload_n 1, 1) := by decide +kernel
theorem d_Mod_forget_37 : decode b_Mod_forget 37 = .ok (.imul, 1) := by decide +kernel
theorem d_Mod_forget_38 : decode b_Mod_forget 38 = .ok (.iconst 1, 1) := by decide +kernel
theorem d_Mod_forget_39 : decode b_Mod_forget 39 = .ok (.iadd, 1) := by decide +kernel
theorem d_Mod_forget_40 : decode b_Mod_forget 40 = .ok (.iconst 0, 1) := by decide +kernel
theorem d_Mod_forget_41 : decode b_Mod_forget 41 = .ok (.iastore, 1) := by decide +kernel
theorem d_Mod_forget_42 : decode b_Mod_forget 42 = .ok (.aload_n 0, 1) := by decide +kernel
theorem d_Mod_forget_43 : decode b_Mod_forget 43 = .ok (.getfield 26, 3) := by decide +kernel
theorem d_Mod_forget_46 : decode b_Mod_forget 46 = .ok (.iconst 5, 1) := by decide +kernel
theorem d_Mod_forget_47 : decode b_Mod_forget 47 = .ok (.iload_n 1, 1) := by decide +kernel
theorem d_Mod_forget_48 : decode b_Mod_forget 48 = .ok (.imul, 1) := by decide +kernel
theorem d_Mod_forget_49 : decode b_Mod_forget 49 = .ok (.iconst 2, 1) := by decide +kernel
theorem d_Mod_forget_50 : decode b_Mod_forget 50 = .ok (.iadd, 1) := by decide +kernel
theorem d_Mod_forget_51 : decode b_Mod_forget 51 = .ok (.iconst 0, 1) := by decide +kernel
theorem d_Mod_forget_52 : decode b_Mod_forget 52 = .ok (.iastore, 1) := by decide +kernel
theorem d_Mod_forget_53 : decode b_Mod_forget 53 = .ok (.aload_n 0, 1) := by decide +kernel
theorem d_Mod_forget_54 : decode b_Mod_forget 54 = .ok (.getfield 26, 3) := by decide +kernel
theorem d_Mod_forget_57 : decode b_Mod_forget 57 = .ok (.iconst 5, 1) := by decide +kernel
theorem d_Mod_forget_58 : decode b_Mod_forget 58 = .ok (.iload_n 1, 1) := by decide +kernel
theorem d_Mod_forget_59 : decode b_Mod_forget 59 = .ok (.imul, 1) := by decide +kernel
theorem d_Mod_forget_60 : decode b_Mod_forget 60 = .ok (.iconst 3, 1) := by decide +kernel
theorem d_Mod_forget_61 : decode b_Mod_forget 61 = .ok (.iadd, 1) := by decide +kernel
theorem d_Mod_forget_62 : decode b_Mod_forget 62 = .ok (.iconst 1, 1) := by decide +kernel
theorem d_Mod_forget_63 : decode b_Mod_forget 63 = .ok (.iastore, 1) := by decide +kernel
theorem d_Mod_forget_64 : decode b_Mod_forget 64 = .ok (.aload_n 0, 1) := by decide +kernel
theorem d_Mod_forget_65 : decode b_Mod_forget 65 = .ok (.getfield 26, 3) := by decide +kernel
theorem d_Mod_forget_68 : decode b_Mod_forget 68 = .ok (.iconst 5, 1) := by decide +kernel
theorem d_Mod_forget_69 : decode b_Mod_forget 69 = .ok (.iload_n 1, 1) := by decide +kernel
theorem d_Mod_forget_70 : decode b_Mod_forget 70 = .ok (.imul, 1) := by decide +kernel
theorem d_Mod_forget_71 : decode b_Mod_forget 71 = .ok (.iconst 4, 1) := by decide +kernel
theorem d_Mod_forget_72 : decode b_Mod_forget 72 = .ok (.iadd, 1) := by decide +kernel
theorem d_Mod_forget_73 : decode b_Mod_forget 73 = .ok (.iconst 0, 1) := by decide +kernel
theorem d_Mod_forget_74 : decode b_Mod_forget 74 = .ok (.iastore, 1) := by decide +kernel
theorem d_Mod_forget_75 : decode b_Mod_forget 75 = .ok (.iinc 1 1, 3) := by decide +kernel
theorem d_Mod_forget_78 : decode b_Mod_forget 78 = .ok (.goto (-76), 3) := by decide +kernel
theorem d_Mod_forget_81 : decode b_Mod_forget 81 = .ok (.aload_n 0, 1) := by decide +kernel
theorem d_Mod_forget_82 : decode b_Mod_forget 82 = .ok (.iconst 0, 1) := by decide +kernel
theorem d_Mod_forget_83 : decode b_Mod_forget 83 = .ok (.putfield 84, 3) := by decide +kernel
theorem d_Mod_forget_86 : decode b_Mod_forget 86 = .ok (.iconst 0, 1) := by decide +kernel
theorem d_Mod_forget_87 : decode b_Mod_forget 87 = .ok (.istore_n 1, 1) := by decide +kernel
theorem d_Mod_forget_88 : decode b_Mod_forget 88 = .ok (.iload_n 1, 1) := by decide +kernel
theorem d_Mod_forget_89 : decode b_Mod_forget 89 = .ok (.bipush 64, 2) := by decide +kernel
theorem d_Mod_forget_91 : decode b_Mod_forget 91 = .ok (.if_icmp .ge 16, 3) := by decide +kernel
theorem d_Mod_forget_94 : decode b_Mod_forget 94 = .ok (.aload_n 0, 1) := by decide +kernel
theorem d_Mod_forget_95 : decode b_Mod_forget 95 = .ok (.getfield 23, 3) := by decide +kernel
theorem d_Mod_forget_98 : decode b_Mod_forget 98 = .ok (.iload_n 1, 1) := by decide +kernel
theorem d_Mod_forget_99 : decode b_Mod_forget 99 = .ok (.iconst 0, 1) := by decide +kernel
theorem d_Mod_forget_100 : decode b_Mod_forget 100 = .ok (.iastore, 1) := by decide +kernel
theorem d_Mod_forget_101 : decode b_Mod_forget 101 = .ok (.iinc 1 1, 3) := by decide +kernel
theorem d_Mod_forget_104 : decode b_Mod_forget 104 = .ok (.goto (-16), 3) := by decide +kernel
theorem d_Mod_forget_107 : decode b_Mod_forget 107 = .ok (.return_, 1) := by decide +kernel
theorem d_Mod_frame_0 : decode b_Mod_frame 0 = .ok (.aload_n 0, 1) := by decide +kernel
theorem d_Mod_frame_1 : decode b_Mod_frame 1 = .ok (.iconst 0, 1) := by decide +kernel
theorem d_Mod_frame_2 : decode b_Mod_frame 2 = .ok (.putfield 47, 3) := by decide +kernel
theorem d_Mod_frame_5 : decode b_Mod_frame 5 = .ok (.iload_n 1, 1) := by decide +kernel
theorem d_Mod_frame_6 : decode b_Mod_frame 6 = .ok (.iload_n 2, 1) := by decide +kernel
theorem d_Mod_frame_7 : decode b_Mod_frame 7 = .ok (.iload_n 3, 1) := by decide +kernel
theorem d_Mod_frame_8 : decode b_Mod_frame 8 = .ok (.iload 4, 2) := by decide +kernel
theorem d_Mod_frame_10 : decode b_Mod_frame 10 = .ok (.invokestatic 87, 3) := by decide +kernel
theorem d_Mod_frame_13 : decode b_Mod_frame 13 = .ok (.ifCond .ne 5, 3) := by decide +kernel
theorem d_Mod_frame_16 : decode b_Mod_frame 16 = .ok (.iconst 0, 1) := by decide +kernel
theorem d_Mod_frame_17 : decode b_Mod_frame 17 = .ok (.ireturn, 1) := by decide +kernel
theorem d_Mod_frame_18 : decode b_Mod_frame 18 = .ok (.aload_n 0, 1) := by decide +kernel
theorem d_Mod_frame_19 : decode b_Mod_frame 19 = .ok (.iload_n 1, 1) := by decide +kernel
theorem d_Mod_frame_20 : decode b_Mod_frame 20 = .ok (.putfield 7, 3) := by decide +kernel
theorem d_Mod_frame_23 : decode b_Mod_frame 23 = .ok (.aload_n 0, 1) := by decide +kernel
theorem d_Mod_frame_24 : decode b_Mod_frame 24 = .ok (.iload_n 2, 1) := by decide +kernel
theorem d_Mod_frame_25 : decode b_Mod_frame 25 = .ok (.putfield 13, 3) := by decide +kernel
theorem d_Mod_frame_28 : decode b_Mod_frame 28 = .ok (.aload_n 0, 1) := by decide +kernel
theorem d_Mod_frame_29 : decode b_Mod_frame 29 = .ok (.iload_n 3, 1) := by decide +kernel
theorem d_Mod_frame_30 : decode b_Mod_frame 30 = .ok (.putfield 16, 3) := by decide +kernel
theorem d_Mod_frame_33 : decode b_Mod_frame 33 = .ok (.aload_n 0, 1) := by decide +kernel
theorem d_Mod_frame_34 : decode b_Mod_frame 34 = .ok (.iload 4, 2) := by decide +kernel
theorem d_Mod_frame_36 : decode b_Mod_frame 36 = .ok (.putfield 50, 3) := by decide +kernel
theorem d_Mod_frame_39 : decode b_Mod_frame 39 = .ok (.aload_n 0, 1) := by decide +kernel
theorem d_Mod_frame_40 : decode b_Mod_frame 40 = .ok (.invokevirtual 41, 3) := by decide +kernel
theorem d_Mod_frame_43 : decode b_Mod_frame 43 = .ok (.aload_n 0, 1) := by decide +kernel
theorem d_Mod_frame_44 : decode b_Mod_frame 44 = .ok (.invokevirtual 44, 3) := by decide +kernel
theorem d_Mod_frame_47 : decode b_Mod_frame 47 = .ok (.iconst 0, 1) := by decide +kernel
theorem d_Mod_frame_48 : decode b_Mod_frame 48 = .ok (.istore 5, 2) := by decide +kernel
theorem d_Mod_frame_50 : decode b_Mod_frame 50 = .ok (.iload 5, 2) := by decide +kernel
theorem d_Mod_frame_52 : decode b_Mod_frame 52 = .ok (.bipush 64, 2) := by decide +kernel
theorem d_Mod_frame_54 : decode b_Mod_frame 54 = .ok (.if_icmp .ge 17, 3) := by decide +kernel
theorem d_Mod_frame_57 : decode b_Mod_frame 57 = .ok (.aload_n 0, 1) := by decide +kernel
theorem d_Mod_frame_58 : decode b_Mod_frame 58 = .ok (.getfield 19, 3) := by decide +kernel
theorem d_Mod_frame_61 : decode b_Mod_frame 61 = .ok (.iload 5, 2) := by decide +kernel
theorem d_Mod_frame_63 : decode b_Mod_frame 63 = .ok (.iconst 0, 1) := by decide +kernel
theorem d_Mod_frame_64 : decode b_Mod_frame 64 = .ok (.iastore, 1) := by decide +kernel
theorem d_Mod_frame_65 : decode b_Mod_frame 65 = .ok (.iinc 5 1, 3) := by decide +kernel
theorem d_Mod_frame_68 : decode b_Mod_frame 68 = .ok (.goto (-18), 3) := by decide +kernel
theorem d_Mod_frame_71 : decode b_Mod_frame 71 = .ok (.aload_n 0, 1) := by decide +kernel
theorem d_Mod_frame_72 : decode b_Mod_frame 72 = .ok (.iconst 0, 1) := by decide +kernel
theorem d_Mod_frame_73 : decode b_Mod_frame 73 = .ok (.putfield 91, 3) := by decide +kernel
theorem d_Mod_frame_76 : decode b_Mod_frame 76 = .ok (.iconst 1, 1) := by decide +kernel
theorem d_Mod_frame_77 : decode b_Mod_frame 77 = .ok (.ireturn, 1) := by decide +kernel
theorem d_Mod_get_0 : decode b_Mod_get 0 = .ok (.aload_n 0, 1) := by decide +kernel
theorem d_Mod_get_1 : decode b_Mod_get 1 = .ok (.getfield 109, 3) := by decide +kernel
theorem d_Mod_get_4 : decode b_Mod_get 4 = .ok (.ifCond .ne 95, 3) := by decide +kernel
theorem d_Mod_get_7 : decode b_Mod_get 7 = .ok (.aload_n 0, 1) := by decide +kernel
theorem d_Mod_get_8 : decode b_Mod_get 8 = .ok (.getfield 112, 3) := by decide +kernel
theorem d_Mod_get_11 : decode b_Mod_get 11 = .ok (.sipush 255, 3) := by decide +kernel
theorem d_Mod_get_14 : decode b_Mod_get 14 = .ok (.if_icmp .ne 7, 3) := by decide +kernel
theorem d_Mod_get_17 : decode b_Mod_get 17 = .ok (.iconst 1, 1) := by decide +kernel
theorem d_Mod_get_18 : decode b_Mod_get 18 = .ok (.goto 4, 3) := by decide +kernel
theorem d_Mod_get_21 : decode b_Mod_get 21 = .ok (.iconst 0, 1) := by decide +kernel
theorem d_Mod_get_22 : decode b_Mod_get 22 = .ok (.istore_n 1, 1) := by decide +kernel
theorem d_Mod_get_23 : decode b_Mod_get 23 = .ok (.aload_n 0, 1) := by decide +kernel
theorem d_Mod_get_24 : decode b_Mod_get 24 = .ok (.getfield 115, 3) := by decide +kernel
theorem d_Mod_get_27 : decode b_Mod_get 27 = .ok (.aload_n 0, 1) := by decide +kernel
theorem d_Mod_get_28 : decode b_Mod_get 28 = .ok (.getfield 91, 3) := by decide +kernel
theorem d_Mod_get_31 : decode b_Mod_get 31 = .ok (.iconst 2, 1) := by decide +kernel
theorem d_Mod_get_32 : decode b_Mod_get 32 = .ok (.isub, 1) := by decide +kernel
theorem d_Mod_get_33 : decode b_Mod_get 33 = .ok (.if_icmp .ge 21, 3) := by decide +kernel
theorem d_Mod_get_36 : decode b_Mod_get 36 = .ok (.iload_n 1, 1) := by decide +kernel
theorem d_Mod_get_37 : decode b_Mod_get 37 = .ok (.ifCond .eq 24, 3) := by decide +kernel
theorem d_Mod_get_40 : decode b_Mod_get 40 = .ok (.aload_n 0, 1) := by decide +kernel
theorem d_Mod_get_41 : decode b_Mod_get 41 = .ok (.getfield 29, 3) := by decide +kernel
theorem d_Mod_get_44 : decode b_Mod_get 44 = .ok (.aload_n 0, 1) := by decide +kernel
theorem d_Mod_get_45 : decode b_Mod_get 45 = .ok (.getfield 115, 3) := by decide +kernel
theorem d_Mod_get_48 : decode b_Mod_get 48 = .ok (.iaload, 1) := by decide +kernel
theorem d_Mod_get_49 : decode b_Mod_get 49 = .ok (.bipush 127, 2) := by decide +kernel
theorem d_Mod_get_51 : decode b_Mod_get 51 = .ok (.if_icmp .le 10, 3) := by decide +kernel
theorem d_Mod_get_54 : decode b_Mod_get 54 = .ok (.aload_n 0, 1) := by decide +kernel
theorem d_Mod_get_55 : decode b_Mod_get 55 = .ok (.iconst 0, 1) := by decide +kernel
theorem d_Mod_get_56 : decode b_Mod_get 56 = .ok (.putfield 118, 3) := by decide +kernel
theorem d_Mod_get_59 : decode b_Mod_get 59 = .ok (.iconst 0, 1) := by decide +kernel
theorem d_Mod_get_60 : decode b_Mod_get 60 = .ok (.ireturn, 1) := by decide +kernel
theorem d_Mod_get_61 : decode b_Mod_get 61 = .ok (.aload_n 0, 1) := by decide +kernel
theorem d_Mod_get_62 : decode b_Mod_get 62 = .ok (.aload_n 0, 1) := by decide +kernel
theorem d_Mod_get_63 : decode b_Mod_get 63 = .ok (.getfield 29, 3) := by decide +kernel
theorem d_Mod_get_66 : decode b_Mod_get 66 = .ok (.aload_n 0, 1) := by decide +kernel
theorem d_Mod_get_67 : decode b_Mod_get 67 = .ok (.getfield 115, 3) := by decide +kernel
theorem d_Mod_get_70 : decode b_Mod_get 70 = .ok (.iaload, 1) := by decide +kernel
theorem d_Mod_get_71 : decode b_Mod_get 71 = .ok (.putfield 112, 3) := by decide +kernel
theorem d_Mod_get_74 : decode b_Mod_get 74 = .ok (.aload_n 0, 1) := by decide +kernel
theorem d_Mod_get_75 : decode b_Mod_get 75 = .ok (.dup, 1) := by decide +kernel
theorem d_Mod_get_76 : decode b_Mod_get 76 = .ok (.getfield 115, 3) := by decide +kernel
theorem d_Mod_get_79 : decode b_Mod_get 79 = .ok (.iconst 1, 1) := by decide +kernel
theorem d_Mod_get_80 : decode b_Mod_get 80 = .ok (.iadd, 1) := by decide +kernel
theorem d_Mod_get_81 : decode b_Mod_get 81 = .ok (.putfield 115, 3) := by decide +kernel
theorem d_Mod_get_84 : decode b_Mod_get 84 = .ok (.aload_n 0, 1) := by decide +kernel
theorem d_Mod_get_85 : decode b_Mod_get 85 = .ok (.iload_n 1, 1) := by decide +kernel
theorem d_Mod_get_86 : decode b_Mod_get 86 = .ok (.ifCond .eq 8, 3) := by decide +kernel
theorem d_Mod_get_89 : decode b_Mod_get 89 = .ok (.bipush 7, 2) := by decide +kernel
theorem d_Mod_get_91 : decode b_Mod_get 91 = .ok (.goto 5, 3) := by decide +kernel
theorem d_Mod_get_94 : decode b_Mod_get 94 = .ok (.bipush 8, 2) := by decide +kernel
theorem d_Mod_get_96 : decode b_Mod_get 96 = .ok (.putfield 109, 3) := by decide +kernel
theorem d_Mod_get_99 : decode b_Mod_get 99 = .ok (.aload_n 0, 1) := by decide +kernel
theorem d_Mod_get_100 : decode b_Mod_get 100 = .ok (.dup, 1) := by decide +kernel
theorem d_Mod_get_101 : decode b_Mod_get 101 = .ok (.getfield 109, 3) := by decide +kernel
theorem d_Mod_get_104 : decode b_Mod_get 104 = .ok (.iconst 1, 1) := by decide +kernel
theorem d_Mod_get_105 : decode b_Mod_get 105 = .ok (.isub, 1) := by decide +kernel
theorem d_Mod_get_106 : decode b_Mod_get 106 = .ok (.putfield 109, 3) := by decide +kernel
theorem d_Mod_get_109 : decode b_Mod_get 109 = .ok (.aload_n 0, 1) := by decide +kernel
theorem d_Mod_get_110 : decode b_Mod_get 110 = .ok (.getfield 112, 3) := by decide +kernel
theorem d_Mod_get_113 : decode b_Mod_get 113 = .ok (.aload_n 0, 1) := by decide +kernel
theorem d_Mod_get_114 : decode b_Mod_get 114 = .ok (.getfield 109, 3) := by decide +kernel
theorem d_Mod_get_117 : decode b_Mod_get 117 = .ok (.ishr, 1) := by decide +kernel
theorem d_Mod_get_118 : decode b_Mod_get 118 = .ok (.iconst 1, 1) := by decide +kernel
theorem d_Mod_get_119 : decode b_Mod_get 119 = .ok (.iand, 1) := by decide +kernel
theorem d_Mod_get_120 : decode b_Mod_get 120 = .ok (.ireturn, 1) := by decide +kernel
theorem d_Mod_getMany_0 : decode b_Mod_getMany 0 = .ok (.iconst 0, 1) := by decide +kernel
theorem d_Mod_getMany_1 : decode b_Mod_getMany 1 = .ok (.istore_n 2, 1) := by decide +kernel
theorem d_Mod_getMany_2 : decode b_Mod_getMany 2 = .ok (.iconst 0, 1) := by decide +kernel
theorem d_Mod_getMany_3 : decode b_Mod_getMany 3 = .ok (.istore_n 3, 1) := by decide +kernel
theorem d_Mod_getMany_4 : decode b_Mod_getMany 4 = .ok (.iload_n 3, 1) := by decide +kernel
theorem d_Mod_getMany_5 : decode b_Mod_getMany 5 = .ok (.iload_n 1, 1) := by decide +kernel
theorem d_Mod_getMany_6 : decode b_Mod_getMany 6 = .ok (.if_icmp .ge 25, 3) := by decide +kernel
theorem d_Mod_getMany_9 : decode b_Mod_getMany 9 = .ok (.aload_n 0, 1) := by decide +kernel
theorem d_Mod_getMany_10 : decode b_Mod_getMany 10 = .ok (.getfield 118, 3) := by decide +kernel
theorem d_Mod_getMany_13 : decode b_Mod_getMany 13 = .ok (.ifCond .eq 18, 3) := by decide +kernel
theorem d_Mod_getMany_16 : decode b_Mod_getMany 16 = .ok (.iconst 2, 1) := by decide +kernel
theorem d_Mod_getMany_17 : decode b_Mod_getMany 17 = .ok (.iload_n 2, 1) := by decide +kernel
theorem d_Mod_getMany_18 : decode b_Mod_getMany 18 = .ok (.imul, 1) := by decide +kernel
theorem d_Mod_getMany_19 : decode b_Mod_getMany 19 = .ok (.aload_n 0, 1) := by decide +kernel
theorem d_Mod_getMany_20 : decode b_Mod_getMany 20 = .ok (.invokevirtual 122, 3) := by decide +kernel
theorem d_Mod_getMany_23 : decode b_Mod_getMany 23 = .ok (.iadd, 1) := by decide +kernel
theorem d_Mod_getMany_24 : decode b_Mod_getMany 24 = .ok (.istore_n 2, 1) := by decide +kernel
theorem d_Mod_getMany_25 : decode b_Mod_getMany 25 = .ok (.iinc 3 1, 3) := by decide +kernel
theorem d_Mod_getMany_28 : decode b_Mod_getMany 28 = .ok (.goto (-24), 3) := by decide +kernel
theorem d_Mod_getMany_31 : decode b_Mod_getMany 31 = .ok (.iload_n 2, 1) := by decide +kernel
theorem d_Mod_getMany_32 : decode b_Mod_getMany 32 = .ok (.ireturn, 1) := by decide +kernel
theorem d_Mod_greater_0 : decode b_Mod_greater 0 = .ok (.iload_n 0, 1) := by decide +kernel
theorem d_Mod_greater_1 : decode b_Mod_greater 1 = .ok (.iload_n 1, 1) := by decide +kernel
theorem d_Mod_greater_2 : decode b_Mod_greater 2 = .ok (.if_icmp .le 7, 3) := by decide +kernel
theorem d_Mod_greater_5 : decode b_Mod_greater 5 = .ok (.iload_n 0, 1) := by decide +kernel
theorem d_Mod_greater_6 : decode b_Mod_greater 6 = .ok (.goto 4, 3) := by decide +kernel
theorem d_Mod_greater_9 : decode b_Mod_greater 9 = .ok (.iload_n 1, 1) := by decide +kernel
theorem d_Mod_greater_10 : decode b_Mod_greater 10 = .ok (.ireturn, 1) := by decide +kernel
theorem d_Mod_half_0 : decode b_Mod_half 0 = .ok (.iload_n 0, 1) := by decide +kernel
theorem d_Mod_half_1 : decode b_Mod_half 1 = .ok (.iconst 1, 1) := by decide +kernel
theorem d_Mod_half_2 : decode b_Mod_half 2 = .ok (.ishr, 1) := by decide +kernel
theorem d_Mod_half_3 : decode b_Mod_half 3 = .ok (.ireturn, 1) := by decide +kernel
theorem d_Mod_held_0 : decode b_Mod_held 0 = .ok (.iload_n 1, 1) := by decide +kernel
theorem d_Mod_held_1 : decode b_Mod_held 1 = .ok (.ifCond .ge 7, 3) := by decide +kernel
theorem d_Mod_held_4 : decode b_Mod_held 4 = .ok (.iconst 0, 1) := by decide +kernel
theorem d_Mod_held_5 : decode b_Mod_held 5 = .ok (.goto 19, 3) := by decide +kernel
theorem d_Mod_held_8 : decode b_Mod_held 8 = .ok (.iload_n 1, 1) := by decide +kernel
theorem d_Mod_held_9 : decode b_Mod_held 9 = .ok (.aload_n 0, 1) := by decide +kernel
theorem d_Mod_held_10 : decode b_Mod_held 10 = .ok (.getfield 16, 3) := by decide +kernel
theorem d_Mod_held_13 : decode b_Mod_held 13 = .ok (.if_icmp .le 10, 3) := by decide +kernel
theorem d_Mod_held_16 : decode b_Mod_held 16 = .ok (.aload_n 0, 1) := by decide +kernel
theorem d_Mod_held_17 : decode b_Mod_held 17 = .ok (.getfield 16, 3) := by decide +kernel
theorem d_Mod_held_20 : decode b_Mod_held 20 = .ok (.goto 4, 3) := by decide +kernel
theorem d_Mod_held_23 : decode b_Mod_held 23 = .ok (.iload_n 1, 1) := by decide +kernel
theorem d_Mod_held_24 : decode b_Mod_held 24 = .ok (.ireturn, 1) := by decide +kernel
theorem d_Mod_isNear_0 : decode b_Mod_isNear 0 = .ok (.iload_n 1, 1) := by decide +kernel
theorem d_Mod_isNear_1 : decode b_Mod_isNear 1 = .ok (.aload_n 0, 1) := by decide +kernel
theorem d_Mod_isNear_2 : decode b_Mod_isNear 2 = .ok (.getfield 50, 3) := by decide +kernel
theorem d_Mod_isNear_5 : decode b_Mod_isNear 5 = .ok (.ineg, 1) := by decide +kernel
theorem d_Mod_isNear_6 : decode b_Mod_isNear 6 = .ok (.if_icmp .lt 15, 3) := by decide +kernel
theorem d_Mod_isNear_9 : decode b_Mod_isNear 9 = .ok (.iload_n 1, 1) := by decide +kernel
theorem d_Mod_isNear_10 : decode b_Mod_isNear 10 = .ok (.aload_n 0, 1) := by decide +kernel
theorem d_Mod_isNear_11 : decode b_Mod_isNear 11 = .ok (.getfield 50, 3) := by decide +kernel
theorem d_Mod_isNear_14 : decode b_Mod_isNear 14 = .ok (.if_icmp .gt 7, 3) := by decide +kernel
theorem d_Mod_isNear_17 : decode b_Mod_isNear 17 = .ok (.iconst 1, 1) := by decide +kernel
theorem d_Mod_isNear_18 : decode b_Mod_isNear 18 = .ok (.goto 4, 3) := by decide +kernel
theorem d_Mod_isNear_21 : decode b_Mod_isNear 21 = .ok (.iconst 0, 1) := by decide +kernel
theorem d_Mod_isNear_22 : decode b_Mod_isNear 22 = .ok (.ireturn, 1) := by decide +kernel
theorem d_Mod_isPlace_0 : decode b_Mod_isPlace 0 = .ok (.iload_n 1, 1) := by decide +kernel
theorem d_Mod_isPlace_1 : decode b_Mod_isPlace 1 = .ok (.ifCond .lt 27, 3) := by decide +kernel
theorem d_Mod_isPlace_4 : decode b_Mod_isPlace 4 = .ok (.iload_n 1, 1) := by decide +kernel
theorem d_Mod_isPlace_5 : decode b_Mod_isPlace 5 = .ok (.aload_n 0, 1) := by decide +kernel
theorem d_Mod_isPlace_6 : decode b_Mod_isPlace 6 = .ok (.getfield 7, 3) := by decide +kernel
theorem d_Mod_isPlace_9 : decode b_Mod_isPlace 9 = .ok (.if_icmp .ge 19, 3) := by decide +kernel
theorem d_Mod_isPlace_12 : decode b_Mod_isPlace 12 = .ok (.iload_n 2, 1) := by decide +kernel
theorem d_Mod_isPlace_13 : decode b_Mod_isPlace 13 = .ok (.ifCond .lt 15, 3) := by decide +kernel
theorem d_Mod_isPlace_16 : decode b_Mod_isPlace 16 = .ok (.iload_n 2, 1) := by decide +kernel
theorem d_Mod_isPlace_17 : decode b_Mod_isPlace 17 = .ok (.aload_n 0, 1) := by decide +kernel
theorem d_Mod_isPlace_18 : decode b_Mod_isPlace 18 = .ok (.getfield 13, 3) := by decide +kernel
theorem d_Mod_isPlace_21 : decode b_Mod_isPlace 21 = .ok (.if_icmp .ge 7, 3) := by decide +kernel
theorem d_Mod_isPlace_24 : decode b_Mod_isPlace 24 = .ok (.iconst 1, 1) := by decide +kernel
theorem d_Mod_isPlace_25 : decode b_Mod_isPlace 25 = .ok (.goto 4, 3) := by decide +kernel
theorem d_Mod_isPlace_28 : decode b_Mod_isPlace 28 = .ok (.iconst 0, 1) := by decide +kernel
theorem d_Mod_isPlace_29 : decode b_Mod_isPlace 29 = .ok (.ireturn, 1) := by decide +kernel
end
section
theorem d_Mod_jOf_0 : decode b_Mod_jOf 0 = .ok (.iload_n 1, 1) := by decide +kernel
theorem d_Mod_jOf_1 : decode b_Mod_jOf 1 = .ok (.bipush 16, 2) := by decide +kernel
theorem d_Mod_jOf_3 : decode b_Mod_jOf 3 = .ok (.if_icmp .ge 9, 3) := by decide +kernel
theorem d_Mod_jOf_6 : decode b_Mod_jOf 6 = .ok (.iload_n 1, 1) := by decide +kernel
theorem d_Mod_jOf_7 : decode b_Mod_jOf 7 = .ok (.iconst 4, 1) := by decide +kernel
theorem d_Mod_jOf_8 : decode b_Mod_jOf 8 = .ok (.idiv, 1) := by decide +kernel
theorem d_Mod_jOf_9 : decode b_Mod_jOf 9 = .ok (.goto 24, 3) := by decide +kernel
theorem d_Mod_jOf_12 : decode b_Mod_jOf 12 = .ok (.iload_n 1, 1) := by decide +kernel
theorem d_Mod_jOf_13 : decode b_Mod_jOf 13 = .ok (.bipush 24, 2) := by decide +kernel
theorem d_Mod_jOf_15 : decode b_Mod_jOf 15 = .ok (.if_icmp .ge 14, 3) := by decide +kernel
theorem d_Mod_jOf_18 : decode b_Mod_jOf 18 = .ok (.iconst 4, 1) := by decide +kernel
theorem d_Mod_jOf_19 : decode b_Mod_jOf 19 = .ok (.iload_n 1, 1) := by decide +kernel
theorem d_Mod_jOf_20 : decode b_Mod_jOf 20 = .ok (.bipush 16, 2) := by decide +kernel
theorem d_Mod_jOf_22 : decode b_Mod_jOf 22 = .ok (.isub, 1) := by decide +kernel
theorem d_Mod_jOf_23 : decode b_Mod_jOf 23 = .ok (.iconst 2, 1) := by decide +kernel
theorem d_Mod_jOf_24 : decode b_Mod_jOf 24 = .ok (.idiv, 1) := by decide +kernel
theorem d_Mod_jOf_25 : decode b_Mod_jOf 25 = .ok (.iadd, 1) := by decide +kernel
theorem d_Mod_jOf_26 : decode b_Mod_jOf 26 = .ok (.goto 7, 3) := by decide +kernel
theorem d_Mod_jOf_29 : decode b_Mod_jOf 29 = .ok (.iload_n 1, 1) := by decide +kernel
theorem d_Mod_jOf_30 : decode b_Mod_jOf 30 = .ok (.bipush 16, 2) := by decide +kernel
theorem d_Mod_jOf_32 : decode b_Mod_jOf 32 = .ok (.isub, 1) := by decide +kernel
theorem d_Mod_jOf_33 : decode b_Mod_jOf 33 = .ok (.ireturn, 1) := by decide +kernel
theorem d_Mod_kFor_0 : decode b_Mod_kFor 0 = .ok (.iconst 0, 1) := by decide +kernel
theorem d_Mod_kFor_1 : decode b_Mod_kFor 1 = .ok (.istore_n 2, 1) := by decide +kernel
theorem d_Mod_kFor_2 : decode b_Mod_kFor 2 = .ok (.iload_n 0, 1) := by decide +kernel
theorem d_Mod_kFor_3 : decode b_Mod_kFor 3 = .ok (.iload_n 2, 1) := by decide +kernel
theorem d_Mod_kFor_4 : decode b_Mod_kFor 4 = .ok (.ishl, 1) := by decide +kernel
theorem d_Mod_kFor_5 : decode b_Mod_kFor 5 = .ok (.iload_n 1, 1) := by decide +kernel
theorem d_Mod_kFor_6 : decode b_Mod_kFor 6 = .ok (.if_icmp .ge 9, 3) := by decide +kernel
theorem d_Mod_kFor_9 : decode b_Mod_kFor 9 = .ok (.iinc 2 1, 3) := by decide +kernel
theorem d_Mod_kFor_12 : decode b_Mod_kFor 12 = .ok (.goto (-10), 3) := by decide +kernel
theorem d_Mod_kFor_15 : decode b_Mod_kFor 15 = .ok (.iload_n 2, 1) := by decide +kernel
theorem d_Mod_kFor_16 : decode b_Mod_kFor 16 = .ok (.ireturn, 1) := by decide +kernel
theorem d_Mod_keep_0 : decode b_Mod_keep 0 = .ok (.iconst 0, 1) := by decide +kernel
theorem d_Mod_keep_1 : decode b_Mod_keep 1 = .ok (.istore_n 1, 1) := by decide +kernel
theorem d_Mod_keep_2 : decode b_Mod_keep 2 = .ok (.iload_n 1, 1) := by decide +kernel
theorem d_Mod_keep_3 : decode b_Mod_keep 3 = .ok (.bipush 64, 2) := by decide +kernel
theorem d_Mod_keep_5 : decode b_Mod_keep 5 = .ok (.if_icmp .ge 33, 3) := by decide +kernel
theorem d_Mod_keep_8 : decode b_Mod_keep 8 = .ok (.aload_n 0, 1) := by decide +kernel
theorem d_Mod_keep_9 : decode b_Mod_keep 9 = .ok (.getfield 32, 3) := by decide +kernel
theorem d_Mod_keep_12 : decode b_Mod_keep 12 = .ok (.iload_n 1, 1) := by decide +kernel
theorem d_Mod_keep_13 : decode b_Mod_keep 13 = .ok (.aload_n 0, 1) := by decide +kernel
theorem d_Mod_keep_14 : decode b_Mod_keep 14 = .ok (.getfield 19, 3) := by decide +kernel
theorem d_Mod_keep_17 : decode b_Mod_keep 17 = .ok (.iload_n 1, 1) := by decide +kernel
theorem d_Mod_keep_18 : decode b_Mod_keep 18 = .ok (.iaload, 1) := by decide +kernel
theorem d_Mod_keep_19 : decode b_Mod_keep 19 = .ok (.iastore, 1) := by decide +kernel
theorem d_Mod_keep_20 : decode b_Mod_keep 20 = .ok (.aload_n 0, 1) := by decide +kernel
theorem d_Mod_keep_21 : decode b_Mod_keep 21 = .ok (.getfield 35, 3) := by decide +kernel
theorem d_Mod_keep_24 : decode b_Mod_keep 24 = .ok (.iload_n 1, 1) := by decide +kernel
theorem d_Mod_keep_25 : decode b_Mod_keep 25 = .ok (.aload_n 0, 1) := by decide +kernel
theorem d_Mod_keep_26 : decode b_Mod_keep 26 = .ok (.getfield 23, 3) := by decide +kernel
theorem d_Mod_keep_29 : decode b_Mod_keep 29 = .ok (.iload_n 1, 1) := by decide +kernel
theorem d_Mod_keep_30 : decode b_Mod_keep 30 = .ok (.iaload, 1) := by decide +kernel
theorem d_Mod_keep_31 : decode b_Mod_keep 31 = .ok (.iastore, 1) := by decide +kernel
theorem d_Mod_keep_32 : decode b_Mod_keep 32 = .ok (.iinc 1 1, 3) := by decide +kernel
theorem d_Mod_keep_35 : decode b_Mod_keep 35 = .ok (.goto (-33), 3) := by decide +kernel
theorem d_Mod_keep_38 : decode b_Mod_keep 38 = .ok (.iconst 0, 1) := by decide +kernel
theorem d_Mod_keep_39 : decode b_Mod_keep 39 = .ok (.istore_n 1, 1) := by decide +kernel
theorem d_Mod_keep_40 : decode b_Mod_keep 40 = .ok (.iload_n 1, 1) := by decide +kernel
theorem d_Mod_keep_41 : decode b_Mod_keep 41 = .ok (.sipush 1835, 3) := by decide +kernel
theorem d_Mod_keep_44 : decode b_Mod_keep 44 = .ok (.if_icmp .ge 21, 3) := by decide +kernel
theorem d_Mod_keep_47 : decode b_Mod_keep 47 = .ok (.aload_n 0, 1) := by decide +kernel
theorem d_Mod_keep_48 : decode b_Mod_keep 48 = .ok (.getfield 38, 3) := by decide +kernel
theorem d_Mod_keep_51 : decode b_Mod_keep 51 = .ok (.iload_n 1, 1) := by decide +kernel
theorem d_Mod_keep_52 : decode b_Mod_keep 52 = .ok (.aload_n 0, 1) := by decide +kernel
theorem d_Mod_keep_53 : decode b_Mod_keep 53 = .ok (.getfield 26, 3) := by decide +kernel
theorem d_Mod_keep_56 : decode b_Mod_keep 56 = .ok (.iload_n 1, 1) := by decide +kernel
theorem d_Mod_keep_57 : decode b_Mod_keep 57 = .ok (.iaload, 1) := by decide +kernel
theorem d_Mod_keep_58 : decode b_Mod_keep 58 = .ok (.iastore, 1) := by decide +kernel
theorem d_Mod_keep_59 : decode b_Mod_keep 59 = .ok (.iinc 1 1, 3) := by decide +kernel
theorem d_Mod_keep_62 : decode b_Mod_keep 62 = .ok (.goto (-22), 3) := by decide +kernel
theorem d_Mod_keep_65 : decode b_Mod_keep 65 = .ok (.return_, 1) := by decide +kernel
theorem d_Mod_learn_0 : decode b_Mod_learn 0 = .ok (.aload_n 0, 1) := by decide +kernel
theorem d_Mod_learn_1 : decode b_Mod_learn 1 = .ok (.getfield 26, 3) := by decide +kernel
theorem d_Mod_learn_4 : decode b_Mod_learn 4 = .ok (.iload_n 1, 1) := by decide +kernel
theorem d_Mod_learn_5 : decode b_Mod_learn 5 = .ok (.iconst 1, 1) := by decide +kernel
theorem d_Mod_learn_6 : decode b_Mod_learn 6 = .ok (.iadd, 1) := by decide +kernel
theorem d_Mod_learn_7 : decode b_Mod_learn 7 = .ok (.dup2, 1) := by decide +kernel
theorem d_Mod_learn_8 : decode b_Mod_learn 8 = .ok (.iaload, 1) := by decide +kernel
theorem d_Mod_learn_9 : decode b_Mod_learn 9 = .ok (.iload_n 2, 1) := by decide +kernel
theorem d_Mod_learn_10 : decode b_Mod_learn 10 = .ok (.aload_n 0, 1) := by decide +kernel
theorem d_Mod_learn_11 : decode b_Mod_learn 11 = .ok (.getfield 53, 3) := by decide +kernel
theorem d_Mod_learn_14 : decode b_Mod_learn 14 = .ok (.imul, 1) := by decide +kernel
theorem d_Mod_learn_15 : decode b_Mod_learn 15 = .ok (.iadd, 1) := by decide +kernel
theorem d_Mod_learn_16 : decode b_Mod_learn 16 = .ok (.iastore, 1) := by decide +kernel
theorem d_Mod_learn_17 : decode b_Mod_learn 17 = .ok (.aload_n 0, 1) := by decide +kernel
theorem d_Mod_learn_18 : decode b_Mod_learn 18 = .ok (.getfield 26, 3) := by decide +kernel
theorem d_Mod_learn_21 : decode b_Mod_learn 21 = .ok (.iload_n 1, 1) := by decide +kernel
theorem d_Mod_learn_22 : decode b_Mod_learn 22 = .ok (.dup2, 1) := by decide +kernel
theorem d_Mod_learn_23 : decode b_Mod_learn 23 = .ok (.iaload, 1) := by decide +kernel
theorem d_Mod_learn_24 : decode b_Mod_learn 24 = .ok (.iload_n 2, 1) := by decide +kernel
theorem d_Mod_learn_25 : decode b_Mod_learn 25 = .ok (.ifCond .ge 8, 3) := by decide +kernel
theorem d_Mod_learn_28 : decode b_Mod_learn 28 = .ok (.iload_n 2, 1) := by decide +kernel
theorem d_Mod_learn_29 : decode b_Mod_learn 29 = .ok (.ineg, 1) := by decide +kernel
theorem d_Mod_learn_30 : decode b_Mod_learn 30 = .ok (.goto 4, 3) := by decide +kernel
theorem d_Mod_learn_33 : decode b_Mod_learn 33 = .ok (.iload_n 2, 1) := by decide +kernel
theorem d_Mod_learn_34 : decode b_Mod_learn 34 = .ok (.iadd, 1) := by decide +kernel
theorem d_Mod_learn_35 : decode b_Mod_learn 35 = .ok (.iastore, 1) := by decide +kernel
theorem d_Mod_learn_36 : decode b_Mod_learn 36 = .ok (.aload_n 0, 1) := by decide +kernel
theorem d_Mod_learn_37 : decode b_Mod_learn 37 = .ok (.getfield 26, 3) := by decide +kernel
theorem d_Mod_learn_40 : decode b_Mod_learn 40 = .ok (.iload_n 1, 1) := by decide +kernel
theorem d_Mod_learn_41 : decode b_Mod_learn 41 = .ok (.iconst 3, 1) := by decide +kernel
theorem d_Mod_learn_42 : decode b_Mod_learn 42 = .ok (.iadd, 1) := by decide +kernel
theorem d_Mod_learn_43 : decode b_Mod_learn 43 = .ok (.iaload, 1) := by decide +kernel
theorem d_Mod_learn_44 : decode b_Mod_learn 44 = .ok (.bipush 64, 2) := by decide +kernel
theorem d_Mod_learn_46 : decode b_Mod_learn 46 = .ok (.if_icmp .ne 47, 3) := by decide +kernel
theorem d_Mod_learn_49 : decode b_Mod_learn 49 = .ok (.aload_n 0, 1) := by decide +kernel
theorem d_Mod_learn_50 : decode b_Mod_learn 50 = .ok (.getfield 26, 3) := by decide +kernel
theorem d_Mod_learn_53 : decode b_Mod_learn 53 = .ok (.iload_n 1, 1) := by decide +kernel
theorem d_Mod_learn_54 : decode b_Mod_learn 54 = .ok (.aload_n 0, 1) := by decide +kernel
theorem d_Mod_learn_55 : decode b_Mod_learn 55 = .ok (.getfield 26, 3) := by decide +kernel
theorem d_Mod_learn_58 : decode b_Mod_learn 58 = .ok (.iload_n 1, 1) := by decide +kernel
theorem d_Mod_learn_59 : decode b_Mod_learn 59 = .ok (.iaload, 1) := by decide +kernel
theorem d_Mod_learn_60 : decode b_Mod_learn 60 = .ok (.invokestatic 188, 3) := by decide +kernel
theorem d_Mod_learn_63 : decode b_Mod_learn 63 = .ok (.iastore, 1) := by decide +kernel
theorem d_Mod_learn_64 : decode b_Mod_learn 64 = .ok (.aload_n 0, 1) := by decide +kernel
theorem d_Mod_learn_65 : decode b_Mod_learn 65 = .ok (.getfield 26, 3) := by decide +kernel
theorem d_Mod_learn_68 : decode b_Mod_learn 68 = .ok (.iload_n 1, 1) := by decide +kernel
theorem d_Mod_learn_69 : decode b_Mod_learn 69 = .ok (.iconst 1, 1) := by decide +kernel
theorem d_Mod_learn_70 : decode b_Mod_learn 70 = .ok (.iadd, 1) := by decide +kernel
theorem d_Mod_learn_71 : decode b_Mod_learn 71 = .ok (.aload_n 0, 1) := by decide +kernel
theorem d_Mod_learn_72 : decode b_Mod_learn 72 = .ok (.getfield 26, 3) := by decide +kernel
theorem d_Mod_learn_75 : decode b_Mod_learn 75 = .ok (.iload_n 1, 1) := by decide +kernel
theorem d_Mod_learn_76 : decode b_Mod_learn 76 = .ok (.iconst 1, 1) := by decide +kernel
theorem d_Mod_learn_77 : decode b_Mod_learn 77 = .ok (.iadd, 1) := by decide +kernel
theorem d_Mod_learn_78 : decode b_Mod_learn 78 = .ok (.iaload, 1) := by decide +kernel
theorem d_Mod_learn_79 : decode b_Mod_learn 79 = .ok (.invokestatic 188, 3) := by decide +kernel
theorem d_Mod_learn_82 : decode b_Mod_learn 82 = .ok (.iastore, 1) := by decide +kernel
theorem d_Mod_learn_83 : decode b_Mod_learn 83 = .ok (.aload_n 0, 1) := by decide +kernel
theorem d_Mod_learn_84 : decode b_Mod_learn 84 = .ok (.getfield 26, 3) := by decide +kernel
theorem d_Mod_learn_87 : decode b_Mod_learn 87 = .ok (.iload_n 1, 1) := by decide +kernel
theorem d_Mod_learn_88 : decode b_Mod_learn 88 = .ok (.iconst 3, 1) := by decide +kernel
theorem d_Mod_learn_89 : decode b_Mod_learn 89 = .ok (.iadd, 1) := by decide +kernel
theorem d_Mod_learn_90 : decode b_Mod_learn 90 = .ok (.bipush 32, 2) := by decide +kernel
theorem d_Mod_learn_92 : decode b_Mod_learn 92 = .ok (.iastore, 1) := by decide +kernel
theorem d_Mod_learn_93 : decode b_Mod_learn 93 = .ok (.aload_n 0, 1) := by decide +kernel
theorem d_Mod_learn_94 : decode b_Mod_learn 94 = .ok (.getfield 26, 3) := by decide +kernel
theorem d_Mod_learn_97 : decode b_Mod_learn 97 = .ok (.iload_n 1, 1) := by decide +kernel
theorem d_Mod_learn_98 : decode b_Mod_learn 98 = .ok (.iconst 3, 1) := by decide +kernel
theorem d_Mod_learn_99 : decode b_Mod_learn 99 = .ok (.iadd, 1) := by decide +kernel
theorem d_Mod_learn_100 : decode b_Mod_learn 100 = .ok (.dup2, 1) := by decide +kernel
theorem d_Mod_learn_101 : decode b_Mod_learn 101 = .ok (.iaload, 1) := by decide +kernel
theorem d_Mod_learn_102 : decode b_Mod_learn 102 = .ok (.iconst 1, 1) := by decide +kernel
theorem d_Mod_learn_103 : decode b_Mod_learn 103 = .ok (.iadd, 1) := by decide +kernel
theorem d_Mod_learn_104 : decode b_Mod_learn 104 = .ok (.iastore, 1) := by decide +kernel
theorem d_Mod_learn_105 : decode b_Mod_learn 105 = .ok (.aload_n 0, 1) := by decide +kernel
theorem d_Mod_learn_106 : decode b_Mod_learn 106 = .ok (.getfield 26, 3) := by decide +kernel
theorem d_Mod_learn_109 : decode b_Mod_learn 109 = .ok (.iload_n 1, 1) := by decide +kernel
theorem d_Mod_learn_110 : decode b_Mod_learn 110 = .ok (.iconst 3, 1) := by decide +kernel
theorem d_Mod_learn_111 : decode b_Mod_learn 111 = .ok (.iadd, 1) := by decide +kernel
theorem d_Mod_learn_112 : decode b_Mod_learn 112 = .ok (.iaload, 1) := by decide +kernel
theorem d_Mod_learn_113 : decode b_Mod_learn 113 = .ok (.istore_n 3, 1) := by decide +kernel
theorem d_Mod_learn_114 : decode b_Mod_learn 114 = .ok (.aload_n 0, 1) := by decide +kernel
theorem d_Mod_learn_115 : decode b_Mod_learn 115 = .ok (.getfield 26, 3) := by decide +kernel
theorem d_Mod_learn_118 : decode b_Mod_learn 118 = .ok (.iload_n 1, 1) := by decide +kernel
theorem d_Mod_learn_119 : decode b_Mod_learn 119 = .ok (.iconst 1, 1) := by decide +kernel
theorem d_Mod_learn_120 : decode b_Mod_learn 120 = .ok (.iadd, 1) := by decide +kernel
theorem d_Mod_learn_121 : decode b_Mod_learn 121 = .ok (.iaload, 1) := by decide +kernel
theorem d_Mod_learn_122 : decode b_Mod_learn 122 = .ok (.istore 4, 2) := by decide +kernel
theorem d_Mod_learn_124 : decode b_Mod_learn 124 = .ok (.aload_n 0, 1) := by decide +kernel
theorem d_Mod_learn_125 : decode b_Mod_learn 125 = .ok (.getfield 26, 3) := by decide +kernel
theorem d_Mod_learn_128 : decode b_Mod_learn 128 = .ok (.iload_n 1, 1) := by decide +kernel
theorem d_Mod_learn_129 : decode b_Mod_learn 129 = .ok (.iconst 2, 1) := by decide +kernel
theorem d_Mod_learn_130 : decode b_Mod_learn 130 = .ok (.iadd, 1) := by decide +kernel
theorem d_Mod_learn_131 : decode b_Mod_learn 131 = .ok (.iaload, 1) := by decide +kernel
theorem d_Mod_learn_132 : decode b_Mod_learn 132 = .ok (.istore 5, 2) := by decide +kernel
theorem d_Mod_learn_134 : decode b_Mod_learn 134 = .ok (.iload 4, 2) := by decide +kernel
theorem d_Mod_learn_136 : decode b_Mod_learn 136 = .ok (.iload_n 3, 1) := by decide +kernel
theorem d_Mod_learn_137 : decode b_Mod_learn 137 = .ok (.ineg, 1) := by decide +kernel
theorem d_Mod_learn_138 : decode b_Mod_learn 138 = .ok (.if_icmp .gt 47, 3) := by decide +kernel
theorem d_Mod_learn_141 : decode b_Mod_learn 141 = .ok (.iload 4, 2) := by decide +kernel
theorem d_Mod_learn_143 : decode b_Mod_learn 143 = .ok (.iload_n 3, 1) := by decide +kernel
theorem d_Mod_learn_144 : decode b_Mod_learn 144 = .ok (.iadd, 1) := by decide +kernel
theorem d_Mod_learn_145 : decode b_Mod_learn 145 = .ok (.istore 4, 2) := by decide +kernel
theorem d_Mod_learn_147 : decode b_Mod_learn 147 = .ok (.iload 5, 2) := by decide +kernel
theorem d_Mod_learn_149 : decode b_Mod_learn 149 = .ok (.bipush (-128), 2) := by decide +kernel
theorem d_Mod_learn_151 : decode b_Mod_learn 151 = .ok (.if_icmp .le 10, 3) := by decide +kernel
theorem d_Mod_learn_154 : decode b_Mod_learn 154 = .ok (.iload 5, 2) := by decide +kernel
theorem d_Mod_learn_156 : decode b_Mod_learn 156 = .ok (.iconst 1, 1) := by decide +kernel
theorem d_Mod_learn_157 : decode b_Mod_learn 157 = .ok (.isub, 1) := by decide +kernel
theorem d_Mod_learn_158 : decode b_Mod_learn 158 = .ok (.goto 5, 3) := by decide +kernel
theorem d_Mod_learn_161 : decode b_Mod_learn 161 = .ok (.iload 5, 2) := by decide +kernel
theorem d_Mod_learn_163 : decode b_Mod_learn 163 = .ok (.istore 5, 2) := by decide +kernel
theorem d_Mod_learn_165 : decode b_Mod_learn 165 = .ok (.iload 4, 2) := by decide +kernel
theorem d_Mod_learn_167 : decode b_Mod_learn 167 = .ok (.iload_n 3, 1) := by decide +kernel
theorem d_Mod_learn_168 : decode b_Mod_learn 168 = .ok (.ineg, 1) := by decide +kernel
theorem d_Mod_learn_169 : decode b_Mod_learn 169 = .ok (.if_icmp .gt 9, 3) := by decide +kernel
theorem d_Mod_learn_172 : decode b_Mod_learn 172 = .ok (.iconst 1, 1) := by decide +kernel
theorem d_Mod_learn_173 : decode b_Mod_learn 173 = .ok (.iload_n 3, 1) := by decide +kernel
theorem d_Mod_learn_174 : decode b_Mod_learn 174 = .ok (.isub, 1) := by decide +kernel
theorem d_Mod_learn_175 : decode b_Mod_learn 175 = .ok (.goto 5, 3) := by decide +kernel
theorem d_Mod_learn_178 : decode b_Mod_learn 178 = .ok (.iload 4, 2) := by decide +kernel
theorem d_Mod_learn_180 : decode b_Mod_learn 180 = .ok (.istore 4, 2) := by decide +kernel
theorem d_Mod_learn_182 : decode b_Mod_learn 182 = .ok (.goto 45, 3) := by decide +kernel
theorem d_Mod_learn_185 : decode b_Mod_learn 185 = .ok (.iload 4, 2) := by decide +kernel
theorem d_Mod_learn_187 : decode b_Mod_learn 187 = .ok (.ifCond .le 40, 3) := by decide +kernel
theorem d_Mod_learn_190 : decode b_Mod_learn 190 = .ok (.iload 4, 2) := by decide +kernel
theorem d_Mod_learn_192 : decode b_Mod_learn 192 = .ok (.iload_n 3, 1) := by decide +kernel
theorem d_Mod_learn_193 : decode b_Mod_learn 193 = .ok (.isub, 1) := by decide +kernel
theorem d_Mod_learn_194 : decode b_Mod_learn 194 = .ok (.istore 4, 2) := by decide +kernel
theorem d_Mod_learn_196 : decode b_Mod_learn 196 = .ok (.iload 5, 2) := by decide +kernel
theorem d_Mod_learn_198 : decode b_Mod_learn 198 = .ok (.bipush 127, 2) := by decide +kernel
theorem d_Mod_learn_200 : decode b_Mod_learn 200 = .ok (.if_icmp .ge 10, 3) := by decide +kernel
theorem d_Mod_learn_203 : decode b_Mod_learn 203 = .ok (.iload 5, 2) := by decide +kernel
theorem d_Mod_learn_205 : decode b_Mod_learn 205 = .ok (.iconst 1, 1) := by decide +kernel
theorem d_Mod_learn_206 : decode b_Mod_learn 206 = .ok (.iadd, 1) := by decide +kernel
theorem d_Mod_learn_207 : decode b_Mod_learn 207 = .ok (.goto 5, 3) := by decide +kernel
theorem d_Mod_learn_210 : decode b_Mod_learn 210 = .ok (.iload 5, 2) := by decide +kernel
theorem d_Mod_learn_212 : decode b_Mod_learn 212 = .ok (.istore 5, 2) := by decide +kernel
theorem d_Mod_learn_214 : decode b_Mod_learn 214 = .ok (.iload 4, 2) := by decide +kernel
theorem d_Mod_learn_216 : decode b_Mod_learn 216 = .ok (.ifCond .le 7, 3) := by decide +kernel
theorem d_Mod_learn_219 : decode b_Mod_learn 219 = .ok (.iconst 0, 1) := by decide +kernel
theorem d_Mod_learn_220 : decode b_Mod_learn 220 = .ok (.goto 5, 3) := by decide +kernel
theorem d_Mod_learn_223 : decode b_Mod_learn 223 = .ok (.iload 4, 2) := by decide +kernel
theorem d_Mod_learn_225 : decode b_Mod_learn 225 = .ok (.istore 4, 2) := by decide +kernel
theorem d_Mod_learn_227 : decode b_Mod_learn 227 = .ok (.aload_n 0, 1) := by decide +kernel
theorem d_Mod_learn_228 : decode b_Mod_learn 228 = .ok (.getfield 26, 3) := by decide +kernel
theorem d_Mod_learn_231 : decode b_Mod_learn 231 = .ok (.iload_n 1, 1) := by decide +kernel
theorem d_Mod_learn_232 : decode b_Mod_learn 232 = .ok (.iconst 1, 1) := by decide +kernel
theorem d_Mod_learn_233 : decode b_Mod_learn 233 = .ok (.iadd, 1) := by decide +kernel
theorem d_Mod_learn_234 : decode b_Mod_learn 234 = .ok (.iload 4, 2) := by decide +kernel
theorem d_Mod_learn_236 : decode b_Mod_learn 236 = .ok (.iastore, 1) := by decide +kernel
theorem d_Mod_learn_237 : decode b_Mod_learn 237 = .ok (.aload_n 0, 1) := by decide +kernel
theorem d_Mod_learn_238 : decode b_Mod_learn 238 = .ok (.getfield 26, 3) := by decide +kernel
theorem d_Mod_learn_241 : decode b_Mod_learn 241 = .ok (.iload_n 1, 1) := by decide +kernel
theorem d_Mod_learn_242 : decode b_Mod_learn 242 = .ok (.iconst 2, 1) := by decide +kernel
theorem d_Mod_learn_243 : decode b_Mod_learn 243 = .ok (.iadd, 1) := by decide +kernel
theorem d_Mod_learn_244 : decode b_Mod_learn 244 = .ok (.iload 5, 2) := by decide +kernel
theorem d_Mod_learn_246 : decode b_Mod_learn 246 = .ok (.iastore, 1) := by decide +kernel
theorem d_Mod_learn_247 : decode b_Mod_learn 247 = .ok (.return_, 1) := by decide +kernel
theorem d_Mod_lesser_0 : decode b_Mod_lesser 0 = .ok (.iload_n 0, 1) := by decide +kernel
theorem d_Mod_lesser_1 : decode b_Mod_lesser 1 = .ok (.iload_n 1, 1) := by decide +kernel
theorem d_Mod_lesser_2 : decode b_Mod_lesser 2 = .ok (.if_icmp .ge 7, 3) := by decide +kernel
theorem d_Mod_lesser_5 : decode b_Mod_lesser 5 = .ok (.iload_n 0, 1) := by decide +kernel
theorem d_Mod_lesser_6 : decode b_Mod_lesser 6 = .ok (.goto 4, 3) := by decide +kernel
theorem d_Mod_lesser_9 : decode b_Mod_lesser 9 = .ok (.iload_n 1, 1) := by decide +kernel
theorem d_Mod_lesser_10 : decode b_Mod_lesser 10 = .ok (.ireturn, 1) := by decide +kernel
theorem d_Mod_number_0 : decode b_Mod_number 0 = .ok (.aload_n 0, 1) := by decide +kernel
theorem d_Mod_number_1 : decode b_Mod_number 1 = .ok (.iconst 0, 1) := by decide +kernel
theorem d_Mod_number_2 : decode b_Mod_number 2 = .ok (.putfield 47, 3) := by decide +kernel
theorem d_Mod_number_5 : decode b_Mod_number 5 = .ok (.iload_n 1, 1) := by decide +kernel
theorem d_Mod_number_6 : decode b_Mod_number 6 = .ok (.tableswitch 104 0 9 #[54, 59, 64, 69, 74, 79, 84, 89, 94, 99], 54) := by decide +kernel
theorem d_Mod_number_60 : decode b_Mod_number 60 = .ok (.aload_n 0, 1) := by decide +kernel
theorem d_Mod_number_61 : decode b_Mod_number 61 = .ok (.getfield 7, 3) := by decide +kernel
theorem d_Mod_number_64 : decode b_Mod_number 64 = .ok (.ireturn, 1) := by decide +kernel
theorem d_Mod_number_65 : decode b_Mod_number 65 = .ok (.aload_n 0, 1) := by decide +kernel
theorem d_Mod_number_66 : decode b_Mod_number 66 = .ok (.getfield 13, 3) := by decide +kernel
theorem d_Mod_number_69 : decode b_Mod_number 69 = .ok (.ireturn, 1) := by decide +kernel
theorem d_Mod_number_70 : decode b_Mod_number 70 = .ok (.aload_n 0, 1) := by decide +kernel
theorem d_Mod_number_71 : decode b_Mod_number 71 = .ok (.getfield 16, 3) := by decide +kernel
theorem d_Mod_number_74 : decode b_Mod_number 74 = .ok (.ireturn, 1) := by decide +kernel
theorem d_Mod_number_75 : decode b_Mod_number 75 = .ok (.aload_n 0, 1) := by decide +kernel
theorem d_Mod_number_76 : decode b_Mod_number 76 = .ok (.getfield 50, 3) := by decide +kernel
theorem d_Mod_number_79 : decode b_Mod_number 79 = .ok (.ireturn, 1) := by decide +kernel
theorem d_Mod_number_80 : decode b_Mod_number 80 = .ok (.aload_n 0, 1) := by decide +kernel
theorem d_Mod_number_81 : decode b_Mod_number 81 = .ok (.getfield 56, 3) := by decide +kernel
theorem d_Mod_number_84 : decode b_Mod_number 84 = .ok (.ireturn, 1) := by decide +kernel
theorem d_Mod_number_85 : decode b_Mod_number 85 = .ok (.aload_n 0, 1) := by decide +kernel
theorem d_Mod_number_86 : decode b_Mod_number 86 = .ok (.getfield 63, 3) := by decide +kernel
theorem d_Mod_number_89 : decode b_Mod_number 89 = .ok (.ireturn, 1) := by decide +kernel
theorem d_Mod_number_90 : decode b_Mod_number 90 = .ok (.aload_n 0, 1) := by decide +kernel
theorem d_Mod_number_91 : decode b_Mod_number 91 = .ok (.getfield 69, 3) := by decide +kernel
theorem d_Mod_number_94 : decode b_Mod_number 94 = .ok (.ireturn, 1) := by decide +kernel
theorem d_Mod_number_95 : decode b_Mod_number 95 = .ok (.aload_n 0, 1) := by decide +kernel
theorem d_Mod_number_96 : decode b_Mod_number 96 = .ok (.getfield 75, 3) := by decide +kernel
theorem d_Mod_number_99 : decode b_Mod_number 99 = .ok (.ireturn, 1) := by decide +kernel
theorem d_Mod_number_100 : decode b_Mod_number 100 = .ok (.aload_n 0, 1) := by decide +kernel
theorem d_Mod_number_101 : decode b_Mod_number 101 = .ok (.getfield 78, 3) := by decide +kernel
theorem d_Mod_number_104 : decode b_Mod_number 104 = .ok (.ireturn, 1) := by decide +kernel
theorem d_Mod_number_105 : decode b_Mod_number 105 = .ok (.aload_n 0, 1) := by decide +kernel
theorem d_Mod_number_106 : decode b_Mod_number 106 = .ok (.getfield 81, 3) := by decide +kernel
theorem d_Mod_number_109 : decode b_Mod_number 109 = .ok (.ireturn, 1) := by decide +kernel
theorem d_Mod_number_110 : decode b_Mod_number 110 = .ok (.iconst (-1), 1) := by decide +kernel
theorem d_Mod_number_111 : decode b_Mod_number 111 = .ok (.ireturn, 1) := by decide +kernel
theorem d_Mod_poke_0 : decode b_Mod_poke 0 = .ok (.aload_n 0, 1) := by decide +kernel
theorem d_Mod_poke_1 : decode b_Mod_poke 1 = .ok (.iconst 0, 1) := by decide +kernel
theorem d_Mod_poke_2 : decode b_Mod_poke 2 = .ok (.putfield 47, 3) := by decide +kernel
theorem d_Mod_poke_5 : decode b_Mod_poke 5 = .ok (.iload_n 1, 1) := by decide +kernel
theorem d_Mod_poke_6 : decode b_Mod_poke 6 = .ok (.ifCond .lt 22, 3) := by decide +kernel
theorem d_Mod_poke_9 : decode b_Mod_poke 9 = .ok (.iload_n 1, 1) := by decide +kernel
theorem d_Mod_poke_10 : decode b_Mod_poke 10 = .ok (.aload_n 0, 1) := by decide +kernel
theorem d_Mod_poke_11 : decode b_Mod_poke 11 = .ok (.getfield 91, 3) := by decide +kernel
theorem d_Mod_poke_14 : decode b_Mod_poke 14 = .ok (.if_icmp .ge 14, 3) := by decide +kernel
theorem d_Mod_poke_17 : decode b_Mod_poke 17 = .ok (.iload_n 2, 1) := by decide +kernel
theorem d_Mod_poke_18 : decode b_Mod_poke 18 = .ok (.ifCond .lt 10, 3) := by decide +kernel
theorem d_Mod_poke_21 : decode b_Mod_poke 21 = .ok (.iload_n 2, 1) := by decide +kernel
theorem d_Mod_poke_22 : decode b_Mod_poke 22 = .ok (.sipush 255, 3) := by decide +kernel
theorem d_Mod_poke_25 : decode b_Mod_poke 25 = .ok (.if_icmp .le 5, 3) := by decide +kernel
theorem d_Mod_poke_28 : decode b_Mod_poke 28 = .ok (.iconst 0, 1) := by decide +kernel
theorem d_Mod_poke_29 : decode b_Mod_poke 29 = .ok (.ireturn, 1) := by decide +kernel
theorem d_Mod_poke_30 : decode b_Mod_poke 30 = .ok (.aload_n 0, 1) := by decide +kernel
theorem d_Mod_poke_31 : decode b_Mod_poke 31 = .ok (.getfield 29, 3) := by decide +kernel
theorem d_Mod_poke_34 : decode b_Mod_poke 34 = .ok (.iload_n 1, 1) := by decide +kernel
theorem d_Mod_poke_35 : decode b_Mod_poke 35 = .ok (.iload_n 2, 1) := by decide +kernel
theorem d_Mod_poke_36 : decode b_Mod_poke 36 = .ok (.iastore, 1) := by decide +kernel
theorem d_Mod_poke_37 : decode b_Mod_poke 37 = .ok (.iconst 1, 1) := by decide +kernel
theorem d_Mod_poke_38 : decode b_Mod_poke 38 = .ok (.ireturn, 1) := by decide +kernel
theorem d_Mod_powerFor_0 : decode b_Mod_powerFor 0 = .ok (.iload_n 0, 1) := by decide +kernel
theorem d_Mod_powerFor_1 : decode b_Mod_powerFor 1 = .ok (.istore_n 2, 1) := by decide +kernel
theorem d_Mod_powerFor_2 : decode b_Mod_powerFor 2 = .ok (.iconst 1, 1) := by decide +kernel
theorem d_Mod_powerFor_3 : decode b_Mod_powerFor 3 = .ok (.iload_n 2, 1) := by decide +kernel
theorem d_Mod_powerFor_4 : decode b_Mod_powerFor 4 = .ok (.ishl, 1) := by decide +kernel
theorem d_Mod_powerFor_5 : decode b_Mod_powerFor 5 = .ok (.iload_n 1, 1) := by decide +kernel
theorem d_Mod_powerFor_6 : decode b_Mod_powerFor 6 = .ok (.if_icmp .ge 9, 3) := by decide +kernel
theorem d_Mod_powerFor_9 : decode b_Mod_powerFor 9 = .ok (.iinc 2 1, 3) := by decide +kernel
theorem d_Mod_powerFor_12 : decode b_Mod_powerFor 12 = .ok (.goto (-10), 3) := by decide +kernel
theorem d_Mod_powerFor_15 : decode b_Mod_powerFor 15 = .ok (.iload_n 2, 1) := by decide +kernel
theorem d_Mod_powerFor_16 : decode b_Mod_powerFor 16 = .ok (.ireturn, 1) := by decide +kernel
theorem d_Mod_prepare_0 : decode b_Mod_prepare 0 = .ok (.aload_n 0, 1) := by decide +kernel
theorem d_Mod_prepare_1 : decode b_Mod_prepare 1 = .ok (.iconst 2, 1) := by decide +kernel
theorem d_Mod_prepare_2 : decode b_Mod_prepare 2 = .ok (.aload_n 0, 1) := by decide +kernel
theorem d_Mod_prepare_3 : decode b_Mod_prepare 3 = .ok (.getfield 50, 3) := by decide +kernel
theorem d_Mod_prepare_6 : decode b_Mod_prepare 6 = .ok (.imul, 1) := by decide +kernel
theorem d_Mod_prepare_7 : decode b_Mod_prepare 7 = .ok (.iconst 1, 1) := by decide +kernel
theorem d_Mod_prepare_8 : decode b_Mod_prepare 8 = .ok (.iadd, 1) := by decide +kernel
theorem d_Mod_prepare_9 : decode b_Mod_prepare 9 = .ok (.putfield 53, 3) := by decide +kernel
theorem d_Mod_prepare_12 : decode b_Mod_prepare 12 = .ok (.aload_n 0, 1) := by decide +kernel
theorem d_Mod_prepare_13 : decode b_Mod_prepare 13 = .ok (.aload_n 0, 1) := by decide +kernel
theorem d_Mod_prepare_14 : decode b_Mod_prepare 14 = .ok (.getfield 16, 3) := by decide +kernel
theorem d_Mod_prepare_17 : decode b_Mod_prepare 17 = .ok (.iconst 2, 1) := by decide +kernel
theorem d_Mod_prepare_18 : decode b_Mod_prepare 18 = .ok (.aload_n 0, 1) := by decide +kernel
theorem d_Mod_prepare_19 : decode b_Mod_prepare 19 = .ok (.getfield 50, 3) := by decide +kernel
theorem d_Mod_prepare_22 : decode b_Mod_prepare 22 = .ok (.imul, 1) := by decide +kernel
theorem d_Mod_prepare_23 : decode b_Mod_prepare 23 = .ok (.iadd, 1) := by decide +kernel
theorem d_Mod_prepare_24 : decode b_Mod_prepare 24 = .ok (.aload_n 0, 1) := by decide +kernel
theorem d_Mod_prepare_25 : decode b_Mod_prepare 25 = .ok (.getfield 53, 3) := by decide +kernel
theorem d_Mod_prepare_28 : decode b_Mod_prepare 28 = .ok (.idiv, 1) := by decide +kernel
theorem d_Mod_prepare_29 : decode b_Mod_prepare 29 = .ok (.iconst 1, 1) := by decide +kernel
theorem d_Mod_prepare_30 : decode b_Mod_prepare 30 = .ok (.iadd, 1) := by decide +kernel
theorem d_Mod_prepare_31 : decode b_Mod_prepare 31 = .ok (.putfield 56, 3) := by decide +kernel
theorem d_Mod_prepare_34 : decode b_Mod_prepare 34 = .ok (.aload_n 0, 1) := by decide +kernel
theorem d_Mod_prepare_35 : decode b_Mod_prepare 35 = .ok (.iconst 0, 1) := by decide +kernel
theorem d_Mod_prepare_36 : decode b_Mod_prepare 36 = .ok (.aload_n 0, 1) := by decide +kernel
theorem d_Mod_prepare_37 : decode b_Mod_prepare 37 = .ok (.getfield 56, 3) := by decide +kernel
theorem d_Mod_prepare_40 : decode b_Mod_prepare 40 = .ok (.invokestatic 59, 3) := by decide +kernel
theorem d_Mod_prepare_43 : decode b_Mod_prepare 43 = .ok (.putfield 63, 3) := by decide +kernel
theorem d_Mod_prepare_46 : decode b_Mod_prepare 46 = .ok (.iconst 2, 1) := by decide +kernel
theorem d_Mod_prepare_47 : decode b_Mod_prepare 47 = .ok (.aload_n 0, 1) := by decide +kernel
theorem d_Mod_prepare_48 : decode b_Mod_prepare 48 = .ok (.getfield 16, 3) := by decide +kernel
theorem d_Mod_prepare_51 : decode b_Mod_prepare 51 = .ok (.iconst 1, 1) := by decide +kernel
theorem d_Mod_prepare_52 : decode b_Mod_prepare 52 = .ok (.iadd, 1) := by decide +kernel
theorem d_Mod_prepare_53 : decode b_Mod_prepare 53 = .ok (.invokestatic 59, 3) := by decide +kernel
theorem d_Mod_prepare_56 : decode b_Mod_prepare 56 = .ok (.istore_n 1, 1) := by decide +kernel
theorem d_Mod_prepare_57 : decode b_Mod_prepare 57 = .ok (.aload_n 0, 1) := by decide +kernel
theorem d_Mod_prepare_58 : decode b_Mod_prepare 58 = .ok (.iconst 2, 1) := by decide +kernel
theorem d_Mod_prepare_59 : decode b_Mod_prepare 59 = .ok (.iload_n 1, 1) := by decide +kernel
theorem d_Mod_prepare_60 : decode b_Mod_prepare 60 = .ok (.bipush 8, 2) := by decide +kernel
theorem d_Mod_prepare_62 : decode b_Mod_prepare 62 = .ok (.iload_n 1, 1) := by decide +kernel
theorem d_Mod_prepare_63 : decode b_Mod_prepare 63 = .ok (.invokestatic 66, 3) := by decide +kernel
theorem d_Mod_prepare_66 : decode b_Mod_prepare 66 = .ok (.iadd, 1) := by decide +kernel
theorem d_Mod_prepare_67 : decode b_Mod_prepare 67 = .ok (.imul, 1) := by decide +kernel
theorem d_Mod_prepare_68 : decode b_Mod_prepare 68 = .ok (.putfield 69, 3) := by decide +kernel
theorem d_Mod_prepare_71 : decode b_Mod_prepare 71 = .ok (.aload_n 0, 1) := by decide +kernel
theorem d_Mod_prepare_72 : decode b_Mod_prepare 72 = .ok (.getfield 16, 3) := by decide +kernel
theorem d_Mod_prepare_75 : decode b_Mod_prepare 75 = .ok (.sipush 128, 3) := by decide +kernel
theorem d_Mod_prepare_78 : decode b_Mod_prepare 78 = .ok (.if_icmp .lt 93, 3) := by decide +kernel
theorem d_Mod_prepare_81 : decode b_Mod_prepare 81 = .ok (.aload_n 0, 1) := by decide +kernel
theorem d_Mod_prepare_82 : decode b_Mod_prepare 82 = .ok (.getfield 16, 3) := by decide +kernel
theorem d_Mod_prepare_85 : decode b_Mod_prepare 85 = .ok (.sipush 128, 3) := by decide +kernel
theorem d_Mod_prepare_88 : decode b_Mod_prepare 88 = .ok (.iadd, 1) := by decide +kernel
theorem d_Mod_prepare_89 : decode b_Mod_prepare 89 = .ok (.sipush 256, 3) := by decide +kernel
theorem d_Mod_prepare_92 : decode b_Mod_prepare 92 = .ok (.idiv, 1) := by decide +kernel
theorem d_Mod_prepare_93 : decode b_Mod_prepare 93 = .ok (.istore_n 2, 1) := by decide +kernel
theorem d_Mod_prepare_94 : decode b_Mod_prepare 94 = .ok (.aload_n 0, 1) := by decide +kernel
theorem d_Mod_prepare_95 : decode b_Mod_prepare 95 = .ok (.aload_n 0, 1) := by decide +kernel
theorem d_Mod_prepare_96 : decode b_Mod_prepare 96 = .ok (.iload_n 2, 1) := by decide +kernel
theorem d_Mod_prepare_97 : decode b_Mod_prepare 97 = .ok (.iconst 2, 1) := by decide +kernel
theorem d_Mod_prepare_98 : decode b_Mod_prepare 98 = .ok (.iadd, 1) := by decide +kernel
theorem d_Mod_prepare_99 : decode b_Mod_prepare 99 = .ok (.iconst 3, 1) := by decide +kernel
theorem d_Mod_prepare_100 : decode b_Mod_prepare 100 = .ok (.aload_n 0, 1) := by decide +kernel
theorem d_Mod_prepare_101 : decode b_Mod_prepare 101 = .ok (.getfield 50, 3) := by decide +kernel
theorem d_Mod_prepare_104 : decode b_Mod_prepare 104 = .ok (.imul, 1) := by decide +kernel
theorem d_Mod_prepare_105 : decode b_Mod_prepare 105 = .ok (.iadd, 1) := by decide +kernel
theorem d_Mod_prepare_106 : decode b_Mod_prepare 106 = .ok (.aload_n 0, 1) := by decide +kernel
theorem d_Mod_prepare_107 : decode b_Mod_prepare 107 = .ok (.getfield 50, 3) := by decide +kernel
theorem d_Mod_prepare_110 : decode b_Mod_prepare 110 = .ok (.iconst 1, 1) := by decide +kernel
theorem d_Mod_prepare_111 : decode b_Mod_prepare 111 = .ok (.iadd, 1) := by decide +kernel
theorem d_Mod_prepare_112 : decode b_Mod_prepare 112 = .ok (.invokevirtual 72, 3) := by decide +kernel
theorem d_Mod_prepare_115 : decode b_Mod_prepare 115 = .ok (.putfield 75, 3) := by decide +kernel
theorem d_Mod_prepare_118 : decode b_Mod_prepare 118 = .ok (.aload_n 0, 1) := by decide +kernel
theorem d_Mod_prepare_119 : decode b_Mod_prepare 119 = .ok (.aload_n 0, 1) := by decide +kernel
theorem d_Mod_prepare_120 : decode b_Mod_prepare 120 = .ok (.iconst 4, 1) := by decide +kernel
theorem d_Mod_prepare_121 : decode b_Mod_prepare 121 = .ok (.iload_n 2, 1) := by decide +kernel
theorem d_Mod_prepare_122 : decode b_Mod_prepare 122 = .ok (.imul, 1) := by decide +kernel
theorem d_Mod_prepare_123 : decode b_Mod_prepare 123 = .ok (.iconst 3, 1) := by decide +kernel
theorem d_Mod_prepare_124 : decode b_Mod_prepare 124 = .ok (.iadd, 1) := by decide +kernel
theorem d_Mod_prepare_125 : decode b_Mod_prepare 125 = .ok (.iconst 5, 1) := by decide +kernel
theorem d_Mod_prepare_126 : decode b_Mod_prepare 126 = .ok (.aload_n 0, 1) := by decide +kernel
theorem d_Mod_prepare_127 : decode b_Mod_prepare 127 = .ok (.getfield 50, 3) := by decide +kernel
theorem d_Mod_prepare_130 : decode b_Mod_prepare 130 = .ok (.imul, 1) := by decide +kernel
theorem d_Mod_prepare_131 : decode b_Mod_prepare 131 = .ok (.iadd, 1) := by decide +kernel
theorem d_Mod_prepare_132 : decode b_Mod_prepare 132 = .ok (.aload_n 0, 1) := by decide +kernel
theorem d_Mod_prepare_133 : decode b_Mod_prepare 133 = .ok (.getfield 75, 3) := by decide +kernel
theorem d_Mod_prepare_136 : decode b_Mod_prepare 136 = .ok (.invokevirtual 72, 3) := by decide +kernel
theorem d_Mod_prepare_139 : decode b_Mod_prepare 139 = .ok (.putfield 78, 3) := by decide +kernel
theorem d_Mod_prepare_142 : decode b_Mod_prepare 142 = .ok (.aload_n 0, 1) := by decide +kernel
theorem d_Mod_prepare_143 : decode b_Mod_prepare 143 = .ok (.aload_n 0, 1) := by decide +kernel
theorem d_Mod_prepare_144 : decode b_Mod_prepare 144 = .ok (.bipush 17, 2) := by decide +kernel
theorem d_Mod_prepare_146 : decode b_Mod_prepare 146 = .ok (.iload_n 2, 1) := by decide +kernel
theorem d_Mod_prepare_147 : decode b_Mod_prepare 147 = .ok (.imul, 1) := by decide +kernel
theorem d_Mod_prepare_148 : decode b_Mod_prepare 148 = .ok (.iconst 4, 1) := by decide +kernel
theorem d_Mod_prepare_149 : decode b_Mod_prepare 149 = .ok (.iadd, 1) := by decide +kernel
theorem d_Mod_prepare_150 : decode b_Mod_prepare 150 = .ok (.bipush 7, 2) := by decide +kernel
theorem d_Mod_prepare_152 : decode b_Mod_prepare 152 = .ok (.aload_n 0, 1) := by decide +kernel
theorem d_Mod_prepare_153 : decode b_Mod_prepare 153 = .ok (.getfield 50, 3) := by decide +kernel
theorem d_Mod_prepare_156 : decode b_Mod_prepare 156 = .ok (.imul, 1) := by decide +kernel
theorem d_Mod_prepare_157 : decode b_Mod_prepare 157 = .ok (.iadd, 1) := by decide +kernel
theorem d_Mod_prepare_158 : decode b_Mod_prepare 158 = .ok (.aload_n 0, 1) := by decide +kernel
theorem d_Mod_prepare_159 : decode b_Mod_prepare 159 = .ok (.getfield 78, 3) := by decide +kernel
theorem d_Mod_prepare_162 : decode b_Mod_prepare 162 = .ok (.invokevirtual 72, 3) := by decide +kernel
theorem d_Mod_prepare_165 : decode b_Mod_prepare 165 = .ok (.putfield 81, 3) := by decide +kernel
theorem d_Mod_prepare_168 : decode b_Mod_prepare 168 = .ok (.goto 97, 3) := by decide +kernel
theorem d_Mod_prepare_171 : decode b_Mod_prepare 171 = .ok (.sipush 256, 3) := by decide +kernel
theorem d_Mod_prepare_174 : decode b_Mod_prepare 174 = .ok (.aload_n 0, 1) := by decide +kernel
theorem d_Mod_prepare_175 : decode b_Mod_prepare 175 = .ok (.getfield 16, 3) := by decide +kernel
theorem d_Mod_prepare_178 : decode b_Mod_prepare 178 = .ok (.iconst 1, 1) := by decide +kernel
theorem d_Mod_prepare_179 : decode b_Mod_prepare 179 = .ok (.iadd, 1) := by decide +kernel
theorem d_Mod_prepare_180 : decode b_Mod_prepare 180 = .ok (.idiv, 1) := by decide +kernel
theorem d_Mod_prepare_181 : decode b_Mod_prepare 181 = .ok (.istore_n 2, 1) := by decide +kernel
theorem d_Mod_prepare_182 : decode b_Mod_prepare 182 = .ok (.aload_n 0, 1) := by decide +kernel
theorem d_Mod_prepare_183 : decode b_Mod_prepare 183 = .ok (.aload_n 0, 1) := by decide +kernel
theorem d_Mod_prepare_184 : decode b_Mod_prepare 184 = .ok (.iconst 2, 1) := by decide +kernel
theorem d_Mod_prepare_185 : decode b_Mod_prepare 185 = .ok (.iconst 3, 1) := by decide +kernel
theorem d_Mod_prepare_186 : decode b_Mod_prepare 186 = .ok (.iload_n 2, 1) := by decide +kernel
theorem d_Mod_prepare_187 : decode b_Mod_prepare 187 = .ok (.idiv, 1) := by decide +kernel
theorem d_Mod_prepare_188 : decode b_Mod_prepare 188 = .ok (.iconst 3, 1) := by decide +kernel
theorem d_Mod_prepare_189 : decode b_Mod_prepare 189 = .ok (.aload_n 0, 1) := by decide +kernel
theorem d_Mod_prepare_190 : decode b_Mod_prepare 190 = .ok (.getfield 50, 3) := by decide +kernel
theorem d_Mod_prepare_193 : decode b_Mod_prepare 193 = .ok (.imul, 1) := by decide +kernel
theorem d_Mod_prepare_194 : decode b_Mod_prepare 194 = .ok (.iadd, 1) := by decide +kernel
theorem d_Mod_prepare_195 : decode b_Mod_prepare 195 = .ok (.invokestatic 66, 3) := by decide +kernel
theorem d_Mod_prepare_198 : decode b_Mod_prepare 198 = .ok (.aload_n 0, 1) := by decide +kernel
theorem d_Mod_prepare_199 : decode b_Mod_prepare 199 = .ok (.getfield 50, 3) := by decide +kernel
theorem d_Mod_prepare_202 : decode b_Mod_prepare 202 = .ok (.iconst 1, 1) := by decide +kernel
theorem d_Mod_prepare_203 : decode b_Mod_prepare 203 = .ok (.iadd, 1) := by decide +kernel
theorem d_Mod_prepare_204 : decode b_Mod_prepare 204 = .ok (.invokevirtual 72, 3) := by decide +kernel
theorem d_Mod_prepare_207 : decode b_Mod_prepare 207 = .ok (.putfield 75, 3) := by decide +kernel
theorem d_Mod_prepare_210 : decode b_Mod_prepare 210 = .ok (.aload_n 0, 1) := by decide +kernel
theorem d_Mod_prepare_211 : decode b_Mod_prepare 211 = .ok (.aload_n 0, 1) := by decide +kernel
theorem d_Mod_prepare_212 : decode b_Mod_prepare 212 = .ok (.iconst 3, 1) := by decide +kernel
theorem d_Mod_prepare_213 : decode b_Mod_prepare 213 = .ok (.bipush 7, 2) := by decide +kernel
theorem d_Mod_prepare_215 : decode b_Mod_prepare 215 = .ok (.iload_n 2, 1) := by decide +kernel
theorem d_Mod_prepare_216 : decode b_Mod_prepare 216 = .ok (.idiv, 1) := by decide +kernel
theorem d_Mod_prepare_217 : decode b_Mod_prepare 217 = .ok (.iconst 5, 1) := by decide +kernel
theorem d_Mod_prepare_218 : decode b_Mod_prepare 218 = .ok (.aload_n 0, 1) := by decide +kernel
theorem d_Mod_prepare_219 : decode b_Mod_prepare 219 = .ok (.getfield 50, 3) := by decide +kernel
theorem d_Mod_prepare_222 : decode b_Mod_prepare 222 = .ok (.imul, 1) := by decide +kernel
theorem d_Mod_prepare_223 : decode b_Mod_prepare 223 = .ok (.iadd, 1) := by decide +kernel
theorem d_Mod_prepare_224 : decode b_Mod_prepare 224 = .ok (.invokestatic 66, 3) := by decide +kernel
theorem d_Mod_prepare_227 : decode b_Mod_prepare 227 = .ok (.aload_n 0, 1) := by decide +kernel
theorem d_Mod_prepare_228 : decode b_Mod_prepare 228 = .ok (.getfield 75, 3) := by decide +kernel
theorem d_Mod_prepare_231 : decode b_Mod_prepare 231 = .ok (.invokevirtual 72, 3) := by decide +kernel
theorem d_Mod_prepare_234 : decode b_Mod_prepare 234 = .ok (.putfield 78, 3) := by decide +kernel
theorem d_Mod_prepare_237 : decode b_Mod_prepare 237 = .ok (.aload_n 0, 1) := by decide +kernel
theorem d_Mod_prepare_238 : decode b_Mod_prepare 238 = .ok (.aload_n 0, 1) := by decide +kernel
theorem d_Mod_prepare_239 : decode b_Mod_prepare 239 = .ok (.iconst 4, 1) := by decide +kernel
theorem d_Mod_prepare_240 : decode b_Mod_prepare 240 = .ok (.bipush 21, 2) := by decide +kernel
theorem d_Mod_prepare_242 : decode b_Mod_prepare 242 = .ok (.iload_n 2, 1) := by decide +kernel
theorem d_Mod_prepare_243 : decode b_Mod_prepare 243 = .ok (.idiv, 1) := by decide +kernel
theorem d_Mod_prepare_244 : decode b_Mod_prepare 244 = .ok (.bipush 7, 2) := by decide +kernel
theorem d_Mod_prepare_246 : decode b_Mod_prepare 246 = .ok (.aload_n 0, 1) := by decide +kernel
theorem d_Mod_prepare_247 : decode b_Mod_prepare 247 = .ok (.getfield 50, 3) := by decide +kernel
theorem d_Mod_prepare_250 : decode b_Mod_prepare 250 = .ok (.imul, 1) := by decide +kernel
theorem d_Mod_prepare_251 : decode b_Mod_prepare 251 = .ok (.iadd, 1) := by decide +kernel
theorem d_Mod_prepare_252 : decode b_Mod_prepare 252 = .ok (.invokestatic 66, 3) := by decide +kernel
theorem d_Mod_prepare_255 : decode b_Mod_prepare 255 = .ok (.aload_n 0, 1) := by decide +kernel
theorem d_Mod_prepare_256 : decode b_Mod_prepare 256 = .ok (.getfield 78, 3) := by decide +kernel
theorem d_Mod_prepare_259 : decode b_Mod_prepare 259 = .ok (.invokevirtual 72, 3) := by decide +kernel
theorem d_Mod_prepare_262 : decode b_Mod_prepare 262 = .ok (.putfield 81, 3) := by decide +kernel
theorem d_Mod_prepare_265 : decode b_Mod_prepare 265 = .ok (.return_, 1) := by decide +kernel
theorem d_Mod_put_0 : decode b_Mod_put 0 = .ok (.aload_n 0, 1) := by decide +kernel
theorem d_Mod_put_1 : decode b_Mod_put 1 = .ok (.iconst 2, 1) := by decide +kernel
theorem d_Mod_put_2 : decode b_Mod_put 2 = .ok (.aload_n 0, 1) := by decide +kernel
theorem d_Mod_put_3 : decode b_Mod_put 3 = .ok (.getfield 96, 3) := by decide +kernel
theorem d_Mod_put_6 : decode b_Mod_put 6 = .ok (.imul, 1) := by decide +kernel
theorem d_Mod_put_7 : decode b_Mod_put 7 = .ok (.iload_n 1, 1) := by decide +kernel
theorem d_Mod_put_8 : decode b_Mod_put 8 = .ok (.iadd, 1) := by decide +kernel
theorem d_Mod_put_9 : decode b_Mod_put 9 = .ok (.putfield 96, 3) := by decide +kernel
theorem d_Mod_put_12 : decode b_Mod_put 12 = .ok (.aload_n 0, 1) := by decide +kernel
theorem d_Mod_put_13 : decode b_Mod_put 13 = .ok (.dup, 1) := by decide +kernel
theorem d_Mod_put_14 : decode b_Mod_put 14 = .ok (.getfield 99, 3) := by decide +kernel
theorem d_Mod_put_17 : decode b_Mod_put 17 = .ok (.iconst 1, 1) := by decide +kernel
theorem d_Mod_put_18 : decode b_Mod_put 18 = .ok (.iadd, 1) := by decide +kernel
theorem d_Mod_put_19 : decode b_Mod_put 19 = .ok (.putfield 99, 3) := by decide +kernel
theorem d_Mod_put_22 : decode b_Mod_put 22 = .ok (.aload_n 0, 1) := by decide +kernel
theorem d_Mod_put_23 : decode b_Mod_put 23 = .ok (.getfield 99, 3) := by decide +kernel
theorem d_Mod_put_26 : decode b_Mod_put 26 = .ok (.bipush 8, 2) := by decide +kernel
theorem d_Mod_put_28 : decode b_Mod_put 28 = .ok (.if_icmp .ne 35, 3) := by decide +kernel
theorem d_Mod_put_31 : decode b_Mod_put 31 = .ok (.aload_n 0, 1) := by decide +kernel
theorem d_Mod_put_32 : decode b_Mod_put 32 = .ok (.aload_n 0, 1) := by decide +kernel
theorem d_Mod_put_33 : decode b_Mod_put 33 = .ok (.getfield 96, 3) := by decide +kernel
theorem d_Mod_put_36 : decode b_Mod_put 36 = .ok (.invokevirtual 102, 3) := by decide +kernel
theorem d_Mod_put_39 : decode b_Mod_put 39 = .ok (.aload_n 0, 1) := by decide +kernel
theorem d_Mod_put_40 : decode b_Mod_put 40 = .ok (.aload_n 0, 1) := by decide +kernel
theorem d_Mod_put_41 : decode b_Mod_put 41 = .ok (.getfield 96, 3) := by decide +kernel
theorem d_Mod_put_44 : decode b_Mod_put 44 = .ok (.sipush 255, 3) := by decide +kernel
theorem d_Mod_put_47 : decode b_Mod_put 47 = .ok (.if_icmp .ne 7, 3) := by decide +kernel
theorem d_Mod_put_50 : decode b_Mod_put 50 = .ok (.iconst 1, 1) := by decide +kernel
theorem d_Mod_put_51 : decode b_Mod_put 51 = .ok (.goto 4, 3) := by decide +kernel
theorem d_Mod_put_54 : decode b_Mod_put 54 = .ok (.iconst 0, 1) := by decide +kernel
theorem d_Mod_put_55 : decode b_Mod_put 55 = .ok (.putfield 99, 3) := by decide +kernel
theorem d_Mod_put_58 : decode b_Mod_put 58 = .ok (.aload_n 0, 1) := by decide +kernel
theorem d_Mod_put_59 : decode b_Mod_put 59 = .ok (.iconst 0, 1) := by decide +kernel
theorem d_Mod_put_60 : decode b_Mod_put 60 = .ok (.putfield 96, 3) := by decide +kernel
theorem d_Mod_put_63 : decode b_Mod_put 63 = .ok (.return_, 1) := by decide +kernel
theorem d_Mod_putBack_0 : decode b_Mod_putBack 0 = .ok (.aload_n 0, 1) := by decide +kernel
theorem d_Mod_putBack_1 : decode b_Mod_putBack 1 = .ok (.iload_n 1, 1) := by decide +kernel
theorem d_Mod_putBack_2 : decode b_Mod_putBack 2 = .ok (.putfield 7, 3) := by decide +kernel
theorem d_Mod_putBack_5 : decode b_Mod_putBack 5 = .ok (.aload_n 0, 1) := by decide +kernel
theorem d_Mod_putBack_6 : decode b_Mod_putBack 6 = .ok (.iload_n 2, 1) := by decide +kernel
theorem d_Mod_putBack_7 : decode b_Mod_putBack 7 = .ok (.putfield 13, 3) := by decide +kernel
theorem d_Mod_putBack_10 : decode b_Mod_putBack 10 = .ok (.aload_n 0, 1) := by decide +kernel
theorem d_Mod_putBack_11 : decode b_Mod_putBack 11 = .ok (.iload_n 3, 1) := by decide +kernel
theorem d_Mod_putBack_12 : decode b_Mod_putBack 12 = .ok (.putfield 16, 3) := by decide +kernel
theorem d_Mod_putBack_15 : decode b_Mod_putBack 15 = .ok (.aload_n 0, 1) := by decide +kernel
theorem d_Mod_putBack_16 : decode b_Mod_putBack 16 = .ok (.iload 4, 2) := by decide +kernel
theorem d_Mod_putBack_18 : decode b_Mod_putBack 18 = .ok (.putfield 50, 3) := by decide +kernel
theorem d_Mod_putBack_21 : decode b_Mod_putBack 21 = .ok (.aload_n 0, 1) := by decide +kernel
theorem d_Mod_putBack_22 : decode b_Mod_putBack 22 = .ok (.invokevirtual 41, 3) := by decide +kernel
theorem d_Mod_putBack_25 : decode b_Mod_putBack 25 = .ok (.aload_n 0, 1) := by decide +kernel
theorem d_Mod_putBack_26 : decode b_Mod_putBack 26 = .ok (.iload 5, 2) := by decide +kernel
theorem d_Mod_putBack_28 : decode b_Mod_putBack 28 = .ok (.putfield 84, 3) := by decide +kernel
theorem d_Mod_putBack_31 : decode b_Mod_putBack 31 = .ok (.iconst 0, 1) := by decide +kernel
theorem d_Mod_putBack_32 : decode b_Mod_putBack 32 = .ok (.istore 6, 2) := by decide +kernel
theorem d_Mod_putBack_34 : decode b_Mod_putBack 34 = .ok (.iload 6, 2) := by decide +kernel
theorem d_Mod_putBack_36 : decode b_Mod_putBack 36 = .ok (.bipush 64, 2) := by decide +kernel
theorem d_Mod_putBack_38 : decode b_Mod_putBack 38 = .ok (.if_icmp .ge 37, 3) := by decide +kernel
theorem d_Mod_putBack_41 : decode b_Mod_putBack 41 = .ok (.aload_n 0, 1) := by decide +kernel
theorem d_Mod_putBack_42 : decode b_Mod_putBack 42 = .ok (.getfield 19, 3) := by decide +kernel
theorem d_Mod_putBack_45 : decode b_Mod_putBack 45 = .ok (.iload 6, 2) := by decide +kernel
theorem d_Mod_putBack_47 : decode b_Mod_putBack 47 = .ok (.aload_n 0, 1) := by decide +kernel
theorem d_Mod_putBack_48 : decode b_Mod_putBack 48 = .ok (.getfield 32, 3) := by decide +kernel
theorem d_Mod_putBack_51 : decode b_Mod_putBack 51 = .ok (.iload 6, 2) := by decide +kernel
theorem d_Mod_putBack_53 : decode b_Mod_putBack 53 = .ok (.iaload, 1) := by decide +kernel
theorem d_Mod_putBack_54 : decode b_Mod_putBack 54 = .ok (.iastore, 1) := by decide +kernel
theorem d_Mod_putBack_55 : decode b_Mod_putBack 55 = .ok (.aload_n 0, 1) := by decide +kernel
theorem d_Mod_putBack_56 : decode b_Mod_putBack 56 = .ok (.getfield 23, 3) := by decide +kernel
theorem d_Mod_putBack_59 : decode b_Mod_putBack 59 = .ok (.iload 6, 2) := by decide +kernel
theorem d_Mod_putBack_61 : decode b_Mod_putBack 61 = .ok (.aload_n 0, 1) := by decide +kernel
theorem d_Mod_putBack_62 : decode b_Mod_putBack 62 = .ok (.getfield 35, 3) := by decide +kernel
theorem d_Mod_putBack_65 : decode b_Mod_putBack 65 = .ok (.iload 6, 2) := by decide +kernel
theorem d_Mod_putBack_67 : decode b_Mod_putBack 67 = .ok (.iaload, 1) := by decide +kernel
theorem d_Mod_putBack_68 : decode b_Mod_putBack 68 = .ok (.iastore, 1) := by decide +kernel
theorem d_Mod_putBack_69 : decode b_Mod_putBack 69 = .ok (.iinc 6 1, 3) := by decide +kernel
theorem d_Mod_putBack_72 : decode b_Mod_putBack 72 = .ok (.goto (-38), 3) := by decide +kernel
theorem d_Mod_putBack_75 : decode b_Mod_putBack 75 = .ok (.iconst 0, 1) := by decide +kernel
theorem d_Mod_putBack_76 : decode b_Mod_putBack 76 = .ok (.istore 6, 2) := by decide +kernel
theorem d_Mod_putBack_78 : decode b_Mod_putBack 78 = .ok (.iload 6, 2) := by decide +kernel
theorem d_Mod_putBack_80 : decode b_Mod_putBack 80 = .ok (.sipush 1835, 3) := by decide +kernel
theorem d_Mod_putBack_83 : decode b_Mod_putBack 83 = .ok (.if_icmp .ge 23, 3) := by decide +kernel
theorem d_Mod_putBack_86 : decode b_Mod_putBack 86 = .ok (.aload_n 0, 1) := by decide +kernel
theorem d_Mod_putBack_87 : decode b_Mod_putBack 87 = .ok (.getfield 26, 3) := by decide +kernel
theorem d_Mod_putBack_90 : decode b_Mod_putBack 90 = .ok (.iload 6, 2) := by decide +kernel
theorem d_Mod_putBack_92 : decode b_Mod_putBack 92 = .ok (.aload_n 0, 1) := by decide +kernel
theorem d_Mod_putBack_93 : decode b_Mod_putBack 93 = .ok (.getfield 38, 3) := by decide +kernel
theorem d_Mod_putBack_96 : decode b_Mod_putBack 96 = .ok (.iload 6, 2) := by decide +kernel
theorem d_Mod_putBack_98 : decode b_Mod_putBack 98 = .ok (.iaload, 1) := by decide +kernel
theorem d_Mod_putBack_99 : decode b_Mod_putBack 99 = .ok (.iastore, 1) := by decide +kernel
theorem d_Mod_putBack_100 : decode b_Mod_putBack 100 = .ok (.iinc 6 1, 3) := by decide +kernel
theorem d_Mod_putBack_103 : decode b_Mod_putBack 103 = .ok (.goto (-25), 3) := by decide +kernel
theorem d_Mod_putBack_106 : decode b_Mod_putBack 106 = .ok (.return_, 1) := by decide +kernel
theorem d_Mod_putMany_0 : decode b_Mod_putMany 0 = .ok (.iload_n 2, 1) := by decide +kernel
theorem d_Mod_putMany_1 : decode b_Mod_putMany 1 = .ok (.iconst 1, 1) := by decide +kernel
theorem d_Mod_putMany_2 : decode b_Mod_putMany 2 = .ok (.isub, 1) := by decide +kernel
theorem d_Mod_putMany_3 : decode b_Mod_putMany 3 = .ok (.istore_n 3, 1) := by decide +kernel
theorem d_Mod_putMany_4 : decode b_Mod_putMany 4 = .ok (.iload_n 3, 1) := by decide +kernel
theorem d_Mod_putMany_5 : decode b_Mod_putMany 5 = .ok (.ifCond .lt 18, 3) := by decide +kernel
theorem d_Mod_putMany_8 : decode b_Mod_putMany 8 = .ok (.aload_n 0, 1) := by decide +kernel
theorem d_Mod_putMany_9 : decode b_Mod_putMany 9 = .ok (.iload_n 1, 1) := by decide +kernel
theorem d_Mod_putMany_10 : decode b_Mod_putMany 10 = .ok (.iload_n 3, 1) := by decide +kernel
theorem d_Mod_putMany_11 : decode b_Mod_putMany 11 = .ok (.ishr, 1) := by decide +kernel
theorem d_Mod_putMany_12 : decode b_Mod_putMany 12 = .ok (.iconst 1, 1) := by decide +kernel
theorem d_Mod_putMany_13 : decode b_Mod_putMany 13 = .ok (.iand, 1) := by decide +kernel
theorem d_Mod_putMany_14 : decode b_Mod_putMany 14 = .ok (.invokevirtual 106, 3) := by decide +kernel
theorem d_Mod_putMany_17 : decode b_Mod_putMany 17 = .ok (.iinc 3 (-1), 3) := by decide +kernel
theorem d_Mod_putMany_20 : decode b_Mod_putMany 20 = .ok (.goto (-16), 3) := by decide +kernel
theorem d_Mod_putMany_23 : decode b_Mod_putMany 23 = .ok (.return_, 1) := by decide +kernel
theorem d_Mod_quantized_0 : decode b_Mod_quantized 0 = .ok (.iload_n 1, 1) := by decide +kernel
theorem d_Mod_quantized_1 : decode b_Mod_quantized 1 = .ok (.ifCond .ge 60, 3) := by decide +kernel
theorem d_Mod_quantized_4 : decode b_Mod_quantized 4 = .ok (.iload_n 1, 1) := by decide +kernel
theorem d_Mod_quantized_5 : decode b_Mod_quantized 5 = .ok (.aload_n 0, 1) := by decide +kernel
theorem d_Mod_quantized_6 : decode b_Mod_quantized 6 = .ok (.getfield 81, 3) := by decide +kernel
theorem d_Mod_quantized_9 : decode b_Mod_quantized 9 = .ok (.ineg, 1) := by decide +kernel
theorem d_Mod_quantized_10 : decode b_Mod_quantized 10 = .ok (.if_icmp .gt 8, 3) := by decide +kernel
theorem d_Mod_quantized_13 : decode b_Mod_quantized 13 = .ok (.bipush (-4), 2) := by decide +kernel
theorem d_Mod_quantized_15 : decode b_Mod_quantized 15 = .ok (.goto 45, 3) := by decide +kernel
theorem d_Mod_quantized_18 : decode b_Mod_quantized 18 = .ok (.iload_n 1, 1) := by decide +kernel
theorem d_Mod_quantized_19 : decode b_Mod_quantized 19 = .ok (.aload_n 0, 1) := by decide +kernel
theorem d_Mod_quantized_20 : decode b_Mod_quantized 20 = .ok (.getfield 78, 3) := by decide +kernel
theorem d_Mod_quantized_23 : decode b_Mod_quantized 23 = .ok (.ineg, 1) := by decide +kernel
theorem d_Mod_quantized_24 : decode b_Mod_quantized 24 = .ok (.if_icmp .gt 8, 3) := by decide +kernel
theorem d_Mod_quantized_27 : decode b_Mod_quantized 27 = .ok (.bipush (-3), 2) := by decide +kernel
theorem d_Mod_quantized_29 : decode b_Mod_quantized 29 = .ok (.goto 31, 3) := by decide +kernel
theorem d_Mod_quantized_32 : decode b_Mod_quantized 32 = .ok (.iload_n 1, 1) := by decide +kernel
theorem d_Mod_quantized_33 : decode b_Mod_quantized 33 = .ok (.aload_n 0, 1) := by decide +kernel
theorem d_Mod_quantized_34 : decode b_Mod_quantized 34 = .ok (.getfield 75, 3) := by decide +kernel
theorem d_Mod_quantized_37 : decode b_Mod_quantized 37 = .ok (.ineg, 1) := by decide +kernel
theorem d_Mod_quantized_38 : decode b_Mod_quantized 38 = .ok (.if_icmp .gt 8, 3) := by decide +kernel
theorem d_Mod_quantized_41 : decode b_Mod_quantized 41 = .ok (.bipush (-2), 2) := by decide +kernel
theorem d_Mod_quantized_43 : decode b_Mod_quantized 43 = .ok (.goto 17, 3) := by decide +kernel
theorem d_Mod_quantized_46 : decode b_Mod_quantized 46 = .ok (.iload_n 1, 1) := by decide +kernel
theorem d_Mod_quantized_47 : decode b_Mod_quantized 47 = .ok (.aload_n 0, 1) := by decide +kernel
theorem d_Mod_quantized_48 : decode b_Mod_quantized 48 = .ok (.getfield 50, 3) := by decide +kernel
theorem d_Mod_quantized_51 : decode b_Mod_quantized 51 = .ok (.ineg, 1) := by decide +kernel
theorem d_Mod_quantized_52 : decode b_Mod_quantized 52 = .ok (.if_icmp .ge 7, 3) := by decide +kernel
theorem d_Mod_quantized_55 : decode b_Mod_quantized 55 = .ok (.iconst (-1), 1) := by decide +kernel
theorem d_Mod_quantized_56 : decode b_Mod_quantized 56 = .ok (.goto 4, 3) := by decide +kernel
theorem d_Mod_quantized_59 : decode b_Mod_quantized 59 = .ok (.iconst 0, 1) := by decide +kernel
theorem d_Mod_quantized_60 : decode b_Mod_quantized 60 = .ok (.ireturn, 1) := by decide +kernel
theorem d_Mod_quantized_61 : decode b_Mod_quantized 61 = .ok (.iload_n 1, 1) := by decide +kernel
theorem d_Mod_quantized_62 : decode b_Mod_quantized 62 = .ok (.aload_n 0, 1) := by decide +kernel
theorem d_Mod_quantized_63 : decode b_Mod_quantized 63 = .ok (.getfield 50, 3) := by decide +kernel
theorem d_Mod_quantized_66 : decode b_Mod_quantized 66 = .ok (.if_icmp .gt 7, 3) := by decide +kernel
theorem d_Mod_quantized_69 : decode b_Mod_quantized 69 = .ok (.iconst 0, 1) := by decide +kernel
theorem d_Mod_quantized_70 : decode b_Mod_quantized 70 = .ok (.goto 40, 3) := by decide +kernel
theorem d_Mod_quantized_73 : decode b_Mod_quantized 73 = .ok (.iload_n 1, 1) := by decide +kernel
theorem d_Mod_quantized_74 : decode b_Mod_quantized 74 = .ok (.aload_n 0, 1) := by decide +kernel
theorem d_Mod_quantized_75 : decode b_Mod_quantized 75 = .ok (.getfield 75, 3) := by decide +kernel
theorem d_Mod_quantized_78 : decode b_Mod_quantized 78 = .ok (.if_icmp .ge 7, 3) := by decide +kernel
theorem d_Mod_quantized_81 : decode b_Mod_quantized 81 = .ok (.iconst 1, 1) := by decide +kernel
theorem d_Mod_quantized_82 : decode b_Mod_quantized 82 = .ok (.goto 28, 3) := by decide +kernel
theorem d_Mod_quantized_85 : decode b_Mod_quantized 85 = .ok (.iload_n 1, 1) := by decide +kernel
theorem d_Mod_quantized_86 : decode b_Mod_quantized 86 = .ok (.aload_n 0, 1) := by decide +kernel
theorem d_Mod_quantized_87 : decode b_Mod_quantized 87 = .ok (.getfield 78, 3) := by decide +kernel
theorem d_Mod_quantized_90 : decode b_Mod_quantized 90 = .ok (.if_icmp .ge 7, 3) := by decide +kernel
theorem d_Mod_quantized_93 : decode b_Mod_quantized 93 = .ok (.iconst 2, 1) := by decide +kernel
theorem d_Mod_quantized_94 : decode b_Mod_quantized 94 = .ok (.goto 16, 3) := by decide +kernel
theorem d_Mod_quantized_97 : decode b_Mod_quantized 97 = .ok (.iload_n 1, 1) := by decide +kernel
theorem d_Mod_quantized_98 : decode b_Mod_quantized 98 = .ok (.aload_n 0, 1) := by decide +kernel
theorem d_Mod_quantized_99 : decode b_Mod_quantized 99 = .ok (.getfield 81, 3) := by decide +kernel
theorem d_Mod_quantized_102 : decode b_Mod_quantized 102 = .ok (.if_icmp .ge 7, 3) := by decide +kernel
theorem d_Mod_quantized_105 : decode b_Mod_quantized 105 = .ok (.iconst 3, 1) := by decide +kernel
theorem d_Mod_quantized_106 : decode b_Mod_quantized 106 = .ok (.goto 4, 3) := by decide +kernel
theorem d_Mod_quantized_109 : decode b_Mod_quantized 109 = .ok (.iconst 4, 1) := by decide +kernel
theorem d_Mod_quantized_110 : decode b_Mod_quantized 110 = .ok (.ireturn, 1) := by decide +kernel
theorem d_Mod_read_0 : decode b_Mod_read 0 = .ok (.iload_n 2, 1) := by decide +kernel
theorem d_Mod_read_1 : decode b_Mod_read 1 = .ok (.aload_n 0, 1) := by decide +kernel
theorem d_Mod_read_2 : decode b_Mod_read 2 = .ok (.getfield 63, 3) := by decide +kernel
theorem d_Mod_read_5 : decode b_Mod_read 5 = .ok (.isub, 1) := by decide +kernel
theorem d_Mod_read_6 : decode b_Mod_read 6 = .ok (.iconst 1, 1) := by decide +kernel
theorem d_Mod_read_7 : decode b_Mod_read 7 = .ok (.isub, 1) := by decide +kernel
theorem d_Mod_read_8 : decode b_Mod_read 8 = .ok (.istore_n 3, 1) := by decide +kernel
theorem d_Mod_read_9 : decode b_Mod_read 9 = .ok (.iconst 0, 1) := by decide +kernel
theorem d_Mod_read_10 : decode b_Mod_read 10 = .ok (.istore 4, 2) := by decide +kernel
theorem d_Mod_read_12 : decode b_Mod_read 12 = .ok (.aload_n 0, 1) := by decide +kernel
theorem d_Mod_read_13 : decode b_Mod_read 13 = .ok (.getfield 118, 3) := by decide +kernel
theorem d_Mod_read_16 : decode b_Mod_read 16 = .ok (.ifCond .eq 27, 3) := by decide +kernel
theorem d_Mod_read_19 : decode b_Mod_read 19 = .ok (.aload_n 0, 1) := by decide +kernel
theorem d_Mod_read_20 : decode b_Mod_read 20 = .ok (.invokevirtual 122, 3) := by decide +kernel
theorem d_Mod_read_23 : decode b_Mod_read 23 = .ok (.ifCond .ne 20, 3) := by decide +kernel
theorem d_Mod_read_26 : decode b_Mod_read 26 = .ok (.iinc 4 1, 3) := by decide +kernel
theorem d_Mod_read_29 : decode b_Mod_read 29 = .ok (.iload 4, 2) := by decide +kernel
theorem d_Mod_read_31 : decode b_Mod_read 31 = .ok (.iload_n 3, 1) := by decide +kernel
theorem d_Mod_read_32 : decode b_Mod_read 32 = .ok (.if_icmp .le (-20), 3) := by decide +kernel
theorem d_Mod_read_35 : decode b_Mod_read 35 = .ok (.aload_n 0, 1) := by decide +kernel
theorem d_Mod_read_36 : decode b_Mod_read 36 = .ok (.iconst 0, 1) := by decide +kernel
theorem d_Mod_read_37 : decode b_Mod_read 37 = .ok (.putfield 118, 3) := by decide +kernel
theorem d_Mod_read_40 : decode b_Mod_read 40 = .ok (.goto (-28), 3) := by decide +kernel
theorem d_Mod_read_43 : decode b_Mod_read 43 = .ok (.iload 4, 2) := by decide +kernel
theorem d_Mod_read_45 : decode b_Mod_read 45 = .ok (.iload_n 3, 1) := by decide +kernel
theorem d_Mod_read_46 : decode b_Mod_read 46 = .ok (.if_icmp .ne 16, 3) := by decide +kernel
theorem d_Mod_read_49 : decode b_Mod_read 49 = .ok (.aload_n 0, 1) := by decide +kernel
theorem d_Mod_read_50 : decode b_Mod_read 50 = .ok (.aload_n 0, 1) := by decide +kernel
theorem d_Mod_read_51 : decode b_Mod_read 51 = .ok (.getfield 63, 3) := by decide +kernel
theorem d_Mod_read_54 : decode b_Mod_read 54 = .ok (.invokevirtual 130, 3) := by decide +kernel
theorem d_Mod_read_57 : decode b_Mod_read 57 = .ok (.iconst 1, 1) := by decide +kernel
theorem d_Mod_read_58 : decode b_Mod_read 58 = .ok (.iadd, 1) := by decide +kernel
theorem d_Mod_read_59 : decode b_Mod_read 59 = .ok (.goto 13, 3) := by decide +kernel
theorem d_Mod_read_62 : decode b_Mod_read 62 = .ok (.iload 4, 2) := by decide +kernel
theorem d_Mod_read_64 : decode b_Mod_read 64 = .ok (.iload_n 1, 1) := by decide +kernel
theorem d_Mod_read_65 : decode b_Mod_read 65 = .ok (.ishl, 1) := by decide +kernel
theorem d_Mod_read_66 : decode b_Mod_read 66 = .ok (.aload_n 0, 1) := by decide +kernel
theorem d_Mod_read_67 : decode b_Mod_read 67 = .ok (.iload_n 1, 1) := by decide +kernel
theorem d_Mod_read_68 : decode b_Mod_read 68 = .ok (.invokevirtual 130, 3) := by decide +kernel
theorem d_Mod_read_71 : decode b_Mod_read 71 = .ok (.ior, 1) := by decide +kernel
theorem d_Mod_read_72 : decode b_Mod_read 72 = .ok (.ireturn, 1) := by decide +kernel
end
section
theorem d_Mod_readRun_0 : decode b_Mod_readRun 0 = .ok (.aload_n 0, 1) := by decide +kernel
theorem d_Mod_readRun_1 : decode b_Mod_readRun 1 = .ok (.iload_n 1, 1) := by decide +kernel
theorem d_Mod_readRun_2 : decode b_Mod_readRun 2 = .ok (.iload_n 2, 1) := by decide +kernel
theorem d_Mod_readRun_3 : decode b_Mod_readRun 3 = .ok (.invokevirtual 140, 3) := by decide +kernel
theorem d_Mod_readRun_6 : decode b_Mod_readRun 6 = .ok (.istore_n 3, 1) := by decide +kernel
theorem d_Mod_readRun_7 : decode b_Mod_readRun 7 = .ok (.iload_n 1, 1) := by decide +kernel
theorem d_Mod_readRun_8 : decode b_Mod_readRun 8 = .ok (.istore 4, 2) := by decide +kernel
theorem d_Mod_readRun_10 : decode b_Mod_readRun 10 = .ok (.iconst 1, 1) := by decide +kernel
theorem d_Mod_readRun_11 : decode b_Mod_readRun 11 = .ok (.istore 5, 2) := by decide +kernel
theorem d_Mod_readRun_13 : decode b_Mod_readRun 13 = .ok (.aload_n 0, 1) := by decide +kernel
theorem d_Mod_readRun_14 : decode b_Mod_readRun 14 = .ok (.getfield 118, 3) := by decide +kernel
theorem d_Mod_readRun_17 : decode b_Mod_readRun 17 = .ok (.ifCond .eq 213, 3) := by decide +kernel
theorem d_Mod_readRun_20 : decode b_Mod_readRun 20 = .ok (.iload 5, 2) := by decide +kernel
theorem d_Mod_readRun_22 : decode b_Mod_readRun 22 = .ok (.ifCond .eq 208, 3) := by decide +kernel
theorem d_Mod_readRun_25 : decode b_Mod_readRun 25 = .ok (.iload 4, 2) := by decide +kernel
theorem d_Mod_readRun_27 : decode b_Mod_readRun 27 = .ok (.aload_n 0, 1) := by decide +kernel
theorem d_Mod_readRun_28 : decode b_Mod_readRun 28 = .ok (.getfield 7, 3) := by decide +kernel
theorem d_Mod_readRun_31 : decode b_Mod_readRun 31 = .ok (.if_icmp .ge 199, 3) := by decide +kernel
theorem d_Mod_readRun_34 : decode b_Mod_readRun 34 = .ok (.iconst 1, 1) := by decide +kernel
theorem d_Mod_readRun_35 : decode b_Mod_readRun 35 = .ok (.aload_n 0, 1) := by decide +kernel
theorem d_Mod_readRun_36 : decode b_Mod_readRun 36 = .ok (.aload_n 0, 1) := by decide +kernel
theorem d_Mod_readRun_37 : decode b_Mod_readRun 37 = .ok (.getfield 84, 3) := by decide +kernel
theorem d_Mod_readRun_40 : decode b_Mod_readRun 40 = .ok (.invokevirtual 195, 3) := by decide +kernel
theorem d_Mod_readRun_43 : decode b_Mod_readRun 43 = .ok (.ishl, 1) := by decide +kernel
theorem d_Mod_readRun_44 : decode b_Mod_readRun 44 = .ok (.istore 6, 2) := by decide +kernel
theorem d_Mod_readRun_46 : decode b_Mod_readRun 46 = .ok (.aload_n 0, 1) := by decide +kernel
theorem d_Mod_readRun_47 : decode b_Mod_readRun 47 = .ok (.invokevirtual 122, 3) := by decide +kernel
theorem d_Mod_readRun_50 : decode b_Mod_readRun 50 = .ok (.iconst 1, 1) := by decide +kernel
theorem d_Mod_readRun_51 : decode b_Mod_readRun 51 = .ok (.if_icmp .ne 7, 3) := by decide +kernel
theorem d_Mod_readRun_54 : decode b_Mod_readRun 54 = .ok (.iconst 1, 1) := by decide +kernel
theorem d_Mod_readRun_55 : decode b_Mod_readRun 55 = .ok (.goto 4, 3) := by decide +kernel
theorem d_Mod_readRun_58 : decode b_Mod_readRun 58 = .ok (.iconst 0, 1) := by decide +kernel
theorem d_Mod_readRun_59 : decode b_Mod_readRun 59 = .ok (.istore 5, 2) := by decide +kernel
theorem d_Mod_readRun_61 : decode b_Mod_readRun 61 = .ok (.iload 5, 2) := by decide +kernel
theorem d_Mod_readRun_63 : decode b_Mod_readRun 63 = .ok (.ifCond .eq 70, 3) := by decide +kernel
theorem d_Mod_readRun_66 : decode b_Mod_readRun 66 = .ok (.aload_n 0, 1) := by decide +kernel
theorem d_Mod_readRun_67 : decode b_Mod_readRun 67 = .ok (.iload 6, 2) := by decide +kernel
theorem d_Mod_readRun_69 : decode b_Mod_readRun 69 = .ok (.aload_n 0, 1) := by decide +kernel
theorem d_Mod_readRun_70 : decode b_Mod_readRun 70 = .ok (.getfield 7, 3) := by decide +kernel
theorem d_Mod_readRun_73 : decode b_Mod_readRun 73 = .ok (.iload 4, 2) := by decide +kernel
theorem d_Mod_readRun_75 : decode b_Mod_readRun 75 = .ok (.isub, 1) := by decide +kernel
theorem d_Mod_readRun_76 : decode b_Mod_readRun 76 = .ok (.if_icmp .gt 21, 3) := by decide +kernel
theorem d_Mod_readRun_79 : decode b_Mod_readRun 79 = .ok (.aload_n 0, 1) := by decide +kernel
theorem d_Mod_readRun_80 : decode b_Mod_readRun 80 = .ok (.getfield 84, 3) := by decide +kernel
theorem d_Mod_readRun_83 : decode b_Mod_readRun 83 = .ok (.bipush 31, 2) := by decide +kernel
theorem d_Mod_readRun_85 : decode b_Mod_readRun 85 = .ok (.if_icmp .ge 12, 3) := by decide +kernel
theorem d_Mod_readRun_88 : decode b_Mod_readRun 88 = .ok (.aload_n 0, 1) := by decide +kernel
theorem d_Mod_readRun_89 : decode b_Mod_readRun 89 = .ok (.getfield 84, 3) := by decide +kernel
theorem d_Mod_readRun_92 : decode b_Mod_readRun 92 = .ok (.iconst 1, 1) := by decide +kernel
theorem d_Mod_readRun_93 : decode b_Mod_readRun 93 = .ok (.iadd, 1) := by decide +kernel
theorem d_Mod_readRun_94 : decode b_Mod_readRun 94 = .ok (.goto 7, 3) := by decide +kernel
theorem d_Mod_readRun_97 : decode b_Mod_readRun 97 = .ok (.aload_n 0, 1) := by decide +kernel
theorem d_Mod_readRun_98 : decode b_Mod_readRun 98 = .ok (.getfield 84, 3) := by decide +kernel
theorem d_Mod_readRun_101 : decode b_Mod_readRun 101 = .ok (.putfield 84, 3) := by decide +kernel
theorem d_Mod_readRun_104 : decode b_Mod_readRun 104 = .ok (.iload 6, 2) := by decide +kernel
theorem d_Mod_readRun_106 : decode b_Mod_readRun 106 = .ok (.aload_n 0, 1) := by decide +kernel
theorem d_Mod_readRun_107 : decode b_Mod_readRun 107 = .ok (.getfield 7, 3) := by decide +kernel
theorem d_Mod_readRun_110 : decode b_Mod_readRun 110 = .ok (.iload 4, 2) := by decide +kernel
theorem d_Mod_readRun_112 : decode b_Mod_readRun 112 = .ok (.isub, 1) := by decide +kernel
theorem d_Mod_readRun_113 : decode b_Mod_readRun 113 = .ok (.if_icmp .gt 8, 3) := by decide +kernel
theorem d_Mod_readRun_116 : decode b_Mod_readRun 116 = .ok (.iload 6, 2) := by decide +kernel
theorem d_Mod_readRun_118 : decode b_Mod_readRun 118 = .ok (.goto 10, 3) := by decide +kernel
theorem d_Mod_readRun_121 : decode b_Mod_readRun 121 = .ok (.aload_n 0, 1) := by decide +kernel
theorem d_Mod_readRun_122 : decode b_Mod_readRun 122 = .ok (.getfield 7, 3) := by decide +kernel
theorem d_Mod_readRun_125 : decode b_Mod_readRun 125 = .ok (.iload 4, 2) := by decide +kernel
theorem d_Mod_readRun_127 : decode b_Mod_readRun 127 = .ok (.isub, 1) := by decide +kernel
theorem d_Mod_readRun_128 : decode b_Mod_readRun 128 = .ok (.istore 6, 2) := by decide +kernel
theorem d_Mod_readRun_130 : decode b_Mod_readRun 130 = .ok (.goto 45, 3) := by decide +kernel
theorem d_Mod_readRun_133 : decode b_Mod_readRun 133 = .ok (.aload_n 0, 1) := by decide +kernel
theorem d_Mod_readRun_134 : decode b_Mod_readRun 134 = .ok (.aload_n 0, 1) := by decide +kernel
theorem d_Mod_readRun_135 : decode b_Mod_readRun 135 = .ok (.aload_n 0, 1) := by decide +kernel
theorem d_Mod_readRun_136 : decode b_Mod_readRun 136 = .ok (.getfield 84, 3) := by decide +kernel
theorem d_Mod_readRun_139 : decode b_Mod_readRun 139 = .ok (.invokevirtual 195, 3) := by decide +kernel
theorem d_Mod_readRun_142 : decode b_Mod_readRun 142 = .ok (.invokevirtual 130, 3) := by decide +kernel
theorem d_Mod_readRun_145 : decode b_Mod_readRun 145 = .ok (.istore 6, 2) := by decide +kernel
theorem d_Mod_readRun_147 : decode b_Mod_readRun 147 = .ok (.aload_n 0, 1) := by decide +kernel
theorem d_Mod_readRun_148 : decode b_Mod_readRun 148 = .ok (.aload_n 0, 1) := by decide +kernel
theorem d_Mod_readRun_149 : decode b_Mod_readRun 149 = .ok (.getfield 118, 3) := by decide +kernel
theorem d_Mod_readRun_152 : decode b_Mod_readRun 152 = .ok (.ifCond .eq 19, 3) := by decide +kernel
theorem d_Mod_readRun_155 : decode b_Mod_readRun 155 = .ok (.iload 6, 2) := by decide +kernel
theorem d_Mod_readRun_157 : decode b_Mod_readRun 157 = .ok (.aload_n 0, 1) := by decide +kernel
theorem d_Mod_readRun_158 : decode b_Mod_readRun 158 = .ok (.getfield 7, 3) := by decide +kernel
theorem d_Mod_readRun_161 : decode b_Mod_readRun 161 = .ok (.iload 4, 2) := by decide +kernel
theorem d_Mod_readRun_163 : decode b_Mod_readRun 163 = .ok (.isub, 1) := by decide +kernel
theorem d_Mod_readRun_164 : decode b_Mod_readRun 164 = .ok (.if_icmp .ge 7, 3) := by decide +kernel
theorem d_Mod_readRun_167 : decode b_Mod_readRun 167 = .ok (.iconst 1, 1) := by decide +kernel
theorem d_Mod_readRun_168 : decode b_Mod_readRun 168 = .ok (.goto 4, 3) := by decide +kernel
theorem d_Mod_readRun_171 : decode b_Mod_readRun 171 = .ok (.iconst 0, 1) := by decide +kernel
theorem d_Mod_readRun_172 : decode b_Mod_readRun 172 = .ok (.putfield 118, 3) := by decide +kernel
theorem d_Mod_readRun_175 : decode b_Mod_readRun 175 = .ok (.iconst 0, 1) := by decide +kernel
theorem d_Mod_readRun_176 : decode b_Mod_readRun 176 = .ok (.istore 7, 2) := by decide +kernel
theorem d_Mod_readRun_178 : decode b_Mod_readRun 178 = .ok (.iload 7, 2) := by decide +kernel
theorem d_Mod_readRun_180 : decode b_Mod_readRun 180 = .ok (.iload 6, 2) := by decide +kernel
theorem d_Mod_readRun_182 : decode b_Mod_readRun 182 = .ok (.if_icmp .ge 45, 3) := by decide +kernel
theorem d_Mod_readRun_185 : decode b_Mod_readRun 185 = .ok (.aload_n 0, 1) := by decide +kernel
theorem d_Mod_readRun_186 : decode b_Mod_readRun 186 = .ok (.getfield 118, 3) := by decide +kernel
theorem d_Mod_readRun_189 : decode b_Mod_readRun 189 = .ok (.ifCond .eq 38, 3) := by decide +kernel
theorem d_Mod_readRun_192 : decode b_Mod_readRun 192 = .ok (.aload_n 0, 1) := by decide +kernel
theorem d_Mod_readRun_193 : decode b_Mod_readRun 193 = .ok (.getfield 23, 3) := by decide +kernel
theorem d_Mod_readRun_196 : decode b_Mod_readRun 196 = .ok (.bipush 8, 2) := by decide +kernel
theorem d_Mod_readRun_198 : decode b_Mod_readRun 198 = .ok (.iload_n 2, 1) := by decide +kernel
theorem d_Mod_readRun_199 : decode b_Mod_readRun 199 = .ok (.imul, 1) := by decide +kernel
theorem d_Mod_readRun_200 : decode b_Mod_readRun 200 = .ok (.iload 4, 2) := by decide +kernel
theorem d_Mod_readRun_202 : decode b_Mod_readRun 202 = .ok (.iadd, 1) := by decide +kernel
theorem d_Mod_readRun_203 : decode b_Mod_readRun 203 = .ok (.iload_n 3, 1) := by decide +kernel
theorem d_Mod_readRun_204 : decode b_Mod_readRun 204 = .ok (.iastore, 1) := by decide +kernel
theorem d_Mod_readRun_205 : decode b_Mod_readRun 205 = .ok (.aload_n 0, 1) := by decide +kernel
theorem d_Mod_readRun_206 : decode b_Mod_readRun 206 = .ok (.getfield 19, 3) := by decide +kernel
theorem d_Mod_readRun_209 : decode b_Mod_readRun 209 = .ok (.bipush 8, 2) := by decide +kernel
theorem d_Mod_readRun_211 : decode b_Mod_readRun 211 = .ok (.iload_n 2, 1) := by decide +kernel
theorem d_Mod_readRun_212 : decode b_Mod_readRun 212 = .ok (.imul, 1) := by decide +kernel
theorem d_Mod_readRun_213 : decode b_Mod_readRun 213 = .ok (.iload 4, 2) := by decide +kernel
theorem d_Mod_readRun_215 : decode b_Mod_readRun 215 = .ok (.iadd, 1) := by decide +kernel
theorem d_Mod_readRun_216 : decode b_Mod_readRun 216 = .ok (.iload_n 3, 1) := by decide +kernel
theorem d_Mod_readRun_217 : decode b_Mod_readRun 217 = .ok (.iastore, 1) := by decide +kernel
theorem d_Mod_readRun_218 : decode b_Mod_readRun 218 = .ok (.iinc 4 1, 3) := by decide +kernel
theorem d_Mod_readRun_221 : decode b_Mod_readRun 221 = .ok (.iinc 7 1, 3) := by decide +kernel
theorem d_Mod_readRun_224 : decode b_Mod_readRun 224 = .ok (.goto (-46), 3) := by decide +kernel
theorem d_Mod_readRun_227 : decode b_Mod_readRun 227 = .ok (.goto (-214), 3) := by decide +kernel
theorem d_Mod_readRun_230 : decode b_Mod_readRun 230 = .ok (.iload 5, 2) := by decide +kernel
theorem d_Mod_readRun_232 : decode b_Mod_readRun 232 = .ok (.ifCond .ne 10, 3) := by decide +kernel
theorem d_Mod_readRun_235 : decode b_Mod_readRun 235 = .ok (.aload_n 0, 1) := by decide +kernel
theorem d_Mod_readRun_236 : decode b_Mod_readRun 236 = .ok (.getfield 118, 3) := by decide +kernel
theorem d_Mod_readRun_239 : decode b_Mod_readRun 239 = .ok (.ifCond .ne 8, 3) := by decide +kernel
theorem d_Mod_readRun_242 : decode b_Mod_readRun 242 = .ok (.aload_n 0, 1) := by decide +kernel
theorem d_Mod_readRun_243 : decode b_Mod_readRun 243 = .ok (.getfield 7, 3) := by decide +kernel
theorem d_Mod_readRun_246 : decode b_Mod_readRun 246 = .ok (.ireturn, 1) := by decide +kernel
theorem d_Mod_readRun_247 : decode b_Mod_readRun 247 = .ok (.aload_n 0, 1) := by decide +kernel
theorem d_Mod_readRun_248 : decode b_Mod_readRun 248 = .ok (.iload 4, 2) := by decide +kernel
theorem d_Mod_readRun_250 : decode b_Mod_readRun 250 = .ok (.iload_n 2, 1) := by decide +kernel
theorem d_Mod_readRun_251 : decode b_Mod_readRun 251 = .ok (.aload_n 0, 1) := by decide +kernel
theorem d_Mod_readRun_252 : decode b_Mod_readRun 252 = .ok (.aload_n 0, 1) := by decide +kernel
theorem d_Mod_readRun_253 : decode b_Mod_readRun 253 = .ok (.getfield 84, 3) := by decide +kernel
theorem d_Mod_readRun_256 : decode b_Mod_readRun 256 = .ok (.invokevirtual 195, 3) := by decide +kernel
theorem d_Mod_readRun_259 : decode b_Mod_readRun 259 = .ok (.invokevirtual 198, 3) := by decide +kernel
theorem d_Mod_readRun_262 : decode b_Mod_readRun 262 = .ok (.iload 4, 2) := by decide +kernel
theorem d_Mod_readRun_264 : decode b_Mod_readRun 264 = .ok (.iconst 1, 1) := by decide +kernel
theorem d_Mod_readRun_265 : decode b_Mod_readRun 265 = .ok (.iadd, 1) := by decide +kernel
theorem d_Mod_readRun_266 : decode b_Mod_readRun 266 = .ok (.ireturn, 1) := by decide +kernel
theorem d_Mod_rebuilt_0 : decode b_Mod_rebuilt 0 = .ok (.aload_n 0, 1) := by decide +kernel
theorem d_Mod_rebuilt_1 : decode b_Mod_rebuilt 1 = .ok (.iconst 0, 1) := by decide +kernel
theorem d_Mod_rebuilt_2 : decode b_Mod_rebuilt 2 = .ok (.putfield 47, 3) := by decide +kernel
theorem d_Mod_rebuilt_5 : decode b_Mod_rebuilt 5 = .ok (.aload_n 0, 1) := by decide +kernel
theorem d_Mod_rebuilt_6 : decode b_Mod_rebuilt 6 = .ok (.iload_n 1, 1) := by decide +kernel
theorem d_Mod_rebuilt_7 : decode b_Mod_rebuilt 7 = .ok (.iload_n 2, 1) := by decide +kernel
theorem d_Mod_rebuilt_8 : decode b_Mod_rebuilt 8 = .ok (.invokevirtual 223, 3) := by decide +kernel
theorem d_Mod_rebuilt_11 : decode b_Mod_rebuilt 11 = .ok (.ifCond .eq 17, 3) := by decide +kernel
theorem d_Mod_rebuilt_14 : decode b_Mod_rebuilt 14 = .ok (.aload_n 0, 1) := by decide +kernel
theorem d_Mod_rebuilt_15 : decode b_Mod_rebuilt 15 = .ok (.getfield 23, 3) := by decide +kernel
theorem d_Mod_rebuilt_18 : decode b_Mod_rebuilt 18 = .ok (.bipush 8, 2) := by decide +kernel
theorem d_Mod_rebuilt_20 : decode b_Mod_rebuilt 20 = .ok (.iload_n 2, 1) := by decide +kernel
theorem d_Mod_rebuilt_21 : decode b_Mod_rebuilt 21 = .ok (.imul, 1) := by decide +kernel
theorem d_Mod_rebuilt_22 : decode b_Mod_rebuilt 22 = .ok (.iload_n 1, 1) := by decide +kernel
theorem d_Mod_rebuilt_23 : decode b_Mod_rebuilt 23 = .ok (.iadd, 1) := by decide +kernel
theorem d_Mod_rebuilt_24 : decode b_Mod_rebuilt 24 = .ok (.iaload, 1) := by decide +kernel
theorem d_Mod_rebuilt_25 : decode b_Mod_rebuilt 25 = .ok (.goto 4, 3) := by decide +kernel
theorem d_Mod_rebuilt_28 : decode b_Mod_rebuilt 28 = .ok (.iconst (-1), 1) := by decide +kernel
theorem d_Mod_rebuilt_29 : decode b_Mod_rebuilt 29 = .ok (.ireturn, 1) := by decide +kernel
theorem d_Mod_reduced_0 : decode b_Mod_reduced 0 = .ok (.iload_n 1, 1) := by decide +kernel
theorem d_Mod_reduced_1 : decode b_Mod_reduced 1 = .ok (.ifCond .ge 12, 3) := by decide +kernel
theorem d_Mod_reduced_4 : decode b_Mod_reduced 4 = .ok (.iload_n 1, 1) := by decide +kernel
theorem d_Mod_reduced_5 : decode b_Mod_reduced 5 = .ok (.aload_n 0, 1) := by decide +kernel
theorem d_Mod_reduced_6 : decode b_Mod_reduced 6 = .ok (.getfield 56, 3) := by decide +kernel
theorem d_Mod_reduced_9 : decode b_Mod_reduced 9 = .ok (.iadd, 1) := by decide +kernel
theorem d_Mod_reduced_10 : decode b_Mod_reduced 10 = .ok (.goto 4, 3) := by decide +kernel
theorem d_Mod_reduced_13 : decode b_Mod_reduced 13 = .ok (.iload_n 1, 1) := by decide +kernel
theorem d_Mod_reduced_14 : decode b_Mod_reduced 14 = .ok (.istore_n 2, 1) := by decide +kernel
theorem d_Mod_reduced_15 : decode b_Mod_reduced 15 = .ok (.iload_n 2, 1) := by decide +kernel
theorem d_Mod_reduced_16 : decode b_Mod_reduced 16 = .ok (.aload_n 0, 1) := by decide +kernel
theorem d_Mod_reduced_17 : decode b_Mod_reduced 17 = .ok (.getfield 56, 3) := by decide +kernel
theorem d_Mod_reduced_20 : decode b_Mod_reduced 20 = .ok (.iconst 1, 1) := by decide +kernel
theorem d_Mod_reduced_21 : decode b_Mod_reduced 21 = .ok (.iadd, 1) := by decide +kernel
theorem d_Mod_reduced_22 : decode b_Mod_reduced 22 = .ok (.iconst 2, 1) := by decide +kernel
theorem d_Mod_reduced_23 : decode b_Mod_reduced 23 = .ok (.idiv, 1) := by decide +kernel
theorem d_Mod_reduced_24 : decode b_Mod_reduced 24 = .ok (.if_icmp .lt 12, 3) := by decide +kernel
theorem d_Mod_reduced_27 : decode b_Mod_reduced 27 = .ok (.iload_n 2, 1) := by decide +kernel
theorem d_Mod_reduced_28 : decode b_Mod_reduced 28 = .ok (.aload_n 0, 1) := by decide +kernel
theorem d_Mod_reduced_29 : decode b_Mod_reduced 29 = .ok (.getfield 56, 3) := by decide +kernel
theorem d_Mod_reduced_32 : decode b_Mod_reduced 32 = .ok (.isub, 1) := by decide +kernel
theorem d_Mod_reduced_33 : decode b_Mod_reduced 33 = .ok (.goto 4, 3) := by decide +kernel
theorem d_Mod_reduced_36 : decode b_Mod_reduced 36 = .ok (.iload_n 2, 1) := by decide +kernel
theorem d_Mod_reduced_37 : decode b_Mod_reduced 37 = .ok (.ireturn, 1) := by decide +kernel
theorem d_Mod_regular_0 : decode b_Mod_regular 0 = .ok (.aload_n 0, 1) := by decide +kernel
theorem d_Mod_regular_1 : decode b_Mod_regular 1 = .ok (.iload_n 1, 1) := by decide +kernel
theorem d_Mod_regular_2 : decode b_Mod_regular 2 = .ok (.iload_n 2, 1) := by decide +kernel
theorem d_Mod_regular_3 : decode b_Mod_regular 3 = .ok (.invokevirtual 140, 3) := by decide +kernel
theorem d_Mod_regular_6 : decode b_Mod_regular 6 = .ok (.istore_n 3, 1) := by decide +kernel
theorem d_Mod_regular_7 : decode b_Mod_regular 7 = .ok (.aload_n 0, 1) := by decide +kernel
theorem d_Mod_regular_8 : decode b_Mod_regular 8 = .ok (.iload_n 1, 1) := by decide +kernel
theorem d_Mod_regular_9 : decode b_Mod_regular 9 = .ok (.iload_n 2, 1) := by decide +kernel
theorem d_Mod_regular_10 : decode b_Mod_regular 10 = .ok (.invokevirtual 137, 3) := by decide +kernel
theorem d_Mod_regular_13 : decode b_Mod_regular 13 = .ok (.istore 4, 2) := by decide +kernel
theorem d_Mod_regular_15 : decode b_Mod_regular 15 = .ok (.aload_n 0, 1) := by decide +kernel
theorem d_Mod_regular_16 : decode b_Mod_regular 16 = .ok (.iload_n 1, 1) := by decide +kernel
theorem d_Mod_regular_17 : decode b_Mod_regular 17 = .ok (.iload_n 2, 1) := by decide +kernel
theorem d_Mod_regular_18 : decode b_Mod_regular 18 = .ok (.invokevirtual 152, 3) := by decide +kernel
theorem d_Mod_regular_21 : decode b_Mod_regular 21 = .ok (.istore 5, 2) := by decide +kernel
theorem d_Mod_regular_23 : decode b_Mod_regular 23 = .ok (.aload_n 0, 1) := by decide +kernel
theorem d_Mod_regular_24 : decode b_Mod_regular 24 = .ok (.iload_n 1, 1) := by decide +kernel
theorem d_Mod_regular_25 : decode b_Mod_regular 25 = .ok (.iload_n 2, 1) := by decide +kernel
theorem d_Mod_regular_26 : decode b_Mod_regular 26 = .ok (.invokevirtual 155, 3) := by decide +kernel
theorem d_Mod_regular_29 : decode b_Mod_regular 29 = .ok (.istore 6, 2) := by decide +kernel
theorem d_Mod_regular_31 : decode b_Mod_regular 31 = .ok (.bipush 81, 2) := by decide +kernel
theorem d_Mod_regular_33 : decode b_Mod_regular 33 = .ok (.aload_n 0, 1) := by decide +kernel
theorem d_Mod_regular_34 : decode b_Mod_regular 34 = .ok (.iload 6, 2) := by decide +kernel
theorem d_Mod_regular_36 : decode b_Mod_regular 36 = .ok (.iload 4, 2) := by decide +kernel
theorem d_Mod_regular_38 : decode b_Mod_regular 38 = .ok (.isub, 1) := by decide +kernel
theorem d_Mod_regular_39 : decode b_Mod_regular 39 = .ok (.invokevirtual 158, 3) := by decide +kernel
theorem d_Mod_regular_42 : decode b_Mod_regular 42 = .ok (.imul, 1) := by decide +kernel
theorem d_Mod_regular_43 : decode b_Mod_regular 43 = .ok (.bipush 9, 2) := by decide +kernel
theorem d_Mod_regular_45 : decode b_Mod_regular 45 = .ok (.aload_n 0, 1) := by decide +kernel
theorem d_Mod_regular_46 : decode b_Mod_regular 46 = .ok (.iload 4, 2) := by decide +kernel
theorem d_Mod_regular_48 : decode b_Mod_regular 48 = .ok (.iload 5, 2) := by decide +kernel
theorem d_Mod_regular_50 : decode b_Mod_regular 50 = .ok (.isub, 1) := by decide +kernel
theorem d_Mod_regular_51 : decode b_Mod_regular 51 = .ok (.invokevirtual 158, 3) := by decide +kernel
theorem d_Mod_regular_54 : decode b_Mod_regular 54 = .ok (.imul, 1) := by decide +kernel
theorem d_Mod_regular_55 : decode b_Mod_regular 55 = .ok (.iadd, 1) := by decide +kernel
theorem d_Mod_regular_56 : decode b_Mod_regular 56 = .ok (.aload_n 0, 1) := by decide +kernel
theorem d_Mod_regular_57 : decode b_Mod_regular 57 = .ok (.iload 5, 2) := by decide +kernel
theorem d_Mod_regular_59 : decode b_Mod_regular 59 = .ok (.iload_n 3, 1) := by decide +kernel
theorem d_Mod_regular_60 : decode b_Mod_regular 60 = .ok (.isub, 1) := by decide +kernel
theorem d_Mod_regular_61 : decode b_Mod_regular 61 = .ok (.invokevirtual 158, 3) := by decide +kernel
theorem d_Mod_regular_64 : decode b_Mod_regular 64 = .ok (.iadd, 1) := by decide +kernel
theorem d_Mod_regular_65 : decode b_Mod_regular 65 = .ok (.istore 7, 2) := by decide +kernel
theorem d_Mod_regular_67 : decode b_Mod_regular 67 = .ok (.iload 7, 2) := by decide +kernel
theorem d_Mod_regular_69 : decode b_Mod_regular 69 = .ok (.ifCond .ge 7, 3) := by decide +kernel
theorem d_Mod_regular_72 : decode b_Mod_regular 72 = .ok (.iconst (-1), 1) := by decide +kernel
theorem d_Mod_regular_73 : decode b_Mod_regular 73 = .ok (.goto 4, 3) := by decide +kernel
theorem d_Mod_regular_76 : decode b_Mod_regular 76 = .ok (.iconst 1, 1) := by decide +kernel
theorem d_Mod_regular_77 : decode b_Mod_regular 77 = .ok (.istore 8, 2) := by decide +kernel
theorem d_Mod_regular_79 : decode b_Mod_regular 79 = .ok (.iconst 5, 1) := by decide +kernel
theorem d_Mod_regular_80 : decode b_Mod_regular 80 = .ok (.iload 8, 2) := by decide +kernel
theorem d_Mod_regular_82 : decode b_Mod_regular 82 = .ok (.imul, 1) := by decide +kernel
theorem d_Mod_regular_83 : decode b_Mod_regular 83 = .ok (.iload 7, 2) := by decide +kernel
theorem d_Mod_regular_85 : decode b_Mod_regular 85 = .ok (.imul, 1) := by decide +kernel
theorem d_Mod_regular_86 : decode b_Mod_regular 86 = .ok (.istore 7, 2) := by decide +kernel
theorem d_Mod_regular_88 : decode b_Mod_regular 88 = .ok (.iload_n 3, 1) := by decide +kernel
theorem d_Mod_regular_89 : decode b_Mod_regular 89 = .ok (.iload 4, 2) := by decide +kernel
theorem d_Mod_regular_91 : decode b_Mod_regular 91 = .ok (.invokestatic 161, 3) := by decide +kernel
theorem d_Mod_regular_94 : decode b_Mod_regular 94 = .ok (.istore 9, 2) := by decide +kernel
theorem d_Mod_regular_96 : decode b_Mod_regular 96 = .ok (.iload_n 3, 1) := by decide +kernel
theorem d_Mod_regular_97 : decode b_Mod_regular 97 = .ok (.iload 4, 2) := by decide +kernel
theorem d_Mod_regular_99 : decode b_Mod_regular 99 = .ok (.invokestatic 66, 3) := by decide +kernel
theorem d_Mod_regular_102 : decode b_Mod_regular 102 = .ok (.istore 10, 2) := by decide +kernel
theorem d_Mod_regular_104 : decode b_Mod_regular 104 = .ok (.aload_n 0, 1) := by decide +kernel
theorem d_Mod_regular_105 : decode b_Mod_regular 105 = .ok (.iload 5, 2) := by decide +kernel
theorem d_Mod_regular_107 : decode b_Mod_regular 107 = .ok (.iload 10, 2) := by decide +kernel
theorem d_Mod_regular_109 : decode b_Mod_regular 109 = .ok (.if_icmp .lt 8, 3) := by decide +kernel
theorem d_Mod_regular_112 : decode b_Mod_regular 112 = .ok (.iload 9, 2) := by decide +kernel
theorem d_Mod_regular_114 : decode b_Mod_regular 114 = .ok (.goto 22, 3) := by decide +kernel
theorem d_Mod_regular_117 : decode b_Mod_regular 117 = .ok (.iload 5, 2) := by decide +kernel
theorem d_Mod_regular_119 : decode b_Mod_regular 119 = .ok (.iload 9, 2) := by decide +kernel
theorem d_Mod_regular_121 : decode b_Mod_regular 121 = .ok (.if_icmp .gt 8, 3) := by decide +kernel
theorem d_Mod_regular_124 : decode b_Mod_regular 124 = .ok (.iload 10, 2) := by decide +kernel
theorem d_Mod_regular_126 : decode b_Mod_regular 126 = .ok (.goto 10, 3) := by decide +kernel
theorem d_Mod_regular_129 : decode b_Mod_regular 129 = .ok (.iload_n 3, 1) := by decide +kernel
theorem d_Mod_regular_130 : decode b_Mod_regular 130 = .ok (.iload 4, 2) := by decide +kernel
theorem d_Mod_regular_132 : decode b_Mod_regular 132 = .ok (.iadd, 1) := by decide +kernel
theorem d_Mod_regular_133 : decode b_Mod_regular 133 = .ok (.iload 5, 2) := by decide +kernel
theorem d_Mod_regular_135 : decode b_Mod_regular 135 = .ok (.isub, 1) := by decide +kernel
theorem d_Mod_regular_136 : decode b_Mod_regular 136 = .ok (.iload 8, 2) := by decide +kernel
theorem d_Mod_regular_138 : decode b_Mod_regular 138 = .ok (.aload_n 0, 1) := by decide +kernel
theorem d_Mod_regular_139 : decode b_Mod_regular 139 = .ok (.getfield 26, 3) := by decide +kernel
theorem d_Mod_regular_142 : decode b_Mod_regular 142 = .ok (.iload 7, 2) := by decide +kernel
theorem d_Mod_regular_144 : decode b_Mod_regular 144 = .ok (.iconst 2, 1) := by decide +kernel
theorem d_Mod_regular_145 : decode b_Mod_regular 145 = .ok (.iadd, 1) := by decide +kernel
theorem d_Mod_regular_146 : decode b_Mod_regular 146 = .ok (.iaload, 1) := by decide +kernel
theorem d_Mod_regular_147 : decode b_Mod_regular 147 = .ok (.imul, 1) := by decide +kernel
theorem d_Mod_regular_148 : decode b_Mod_regular 148 = .ok (.iadd, 1) := by decide +kernel
theorem d_Mod_regular_149 : decode b_Mod_regular 149 = .ok (.invokevirtual 146, 3) := by decide +kernel
theorem d_Mod_regular_152 : decode b_Mod_regular 152 = .ok (.istore 11, 2) := by decide +kernel
theorem d_Mod_regular_154 : decode b_Mod_regular 154 = .ok (.aload_n 0, 1) := by decide +kernel
theorem d_Mod_regular_155 : decode b_Mod_regular 155 = .ok (.getfield 26, 3) := by decide +kernel
theorem d_Mod_regular_158 : decode b_Mod_regular 158 = .ok (.iload 7, 2) := by decide +kernel
theorem d_Mod_regular_160 : decode b_Mod_regular 160 = .ok (.iconst 3, 1) := by decide +kernel
theorem d_Mod_regular_161 : decode b_Mod_regular 161 = .ok (.iadd, 1) := by decide +kernel
theorem d_Mod_regular_162 : decode b_Mod_regular 162 = .ok (.iaload, 1) := by decide +kernel
theorem d_Mod_regular_163 : decode b_Mod_regular 163 = .ok (.aload_n 0, 1) := by decide +kernel
theorem d_Mod_regular_164 : decode b_Mod_regular 164 = .ok (.getfield 26, 3) := by decide +kernel
theorem d_Mod_regular_167 : decode b_Mod_regular 167 = .ok (.iload 7, 2) := by decide +kernel
theorem d_Mod_regular_169 : decode b_Mod_regular 169 = .ok (.iaload, 1) := by decide +kernel
theorem d_Mod_regular_170 : decode b_Mod_regular 170 = .ok (.invokestatic 164, 3) := by decide +kernel
theorem d_Mod_regular_173 : decode b_Mod_regular 173 = .ok (.istore 12, 2) := by decide +kernel
theorem d_Mod_regular_175 : decode b_Mod_regular 175 = .ok (.aload_n 0, 1) := by decide +kernel
theorem d_Mod_regular_176 : decode b_Mod_regular 176 = .ok (.getfield 50, 3) := by decide +kernel
theorem d_Mod_regular_179 : decode b_Mod_regular 179 = .ok (.ifCond .ne 36, 3) := by decide +kernel
theorem d_Mod_regular_182 : decode b_Mod_regular 182 = .ok (.iload 12, 2) := by decide +kernel
theorem d_Mod_regular_184 : decode b_Mod_regular 184 = .ok (.ifCond .ne 31, 3) := by decide +kernel
theorem d_Mod_regular_187 : decode b_Mod_regular 187 = .ok (.iconst 2, 1) := by decide +kernel
theorem d_Mod_regular_188 : decode b_Mod_regular 188 = .ok (.aload_n 0, 1) := by decide +kernel
theorem d_Mod_regular_189 : decode b_Mod_regular 189 = .ok (.getfield 26, 3) := by decide +kernel
theorem d_Mod_regular_192 : decode b_Mod_regular 192 = .ok (.iload 7, 2) := by decide +kernel
theorem d_Mod_regular_194 : decode b_Mod_regular 194 = .ok (.iconst 1, 1) := by decide +kernel
theorem d_Mod_regular_195 : decode b_Mod_regular 195 = .ok (.iadd, 1) := by decide +kernel
theorem d_Mod_regular_196 : decode b_Mod_regular 196 = .ok (.iaload, 1) := by decide +kernel
theorem d_Mod_regular_197 : decode b_Mod_regular 197 = .ok (.imul, 1) := by decide +kernel
theorem d_Mod_regular_198 : decode b_Mod_regular 198 = .ok (.aload_n 0, 1) := by decide +kernel
theorem d_Mod_regular_199 : decode b_Mod_regular 199 = .ok (.getfield 26, 3) := by decide +kernel
theorem d_Mod_regular_202 : decode b_Mod_regular 202 = .ok (.iload 7, 2) := by decide +kernel
theorem d_Mod_regular_204 : decode b_Mod_regular 204 = .ok (.iconst 3, 1) := by decide +kernel
theorem d_Mod_regular_205 : decode b_Mod_regular 205 = .ok (.iadd, 1) := by decide +kernel
theorem d_Mod_regular_206 : decode b_Mod_regular 206 = .ok (.iaload, 1) := by decide +kernel
theorem d_Mod_regular_207 : decode b_Mod_regular 207 = .ok (.ineg, 1) := by decide +kernel
theorem d_Mod_regular_208 : decode b_Mod_regular 208 = .ok (.if_icmp .gt 7, 3) := by decide +kernel
theorem d_Mod_regular_211 : decode b_Mod_regular 211 = .ok (.iconst 1, 1) := by decide +kernel
theorem d_Mod_regular_212 : decode b_Mod_regular 212 = .ok (.goto 4, 3) := by decide +kernel
theorem d_Mod_regular_215 : decode b_Mod_regular 215 = .ok (.iconst 0, 1) := by decide +kernel
theorem d_Mod_regular_216 : decode b_Mod_regular 216 = .ok (.istore 13, 2) := by decide +kernel
theorem d_Mod_regular_218 : decode b_Mod_regular 218 = .ok (.aload_n 0, 1) := by decide +kernel
theorem d_Mod_regular_219 : decode b_Mod_regular 219 = .ok (.getfield 167, 3) := by decide +kernel
theorem d_Mod_regular_222 : decode b_Mod_regular 222 = .ok (.ifCond .eq 70, 3) := by decide +kernel
theorem d_Mod_regular_225 : decode b_Mod_regular 225 = .ok (.aload_n 0, 1) := by decide +kernel
theorem d_Mod_regular_226 : decode b_Mod_regular 226 = .ok (.iload 12, 2) := by decide +kernel
theorem d_Mod_regular_228 : decode b_Mod_regular 228 = .ok (.aload_n 0, 1) := by decide +kernel
theorem d_Mod_regular_229 : decode b_Mod_regular 229 = .ok (.getfield 69, 3) := by decide +kernel
theorem d_Mod_regular_232 : decode b_Mod_regular 232 = .ok (.invokevirtual 170, 3) := by decide +kernel
theorem d_Mod_regular_235 : decode b_Mod_regular 235 = .ok (.istore 15, 2) := by decide +kernel
theorem d_Mod_regular_237 : decode b_Mod_regular 237 = .ok (.iload 15, 2) := by decide +kernel
theorem d_Mod_regular_239 : decode b_Mod_regular 239 = .ok (.iconst 2, 1) := by decide +kernel
theorem d_Mod_regular_240 : decode b_Mod_regular 240 = .ok (.irem, 1) := by decide +kernel
theorem d_Mod_regular_241 : decode b_Mod_regular 241 = .ok (.ifCond .ne 10, 3) := by decide +kernel
theorem d_Mod_regular_244 : decode b_Mod_regular 244 = .ok (.iload 15, 2) := by decide +kernel
theorem d_Mod_regular_246 : decode b_Mod_regular 246 = .ok (.iconst 2, 1) := by decide +kernel
theorem d_Mod_regular_247 : decode b_Mod_regular 247 = .ok (.idiv, 1) := by decide +kernel
theorem d_Mod_regular_248 : decode b_Mod_regular 248 = .ok (.goto 10, 3) := by decide +kernel
theorem d_Mod_regular_251 : decode b_Mod_regular 251 = .ok (.iload 15, 2) := by decide +kernel
theorem d_Mod_regular_253 : decode b_Mod_regular 253 = .ok (.iconst 1, 1) := by decide +kernel
theorem d_Mod_regular_254 : decode b_Mod_regular 254 = .ok (.iadd, 1) := by decide +kernel
theorem d_Mod_regular_255 : decode b_Mod_regular 255 = .ok (.ineg, 1) := by decide +kernel
theorem d_Mod_regular_256 : decode b_Mod_regular 256 = .ok (.iconst 2, 1) := by decide +kernel
theorem d_Mod_regular_257 : decode b_Mod_regular 257 = .ok (.idiv, 1) := by decide +kernel
theorem d_Mod_regular_258 : decode b_Mod_regular 258 = .ok (.istore 14, 2) := by decide +kernel
theorem d_Mod_regular_260 : decode b_Mod_regular 260 = .ok (.iload 13, 2) := by decide +kernel
theorem d_Mod_regular_262 : decode b_Mod_regular 262 = .ok (.ifCond .eq 11, 3) := by decide +kernel
theorem d_Mod_regular_265 : decode b_Mod_regular 265 = .ok (.iload 14, 2) := by decide +kernel
theorem d_Mod_regular_267 : decode b_Mod_regular 267 = .ok (.ineg, 1) := by decide +kernel
theorem d_Mod_regular_268 : decode b_Mod_regular 268 = .ok (.iconst 1, 1) := by decide +kernel
theorem d_Mod_regular_269 : decode b_Mod_regular 269 = .ok (.isub, 1) := by decide +kernel
theorem d_Mod_regular_270 : decode b_Mod_regular 270 = .ok (.goto 5, 3) := by decide +kernel
theorem d_Mod_regular_273 : decode b_Mod_regular 273 = .ok (.iload 14, 2) := by decide +kernel
theorem d_Mod_regular_275 : decode b_Mod_regular 275 = .ok (.istore 14, 2) := by decide +kernel
theorem d_Mod_regular_277 : decode b_Mod_regular 277 = .ok (.aload_n 0, 1) := by decide +kernel
theorem d_Mod_regular_278 : decode b_Mod_regular 278 = .ok (.iload_n 1, 1) := by decide +kernel
theorem d_Mod_regular_279 : decode b_Mod_regular 279 = .ok (.iload_n 2, 1) := by decide +kernel
theorem d_Mod_regular_280 : decode b_Mod_regular 280 = .ok (.iload 11, 2) := by decide +kernel
theorem d_Mod_regular_282 : decode b_Mod_regular 282 = .ok (.iload 8, 2) := by decide +kernel
theorem d_Mod_regular_284 : decode b_Mod_regular 284 = .ok (.iload 14, 2) := by decide +kernel
theorem d_Mod_regular_286 : decode b_Mod_regular 286 = .ok (.invokevirtual 173, 3) := by decide +kernel
theorem d_Mod_regular_289 : decode b_Mod_regular 289 = .ok (.goto 61, 3) := by decide +kernel
theorem d_Mod_regular_292 : decode b_Mod_regular 292 = .ok (.aload_n 0, 1) := by decide +kernel
theorem d_Mod_regular_293 : decode b_Mod_regular 293 = .ok (.iload_n 1, 1) := by decide +kernel
theorem d_Mod_regular_294 : decode b_Mod_regular 294 = .ok (.iload_n 2, 1) := by decide +kernel
theorem d_Mod_regular_295 : decode b_Mod_regular 295 = .ok (.iload 11, 2) := by decide +kernel
theorem d_Mod_regular_297 : decode b_Mod_regular 297 = .ok (.iload 8, 2) := by decide +kernel
theorem d_Mod_regular_299 : decode b_Mod_regular 299 = .ok (.invokevirtual 177, 3) := by decide +kernel
theorem d_Mod_regular_302 : decode b_Mod_regular 302 = .ok (.istore 14, 2) := by decide +kernel
theorem d_Mod_regular_304 : decode b_Mod_regular 304 = .ok (.iload 13, 2) := by decide +kernel
theorem d_Mod_regular_306 : decode b_Mod_regular 306 = .ok (.ifCond .eq 11, 3) := by decide +kernel
theorem d_Mod_regular_309 : decode b_Mod_regular 309 = .ok (.iload 14, 2) := by decide +kernel
theorem d_Mod_regular_311 : decode b_Mod_regular 311 = .ok (.ineg, 1) := by decide +kernel
theorem d_Mod_regular_312 : decode b_Mod_regular 312 = .ok (.iconst 1, 1) := by decide +kernel
theorem d_Mod_regular_313 : decode b_Mod_regular 313 = .ok (.isub, 1) := by decide +kernel
theorem d_Mod_regular_314 : decode b_Mod_regular 314 = .ok (.goto 5, 3) := by decide +kernel
theorem d_Mod_regular_317 : decode b_Mod_regular 317 = .ok (.iload 14, 2) := by decide +kernel
theorem d_Mod_regular_319 : decode b_Mod_regular 319 = .ok (.istore 15, 2) := by decide +kernel
theorem d_Mod_regular_321 : decode b_Mod_regular 321 = .ok (.aload_n 0, 1) := by decide +kernel
theorem d_Mod_regular_322 : decode b_Mod_regular 322 = .ok (.iload 15, 2) := by decide +kernel
theorem d_Mod_regular_324 : decode b_Mod_regular 324 = .ok (.ifCond .lt 10, 3) := by decide +kernel
theorem d_Mod_regular_327 : decode b_Mod_regular 327 = .ok (.iconst 2, 1) := by decide +kernel
theorem d_Mod_regular_328 : decode b_Mod_regular 328 = .ok (.iload 15, 2) := by decide +kernel
theorem d_Mod_regular_330 : decode b_Mod_regular 330 = .ok (.imul, 1) := by decide +kernel
theorem d_Mod_regular_331 : decode b_Mod_regular 331 = .ok (.goto 10, 3) := by decide +kernel
theorem d_Mod_regular_334 : decode b_Mod_regular 334 = .ok (.bipush (-2), 2) := by decide +kernel
theorem d_Mod_regular_336 : decode b_Mod_regular 336 = .ok (.iload 15, 2) := by decide +kernel
theorem d_Mod_regular_338 : decode b_Mod_regular 338 = .ok (.imul, 1) := by decide +kernel
theorem d_Mod_regular_339 : decode b_Mod_regular 339 = .ok (.iconst 1, 1) := by decide +kernel
theorem d_Mod_regular_340 : decode b_Mod_regular 340 = .ok (.isub, 1) := by decide +kernel
theorem d_Mod_regular_341 : decode b_Mod_regular 341 = .ok (.iload 12, 2) := by decide +kernel
theorem d_Mod_regular_343 : decode b_Mod_regular 343 = .ok (.aload_n 0, 1) := by decide +kernel
theorem d_Mod_regular_344 : decode b_Mod_regular 344 = .ok (.getfield 69, 3) := by decide +kernel
theorem d_Mod_regular_347 : decode b_Mod_regular 347 = .ok (.invokevirtual 181, 3) := by decide +kernel
theorem d_Mod_regular_350 : decode b_Mod_regular 350 = .ok (.aload_n 0, 1) := by decide +kernel
theorem d_Mod_regular_351 : decode b_Mod_regular 351 = .ok (.iload 7, 2) := by decide +kernel
theorem d_Mod_regular_353 : decode b_Mod_regular 353 = .ok (.iload 14, 2) := by decide +kernel
theorem d_Mod_regular_355 : decode b_Mod_regular 355 = .ok (.invokevirtual 185, 3) := by decide +kernel
theorem d_Mod_regular_358 : decode b_Mod_regular 358 = .ok (.return_, 1) := by decide +kernel
theorem d_Mod_row_0 : decode b_Mod_row 0 = .ok (.aload_n 0, 1) := by decide +kernel
theorem d_Mod_row_1 : decode b_Mod_row 1 = .ok (.iconst 0, 1) := by decide +kernel
theorem d_Mod_row_2 : decode b_Mod_row 2 = .ok (.putfield 47, 3) := by decide +kernel
theorem d_Mod_row_5 : decode b_Mod_row 5 = .ok (.iload_n 1, 1) := by decide +kernel
theorem d_Mod_row_6 : decode b_Mod_row 6 = .ok (.ifCond .lt 11, 3) := by decide +kernel
theorem d_Mod_row_9 : decode b_Mod_row 9 = .ok (.iload_n 1, 1) := by decide +kernel
theorem d_Mod_row_10 : decode b_Mod_row 10 = .ok (.aload_n 0, 1) := by decide +kernel
theorem d_Mod_row_11 : decode b_Mod_row 11 = .ok (.getfield 13, 3) := by decide +kernel
theorem d_Mod_row_14 : decode b_Mod_row 14 = .ok (.if_icmp .lt 5, 3) := by decide +kernel
theorem d_Mod_row_17 : decode b_Mod_row 17 = .ok (.iconst 0, 1) := by decide +kernel
theorem d_Mod_row_18 : decode b_Mod_row 18 = .ok (.ireturn, 1) := by decide +kernel
theorem d_Mod_row_19 : decode b_Mod_row 19 = .ok (.iconst 0, 1) := by decide +kernel
theorem d_Mod_row_20 : decode b_Mod_row 20 = .ok (.istore 4, 2) := by decide +kernel
theorem d_Mod_row_22 : decode b_Mod_row 22 = .ok (.iload 4, 2) := by decide +kernel
theorem d_Mod_row_24 : decode b_Mod_row 24 = .ok (.aload_n 0, 1) := by decide +kernel
theorem d_Mod_row_25 : decode b_Mod_row 25 = .ok (.getfield 7, 3) := by decide +kernel
theorem d_Mod_row_28 : decode b_Mod_row 28 = .ok (.if_icmp .ge 34, 3) := by decide +kernel
theorem d_Mod_row_31 : decode b_Mod_row 31 = .ok (.lload_n 2, 1) := by decide +kernel
theorem d_Mod_row_32 : decode b_Mod_row 32 = .ok (.bipush 56, 2) := by decide +kernel
theorem d_Mod_row_34 : decode b_Mod_row 34 = .ok (.bipush 8, 2) := by decide +kernel
theorem d_Mod_row_36 : decode b_Mod_row 36 = .ok (.iload 4, 2) := by decide +kernel
theorem d_Mod_row_38 : decode b_Mod_row 38 = .ok (.imul, 1) := by decide +kernel
theorem d_Mod_row_39 : decode b_Mod_row 39 = .ok (.isub, 1) := by decide +kernel
theorem d_Mod_row_40 : decode b_Mod_row 40 = .ok (.lshr, 1) := by decide +kernel
theorem d_Mod_row_41 : decode b_Mod_row 41 = .ok (.ldc2_w 94, 3) := by decide +kernel
theorem d_Mod_row_44 : decode b_Mod_row 44 = .ok (.land, 1) := by decide +kernel
theorem d_Mod_row_45 : decode b_Mod_row 45 = .ok (.aload_n 0, 1) := by decide +kernel
theorem d_Mod_row_46 : decode b_Mod_row 46 = .ok (.getfield 16, 3) := by decide +kernel
theorem d_Mod_row_49 : decode b_Mod_row 49 = .ok (.i2l, 1) := by decide +kernel
theorem d_Mod_row_50 : decode b_Mod_row 50 = .ok (.lcmp, 1) := by decide +kernel
theorem d_Mod_row_51 : decode b_Mod_row 51 = .ok (.ifCond .le 5, 3) := by decide +kernel
theorem d_Mod_row_54 : decode b_Mod_row 54 = .ok (.iconst 0, 1) := by decide +kernel
theorem d_Mod_row_55 : decode b_Mod_row 55 = .ok (.ireturn, 1) := by decide +kernel
theorem d_Mod_row_56 : decode b_Mod_row 56 = .ok (.iinc 4 1, 3) := by decide +kernel
theorem d_Mod_row_59 : decode b_Mod_row 59 = .ok (.goto (-37), 3) := by decide +kernel
theorem d_Mod_row_62 : decode b_Mod_row 62 = .ok (.iconst 0, 1) := by decide +kernel
theorem d_Mod_row_63 : decode b_Mod_row 63 = .ok (.istore 4, 2) := by decide +kernel
theorem d_Mod_row_65 : decode b_Mod_row 65 = .ok (.iload 4, 2) := by decide +kernel
theorem d_Mod_row_67 : decode b_Mod_row 67 = .ok (.aload_n 0, 1) := by decide +kernel
theorem d_Mod_row_68 : decode b_Mod_row 68 = .ok (.getfield 7, 3) := by decide +kernel
theorem d_Mod_row_71 : decode b_Mod_row 71 = .ok (.if_icmp .ge 36, 3) := by decide +kernel
theorem d_Mod_row_74 : decode b_Mod_row 74 = .ok (.aload_n 0, 1) := by decide +kernel
theorem d_Mod_row_75 : decode b_Mod_row 75 = .ok (.getfield 19, 3) := by decide +kernel
theorem d_Mod_row_78 : decode b_Mod_row 78 = .ok (.bipush 8, 2) := by decide +kernel
theorem d_Mod_row_80 : decode b_Mod_row 80 = .ok (.iload_n 1, 1) := by decide +kernel
theorem d_Mod_row_81 : decode b_Mod_row 81 = .ok (.imul, 1) := by decide +kernel
theorem d_Mod_row_82 : decode b_Mod_row 82 = .ok (.iload 4, 2) := by decide +kernel
theorem d_Mod_row_84 : decode b_Mod_row 84 = .ok (.iadd, 1) := by decide +kernel
theorem d_Mod_row_85 : decode b_Mod_row 85 = .ok (.lload_n 2, 1) := by decide +kernel
theorem d_Mod_row_86 : decode b_Mod_row 86 = .ok (.bipush 56, 2) := by decide +kernel
theorem d_Mod_row_88 : decode b_Mod_row 88 = .ok (.bipush 8, 2) := by decide +kernel
theorem d_Mod_row_90 : decode b_Mod_row 90 = .ok (.iload 4, 2) := by decide +kernel
theorem d_Mod_row_92 : decode b_Mod_row 92 = .ok (.imul, 1) := by decide +kernel
theorem d_Mod_row_93 : decode b_Mod_row 93 = .ok (.isub, 1) := by decide +kernel
theorem d_Mod_row_94 : decode b_Mod_row 94 = .ok (.lshr, 1) := by decide +kernel
theorem d_Mod_row_95 : decode b_Mod_row 95 = .ok (.ldc2_w 94, 3) := by decide +kernel
theorem d_Mod_row_98 : decode b_Mod_row 98 = .ok (.land, 1) := by decide +kernel
theorem d_Mod_row_99 : decode b_Mod_row 99 = .ok (.l2i, 1) := by decide +kernel
theorem d_Mod_row_100 : decode b_Mod_row 100 = .ok (.iastore, 1) := by decide +kernel
theorem d_Mod_row_101 : decode b_Mod_row 101 = .ok (.iinc 4 1, 3) := by decide +kernel
theorem d_Mod_row_104 : decode b_Mod_row 104 = .ok (.goto (-39), 3) := by decide +kernel
theorem d_Mod_row_107 : decode b_Mod_row 107 = .ok (.iconst 1, 1) := by decide +kernel
theorem d_Mod_row_108 : decode b_Mod_row 108 = .ok (.ireturn, 1) := by decide +kernel
theorem d_Mod_runIndex_0 : decode b_Mod_runIndex 0 = .ok (.aload_n 0, 1) := by decide +kernel
theorem d_Mod_runIndex_1 : decode b_Mod_runIndex 1 = .ok (.iconst 0, 1) := by decide +kernel
theorem d_Mod_runIndex_2 : decode b_Mod_runIndex 2 = .ok (.putfield 47, 3) := by decide +kernel
theorem d_Mod_runIndex_5 : decode b_Mod_runIndex 5 = .ok (.aload_n 0, 1) := by decide +kernel
theorem d_Mod_runIndex_6 : decode b_Mod_runIndex 6 = .ok (.getfield 84, 3) := by decide +kernel
theorem d_Mod_runIndex_9 : decode b_Mod_runIndex 9 = .ok (.ireturn, 1) := by decide +kernel
theorem d_Mod_sample_0 : decode b_Mod_sample 0 = .ok (.aload_n 0, 1) := by decide +kernel
theorem d_Mod_sample_1 : decode b_Mod_sample 1 = .ok (.iconst 0, 1) := by decide +kernel
theorem d_Mod_sample_2 : decode b_Mod_sample 2 = .ok (.putfield 47, 3) := by decide +kernel
theorem d_Mod_sample_5 : decode b_Mod_sample 5 = .ok (.aload_n 0, 1) := by decide +kernel
theorem d_Mod_sample_6 : decode b_Mod_sample 6 = .ok (.iload_n 1, 1) := by decide +kernel
theorem d_Mod_sample_7 : decode b_Mod_sample 7 = .ok (.iload_n 2, 1) := by decide +kernel
theorem d_Mod_sample_8 : decode b_Mod_sample 8 = .ok (.invokevirtual 223, 3) := by decide +kernel
theorem d_Mod_sample_11 : decode b_Mod_sample 11 = .ok (.ifCond .eq 17, 3) := by decide +kernel
theorem d_Mod_sample_14 : decode b_Mod_sample 14 = .ok (.aload_n 0, 1) := by decide +kernel
theorem d_Mod_sample_15 : decode b_Mod_sample 15 = .ok (.getfield 19, 3) := by decide +kernel
theorem d_Mod_sample_18 : decode b_Mod_sample 18 = .ok (.bipush 8, 2) := by decide +kernel
theorem d_Mod_sample_20 : decode b_Mod_sample 20 = .ok (.iload_n 2, 1) := by decide +kernel
theorem d_Mod_sample_21 : decode b_Mod_sample 21 = .ok (.imul, 1) := by decide +kernel
theorem d_Mod_sample_22 : decode b_Mod_sample 22 = .ok (.iload_n 1, 1) := by decide +kernel
theorem d_Mod_sample_23 : decode b_Mod_sample 23 = .ok (.iadd, 1) := by decide +kernel
theorem d_Mod_sample_24 : decode b_Mod_sample 24 = .ok (.iaload, 1) := by decide +kernel
theorem d_Mod_sample_25 : decode b_Mod_sample 25 = .ok (.goto 4, 3) := by decide +kernel
theorem d_Mod_sample_28 : decode b_Mod_sample 28 = .ok (.iconst (-1), 1) := by decide +kernel
theorem d_Mod_sample_29 : decode b_Mod_sample 29 = .ok (.ireturn, 1) := by decide +kernel
theorem d_Mod_say_0 : decode b_Mod_say 0 = .ok (.aload_n 0, 1) := by decide +kernel
theorem d_Mod_say_1 : decode b_Mod_say 1 = .ok (.getfield 29, 3) := by decide +kernel
theorem d_Mod_say_4 : decode b_Mod_say 4 = .ok (.aload_n 0, 1) := by decide +kernel
theorem d_Mod_say_5 : decode b_Mod_say 5 = .ok (.getfield 91, 3) := by decide +kernel
theorem d_Mod_say_8 : decode b_Mod_say 8 = .ok (.iload_n 1, 1) := by decide +kernel
theorem d_Mod_say_9 : decode b_Mod_say 9 = .ok (.iastore, 1) := by decide +kernel
theorem d_Mod_say_10 : decode b_Mod_say 10 = .ok (.aload_n 0, 1) := by decide +kernel
theorem d_Mod_say_11 : decode b_Mod_say 11 = .ok (.dup, 1) := by decide +kernel
theorem d_Mod_say_12 : decode b_Mod_say 12 = .ok (.getfield 91, 3) := by decide +kernel
theorem d_Mod_say_15 : decode b_Mod_say 15 = .ok (.iconst 1, 1) := by decide +kernel
theorem d_Mod_say_16 : decode b_Mod_say 16 = .ok (.iadd, 1) := by decide +kernel
theorem d_Mod_say_17 : decode b_Mod_say 17 = .ok (.putfield 91, 3) := by decide +kernel
theorem d_Mod_say_20 : decode b_Mod_say 20 = .ok (.return_, 1) := by decide +kernel
theorem d_Mod_settle_0 : decode b_Mod_settle 0 = .ok (.iload 5, 2) := by decide +kernel
theorem d_Mod_settle_2 : decode b_Mod_settle 2 = .ok (.aload_n 0, 1) := by decide +kernel
theorem d_Mod_settle_3 : decode b_Mod_settle 3 = .ok (.getfield 56, 3) := by decide +kernel
theorem d_Mod_settle_6 : decode b_Mod_settle 6 = .ok (.iconst 2, 1) := by decide +kernel
theorem d_Mod_settle_7 : decode b_Mod_settle 7 = .ok (.idiv, 1) := by decide +kernel
theorem d_Mod_settle_8 : decode b_Mod_settle 8 = .ok (.ineg, 1) := by decide +kernel
theorem d_Mod_settle_9 : decode b_Mod_settle 9 = .ok (.if_icmp .lt 16, 3) := by decide +kernel
theorem d_Mod_settle_12 : decode b_Mod_settle 12 = .ok (.iload 5, 2) := by decide +kernel
theorem d_Mod_settle_14 : decode b_Mod_settle 14 = .ok (.aload_n 0, 1) := by decide +kernel
theorem d_Mod_settle_15 : decode b_Mod_settle 15 = .ok (.getfield 56, 3) := by decide +kernel
theorem d_Mod_settle_18 : decode b_Mod_settle 18 = .ok (.iconst 1, 1) := by decide +kernel
theorem d_Mod_settle_19 : decode b_Mod_settle 19 = .ok (.iadd, 1) := by decide +kernel
theorem d_Mod_settle_20 : decode b_Mod_settle 20 = .ok (.iconst 2, 1) := by decide +kernel
theorem d_Mod_settle_21 : decode b_Mod_settle 21 = .ok (.idiv, 1) := by decide +kernel
theorem d_Mod_settle_22 : decode b_Mod_settle 22 = .ok (.if_icmp .lt 8, 3) := by decide +kernel
theorem d_Mod_settle_25 : decode b_Mod_settle 25 = .ok (.aload_n 0, 1) := by decide +kernel
theorem d_Mod_settle_26 : decode b_Mod_settle 26 = .ok (.iconst 0, 1) := by decide +kernel
theorem d_Mod_settle_27 : decode b_Mod_settle 27 = .ok (.putfield 118, 3) := by decide +kernel
theorem d_Mod_settle_30 : decode b_Mod_settle 30 = .ok (.iload_n 3, 1) := by decide +kernel
theorem d_Mod_settle_31 : decode b_Mod_settle 31 = .ok (.iload 4, 2) := by decide +kernel
theorem d_Mod_settle_33 : decode b_Mod_settle 33 = .ok (.iload 5, 2) := by decide +kernel
theorem d_Mod_settle_35 : decode b_Mod_settle 35 = .ok (.imul, 1) := by decide +kernel
theorem d_Mod_settle_36 : decode b_Mod_settle 36 = .ok (.aload_n 0, 1) := by decide +kernel
theorem d_Mod_settle_37 : decode b_Mod_settle 37 = .ok (.getfield 53, 3) := by decide +kernel
theorem d_Mod_settle_40 : decode b_Mod_settle 40 = .ok (.imul, 1) := by decide +kernel
theorem d_Mod_settle_41 : decode b_Mod_settle 41 = .ok (.iadd, 1) := by decide +kernel
theorem d_Mod_settle_42 : decode b_Mod_settle 42 = .ok (.istore 6, 2) := by decide +kernel
theorem d_Mod_settle_44 : decode b_Mod_settle 44 = .ok (.iload 6, 2) := by decide +kernel
theorem d_Mod_settle_46 : decode b_Mod_settle 46 = .ok (.aload_n 0, 1) := by decide +kernel
theorem d_Mod_settle_47 : decode b_Mod_settle 47 = .ok (.getfield 50, 3) := by decide +kernel
theorem d_Mod_settle_50 : decode b_Mod_settle 50 = .ok (.ineg, 1) := by decide +kernel
theorem d_Mod_settle_51 : decode b_Mod_settle 51 = .ok (.if_icmp .ge 18, 3) := by decide +kernel
theorem d_Mod_settle_54 : decode b_Mod_settle 54 = .ok (.iload 6, 2) := by decide +kernel
theorem d_Mod_settle_56 : decode b_Mod_settle 56 = .ok (.aload_n 0, 1) := by decide +kernel
theorem d_Mod_settle_57 : decode b_Mod_settle 57 = .ok (.getfield 56, 3) := by decide +kernel
theorem d_Mod_settle_60 : decode b_Mod_settle 60 = .ok (.aload_n 0, 1) := by decide +kernel
theorem d_Mod_settle_61 : decode b_Mod_settle 61 = .ok (.getfield 53, 3) := by decide +kernel
theorem d_Mod_settle_64 : decode b_Mod_settle 64 = .ok (.imul, 1) := by decide +kernel
theorem d_Mod_settle_65 : decode b_Mod_settle 65 = .ok (.iadd, 1) := by decide +kernel
theorem d_Mod_settle_66 : decode b_Mod_settle 66 = .ok (.goto 34, 3) := by decide +kernel
theorem d_Mod_settle_69 : decode b_Mod_settle 69 = .ok (.iload 6, 2) := by decide +kernel
theorem d_Mod_settle_71 : decode b_Mod_settle 71 = .ok (.aload_n 0, 1) := by decide +kernel
theorem d_Mod_settle_72 : decode b_Mod_settle 72 = .ok (.getfield 16, 3) := by decide +kernel
theorem d_Mod_settle_75 : decode b_Mod_settle 75 = .ok (.aload_n 0, 1) := by decide +kernel
theorem d_Mod_settle_76 : decode b_Mod_settle 76 = .ok (.getfield 50, 3) := by decide +kernel
theorem d_Mod_settle_79 : decode b_Mod_settle 79 = .ok (.iadd, 1) := by decide +kernel
theorem d_Mod_settle_80 : decode b_Mod_settle 80 = .ok (.if_icmp .le 18, 3) := by decide +kernel
theorem d_Mod_settle_83 : decode b_Mod_settle 83 = .ok (.iload 6, 2) := by decide +kernel
theorem d_Mod_settle_85 : decode b_Mod_settle 85 = .ok (.aload_n 0, 1) := by decide +kernel
theorem d_Mod_settle_86 : decode b_Mod_settle 86 = .ok (.getfield 56, 3) := by decide +kernel
theorem d_Mod_settle_89 : decode b_Mod_settle 89 = .ok (.aload_n 0, 1) := by decide +kernel
theorem d_Mod_settle_90 : decode b_Mod_settle 90 = .ok (.getfield 53, 3) := by decide +kernel
theorem d_Mod_settle_93 : decode b_Mod_settle 93 = .ok (.imul, 1) := by decide +kernel
theorem d_Mod_settle_94 : decode b_Mod_settle 94 = .ok (.isub, 1) := by decide +kernel
theorem d_Mod_settle_95 : decode b_Mod_settle 95 = .ok (.goto 5, 3) := by decide +kernel
theorem d_Mod_settle_98 : decode b_Mod_settle 98 = .ok (.iload 6, 2) := by decide +kernel
theorem d_Mod_settle_100 : decode b_Mod_settle 100 = .ok (.istore 6, 2) := by decide +kernel
theorem d_Mod_settle_102 : decode b_Mod_settle 102 = .ok (.aload_n 0, 1) := by decide +kernel
theorem d_Mod_settle_103 : decode b_Mod_settle 103 = .ok (.getfield 23, 3) := by decide +kernel
theorem d_Mod_settle_106 : decode b_Mod_settle 106 = .ok (.bipush 8, 2) := by decide +kernel
theorem d_Mod_settle_108 : decode b_Mod_settle 108 = .ok (.iload_n 2, 1) := by decide +kernel
theorem d_Mod_settle_109 : decode b_Mod_settle 109 = .ok (.imul, 1) := by decide +kernel
theorem d_Mod_settle_110 : decode b_Mod_settle 110 = .ok (.iload_n 1, 1) := by decide +kernel
theorem d_Mod_settle_111 : decode b_Mod_settle 111 = .ok (.iadd, 1) := by decide +kernel
theorem d_Mod_settle_112 : decode b_Mod_settle 112 = .ok (.aload_n 0, 1) := by decide +kernel
theorem d_Mod_settle_113 : decode b_Mod_settle 113 = .ok (.iload 6, 2) := by decide +kernel
theorem d_Mod_settle_115 : decode b_Mod_settle 115 = .ok (.invokevirtual 146, 3) := by decide +kernel
theorem d_Mod_settle_118 : decode b_Mod_settle 118 = .ok (.iastore, 1) := by decide +kernel
theorem d_Mod_settle_119 : decode b_Mod_settle 119 = .ok (.aload_n 0, 1) := by decide +kernel
theorem d_Mod_settle_120 : decode b_Mod_settle 120 = .ok (.getfield 19, 3) := by decide +kernel
theorem d_Mod_settle_123 : decode b_Mod_settle 123 = .ok (.bipush 8, 2) := by decide +kernel
theorem d_Mod_settle_125 : decode b_Mod_settle 125 = .ok (.iload_n 2, 1) := by decide +kernel
theorem d_Mod_settle_126 : decode b_Mod_settle 126 = .ok (.imul, 1) := by decide +kernel
theorem d_Mod_settle_127 : decode b_Mod_settle 127 = .ok (.iload_n 1, 1) := by decide +kernel
theorem d_Mod_settle_128 : decode b_Mod_settle 128 = .ok (.iadd, 1) := by decide +kernel
theorem d_Mod_settle_129 : decode b_Mod_settle 129 = .ok (.aload_n 0, 1) := by decide +kernel
theorem d_Mod_settle_130 : decode b_Mod_settle 130 = .ok (.iload 6, 2) := by decide +kernel
theorem d_Mod_settle_132 : decode b_Mod_settle 132 = .ok (.invokevirtual 146, 3) := by decide +kernel
theorem d_Mod_settle_135 : decode b_Mod_settle 135 = .ok (.iastore, 1) := by decide +kernel
theorem d_Mod_settle_136 : decode b_Mod_settle 136 = .ok (.return_, 1) := by decide +kernel
theorem d_Mod_size_0 : decode b_Mod_size 0 = .ok (.aload_n 0, 1) := by decide +kernel
theorem d_Mod_size_1 : decode b_Mod_size 1 = .ok (.iconst 0, 1) := by decide +kernel
theorem d_Mod_size_2 : decode b_Mod_size 2 = .ok (.putfield 47, 3) := by decide +kernel
theorem d_Mod_size_5 : decode b_Mod_size 5 = .ok (.aload_n 0, 1) := by decide +kernel
theorem d_Mod_size_6 : decode b_Mod_size 6 = .ok (.getfield 91, 3) := by decide +kernel
theorem d_Mod_size_9 : decode b_Mod_size 9 = .ok (.ireturn, 1) := by decide +kernel
theorem d_Mod_thrown_0 : decode b_Mod_thrown 0 = .ok (.aload_n 0, 1) := by decide +kernel
theorem d_Mod_thrown_1 : decode b_Mod_thrown 1 = .ok (.getfield 47, 3) := by decide +kernel
theorem d_Mod_thrown_4 : decode b_Mod_thrown 4 = .ok (.ireturn, 1) := by decide +kernel
theorem d_Mod_value_0 : decode b_Mod_value 0 = .ok (.iload_n 2, 1) := by decide +kernel
theorem d_Mod_value_1 : decode b_Mod_value 1 = .ok (.ifCond .ge 7, 3) := by decide +kernel
theorem d_Mod_value_4 : decode b_Mod_value 4 = .ok (.iconst 0, 1) := by decide +kernel
theorem d_Mod_value_5 : decode b_Mod_value 5 = .ok (.goto 14, 3) := by decide +kernel
theorem d_Mod_value_8 : decode b_Mod_value 8 = .ok (.aload_n 0, 1) := by decide +kernel
theorem d_Mod_value_9 : decode b_Mod_value 9 = .ok (.getfield 23, 3) := by decide +kernel
theorem d_Mod_value_12 : decode b_Mod_value 12 = .ok (.bipush 8, 2) := by decide +kernel
theorem d_Mod_value_14 : decode b_Mod_value 14 = .ok (.iload_n 2, 1) := by decide +kernel
theorem d_Mod_value_15 : decode b_Mod_value 15 = .ok (.imul, 1) := by decide +kernel
theorem d_Mod_value_16 : decode b_Mod_value 16 = .ok (.iload_n 1, 1) := by decide +kernel
theorem d_Mod_value_17 : decode b_Mod_value 17 = .ok (.iadd, 1) := by decide +kernel
theorem d_Mod_value_18 : decode b_Mod_value 18 = .ok (.iaload, 1) := by decide +kernel
theorem d_Mod_value_19 : decode b_Mod_value 19 = .ok (.ireturn, 1) := by decide +kernel
theorem d_Mod_walk_0 : decode b_Mod_walk 0 = .ok (.iconst 0, 1) := by decide +kernel
theorem d_Mod_walk_1 : decode b_Mod_walk 1 = .ok (.istore_n 1, 1) := by decide +kernel
theorem d_Mod_walk_2 : decode b_Mod_walk 2 = .ok (.iload_n 1, 1) := by decide +kernel
theorem d_Mod_walk_3 : decode b_Mod_walk 3 = .ok (.aload_n 0, 1) := by decide +kernel
theorem d_Mod_walk_4 : decode b_Mod_walk 4 = .ok (.getfield 13, 3) := by decide +kernel
theorem d_Mod_walk_7 : decode b_Mod_walk 7 = .ok (.if_icmp .ge 140, 3) := by decide +kernel
theorem d_Mod_walk_10 : decode b_Mod_walk 10 = .ok (.aload_n 0, 1) := by decide +kernel
theorem d_Mod_walk_11 : decode b_Mod_walk 11 = .ok (.getfield 118, 3) := by decide +kernel
theorem d_Mod_walk_14 : decode b_Mod_walk 14 = .ok (.ifCond .eq 133, 3) := by decide +kernel
theorem d_Mod_walk_17 : decode b_Mod_walk 17 = .ok (.iconst 0, 1) := by decide +kernel
theorem d_Mod_walk_18 : decode b_Mod_walk 18 = .ok (.istore_n 2, 1) := by decide +kernel
theorem d_Mod_walk_19 : decode b_Mod_walk 19 = .ok (.iload_n 2, 1) := by decide +kernel
theorem d_Mod_walk_20 : decode b_Mod_walk 20 = .ok (.aload_n 0, 1) := by decide +kernel
theorem d_Mod_walk_21 : decode b_Mod_walk 21 = .ok (.getfield 7, 3) := by decide +kernel
theorem d_Mod_walk_24 : decode b_Mod_walk 24 = .ok (.if_icmp .ge 117, 3) := by decide +kernel
theorem d_Mod_walk_27 : decode b_Mod_walk 27 = .ok (.aload_n 0, 1) := by decide +kernel
theorem d_Mod_walk_28 : decode b_Mod_walk 28 = .ok (.getfield 118, 3) := by decide +kernel
theorem d_Mod_walk_31 : decode b_Mod_walk 31 = .ok (.ifCond .eq 110, 3) := by decide +kernel
theorem d_Mod_walk_34 : decode b_Mod_walk 34 = .ok (.aload_n 0, 1) := by decide +kernel
theorem d_Mod_walk_35 : decode b_Mod_walk 35 = .ok (.iload_n 2, 1) := by decide +kernel
theorem d_Mod_walk_36 : decode b_Mod_walk 36 = .ok (.iload_n 1, 1) := by decide +kernel
theorem d_Mod_walk_37 : decode b_Mod_walk 37 = .ok (.invokevirtual 137, 3) := by decide +kernel
theorem d_Mod_walk_40 : decode b_Mod_walk 40 = .ok (.istore_n 3, 1) := by decide +kernel
theorem d_Mod_walk_41 : decode b_Mod_walk 41 = .ok (.aload_n 0, 1) := by decide +kernel
theorem d_Mod_walk_42 : decode b_Mod_walk 42 = .ok (.iload_n 2, 1) := by decide +kernel
theorem d_Mod_walk_43 : decode b_Mod_walk 43 = .ok (.iload_n 1, 1) := by decide +kernel
theorem d_Mod_walk_44 : decode b_Mod_walk 44 = .ok (.invokevirtual 152, 3) := by decide +kernel
theorem d_Mod_walk_47 : decode b_Mod_walk 47 = .ok (.istore 4, 2) := by decide +kernel
theorem d_Mod_walk_49 : decode b_Mod_walk 49 = .ok (.aload_n 0, 1) := by decide +kernel
theorem d_Mod_walk_50 : decode b_Mod_walk 50 = .ok (.iload_n 3, 1) := by decide +kernel
theorem d_Mod_walk_51 : decode b_Mod_walk 51 = .ok (.aload_n 0, 1) := by decide +kernel
theorem d_Mod_walk_52 : decode b_Mod_walk 52 = .ok (.iload_n 2, 1) := by decide +kernel
theorem d_Mod_walk_53 : decode b_Mod_walk 53 = .ok (.iload_n 1, 1) := by decide +kernel
theorem d_Mod_walk_54 : decode b_Mod_walk 54 = .ok (.invokevirtual 155, 3) := by decide +kernel
theorem d_Mod_walk_57 : decode b_Mod_walk 57 = .ok (.isub, 1) := by decide +kernel
theorem d_Mod_walk_58 : decode b_Mod_walk 58 = .ok (.invokevirtual 191, 3) := by decide +kernel
theorem d_Mod_walk_61 : decode b_Mod_walk 61 = .ok (.ifCond .eq 34, 3) := by decide +kernel
theorem d_Mod_walk_64 : decode b_Mod_walk 64 = .ok (.aload_n 0, 1) := by decide +kernel
theorem d_Mod_walk_65 : decode b_Mod_walk 65 = .ok (.iload 4, 2) := by decide +kernel
theorem d_Mod_walk_67 : decode b_Mod_walk 67 = .ok (.iload_n 3, 1) := by decide +kernel
theorem d_Mod_walk_68 : decode b_Mod_walk 68 = .ok (.isub, 1) := by decide +kernel
theorem d_Mod_walk_69 : decode b_Mod_walk 69 = .ok (.invokevirtual 191, 3) := by decide +kernel
theorem d_Mod_walk_72 : decode b_Mod_walk 72 = .ok (.ifCond .eq 23, 3) := by decide +kernel
theorem d_Mod_walk_75 : decode b_Mod_walk 75 = .ok (.aload_n 0, 1) := by decide +kernel
theorem d_Mod_walk_76 : decode b_Mod_walk 76 = .ok (.aload_n 0, 1) := by decide +kernel
theorem d_Mod_walk_77 : decode b_Mod_walk 77 = .ok (.iload_n 2, 1) := by decide +kernel
theorem d_Mod_walk_78 : decode b_Mod_walk 78 = .ok (.iload_n 1, 1) := by decide +kernel
theorem d_Mod_walk_79 : decode b_Mod_walk 79 = .ok (.invokevirtual 140, 3) := by decide +kernel
theorem d_Mod_walk_82 : decode b_Mod_walk 82 = .ok (.iload 4, 2) := by decide +kernel
theorem d_Mod_walk_84 : decode b_Mod_walk 84 = .ok (.isub, 1) := by decide +kernel
theorem d_Mod_walk_85 : decode b_Mod_walk 85 = .ok (.invokevirtual 191, 3) := by decide +kernel
theorem d_Mod_walk_88 : decode b_Mod_walk 88 = .ok (.ifCond .eq 7, 3) := by decide +kernel
theorem d_Mod_walk_91 : decode b_Mod_walk 91 = .ok (.iconst 1, 1) := by decide +kernel
theorem d_Mod_walk_92 : decode b_Mod_walk 92 = .ok (.goto 4, 3) := by decide +kernel
theorem d_Mod_walk_95 : decode b_Mod_walk 95 = .ok (.iconst 0, 1) := by decide +kernel
theorem d_Mod_walk_96 : decode b_Mod_walk 96 = .ok (.istore 5, 2) := by decide +kernel
theorem d_Mod_walk_98 : decode b_Mod_walk 98 = .ok (.iload 5, 2) := by decide +kernel
theorem d_Mod_walk_100 : decode b_Mod_walk 100 = .ok (.ifCond .eq 29, 3) := by decide +kernel
theorem d_Mod_walk_103 : decode b_Mod_walk 103 = .ok (.aload_n 0, 1) := by decide +kernel
theorem d_Mod_walk_104 : decode b_Mod_walk 104 = .ok (.getfield 167, 3) := by decide +kernel
theorem d_Mod_walk_107 : decode b_Mod_walk 107 = .ok (.ifCond .eq 12, 3) := by decide +kernel
theorem d_Mod_walk_110 : decode b_Mod_walk 110 = .ok (.aload_n 0, 1) := by decide +kernel
theorem d_Mod_walk_111 : decode b_Mod_walk 111 = .ok (.iload_n 2, 1) := by decide +kernel
theorem d_Mod_walk_112 : decode b_Mod_walk 112 = .ok (.iload_n 1, 1) := by decide +kernel
theorem d_Mod_walk_113 : decode b_Mod_walk 113 = .ok (.invokevirtual 201, 3) := by decide +kernel
theorem d_Mod_walk_116 : decode b_Mod_walk 116 = .ok (.goto 9, 3) := by decide +kernel
theorem d_Mod_walk_119 : decode b_Mod_walk 119 = .ok (.aload_n 0, 1) := by decide +kernel
theorem d_Mod_walk_120 : decode b_Mod_walk 120 = .ok (.iload_n 2, 1) := by decide +kernel
theorem d_Mod_walk_121 : decode b_Mod_walk 121 = .ok (.iload_n 1, 1) := by decide +kernel
theorem d_Mod_walk_122 : decode b_Mod_walk 122 = .ok (.invokevirtual 204, 3) := by decide +kernel
theorem d_Mod_walk_125 : decode b_Mod_walk 125 = .ok (.istore_n 2, 1) := by decide +kernel
theorem d_Mod_walk_126 : decode b_Mod_walk 126 = .ok (.goto 12, 3) := by decide +kernel
theorem d_Mod_walk_129 : decode b_Mod_walk 129 = .ok (.aload_n 0, 1) := by decide +kernel
theorem d_Mod_walk_130 : decode b_Mod_walk 130 = .ok (.iload_n 2, 1) := by decide +kernel
theorem d_Mod_walk_131 : decode b_Mod_walk 131 = .ok (.iload_n 1, 1) := by decide +kernel
theorem d_Mod_walk_132 : decode b_Mod_walk 132 = .ok (.invokevirtual 207, 3) := by decide +kernel
theorem d_Mod_walk_135 : decode b_Mod_walk 135 = .ok (.iinc 2 1, 3) := by decide +kernel
theorem d_Mod_walk_138 : decode b_Mod_walk 138 = .ok (.goto (-119), 3) := by decide +kernel
theorem d_Mod_walk_141 : decode b_Mod_walk 141 = .ok (.iinc 1 1, 3) := by decide +kernel
theorem d_Mod_walk_144 : decode b_Mod_walk 144 = .ok (.goto (-142), 3) := by decide +kernel
theorem d_Mod_walk_147 : decode b_Mod_walk 147 = .ok (.return_, 1) := by decide +kernel
end
section
theorem d_Mod_write_0 : decode b_Mod_write 0 = .ok (.iload_n 3, 1) := by decide +kernel
theorem d_Mod_write_1 : decode b_Mod_write 1 = .ok (.aload_n 0, 1) := by decide +kernel
theorem d_Mod_write_2 : decode b_Mod_write 2 = .ok (.getfield 63, 3) := by decide +kernel
theorem d_Mod_write_5 : decode b_Mod_write 5 = .ok (.isub, 1) := by decide +kernel
theorem d_Mod_write_6 : decode b_Mod_write 6 = .ok (.iconst 1, 1) := by decide +kernel
theorem d_Mod_write_7 : decode b_Mod_write 7 = .ok (.isub, 1) := by decide +kernel
theorem d_Mod_write_8 : decode b_Mod_write 8 = .ok (.istore 4, 2) := by decide +kernel
theorem d_Mod_write_10 : decode b_Mod_write 10 = .ok (.iload_n 1, 1) := by decide +kernel
theorem d_Mod_write_11 : decode b_Mod_write 11 = .ok (.iload_n 2, 1) := by decide +kernel
theorem d_Mod_write_12 : decode b_Mod_write 12 = .ok (.ishr, 1) := by decide +kernel
theorem d_Mod_write_13 : decode b_Mod_write 13 = .ok (.iload 4, 2) := by decide +kernel
theorem d_Mod_write_15 : decode b_Mod_write 15 = .ok (.if_icmp .lt 7, 3) := by decide +kernel
theorem d_Mod_write_18 : decode b_Mod_write 18 = .ok (.iconst 1, 1) := by decide +kernel
theorem d_Mod_write_19 : decode b_Mod_write 19 = .ok (.goto 4, 3) := by decide +kernel
theorem d_Mod_write_22 : decode b_Mod_write 22 = .ok (.iconst 0, 1) := by decide +kernel
theorem d_Mod_write_23 : decode b_Mod_write 23 = .ok (.istore 5, 2) := by decide +kernel
theorem d_Mod_write_25 : decode b_Mod_write 25 = .ok (.aload_n 0, 1) := by decide +kernel
theorem d_Mod_write_26 : decode b_Mod_write 26 = .ok (.iconst 0, 1) := by decide +kernel
theorem d_Mod_write_27 : decode b_Mod_write 27 = .ok (.iload 5, 2) := by decide +kernel
theorem d_Mod_write_29 : decode b_Mod_write 29 = .ok (.ifCond .eq 8, 3) := by decide +kernel
theorem d_Mod_write_32 : decode b_Mod_write 32 = .ok (.iload 4, 2) := by decide +kernel
theorem d_Mod_write_34 : decode b_Mod_write 34 = .ok (.goto 6, 3) := by decide +kernel
theorem d_Mod_write_37 : decode b_Mod_write 37 = .ok (.iload_n 1, 1) := by decide +kernel
theorem d_Mod_write_38 : decode b_Mod_write 38 = .ok (.iload_n 2, 1) := by decide +kernel
theorem d_Mod_write_39 : decode b_Mod_write 39 = .ok (.ishr, 1) := by decide +kernel
theorem d_Mod_write_40 : decode b_Mod_write 40 = .ok (.invokevirtual 126, 3) := by decide +kernel
theorem d_Mod_write_43 : decode b_Mod_write 43 = .ok (.aload_n 0, 1) := by decide +kernel
theorem d_Mod_write_44 : decode b_Mod_write 44 = .ok (.iconst 1, 1) := by decide +kernel
theorem d_Mod_write_45 : decode b_Mod_write 45 = .ok (.invokevirtual 106, 3) := by decide +kernel
theorem d_Mod_write_48 : decode b_Mod_write 48 = .ok (.iload 5, 2) := by decide +kernel
theorem d_Mod_write_50 : decode b_Mod_write 50 = .ok (.ifCond .eq 17, 3) := by decide +kernel
theorem d_Mod_write_53 : decode b_Mod_write 53 = .ok (.aload_n 0, 1) := by decide +kernel
theorem d_Mod_write_54 : decode b_Mod_write 54 = .ok (.iload_n 1, 1) := by decide +kernel
theorem d_Mod_write_55 : decode b_Mod_write 55 = .ok (.iconst 1, 1) := by decide +kernel
theorem d_Mod_write_56 : decode b_Mod_write 56 = .ok (.isub, 1) := by decide +kernel
theorem d_Mod_write_57 : decode b_Mod_write 57 = .ok (.aload_n 0, 1) := by decide +kernel
theorem d_Mod_write_58 : decode b_Mod_write 58 = .ok (.getfield 63, 3) := by decide +kernel
theorem d_Mod_write_61 : decode b_Mod_write 61 = .ok (.invokevirtual 126, 3) := by decide +kernel
theorem d_Mod_write_64 : decode b_Mod_write 64 = .ok (.goto 15, 3) := by decide +kernel
theorem d_Mod_write_67 : decode b_Mod_write 67 = .ok (.aload_n 0, 1) := by decide +kernel
theorem d_Mod_write_68 : decode b_Mod_write 68 = .ok (.iload_n 1, 1) := by decide +kernel
theorem d_Mod_write_69 : decode b_Mod_write 69 = .ok (.iconst 1, 1) := by decide +kernel
theorem d_Mod_write_70 : decode b_Mod_write 70 = .ok (.iload_n 2, 1) := by decide +kernel
theorem d_Mod_write_71 : decode b_Mod_write 71 = .ok (.ishl, 1) := by decide +kernel
theorem d_Mod_write_72 : decode b_Mod_write 72 = .ok (.iconst 1, 1) := by decide +kernel
theorem d_Mod_write_73 : decode b_Mod_write 73 = .ok (.isub, 1) := by decide +kernel
theorem d_Mod_write_74 : decode b_Mod_write 74 = .ok (.iand, 1) := by decide +kernel
theorem d_Mod_write_75 : decode b_Mod_write 75 = .ok (.iload_n 2, 1) := by decide +kernel
theorem d_Mod_write_76 : decode b_Mod_write 76 = .ok (.invokevirtual 126, 3) := by decide +kernel
theorem d_Mod_write_79 : decode b_Mod_write 79 = .ok (.return_, 1) := by decide +kernel
theorem d_Mod_writeRun_0 : decode b_Mod_writeRun 0 = .ok (.aload_n 0, 1) := by decide +kernel
theorem d_Mod_writeRun_1 : decode b_Mod_writeRun 1 = .ok (.iload_n 1, 1) := by decide +kernel
theorem d_Mod_writeRun_2 : decode b_Mod_writeRun 2 = .ok (.iload_n 2, 1) := by decide +kernel
theorem d_Mod_writeRun_3 : decode b_Mod_writeRun 3 = .ok (.invokevirtual 140, 3) := by decide +kernel
theorem d_Mod_writeRun_6 : decode b_Mod_writeRun 6 = .ok (.istore_n 3, 1) := by decide +kernel
theorem d_Mod_writeRun_7 : decode b_Mod_writeRun 7 = .ok (.iload_n 1, 1) := by decide +kernel
theorem d_Mod_writeRun_8 : decode b_Mod_writeRun 8 = .ok (.istore 4, 2) := by decide +kernel
theorem d_Mod_writeRun_10 : decode b_Mod_writeRun 10 = .ok (.iload 4, 2) := by decide +kernel
theorem d_Mod_writeRun_12 : decode b_Mod_writeRun 12 = .ok (.aload_n 0, 1) := by decide +kernel
theorem d_Mod_writeRun_13 : decode b_Mod_writeRun 13 = .ok (.getfield 7, 3) := by decide +kernel
theorem d_Mod_writeRun_16 : decode b_Mod_writeRun 16 = .ok (.if_icmp .ge 43, 3) := by decide +kernel
theorem d_Mod_writeRun_19 : decode b_Mod_writeRun 19 = .ok (.aload_n 0, 1) := by decide +kernel
theorem d_Mod_writeRun_20 : decode b_Mod_writeRun 20 = .ok (.aload_n 0, 1) := by decide +kernel
theorem d_Mod_writeRun_21 : decode b_Mod_writeRun 21 = .ok (.getfield 19, 3) := by decide +kernel
theorem d_Mod_writeRun_24 : decode b_Mod_writeRun 24 = .ok (.bipush 8, 2) := by decide +kernel
theorem d_Mod_writeRun_26 : decode b_Mod_writeRun 26 = .ok (.iload_n 2, 1) := by decide +kernel
theorem d_Mod_writeRun_27 : decode b_Mod_writeRun 27 = .ok (.imul, 1) := by decide +kernel
theorem d_Mod_writeRun_28 : decode b_Mod_writeRun 28 = .ok (.iload 4, 2) := by decide +kernel
theorem d_Mod_writeRun_30 : decode b_Mod_writeRun 30 = .ok (.iadd, 1) := by decide +kernel
theorem d_Mod_writeRun_31 : decode b_Mod_writeRun 31 = .ok (.iaload, 1) := by decide +kernel
theorem d_Mod_writeRun_32 : decode b_Mod_writeRun 32 = .ok (.iload_n 3, 1) := by decide +kernel
theorem d_Mod_writeRun_33 : decode b_Mod_writeRun 33 = .ok (.isub, 1) := by decide +kernel
theorem d_Mod_writeRun_34 : decode b_Mod_writeRun 34 = .ok (.invokevirtual 191, 3) := by decide +kernel
theorem d_Mod_writeRun_37 : decode b_Mod_writeRun 37 = .ok (.ifCond .eq 22, 3) := by decide +kernel
theorem d_Mod_writeRun_40 : decode b_Mod_writeRun 40 = .ok (.aload_n 0, 1) := by decide +kernel
theorem d_Mod_writeRun_41 : decode b_Mod_writeRun 41 = .ok (.getfield 23, 3) := by decide +kernel
theorem d_Mod_writeRun_44 : decode b_Mod_writeRun 44 = .ok (.bipush 8, 2) := by decide +kernel
theorem d_Mod_writeRun_46 : decode b_Mod_writeRun 46 = .ok (.iload_n 2, 1) := by decide +kernel
theorem d_Mod_writeRun_47 : decode b_Mod_writeRun 47 = .ok (.imul, 1) := by decide +kernel
theorem d_Mod_writeRun_48 : decode b_Mod_writeRun 48 = .ok (.iload 4, 2) := by decide +kernel
theorem d_Mod_writeRun_50 : decode b_Mod_writeRun 50 = .ok (.iadd, 1) := by decide +kernel
theorem d_Mod_writeRun_51 : decode b_Mod_writeRun 51 = .ok (.iload_n 3, 1) := by decide +kernel
theorem d_Mod_writeRun_52 : decode b_Mod_writeRun 52 = .ok (.iastore, 1) := by decide +kernel
theorem d_Mod_writeRun_53 : decode b_Mod_writeRun 53 = .ok (.iinc 4 1, 3) := by decide +kernel
theorem d_Mod_writeRun_56 : decode b_Mod_writeRun 56 = .ok (.goto (-46), 3) := by decide +kernel
theorem d_Mod_writeRun_59 : decode b_Mod_writeRun 59 = .ok (.iload 4, 2) := by decide +kernel
theorem d_Mod_writeRun_61 : decode b_Mod_writeRun 61 = .ok (.iload_n 1, 1) := by decide +kernel
theorem d_Mod_writeRun_62 : decode b_Mod_writeRun 62 = .ok (.isub, 1) := by decide +kernel
theorem d_Mod_writeRun_63 : decode b_Mod_writeRun 63 = .ok (.istore 5, 2) := by decide +kernel
theorem d_Mod_writeRun_65 : decode b_Mod_writeRun 65 = .ok (.iload 5, 2) := by decide +kernel
theorem d_Mod_writeRun_67 : decode b_Mod_writeRun 67 = .ok (.iconst 1, 1) := by decide +kernel
theorem d_Mod_writeRun_68 : decode b_Mod_writeRun 68 = .ok (.aload_n 0, 1) := by decide +kernel
theorem d_Mod_writeRun_69 : decode b_Mod_writeRun 69 = .ok (.aload_n 0, 1) := by decide +kernel
theorem d_Mod_writeRun_70 : decode b_Mod_writeRun 70 = .ok (.getfield 84, 3) := by decide +kernel
theorem d_Mod_writeRun_73 : decode b_Mod_writeRun 73 = .ok (.invokevirtual 195, 3) := by decide +kernel
theorem d_Mod_writeRun_76 : decode b_Mod_writeRun 76 = .ok (.ishl, 1) := by decide +kernel
theorem d_Mod_writeRun_77 : decode b_Mod_writeRun 77 = .ok (.if_icmp .lt 50, 3) := by decide +kernel
theorem d_Mod_writeRun_80 : decode b_Mod_writeRun 80 = .ok (.aload_n 0, 1) := by decide +kernel
theorem d_Mod_writeRun_81 : decode b_Mod_writeRun 81 = .ok (.iconst 1, 1) := by decide +kernel
theorem d_Mod_writeRun_82 : decode b_Mod_writeRun 82 = .ok (.invokevirtual 106, 3) := by decide +kernel
theorem d_Mod_writeRun_85 : decode b_Mod_writeRun 85 = .ok (.iload 5, 2) := by decide +kernel
theorem d_Mod_writeRun_87 : decode b_Mod_writeRun 87 = .ok (.iconst 1, 1) := by decide +kernel
theorem d_Mod_writeRun_88 : decode b_Mod_writeRun 88 = .ok (.aload_n 0, 1) := by decide +kernel
theorem d_Mod_writeRun_89 : decode b_Mod_writeRun 89 = .ok (.aload_n 0, 1) := by decide +kernel
theorem d_Mod_writeRun_90 : decode b_Mod_writeRun 90 = .ok (.getfield 84, 3) := by decide +kernel
theorem d_Mod_writeRun_93 : decode b_Mod_writeRun 93 = .ok (.invokevirtual 195, 3) := by decide +kernel
theorem d_Mod_writeRun_96 : decode b_Mod_writeRun 96 = .ok (.ishl, 1) := by decide +kernel
theorem d_Mod_writeRun_97 : decode b_Mod_writeRun 97 = .ok (.isub, 1) := by decide +kernel
theorem d_Mod_writeRun_98 : decode b_Mod_writeRun 98 = .ok (.istore 5, 2) := by decide +kernel
theorem d_Mod_writeRun_100 : decode b_Mod_writeRun 100 = .ok (.aload_n 0, 1) := by decide +kernel
theorem d_Mod_writeRun_101 : decode b_Mod_writeRun 101 = .ok (.aload_n 0, 1) := by decide +kernel
theorem d_Mod_writeRun_102 : decode b_Mod_writeRun 102 = .ok (.getfield 84, 3) := by decide +kernel
theorem d_Mod_writeRun_105 : decode b_Mod_writeRun 105 = .ok (.bipush 31, 2) := by decide +kernel
theorem d_Mod_writeRun_107 : decode b_Mod_writeRun 107 = .ok (.if_icmp .ge 12, 3) := by decide +kernel
theorem d_Mod_writeRun_110 : decode b_Mod_writeRun 110 = .ok (.aload_n 0, 1) := by decide +kernel
theorem d_Mod_writeRun_111 : decode b_Mod_writeRun 111 = .ok (.getfield 84, 3) := by decide +kernel
theorem d_Mod_writeRun_114 : decode b_Mod_writeRun 114 = .ok (.iconst 1, 1) := by decide +kernel
theorem d_Mod_writeRun_115 : decode b_Mod_writeRun 115 = .ok (.iadd, 1) := by decide +kernel
theorem d_Mod_writeRun_116 : decode b_Mod_writeRun 116 = .ok (.goto 5, 3) := by decide +kernel
theorem d_Mod_writeRun_119 : decode b_Mod_writeRun 119 = .ok (.bipush 31, 2) := by decide +kernel
theorem d_Mod_writeRun_121 : decode b_Mod_writeRun 121 = .ok (.putfield 84, 3) := by decide +kernel
theorem d_Mod_writeRun_124 : decode b_Mod_writeRun 124 = .ok (.goto (-59), 3) := by decide +kernel
theorem d_Mod_writeRun_127 : decode b_Mod_writeRun 127 = .ok (.iload 4, 2) := by decide +kernel
theorem d_Mod_writeRun_129 : decode b_Mod_writeRun 129 = .ok (.aload_n 0, 1) := by decide +kernel
theorem d_Mod_writeRun_130 : decode b_Mod_writeRun 130 = .ok (.getfield 7, 3) := by decide +kernel
theorem d_Mod_writeRun_133 : decode b_Mod_writeRun 133 = .ok (.if_icmp .ne 16, 3) := by decide +kernel
theorem d_Mod_writeRun_136 : decode b_Mod_writeRun 136 = .ok (.iload 5, 2) := by decide +kernel
theorem d_Mod_writeRun_138 : decode b_Mod_writeRun 138 = .ok (.ifCond .le 8, 3) := by decide +kernel
theorem d_Mod_writeRun_141 : decode b_Mod_writeRun 141 = .ok (.aload_n 0, 1) := by decide +kernel
theorem d_Mod_writeRun_142 : decode b_Mod_writeRun 142 = .ok (.iconst 1, 1) := by decide +kernel
theorem d_Mod_writeRun_143 : decode b_Mod_writeRun 143 = .ok (.invokevirtual 106, 3) := by decide +kernel
theorem d_Mod_writeRun_146 : decode b_Mod_writeRun 146 = .ok (.iload 4, 2) := by decide +kernel
theorem d_Mod_writeRun_148 : decode b_Mod_writeRun 148 = .ok (.ireturn, 1) := by decide +kernel
theorem d_Mod_writeRun_149 : decode b_Mod_writeRun 149 = .ok (.aload_n 0, 1) := by decide +kernel
theorem d_Mod_writeRun_150 : decode b_Mod_writeRun 150 = .ok (.iconst 0, 1) := by decide +kernel
theorem d_Mod_writeRun_151 : decode b_Mod_writeRun 151 = .ok (.invokevirtual 106, 3) := by decide +kernel
theorem d_Mod_writeRun_154 : decode b_Mod_writeRun 154 = .ok (.aload_n 0, 1) := by decide +kernel
theorem d_Mod_writeRun_155 : decode b_Mod_writeRun 155 = .ok (.iload 5, 2) := by decide +kernel
theorem d_Mod_writeRun_157 : decode b_Mod_writeRun 157 = .ok (.aload_n 0, 1) := by decide +kernel
theorem d_Mod_writeRun_158 : decode b_Mod_writeRun 158 = .ok (.aload_n 0, 1) := by decide +kernel
theorem d_Mod_writeRun_159 : decode b_Mod_writeRun 159 = .ok (.getfield 84, 3) := by decide +kernel
theorem d_Mod_writeRun_162 : decode b_Mod_writeRun 162 = .ok (.invokevirtual 195, 3) := by decide +kernel
theorem d_Mod_writeRun_165 : decode b_Mod_writeRun 165 = .ok (.invokevirtual 126, 3) := by decide +kernel
theorem d_Mod_writeRun_168 : decode b_Mod_writeRun 168 = .ok (.aload_n 0, 1) := by decide +kernel
theorem d_Mod_writeRun_169 : decode b_Mod_writeRun 169 = .ok (.iload 4, 2) := by decide +kernel
theorem d_Mod_writeRun_171 : decode b_Mod_writeRun 171 = .ok (.iload_n 2, 1) := by decide +kernel
theorem d_Mod_writeRun_172 : decode b_Mod_writeRun 172 = .ok (.aload_n 0, 1) := by decide +kernel
theorem d_Mod_writeRun_173 : decode b_Mod_writeRun 173 = .ok (.aload_n 0, 1) := by decide +kernel
theorem d_Mod_writeRun_174 : decode b_Mod_writeRun 174 = .ok (.getfield 84, 3) := by decide +kernel
theorem d_Mod_writeRun_177 : decode b_Mod_writeRun 177 = .ok (.invokevirtual 195, 3) := by decide +kernel
theorem d_Mod_writeRun_180 : decode b_Mod_writeRun 180 = .ok (.invokevirtual 198, 3) := by decide +kernel
theorem d_Mod_writeRun_183 : decode b_Mod_writeRun 183 = .ok (.iload 4, 2) := by decide +kernel
theorem d_Mod_writeRun_185 : decode b_Mod_writeRun 185 = .ok (.iconst 1, 1) := by decide +kernel
theorem d_Mod_writeRun_186 : decode b_Mod_writeRun 186 = .ok (.iadd, 1) := by decide +kernel
theorem d_Mod_writeRun_187 : decode b_Mod_writeRun 187 = .ok (.ireturn, 1) := by decide +kernel
theorem d_Pas_foretoldByNeighbours_0 : decode b_Pas_foretoldByNeighbours 0 = .ok (.aload_n 0, 1) := by decide +kernel
theorem d_Pas_foretoldByNeighbours_1 : decode b_Pas_foretoldByNeighbours 1 = .ok (.getfield 59, 3) := by decide +kernel
theorem d_Pas_foretoldByNeighbours_4 : decode b_Pas_foretoldByNeighbours 4 = .ok (.aload_n 0, 1) := by decide +kernel
theorem d_Pas_foretoldByNeighbours_5 : decode b_Pas_foretoldByNeighbours 5 = .ok (.getfield 68, 3) := by decide +kernel
theorem d_Pas_foretoldByNeighbours_8 : decode b_Pas_foretoldByNeighbours 8 = .ok (.invokestatic 128, 3) := by decide +kernel
theorem d_Pas_foretoldByNeighbours_11 : decode b_Pas_foretoldByNeighbours 11 = .ok (.istore_n 1, 1) := by decide +kernel
theorem d_Pas_foretoldByNeighbours_12 : decode b_Pas_foretoldByNeighbours 12 = .ok (.aload_n 0, 1) := by decide +kernel
theorem d_Pas_foretoldByNeighbours_13 : decode b_Pas_foretoldByNeighbours 13 = .ok (.getfield 59, 3) := by decide +kernel
theorem d_Pas_foretoldByNeighbours_16 : decode b_Pas_foretoldByNeighbours 16 = .ok (.aload_n 0, 1) := by decide +kernel
theorem d_Pas_foretoldByNeighbours_17 : decode b_Pas_foretoldByNeighbours 17 = .ok (.getfield 68, 3) := by decide +kernel
theorem d_Pas_foretoldByNeighbours_20 : decode b_Pas_foretoldByNeighbours 20 = .ok (.invokestatic 131, 3) := by decide +kernel
theorem d_Pas_foretoldByNeighbours_23 : decode b_Pas_foretoldByNeighbours 23 = .ok (.istore_n 2, 1) := by decide +kernel
theorem d_Pas_foretoldByNeighbours_24 : decode b_Pas_foretoldByNeighbours 24 = .ok (.aload_n 0, 1) := by decide +kernel
theorem d_Pas_foretoldByNeighbours_25 : decode b_Pas_foretoldByNeighbours 25 = .ok (.getfield 71, 3) := by decide +kernel
theorem d_Pas_foretoldByNeighbours_28 : decode b_Pas_foretoldByNeighbours 28 = .ok (.iload_n 2, 1) := by decide +kernel
theorem d_Pas_foretoldByNeighbours_29 : decode b_Pas_foretoldByNeighbours 29 = .ok (.if_icmp .lt 5, 3) := by decide +kernel
theorem d_Pas_foretoldByNeighbours_32 : decode b_Pas_foretoldByNeighbours 32 = .ok (.iload_n 1, 1) := by decide +kernel
theorem d_Pas_foretoldByNeighbours_33 : decode b_Pas_foretoldByNeighbours 33 = .ok (.ireturn, 1) := by decide +kernel
theorem d_Pas_foretoldByNeighbours_34 : decode b_Pas_foretoldByNeighbours 34 = .ok (.aload_n 0, 1) := by decide +kernel
theorem d_Pas_foretoldByNeighbours_35 : decode b_Pas_foretoldByNeighbours 35 = .ok (.getfield 71, 3) := by decide +kernel
theorem d_Pas_foretoldByNeighbours_38 : decode b_Pas_foretoldByNeighbours 38 = .ok (.iload_n 1, 1) := by decide +kernel
theorem d_Pas_foretoldByNeighbours_39 : decode b_Pas_foretoldByNeighbours 39 = .ok (.if_icmp .gt 7, 3) := by decide +kernel
theorem d_Pas_foretoldByNeighbours_42 : decode b_Pas_foretoldByNeighbours 42 = .ok (.iload_n 2, 1) := by decide +kernel
theorem d_Pas_foretoldByNeighbours_43 : decode b_Pas_foretoldByNeighbours 43 = .ok (.goto 17, 3) := by decide +kernel
theorem d_Pas_foretoldByNeighbours_46 : decode b_Pas_foretoldByNeighbours 46 = .ok (.aload_n 0, 1) := by decide +kernel
theorem d_Pas_foretoldByNeighbours_47 : decode b_Pas_foretoldByNeighbours 47 = .ok (.getfield 59, 3) := by decide +kernel
theorem d_Pas_foretoldByNeighbours_50 : decode b_Pas_foretoldByNeighbours 50 = .ok (.aload_n 0, 1) := by decide +kernel
theorem d_Pas_foretoldByNeighbours_51 : decode b_Pas_foretoldByNeighbours 51 = .ok (.getfield 68, 3) := by decide +kernel
theorem d_Pas_foretoldByNeighbours_54 : decode b_Pas_foretoldByNeighbours 54 = .ok (.iadd, 1) := by decide +kernel
theorem d_Pas_foretoldByNeighbours_55 : decode b_Pas_foretoldByNeighbours 55 = .ok (.aload_n 0, 1) := by decide +kernel
theorem d_Pas_foretoldByNeighbours_56 : decode b_Pas_foretoldByNeighbours 56 = .ok (.getfield 71, 3) := by decide +kernel
theorem d_Pas_foretoldByNeighbours_59 : decode b_Pas_foretoldByNeighbours 59 = .ok (.isub, 1) := by decide +kernel
theorem d_Pas_foretoldByNeighbours_60 : decode b_Pas_foretoldByNeighbours 60 = .ok (.ireturn, 1) := by decide +kernel
theorem d_Pas_isEven_0 : decode b_Pas_isEven 0 = .ok (.aload_n 0, 1) := by decide +kernel
theorem d_Pas_isEven_1 : decode b_Pas_isEven 1 = .ok (.getfield 10, 3) := by decide +kernel
theorem d_Pas_isEven_4 : decode b_Pas_isEven 4 = .ok (.aload_n 0, 1) := by decide +kernel
theorem d_Pas_isEven_5 : decode b_Pas_isEven 5 = .ok (.getfield 68, 3) := by decide +kernel
theorem d_Pas_isEven_8 : decode b_Pas_isEven 8 = .ok (.aload_n 0, 1) := by decide +kernel
theorem d_Pas_isEven_9 : decode b_Pas_isEven 9 = .ok (.getfield 74, 3) := by decide +kernel
theorem d_Pas_isEven_12 : decode b_Pas_isEven 12 = .ok (.isub, 1) := by decide +kernel
theorem d_Pas_isEven_13 : decode b_Pas_isEven 13 = .ok (.invokevirtual 77, 3) := by decide +kernel
theorem d_Pas_isEven_16 : decode b_Pas_isEven 16 = .ok (.ifCond .eq 45, 3) := by decide +kernel
theorem d_Pas_isEven_19 : decode b_Pas_isEven 19 = .ok (.aload_n 0, 1) := by decide +kernel
theorem d_Pas_isEven_20 : decode b_Pas_isEven 20 = .ok (.getfield 10, 3) := by decide +kernel
theorem d_Pas_isEven_23 : decode b_Pas_isEven 23 = .ok (.aload_n 0, 1) := by decide +kernel
theorem d_Pas_isEven_24 : decode b_Pas_isEven 24 = .ok (.getfield 71, 3) := by decide +kernel
theorem d_Pas_isEven_27 : decode b_Pas_isEven 27 = .ok (.aload_n 0, 1) := by decide +kernel
theorem d_Pas_isEven_28 : decode b_Pas_isEven 28 = .ok (.getfield 68, 3) := by decide +kernel
theorem d_Pas_isEven_31 : decode b_Pas_isEven 31 = .ok (.isub, 1) := by decide +kernel
theorem d_Pas_isEven_32 : decode b_Pas_isEven 32 = .ok (.invokevirtual 77, 3) := by decide +kernel
theorem d_Pas_isEven_35 : decode b_Pas_isEven 35 = .ok (.ifCond .eq 26, 3) := by decide +kernel
theorem d_Pas_isEven_38 : decode b_Pas_isEven 38 = .ok (.aload_n 0, 1) := by decide +kernel
theorem d_Pas_isEven_39 : decode b_Pas_isEven 39 = .ok (.getfield 10, 3) := by decide +kernel
theorem d_Pas_isEven_42 : decode b_Pas_isEven 42 = .ok (.aload_n 0, 1) := by decide +kernel
theorem d_Pas_isEven_43 : decode b_Pas_isEven 43 = .ok (.getfield 59, 3) := by decide +kernel
theorem d_Pas_isEven_46 : decode b_Pas_isEven 46 = .ok (.aload_n 0, 1) := by decide +kernel
theorem d_Pas_isEven_47 : decode b_Pas_isEven 47 = .ok (.getfield 71, 3) := by decide +kernel
theorem d_Pas_isEven_50 : decode b_Pas_isEven 50 = .ok (.isub, 1) := by decide +kernel
theorem d_Pas_isEven_51 : decode b_Pas_isEven 51 = .ok (.invokevirtual 77, 3) := by decide +kernel
theorem d_Pas_isEven_54 : decode b_Pas_isEven 54 = .ok (.ifCond .eq 7, 3) := by decide +kernel
theorem d_Pas_isEven_57 : decode b_Pas_isEven 57 = .ok (.iconst 1, 1) := by decide +kernel
theorem d_Pas_isEven_58 : decode b_Pas_isEven 58 = .ok (.goto 4, 3) := by decide +kernel
theorem d_Pas_isEven_61 : decode b_Pas_isEven 61 = .ok (.iconst 0, 1) := by decide +kernel
theorem d_Pas_isEven_62 : decode b_Pas_isEven 62 = .ok (.ireturn, 1) := by decide +kernel
theorem d_Pas_limitOfEnd_0 : decode b_Pas_limitOfEnd 0 = .ok (.aload_n 0, 1) := by decide +kernel
theorem d_Pas_limitOfEnd_1 : decode b_Pas_limitOfEnd 1 = .ok (.getfield 10, 3) := by decide +kernel
theorem d_Pas_limitOfEnd_4 : decode b_Pas_limitOfEnd 4 = .ok (.getfield 155, 3) := by decide +kernel
theorem d_Pas_limitOfEnd_7 : decode b_Pas_limitOfEnd 7 = .ok (.aload_n 0, 1) := by decide +kernel
theorem d_Pas_limitOfEnd_8 : decode b_Pas_limitOfEnd 8 = .ok (.getfield 19, 3) := by decide +kernel
theorem d_Pas_limitOfEnd_11 : decode b_Pas_limitOfEnd 11 = .ok (.invokevirtual 158, 3) := by decide +kernel
theorem d_Pas_limitOfEnd_14 : decode b_Pas_limitOfEnd 14 = .ok (.isub, 1) := by decide +kernel
theorem d_Pas_limitOfEnd_15 : decode b_Pas_limitOfEnd 15 = .ok (.iconst 1, 1) := by decide +kernel
theorem d_Pas_limitOfEnd_16 : decode b_Pas_limitOfEnd 16 = .ok (.isub, 1) := by decide +kernel
theorem d_Pas_limitOfEnd_17 : decode b_Pas_limitOfEnd 17 = .ok (.ireturn, 1) := by decide +kernel
theorem d_Pas_lookAround_0 : decode b_Pas_lookAround 0 = .ok (.aload_n 0, 1) := by decide +kernel
theorem d_Pas_lookAround_1 : decode b_Pas_lookAround 1 = .ok (.aload_n 0, 1) := by decide +kernel
theorem d_Pas_lookAround_2 : decode b_Pas_lookAround 2 = .ok (.iload_n 1, 1) := by decide +kernel
theorem d_Pas_lookAround_3 : decode b_Pas_lookAround 3 = .ok (.iload_n 2, 1) := by decide +kernel
theorem d_Pas_lookAround_4 : decode b_Pas_lookAround 4 = .ok (.iconst 1, 1) := by decide +kernel
theorem d_Pas_lookAround_5 : decode b_Pas_lookAround 5 = .ok (.isub, 1) := by decide +kernel
theorem d_Pas_lookAround_6 : decode b_Pas_lookAround 6 = .ok (.invokevirtual 65, 3) := by decide +kernel
theorem d_Pas_lookAround_9 : decode b_Pas_lookAround 9 = .ok (.putfield 68, 3) := by decide +kernel
theorem d_Pas_lookAround_12 : decode b_Pas_lookAround 12 = .ok (.aload_n 0, 1) := by decide +kernel
theorem d_Pas_lookAround_13 : decode b_Pas_lookAround 13 = .ok (.iload_n 1, 1) := by decide +kernel
theorem d_Pas_lookAround_14 : decode b_Pas_lookAround 14 = .ok (.ifCond .le 14, 3) := by decide +kernel
theorem d_Pas_lookAround_17 : decode b_Pas_lookAround 17 = .ok (.aload_n 0, 1) := by decide +kernel
theorem d_Pas_lookAround_18 : decode b_Pas_lookAround 18 = .ok (.iload_n 1, 1) := by decide +kernel
theorem d_Pas_lookAround_19 : decode b_Pas_lookAround 19 = .ok (.iconst 1, 1) := by decide +kernel
theorem d_Pas_lookAround_20 : decode b_Pas_lookAround 20 = .ok (.isub, 1) := by decide +kernel
theorem d_Pas_lookAround_21 : decode b_Pas_lookAround 21 = .ok (.iload_n 2, 1) := by decide +kernel
theorem d_Pas_lookAround_22 : decode b_Pas_lookAround 22 = .ok (.invokevirtual 65, 3) := by decide +kernel
theorem d_Pas_lookAround_25 : decode b_Pas_lookAround 25 = .ok (.goto 7, 3) := by decide +kernel
theorem d_Pas_lookAround_28 : decode b_Pas_lookAround 28 = .ok (.aload_n 0, 1) := by decide +kernel
theorem d_Pas_lookAround_29 : decode b_Pas_lookAround 29 = .ok (.getfield 68, 3) := by decide +kernel
theorem d_Pas_lookAround_32 : decode b_Pas_lookAround 32 = .ok (.putfield 59, 3) := by decide +kernel
theorem d_Pas_lookAround_35 : decode b_Pas_lookAround 35 = .ok (.aload_n 0, 1) := by decide +kernel
theorem d_Pas_lookAround_36 : decode b_Pas_lookAround 36 = .ok (.iload_n 1, 1) := by decide +kernel
theorem d_Pas_lookAround_37 : decode b_Pas_lookAround 37 = .ok (.ifCond .le 16, 3) := by decide +kernel
theorem d_Pas_lookAround_40 : decode b_Pas_lookAround 40 = .ok (.aload_n 0, 1) := by decide +kernel
theorem d_Pas_lookAround_41 : decode b_Pas_lookAround 41 = .ok (.iload_n 1, 1) := by decide +kernel
theorem d_Pas_lookAround_42 : decode b_Pas_lookAround 42 = .ok (.iconst 1, 1) := by decide +kernel
theorem d_Pas_lookAround_43 : decode b_Pas_lookAround 43 = .ok (.isub, 1) := by decide +kernel
theorem d_Pas_lookAround_44 : decode b_Pas_lookAround 44 = .ok (.iload_n 2, 1) := by decide +kernel
theorem d_Pas_lookAround_45 : decode b_Pas_lookAround 45 = .ok (.iconst 1, 1) := by decide +kernel
theorem d_Pas_lookAround_46 : decode b_Pas_lookAround 46 = .ok (.isub, 1) := by decide +kernel
theorem d_Pas_lookAround_47 : decode b_Pas_lookAround 47 = .ok (.invokevirtual 65, 3) := by decide +kernel
theorem d_Pas_lookAround_50 : decode b_Pas_lookAround 50 = .ok (.goto 11, 3) := by decide +kernel
theorem d_Pas_lookAround_53 : decode b_Pas_lookAround 53 = .ok (.aload_n 0, 1) := by decide +kernel
theorem d_Pas_lookAround_54 : decode b_Pas_lookAround 54 = .ok (.iload_n 1, 1) := by decide +kernel
theorem d_Pas_lookAround_55 : decode b_Pas_lookAround 55 = .ok (.iload_n 2, 1) := by decide +kernel
theorem d_Pas_lookAround_56 : decode b_Pas_lookAround 56 = .ok (.iconst 2, 1) := by decide +kernel
theorem d_Pas_lookAround_57 : decode b_Pas_lookAround 57 = .ok (.isub, 1) := by decide +kernel
theorem d_Pas_lookAround_58 : decode b_Pas_lookAround 58 = .ok (.invokevirtual 65, 3) := by decide +kernel
theorem d_Pas_lookAround_61 : decode b_Pas_lookAround 61 = .ok (.putfield 71, 3) := by decide +kernel
theorem d_Pas_lookAround_64 : decode b_Pas_lookAround 64 = .ok (.aload_n 0, 1) := by decide +kernel
theorem d_Pas_lookAround_65 : decode b_Pas_lookAround 65 = .ok (.iload_n 1, 1) := by decide +kernel
theorem d_Pas_lookAround_66 : decode b_Pas_lookAround 66 = .ok (.aload_n 0, 1) := by decide +kernel
theorem d_Pas_lookAround_67 : decode b_Pas_lookAround 67 = .ok (.getfield 10, 3) := by decide +kernel
theorem d_Pas_lookAround_70 : decode b_Pas_lookAround 70 = .ok (.getfield 38, 3) := by decide +kernel
theorem d_Pas_lookAround_73 : decode b_Pas_lookAround 73 = .ok (.iconst 1, 1) := by decide +kernel
theorem d_Pas_lookAround_74 : decode b_Pas_lookAround 74 = .ok (.isub, 1) := by decide +kernel
theorem d_Pas_lookAround_75 : decode b_Pas_lookAround 75 = .ok (.if_icmp .ge 16, 3) := by decide +kernel
theorem d_Pas_lookAround_78 : decode b_Pas_lookAround 78 = .ok (.aload_n 0, 1) := by decide +kernel
theorem d_Pas_lookAround_79 : decode b_Pas_lookAround 79 = .ok (.iload_n 1, 1) := by decide +kernel
theorem d_Pas_lookAround_80 : decode b_Pas_lookAround 80 = .ok (.iconst 1, 1) := by decide +kernel
theorem d_Pas_lookAround_81 : decode b_Pas_lookAround 81 = .ok (.iadd, 1) := by decide +kernel
theorem d_Pas_lookAround_82 : decode b_Pas_lookAround 82 = .ok (.iload_n 2, 1) := by decide +kernel
theorem d_Pas_lookAround_83 : decode b_Pas_lookAround 83 = .ok (.iconst 1, 1) := by decide +kernel
theorem d_Pas_lookAround_84 : decode b_Pas_lookAround 84 = .ok (.isub, 1) := by decide +kernel
theorem d_Pas_lookAround_85 : decode b_Pas_lookAround 85 = .ok (.invokevirtual 65, 3) := by decide +kernel
theorem d_Pas_lookAround_88 : decode b_Pas_lookAround 88 = .ok (.goto 7, 3) := by decide +kernel
theorem d_Pas_lookAround_91 : decode b_Pas_lookAround 91 = .ok (.aload_n 0, 1) := by decide +kernel
theorem d_Pas_lookAround_92 : decode b_Pas_lookAround 92 = .ok (.getfield 68, 3) := by decide +kernel
theorem d_Pas_lookAround_95 : decode b_Pas_lookAround 95 = .ok (.putfield 74, 3) := by decide +kernel
theorem d_Pas_lookAround_98 : decode b_Pas_lookAround 98 = .ok (.return_, 1) := by decide +kernel
theorem d_Pas_overAll_0 : decode b_Pas_overAll 0 = .ok (.aload_n 0, 1) := by decide +kernel
theorem d_Pas_overAll_1 : decode b_Pas_overAll 1 = .ok (.getfield 19, 3) := by decide +kernel
theorem d_Pas_overAll_4 : decode b_Pas_overAll 4 = .ok (.aload_n 0, 1) := by decide +kernel
theorem d_Pas_overAll_5 : decode b_Pas_overAll 5 = .ok (.getfield 10, 3) := by decide +kernel
theorem d_Pas_overAll_8 : decode b_Pas_overAll 8 = .ok (.getfield 27, 3) := by decide +kernel
theorem d_Pas_overAll_11 : decode b_Pas_overAll 11 = .ok (.invokevirtual 31, 3) := by decide +kernel
theorem d_Pas_overAll_14 : decode b_Pas_overAll 14 = .ok (.iconst 0, 1) := by decide +kernel
theorem d_Pas_overAll_15 : decode b_Pas_overAll 15 = .ok (.istore_n 1, 1) := by decide +kernel
theorem d_Pas_overAll_16 : decode b_Pas_overAll 16 = .ok (.iload_n 1, 1) := by decide +kernel
theorem d_Pas_overAll_17 : decode b_Pas_overAll 17 = .ok (.aload_n 0, 1) := by decide +kernel
theorem d_Pas_overAll_18 : decode b_Pas_overAll 18 = .ok (.getfield 10, 3) := by decide +kernel
theorem d_Pas_overAll_21 : decode b_Pas_overAll 21 = .ok (.getfield 35, 3) := by decide +kernel
theorem d_Pas_overAll_24 : decode b_Pas_overAll 24 = .ok (.if_icmp .ge 121, 3) := by decide +kernel
theorem d_Pas_overAll_27 : decode b_Pas_overAll 27 = .ok (.iconst 0, 1) := by decide +kernel
theorem d_Pas_overAll_28 : decode b_Pas_overAll 28 = .ok (.istore_n 2, 1) := by decide +kernel
theorem d_Pas_overAll_29 : decode b_Pas_overAll 29 = .ok (.iconst 0, 1) := by decide +kernel
theorem d_Pas_overAll_30 : decode b_Pas_overAll 30 = .ok (.istore_n 3, 1) := by decide +kernel
theorem d_Pas_overAll_31 : decode b_Pas_overAll 31 = .ok (.iconst 0, 1) := by decide +kernel
theorem d_Pas_overAll_32 : decode b_Pas_overAll 32 = .ok (.istore 4, 2) := by decide +kernel
theorem d_Pas_overAll_34 : decode b_Pas_overAll 34 = .ok (.iload 4, 2) := by decide +kernel
theorem d_Pas_overAll_36 : decode b_Pas_overAll 36 = .ok (.aload_n 0, 1) := by decide +kernel
theorem d_Pas_overAll_37 : decode b_Pas_overAll 37 = .ok (.getfield 10, 3) := by decide +kernel
theorem d_Pas_overAll_40 : decode b_Pas_overAll 40 = .ok (.getfield 38, 3) := by decide +kernel
theorem d_Pas_overAll_43 : decode b_Pas_overAll 43 = .ok (.if_icmp .ge 96, 3) := by decide +kernel
theorem d_Pas_overAll_46 : decode b_Pas_overAll 46 = .ok (.iload 4, 2) := by decide +kernel
theorem d_Pas_overAll_48 : decode b_Pas_overAll 48 = .ok (.iload_n 1, 1) := by decide +kernel
theorem d_Pas_overAll_49 : decode b_Pas_overAll 49 = .ok (.invokestatic 41, 3) := by decide +kernel
theorem d_Pas_overAll_52 : decode b_Pas_overAll 52 = .ok (.istore 5, 2) := by decide +kernel
theorem d_Pas_overAll_54 : decode b_Pas_overAll 54 = .ok (.aload_n 0, 1) := by decide +kernel
theorem d_Pas_overAll_55 : decode b_Pas_overAll 55 = .ok (.iload 4, 2) := by decide +kernel
theorem d_Pas_overAll_57 : decode b_Pas_overAll 57 = .ok (.iload_n 1, 1) := by decide +kernel
theorem d_Pas_overAll_58 : decode b_Pas_overAll 58 = .ok (.invokevirtual 45, 3) := by decide +kernel
theorem d_Pas_overAll_61 : decode b_Pas_overAll 61 = .ok (.iload_n 2, 1) := by decide +kernel
theorem d_Pas_overAll_62 : decode b_Pas_overAll 62 = .ok (.ifCond .ne 29, 3) := by decide +kernel
theorem d_Pas_overAll_65 : decode b_Pas_overAll 65 = .ok (.aload_n 0, 1) := by decide +kernel
theorem d_Pas_overAll_66 : decode b_Pas_overAll 66 = .ok (.invokevirtual 49, 3) := by decide +kernel
theorem d_Pas_overAll_69 : decode b_Pas_overAll 69 = .ok (.ifCond .eq 22, 3) := by decide +kernel
theorem d_Pas_overAll_72 : decode b_Pas_overAll 72 = .ok (.iconst 1, 1) := by decide +kernel
theorem d_Pas_overAll_73 : decode b_Pas_overAll 73 = .ok (.istore_n 2, 1) := by decide +kernel
theorem d_Pas_overAll_74 : decode b_Pas_overAll 74 = .ok (.aload_n 0, 1) := by decide +kernel
theorem d_Pas_overAll_75 : decode b_Pas_overAll 75 = .ok (.iload 5, 2) := by decide +kernel
theorem d_Pas_overAll_77 : decode b_Pas_overAll 77 = .ok (.aload_n 0, 1) := by decide +kernel
theorem d_Pas_overAll_78 : decode b_Pas_overAll 78 = .ok (.getfield 10, 3) := by decide +kernel
theorem d_Pas_overAll_81 : decode b_Pas_overAll 81 = .ok (.getfield 38, 3) := by decide +kernel
theorem d_Pas_overAll_84 : decode b_Pas_overAll 84 = .ok (.iload 4, 2) := by decide +kernel
theorem d_Pas_overAll_86 : decode b_Pas_overAll 86 = .ok (.isub, 1) := by decide +kernel
theorem d_Pas_overAll_87 : decode b_Pas_overAll 87 = .ok (.invokevirtual 53, 3) := by decide +kernel
theorem d_Pas_overAll_90 : decode b_Pas_overAll 90 = .ok (.istore_n 3, 1) := by decide +kernel
theorem d_Pas_overAll_91 : decode b_Pas_overAll 91 = .ok (.iload_n 2, 1) := by decide +kernel
theorem d_Pas_overAll_92 : decode b_Pas_overAll 92 = .ok (.ifCond .ne 12, 3) := by decide +kernel
theorem d_Pas_overAll_95 : decode b_Pas_overAll 95 = .ok (.aload_n 0, 1) := by decide +kernel
theorem d_Pas_overAll_96 : decode b_Pas_overAll 96 = .ok (.iload 5, 2) := by decide +kernel
theorem d_Pas_overAll_98 : decode b_Pas_overAll 98 = .ok (.invokevirtual 56, 3) := by decide +kernel
theorem d_Pas_overAll_101 : decode b_Pas_overAll 101 = .ok (.goto 32, 3) := by decide +kernel
theorem d_Pas_overAll_104 : decode b_Pas_overAll 104 = .ok (.iload_n 3, 1) := by decide +kernel
theorem d_Pas_overAll_105 : decode b_Pas_overAll 105 = .ok (.ifCond .le 20, 3) := by decide +kernel
theorem d_Pas_overAll_108 : decode b_Pas_overAll 108 = .ok (.iinc 3 (-1), 3) := by decide +kernel
theorem d_Pas_overAll_111 : decode b_Pas_overAll 111 = .ok (.aload_n 0, 1) := by decide +kernel
theorem d_Pas_overAll_112 : decode b_Pas_overAll 112 = .ok (.getfield 23, 3) := by decide +kernel
theorem d_Pas_overAll_115 : decode b_Pas_overAll 115 = .ok (.iload 5, 2) := by decide +kernel
theorem d_Pas_overAll_117 : decode b_Pas_overAll 117 = .ok (.aload_n 0, 1) := by decide +kernel
theorem d_Pas_overAll_118 : decode b_Pas_overAll 118 = .ok (.getfield 59, 3) := by decide +kernel
theorem d_Pas_overAll_121 : decode b_Pas_overAll 121 = .ok (.iastore, 1) := by decide +kernel
theorem d_Pas_overAll_122 : decode b_Pas_overAll 122 = .ok (.goto 11, 3) := by decide +kernel
theorem d_Pas_overAll_125 : decode b_Pas_overAll 125 = .ok (.aload_n 0, 1) := by decide +kernel
theorem d_Pas_overAll_126 : decode b_Pas_overAll 126 = .ok (.iload 5, 2) := by decide +kernel
theorem d_Pas_overAll_128 : decode b_Pas_overAll 128 = .ok (.invokevirtual 62, 3) := by decide +kernel
theorem d_Pas_overAll_131 : decode b_Pas_overAll 131 = .ok (.iconst 0, 1) := by decide +kernel
theorem d_Pas_overAll_132 : decode b_Pas_overAll 132 = .ok (.istore_n 2, 1) := by decide +kernel
theorem d_Pas_overAll_133 : decode b_Pas_overAll 133 = .ok (.iinc 4 1, 3) := by decide +kernel
theorem d_Pas_overAll_136 : decode b_Pas_overAll 136 = .ok (.goto (-102), 3) := by decide +kernel
theorem d_Pas_overAll_139 : decode b_Pas_overAll 139 = .ok (.iinc 1 1, 3) := by decide +kernel
theorem d_Pas_overAll_142 : decode b_Pas_overAll 142 = .ok (.goto (-126), 3) := by decide +kernel
theorem d_Pas_overAll_145 : decode b_Pas_overAll 145 = .ok (.return_, 1) := by decide +kernel
theorem d_Pas_overEnd_0 : decode b_Pas_overEnd 0 = .ok (.aload_n 0, 1) := by decide +kernel
theorem d_Pas_overEnd_1 : decode b_Pas_overEnd 1 = .ok (.getfield 10, 3) := by decide +kernel
theorem d_Pas_overEnd_4 : decode b_Pas_overEnd 4 = .ok (.aload_n 0, 1) := by decide +kernel
theorem d_Pas_overEnd_5 : decode b_Pas_overEnd 5 = .ok (.getfield 59, 3) := by decide +kernel
theorem d_Pas_overEnd_8 : decode b_Pas_overEnd 8 = .ok (.aload_n 0, 1) := by decide +kernel
theorem d_Pas_overEnd_9 : decode b_Pas_overEnd 9 = .ok (.getfield 68, 3) := by decide +kernel
theorem d_Pas_overEnd_12 : decode b_Pas_overEnd 12 = .ok (.isub, 1) := by decide +kernel
theorem d_Pas_overEnd_13 : decode b_Pas_overEnd 13 = .ok (.invokevirtual 77, 3) := by decide +kernel
theorem d_Pas_overEnd_16 : decode b_Pas_overEnd 16 = .ok (.ifCond .eq 7, 3) := by decide +kernel
theorem d_Pas_overEnd_19 : decode b_Pas_overEnd 19 = .ok (.iconst 1, 1) := by decide +kernel
theorem d_Pas_overEnd_20 : decode b_Pas_overEnd 20 = .ok (.goto 4, 3) := by decide +kernel
theorem d_Pas_overEnd_23 : decode b_Pas_overEnd 23 = .ok (.iconst 0, 1) := by decide +kernel
theorem d_Pas_overEnd_24 : decode b_Pas_overEnd 24 = .ok (.istore_n 2, 1) := by decide +kernel
theorem d_Pas_overEnd_25 : decode b_Pas_overEnd 25 = .ok (.aload_n 0, 1) := by decide +kernel
theorem d_Pas_overEnd_26 : decode b_Pas_overEnd 26 = .ok (.iload_n 2, 1) := by decide +kernel
theorem d_Pas_overEnd_27 : decode b_Pas_overEnd 27 = .ok (.iconst 1, 1) := by decide +kernel
theorem d_Pas_overEnd_28 : decode b_Pas_overEnd 28 = .ok (.if_icmp .ne 10, 3) := by decide +kernel
theorem d_Pas_overEnd_31 : decode b_Pas_overEnd 31 = .ok (.aload_n 0, 1) := by decide +kernel
theorem d_Pas_overEnd_32 : decode b_Pas_overEnd 32 = .ok (.getfield 59, 3) := by decide +kernel
theorem d_Pas_overEnd_35 : decode b_Pas_overEnd 35 = .ok (.goto 7, 3) := by decide +kernel
theorem d_Pas_overEnd_38 : decode b_Pas_overEnd 38 = .ok (.aload_n 0, 1) := by decide +kernel
theorem d_Pas_overEnd_39 : decode b_Pas_overEnd 39 = .ok (.getfield 68, 3) := by decide +kernel
theorem d_Pas_overEnd_42 : decode b_Pas_overEnd 42 = .ok (.putfield 102, 3) := by decide +kernel
theorem d_Pas_overEnd_45 : decode b_Pas_overEnd 45 = .ok (.aload_n 0, 1) := by decide +kernel
theorem d_Pas_overEnd_46 : decode b_Pas_overEnd 46 = .ok (.iload_n 2, 1) := by decide +kernel
theorem d_Pas_overEnd_47 : decode b_Pas_overEnd 47 = .ok (.ifCond .ne 18, 3) := by decide +kernel
theorem d_Pas_overEnd_50 : decode b_Pas_overEnd 50 = .ok (.aload_n 0, 1) := by decide +kernel
theorem d_Pas_overEnd_51 : decode b_Pas_overEnd 51 = .ok (.getfield 59, 3) := by decide +kernel
theorem d_Pas_overEnd_54 : decode b_Pas_overEnd 54 = .ok (.aload_n 0, 1) := by decide +kernel
theorem d_Pas_overEnd_55 : decode b_Pas_overEnd 55 = .ok (.getfield 68, 3) := by decide +kernel
theorem d_Pas_overEnd_58 : decode b_Pas_overEnd 58 = .ok (.if_icmp .le 7, 3) := by decide +kernel
theorem d_Pas_overEnd_61 : decode b_Pas_overEnd 61 = .ok (.iconst (-1), 1) := by decide +kernel
theorem d_Pas_overEnd_62 : decode b_Pas_overEnd 62 = .ok (.goto 4, 3) := by decide +kernel
theorem d_Pas_overEnd_65 : decode b_Pas_overEnd 65 = .ok (.iconst 1, 1) := by decide +kernel
theorem d_Pas_overEnd_66 : decode b_Pas_overEnd 66 = .ok (.putfield 85, 3) := by decide +kernel
theorem d_Pas_overEnd_69 : decode b_Pas_overEnd 69 = .ok (.sipush 365, 3) := by decide +kernel
theorem d_Pas_overEnd_72 : decode b_Pas_overEnd 72 = .ok (.iload_n 2, 1) := by decide +kernel
theorem d_Pas_overEnd_73 : decode b_Pas_overEnd 73 = .ok (.iadd, 1) := by decide +kernel
theorem d_Pas_overEnd_74 : decode b_Pas_overEnd 74 = .ok (.istore_n 3, 1) := by decide +kernel
theorem d_Pas_overEnd_75 : decode b_Pas_overEnd 75 = .ok (.aload_n 0, 1) := by decide +kernel
theorem d_Pas_overEnd_76 : decode b_Pas_overEnd 76 = .ok (.getfield 19, 3) := by decide +kernel
theorem d_Pas_overEnd_79 : decode b_Pas_overEnd 79 = .ok (.iload_n 3, 1) := by decide +kernel
theorem d_Pas_overEnd_80 : decode b_Pas_overEnd 80 = .ok (.invokevirtual 134, 3) := by decide +kernel
theorem d_Pas_overEnd_83 : decode b_Pas_overEnd 83 = .ok (.istore 4, 2) := by decide +kernel
theorem d_Pas_overEnd_85 : decode b_Pas_overEnd 85 = .ok (.iload 4, 2) := by decide +kernel
theorem d_Pas_overEnd_87 : decode b_Pas_overEnd 87 = .ok (.ifCond .ne 14, 3) := by decide +kernel
theorem d_Pas_overEnd_90 : decode b_Pas_overEnd 90 = .ok (.aload_n 0, 1) := by decide +kernel
theorem d_Pas_overEnd_91 : decode b_Pas_overEnd 91 = .ok (.getfield 19, 3) := by decide +kernel
theorem d_Pas_overEnd_94 : decode b_Pas_overEnd 94 = .ok (.iload_n 3, 1) := by decide +kernel
theorem d_Pas_overEnd_95 : decode b_Pas_overEnd 95 = .ok (.invokevirtual 137, 3) := by decide +kernel
theorem d_Pas_overEnd_98 : decode b_Pas_overEnd 98 = .ok (.ifCond .eq 7, 3) := by decide +kernel
theorem d_Pas_overEnd_101 : decode b_Pas_overEnd 101 = .ok (.iconst 1, 1) := by decide +kernel
theorem d_Pas_overEnd_102 : decode b_Pas_overEnd 102 = .ok (.goto 4, 3) := by decide +kernel
theorem d_Pas_overEnd_105 : decode b_Pas_overEnd 105 = .ok (.iconst 0, 1) := by decide +kernel
theorem d_Pas_overEnd_106 : decode b_Pas_overEnd 106 = .ok (.istore 5, 2) := by decide +kernel
theorem d_Pas_overEnd_108 : decode b_Pas_overEnd 108 = .ok (.aload_n 0, 1) := by decide +kernel
theorem d_Pas_overEnd_109 : decode b_Pas_overEnd 109 = .ok (.iload_n 1, 1) := by decide +kernel
theorem d_Pas_overEnd_110 : decode b_Pas_overEnd 110 = .ok (.iload_n 2, 1) := by decide +kernel
theorem d_Pas_overEnd_111 : decode b_Pas_overEnd 111 = .ok (.iload 4, 2) := by decide +kernel
theorem d_Pas_overEnd_113 : decode b_Pas_overEnd 113 = .ok (.iload 5, 2) := by decide +kernel
theorem d_Pas_overEnd_115 : decode b_Pas_overEnd 115 = .ok (.invokevirtual 140, 3) := by decide +kernel
theorem d_Pas_overEnd_118 : decode b_Pas_overEnd 118 = .ok (.istore 6, 2) := by decide +kernel
theorem d_Pas_overEnd_120 : decode b_Pas_overEnd 120 = .ok (.aload_n 0, 1) := by decide +kernel
theorem d_Pas_overEnd_121 : decode b_Pas_overEnd 121 = .ok (.getfield 19, 3) := by decide +kernel
theorem d_Pas_overEnd_124 : decode b_Pas_overEnd 124 = .ok (.iload_n 3, 1) := by decide +kernel
theorem d_Pas_overEnd_125 : decode b_Pas_overEnd 125 = .ok (.iload 6, 2) := by decide +kernel
theorem d_Pas_overEnd_127 : decode b_Pas_overEnd 127 = .ok (.iload 6, 2) := by decide +kernel
theorem d_Pas_overEnd_129 : decode b_Pas_overEnd 129 = .ok (.iload_n 2, 1) := by decide +kernel
theorem d_Pas_overEnd_130 : decode b_Pas_overEnd 130 = .ok (.iload 5, 2) := by decide +kernel
theorem d_Pas_overEnd_132 : decode b_Pas_overEnd 132 = .ok (.invokestatic 144, 3) := by decide +kernel
theorem d_Pas_overEnd_135 : decode b_Pas_overEnd 135 = .ok (.invokevirtual 149, 3) := by decide +kernel
theorem d_Pas_overEnd_138 : decode b_Pas_overEnd 138 = .ok (.aload_n 0, 1) := by decide +kernel
theorem d_Pas_overEnd_139 : decode b_Pas_overEnd 139 = .ok (.getfield 19, 3) := by decide +kernel
theorem d_Pas_overEnd_142 : decode b_Pas_overEnd 142 = .ok (.invokevirtual 152, 3) := by decide +kernel
theorem d_Pas_overEnd_145 : decode b_Pas_overEnd 145 = .ok (.return_, 1) := by decide +kernel
theorem d_Pas_overRegular_0 : decode b_Pas_overRegular 0 = .ok (.aload_n 0, 1) := by decide +kernel
theorem d_Pas_overRegular_1 : decode b_Pas_overRegular 1 = .ok (.invokevirtual 81, 3) := by decide +kernel
theorem d_Pas_overRegular_4 : decode b_Pas_overRegular 4 = .ok (.istore_n 2, 1) := by decide +kernel
theorem d_Pas_overRegular_5 : decode b_Pas_overRegular 5 = .ok (.aload_n 0, 1) := by decide +kernel
theorem d_Pas_overRegular_6 : decode b_Pas_overRegular 6 = .ok (.iload_n 2, 1) := by decide +kernel
theorem d_Pas_overRegular_7 : decode b_Pas_overRegular 7 = .ok (.ifCond .ge 7, 3) := by decide +kernel
theorem d_Pas_overRegular_10 : decode b_Pas_overRegular 10 = .ok (.iconst (-1), 1) := by decide +kernel
theorem d_Pas_overRegular_11 : decode b_Pas_overRegular 11 = .ok (.goto 4, 3) := by decide +kernel
theorem d_Pas_overRegular_14 : decode b_Pas_overRegular 14 = .ok (.iconst 1, 1) := by decide +kernel
theorem d_Pas_overRegular_15 : decode b_Pas_overRegular 15 = .ok (.putfield 85, 3) := by decide +kernel
theorem d_Pas_overRegular_18 : decode b_Pas_overRegular 18 = .ok (.iload_n 2, 1) := by decide +kernel
theorem d_Pas_overRegular_19 : decode b_Pas_overRegular 19 = .ok (.invokestatic 88, 3) := by decide +kernel
theorem d_Pas_overRegular_22 : decode b_Pas_overRegular 22 = .ok (.istore_n 3, 1) := by decide +kernel
theorem d_Pas_overRegular_23 : decode b_Pas_overRegular 23 = .ok (.aload_n 0, 1) := by decide +kernel
theorem d_Pas_overRegular_24 : decode b_Pas_overRegular 24 = .ok (.aload_n 0, 1) := by decide +kernel
theorem d_Pas_overRegular_25 : decode b_Pas_overRegular 25 = .ok (.getfield 10, 3) := by decide +kernel
theorem d_Pas_overRegular_28 : decode b_Pas_overRegular 28 = .ok (.aload_n 0, 1) := by decide +kernel
theorem d_Pas_overRegular_29 : decode b_Pas_overRegular 29 = .ok (.invokevirtual 94, 3) := by decide +kernel
theorem d_Pas_overRegular_32 : decode b_Pas_overRegular 32 = .ok (.aload_n 0, 1) := by decide +kernel
theorem d_Pas_overRegular_33 : decode b_Pas_overRegular 33 = .ok (.getfield 85, 3) := by decide +kernel
theorem d_Pas_overRegular_36 : decode b_Pas_overRegular 36 = .ok (.aload_n 0, 1) := by decide +kernel
theorem d_Pas_overRegular_37 : decode b_Pas_overRegular 37 = .ok (.getfield 19, 3) := by decide +kernel
theorem d_Pas_overRegular_40 : decode b_Pas_overRegular 40 = .ok (.getfield 97, 3) := by decide +kernel
theorem d_Pas_overRegular_43 : decode b_Pas_overRegular 43 = .ok (.iload_n 3, 1) := by decide +kernel
theorem d_Pas_overRegular_44 : decode b_Pas_overRegular 44 = .ok (.iaload, 1) := by decide +kernel
theorem d_Pas_overRegular_45 : decode b_Pas_overRegular 45 = .ok (.imul, 1) := by decide +kernel
theorem d_Pas_overRegular_46 : decode b_Pas_overRegular 46 = .ok (.iadd, 1) := by decide +kernel
theorem d_Pas_overRegular_47 : decode b_Pas_overRegular 47 = .ok (.invokevirtual 99, 3) := by decide +kernel
theorem d_Pas_overRegular_50 : decode b_Pas_overRegular 50 = .ok (.putfield 102, 3) := by decide +kernel
theorem d_Pas_overRegular_53 : decode b_Pas_overRegular 53 = .ok (.aload_n 0, 1) := by decide +kernel
theorem d_Pas_overRegular_54 : decode b_Pas_overRegular 54 = .ok (.getfield 19, 3) := by decide +kernel
theorem d_Pas_overRegular_57 : decode b_Pas_overRegular 57 = .ok (.iload_n 3, 1) := by decide +kernel
theorem d_Pas_overRegular_58 : decode b_Pas_overRegular 58 = .ok (.invokevirtual 105, 3) := by decide +kernel
theorem d_Pas_overRegular_61 : decode b_Pas_overRegular 61 = .ok (.istore 4, 2) := by decide +kernel
theorem d_Pas_overRegular_63 : decode b_Pas_overRegular 63 = .ok (.aload_n 0, 1) := by decide +kernel
theorem d_Pas_overRegular_64 : decode b_Pas_overRegular 64 = .ok (.getfield 10, 3) := by decide +kernel
theorem d_Pas_overRegular_67 : decode b_Pas_overRegular 67 = .ok (.getfield 108, 3) := by decide +kernel
theorem d_Pas_overRegular_70 : decode b_Pas_overRegular 70 = .ok (.ifCond .ne 23, 3) := by decide +kernel
theorem d_Pas_overRegular_73 : decode b_Pas_overRegular 73 = .ok (.iload 4, 2) := by decide +kernel
theorem d_Pas_overRegular_75 : decode b_Pas_overRegular 75 = .ok (.ifCond .ne 18, 3) := by decide +kernel
theorem d_Pas_overRegular_78 : decode b_Pas_overRegular 78 = .ok (.aload_n 0, 1) := by decide +kernel
theorem d_Pas_overRegular_79 : decode b_Pas_overRegular 79 = .ok (.getfield 19, 3) := by decide +kernel
theorem d_Pas_overRegular_82 : decode b_Pas_overRegular 82 = .ok (.iload_n 3, 1) := by decide +kernel
theorem d_Pas_overRegular_83 : decode b_Pas_overRegular 83 = .ok (.invokevirtual 111, 3) := by decide +kernel
theorem d_Pas_overRegular_86 : decode b_Pas_overRegular 86 = .ok (.ifCond .eq 7, 3) := by decide +kernel
theorem d_Pas_overRegular_89 : decode b_Pas_overRegular 89 = .ok (.iconst 1, 1) := by decide +kernel
theorem d_Pas_overRegular_90 : decode b_Pas_overRegular 90 = .ok (.goto 4, 3) := by decide +kernel
theorem d_Pas_overRegular_93 : decode b_Pas_overRegular 93 = .ok (.iconst 0, 1) := by decide +kernel
theorem d_Pas_overRegular_94 : decode b_Pas_overRegular 94 = .ok (.istore 5, 2) := by decide +kernel
theorem d_Pas_overRegular_96 : decode b_Pas_overRegular 96 = .ok (.aload_n 0, 1) := by decide +kernel
theorem d_Pas_overRegular_97 : decode b_Pas_overRegular 97 = .ok (.iload_n 1, 1) := by decide +kernel
theorem d_Pas_overRegular_98 : decode b_Pas_overRegular 98 = .ok (.iload 4, 2) := by decide +kernel
theorem d_Pas_overRegular_100 : decode b_Pas_overRegular 100 = .ok (.iload 5, 2) := by decide +kernel
theorem d_Pas_overRegular_102 : decode b_Pas_overRegular 102 = .ok (.invokevirtual 114, 3) := by decide +kernel
theorem d_Pas_overRegular_105 : decode b_Pas_overRegular 105 = .ok (.istore 6, 2) := by decide +kernel
theorem d_Pas_overRegular_107 : decode b_Pas_overRegular 107 = .ok (.aload_n 0, 1) := by decide +kernel
theorem d_Pas_overRegular_108 : decode b_Pas_overRegular 108 = .ok (.getfield 19, 3) := by decide +kernel
theorem d_Pas_overRegular_111 : decode b_Pas_overRegular 111 = .ok (.iload_n 3, 1) := by decide +kernel
theorem d_Pas_overRegular_112 : decode b_Pas_overRegular 112 = .ok (.iload 6, 2) := by decide +kernel
theorem d_Pas_overRegular_114 : decode b_Pas_overRegular 114 = .ok (.aload_n 0, 1) := by decide +kernel
theorem d_Pas_overRegular_115 : decode b_Pas_overRegular 115 = .ok (.getfield 10, 3) := by decide +kernel
theorem d_Pas_overRegular_118 : decode b_Pas_overRegular 118 = .ok (.getfield 118, 3) := by decide +kernel
theorem d_Pas_overRegular_121 : decode b_Pas_overRegular 121 = .ok (.invokevirtual 121, 3) := by decide +kernel
theorem d_Pas_overRegular_124 : decode b_Pas_overRegular 124 = .ok (.return_, 1) := by decide +kernel
theorem d_Pas_rebuiltOrNothing_0 : decode b_Pas_rebuiltOrNothing 0 = .ok (.iload_n 2, 1) := by decide +kernel
theorem d_Pas_rebuiltOrNothing_1 : decode b_Pas_rebuiltOrNothing 1 = .ok (.ifCond .ge 7, 3) := by decide +kernel
theorem d_Pas_rebuiltOrNothing_4 : decode b_Pas_rebuiltOrNothing 4 = .ok (.iconst 0, 1) := by decide +kernel
theorem d_Pas_rebuiltOrNothing_5 : decode b_Pas_rebuiltOrNothing 5 = .ok (.goto 13, 3) := by decide +kernel
theorem d_Pas_rebuiltOrNothing_8 : decode b_Pas_rebuiltOrNothing 8 = .ok (.aload_n 0, 1) := by decide +kernel
theorem d_Pas_rebuiltOrNothing_9 : decode b_Pas_rebuiltOrNothing 9 = .ok (.getfield 23, 3) := by decide +kernel
theorem d_Pas_rebuiltOrNothing_12 : decode b_Pas_rebuiltOrNothing 12 = .ok (.iload_n 1, 1) := by decide +kernel
theorem d_Pas_rebuiltOrNothing_13 : decode b_Pas_rebuiltOrNothing 13 = .ok (.iload_n 2, 1) := by decide +kernel
theorem d_Pas_rebuiltOrNothing_14 : decode b_Pas_rebuiltOrNothing 14 = .ok (.invokestatic 41, 3) := by decide +kernel
theorem d_Pas_rebuiltOrNothing_17 : decode b_Pas_rebuiltOrNothing 17 = .ok (.iaload, 1) := by decide +kernel
theorem d_Pas_rebuiltOrNothing_18 : decode b_Pas_rebuiltOrNothing 18 = .ok (.ireturn, 1) := by decide +kernel
theorem d_Pas_signedContext_0 : decode b_Pas_signedContext 0 = .ok (.bipush 81, 2) := by decide +kernel
theorem d_Pas_signedContext_2 : decode b_Pas_signedContext 2 = .ok (.aload_n 0, 1) := by decide +kernel
theorem d_Pas_signedContext_3 : decode b_Pas_signedContext 3 = .ok (.getfield 10, 3) := by decide +kernel
theorem d_Pas_signedContext_6 : decode b_Pas_signedContext 6 = .ok (.aload_n 0, 1) := by decide +kernel
theorem d_Pas_signedContext_7 : decode b_Pas_signedContext 7 = .ok (.getfield 74, 3) := by decide +kernel
theorem d_Pas_signedContext_10 : decode b_Pas_signedContext 10 = .ok (.aload_n 0, 1) := by decide +kernel
theorem d_Pas_signedContext_11 : decode b_Pas_signedContext 11 = .ok (.getfield 68, 3) := by decide +kernel
theorem d_Pas_signedContext_14 : decode b_Pas_signedContext 14 = .ok (.isub, 1) := by decide +kernel
theorem d_Pas_signedContext_15 : decode b_Pas_signedContext 15 = .ok (.invokevirtual 125, 3) := by decide +kernel
theorem d_Pas_signedContext_18 : decode b_Pas_signedContext 18 = .ok (.imul, 1) := by decide +kernel
theorem d_Pas_signedContext_19 : decode b_Pas_signedContext 19 = .ok (.bipush 9, 2) := by decide +kernel
theorem d_Pas_signedContext_21 : decode b_Pas_signedContext 21 = .ok (.aload_n 0, 1) := by decide +kernel
theorem d_Pas_signedContext_22 : decode b_Pas_signedContext 22 = .ok (.getfield 10, 3) := by decide +kernel
theorem d_Pas_signedContext_25 : decode b_Pas_signedContext 25 = .ok (.aload_n 0, 1) := by decide +kernel
theorem d_Pas_signedContext_26 : decode b_Pas_signedContext 26 = .ok (.getfield 68, 3) := by decide +kernel
theorem d_Pas_signedContext_29 : decode b_Pas_signedContext 29 = .ok (.aload_n 0, 1) := by decide +kernel
theorem d_Pas_signedContext_30 : decode b_Pas_signedContext 30 = .ok (.getfield 71, 3) := by decide +kernel
theorem d_Pas_signedContext_33 : decode b_Pas_signedContext 33 = .ok (.isub, 1) := by decide +kernel
theorem d_Pas_signedContext_34 : decode b_Pas_signedContext 34 = .ok (.invokevirtual 125, 3) := by decide +kernel
theorem d_Pas_signedContext_37 : decode b_Pas_signedContext 37 = .ok (.imul, 1) := by decide +kernel
theorem d_Pas_signedContext_38 : decode b_Pas_signedContext 38 = .ok (.iadd, 1) := by decide +kernel
theorem d_Pas_signedContext_39 : decode b_Pas_signedContext 39 = .ok (.aload_n 0, 1) := by decide +kernel
theorem d_Pas_signedContext_40 : decode b_Pas_signedContext 40 = .ok (.getfield 10, 3) := by decide +kernel
theorem d_Pas_signedContext_43 : decode b_Pas_signedContext 43 = .ok (.aload_n 0, 1) := by decide +kernel
theorem d_Pas_signedContext_44 : decode b_Pas_signedContext 44 = .ok (.getfield 71, 3) := by decide +kernel
theorem d_Pas_signedContext_47 : decode b_Pas_signedContext 47 = .ok (.aload_n 0, 1) := by decide +kernel
theorem d_Pas_signedContext_48 : decode b_Pas_signedContext 48 = .ok (.getfield 59, 3) := by decide +kernel
theorem d_Pas_signedContext_51 : decode b_Pas_signedContext 51 = .ok (.isub, 1) := by decide +kernel
theorem d_Pas_signedContext_52 : decode b_Pas_signedContext 52 = .ok (.invokevirtual 125, 3) := by decide +kernel
theorem d_Pas_signedContext_55 : decode b_Pas_signedContext 55 = .ok (.iadd, 1) := by decide +kernel
theorem d_Pas_signedContext_56 : decode b_Pas_signedContext 56 = .ok (.ireturn, 1) := by decide +kernel
theorem d_Pic_become_0 : decode b_Pic_become 0 = .ok (.aload_n 0, 1) := by decide +kernel
theorem d_Pic_become_1 : decode b_Pic_become 1 = .ok (.iload_n 1, 1) := by decide +kernel
theorem d_Pic_become_2 : decode b_Pic_become 2 = .ok (.putfield 13, 3) := by decide +kernel
theorem d_Pic_become_5 : decode b_Pic_become 5 = .ok (.aload_n 0, 1) := by decide +kernel
theorem d_Pic_become_6 : decode b_Pic_become 6 = .ok (.iload_n 2, 1) := by decide +kernel
theorem d_Pic_become_7 : decode b_Pic_become 7 = .ok (.putfield 17, 3) := by decide +kernel
theorem d_Pic_become_10 : decode b_Pic_become 10 = .ok (.aload_n 0, 1) := by decide +kernel
theorem d_Pic_become_11 : decode b_Pic_become 11 = .ok (.iload_n 3, 1) := by decide +kernel
theorem d_Pic_become_12 : decode b_Pic_become 12 = .ok (.putfield 20, 3) := by decide +kernel
theorem d_Pic_become_15 : decode b_Pic_become 15 = .ok (.aload_n 0, 1) := by decide +kernel
theorem d_Pic_become_16 : decode b_Pic_become 16 = .ok (.iload 4, 2) := by decide +kernel
theorem d_Pic_become_18 : decode b_Pic_become 18 = .ok (.putfield 23, 3) := by decide +kernel
theorem d_Pic_become_21 : decode b_Pic_become 21 = .ok (.aload_n 0, 1) := by decide +kernel
theorem d_Pic_become_22 : decode b_Pic_become 22 = .ok (.iconst 2, 1) := by decide +kernel
theorem d_Pic_become_23 : decode b_Pic_become 23 = .ok (.aload_n 0, 1) := by decide +kernel
theorem d_Pic_become_24 : decode b_Pic_become 24 = .ok (.getfield 23, 3) := by decide +kernel
theorem d_Pic_become_27 : decode b_Pic_become 27 = .ok (.imul, 1) := by decide +kernel
theorem d_Pic_become_28 : decode b_Pic_become 28 = .ok (.iconst 1, 1) := by decide +kernel
theorem d_Pic_become_29 : decode b_Pic_become 29 = .ok (.iadd, 1) := by decide +kernel
theorem d_Pic_become_30 : decode b_Pic_become 30 = .ok (.putfield 26, 3) := by decide +kernel
theorem d_Pic_become_33 : decode b_Pic_become 33 = .ok (.aload_n 0, 1) := by decide +kernel
theorem d_Pic_become_34 : decode b_Pic_become 34 = .ok (.aload_n 0, 1) := by decide +kernel
theorem d_Pic_become_35 : decode b_Pic_become 35 = .ok (.getfield 20, 3) := by decide +kernel
theorem d_Pic_become_38 : decode b_Pic_become 38 = .ok (.iconst 2, 1) := by decide +kernel
theorem d_Pic_become_39 : decode b_Pic_become 39 = .ok (.aload_n 0, 1) := by decide +kernel
theorem d_Pic_become_40 : decode b_Pic_become 40 = .ok (.getfield 23, 3) := by decide +kernel
theorem d_Pic_become_43 : decode b_Pic_become 43 = .ok (.imul, 1) := by decide +kernel
theorem d_Pic_become_44 : decode b_Pic_become 44 = .ok (.iadd, 1) := by decide +kernel
theorem d_Pic_become_45 : decode b_Pic_become 45 = .ok (.aload_n 0, 1) := by decide +kernel
theorem d_Pic_become_46 : decode b_Pic_become 46 = .ok (.getfield 26, 3) := by decide +kernel
theorem d_Pic_become_49 : decode b_Pic_become 49 = .ok (.idiv, 1) := by decide +kernel
theorem d_Pic_become_50 : decode b_Pic_become 50 = .ok (.iconst 1, 1) := by decide +kernel
theorem d_Pic_become_51 : decode b_Pic_become 51 = .ok (.iadd, 1) := by decide +kernel
theorem d_Pic_become_52 : decode b_Pic_become 52 = .ok (.putfield 29, 3) := by decide +kernel
theorem d_Pic_become_55 : decode b_Pic_become 55 = .ok (.aload_n 0, 1) := by decide +kernel
theorem d_Pic_become_56 : decode b_Pic_become 56 = .ok (.iconst 0, 1) := by decide +kernel
theorem d_Pic_become_57 : decode b_Pic_become 57 = .ok (.aload_n 0, 1) := by decide +kernel
theorem d_Pic_become_58 : decode b_Pic_become 58 = .ok (.getfield 29, 3) := by decide +kernel
theorem d_Pic_become_61 : decode b_Pic_become 61 = .ok (.invokestatic 32, 3) := by decide +kernel
theorem d_Pic_become_64 : decode b_Pic_become 64 = .ok (.putfield 36, 3) := by decide +kernel
theorem d_Pic_become_67 : decode b_Pic_become 67 = .ok (.iconst 2, 1) := by decide +kernel
theorem d_Pic_become_68 : decode b_Pic_become 68 = .ok (.aload_n 0, 1) := by decide +kernel
theorem d_Pic_become_69 : decode b_Pic_become 69 = .ok (.getfield 20, 3) := by decide +kernel
theorem d_Pic_become_72 : decode b_Pic_become 72 = .ok (.iconst 1, 1) := by decide +kernel
theorem d_Pic_become_73 : decode b_Pic_become 73 = .ok (.iadd, 1) := by decide +kernel
theorem d_Pic_become_74 : decode b_Pic_become 74 = .ok (.invokestatic 32, 3) := by decide +kernel
theorem d_Pic_become_77 : decode b_Pic_become 77 = .ok (.istore 5, 2) := by decide +kernel
theorem d_Pic_become_79 : decode b_Pic_become 79 = .ok (.aload_n 0, 1) := by decide +kernel
theorem d_Pic_become_80 : decode b_Pic_become 80 = .ok (.iconst 2, 1) := by decide +kernel
theorem d_Pic_become_81 : decode b_Pic_become 81 = .ok (.iload 5, 2) := by decide +kernel
theorem d_Pic_become_83 : decode b_Pic_become 83 = .ok (.bipush 8, 2) := by decide +kernel
theorem d_Pic_become_85 : decode b_Pic_become 85 = .ok (.iload 5, 2) := by decide +kernel
theorem d_Pic_become_87 : decode b_Pic_become 87 = .ok (.invokestatic 39, 3) := by decide +kernel
theorem d_Pic_become_90 : decode b_Pic_become 90 = .ok (.iadd, 1) := by decide +kernel
theorem d_Pic_become_91 : decode b_Pic_become 91 = .ok (.imul, 1) := by decide +kernel
theorem d_Pic_become_92 : decode b_Pic_become 92 = .ok (.putfield 44, 3) := by decide +kernel
theorem d_Pic_become_95 : decode b_Pic_become 95 = .ok (.aload_n 0, 1) := by decide +kernel
theorem d_Pic_become_96 : decode b_Pic_become 96 = .ok (.getfield 20, 3) := by decide +kernel
theorem d_Pic_become_99 : decode b_Pic_become 99 = .ok (.sipush 128, 3) := by decide +kernel
theorem d_Pic_become_102 : decode b_Pic_become 102 = .ok (.if_icmp .lt 22, 3) := by decide +kernel
theorem d_Pic_become_105 : decode b_Pic_become 105 = .ok (.aload_n 0, 1) := by decide +kernel
theorem d_Pic_become_106 : decode b_Pic_become 106 = .ok (.aload_n 0, 1) := by decide +kernel
theorem d_Pic_become_107 : decode b_Pic_become 107 = .ok (.getfield 20, 3) := by decide +kernel
theorem d_Pic_become_110 : decode b_Pic_become 110 = .ok (.sipush 128, 3) := by decide +kernel
theorem d_Pic_become_113 : decode b_Pic_become 113 = .ok (.iadd, 1) := by decide +kernel
theorem d_Pic_become_114 : decode b_Pic_become 114 = .ok (.sipush 256, 3) := by decide +kernel
theorem d_Pic_become_117 : decode b_Pic_become 117 = .ok (.idiv, 1) := by decide +kernel
theorem d_Pic_become_118 : decode b_Pic_become 118 = .ok (.invokevirtual 47, 3) := by decide +kernel
theorem d_Pic_become_121 : decode b_Pic_become 121 = .ok (.goto 17, 3) := by decide +kernel
theorem d_Pic_become_124 : decode b_Pic_become 124 = .ok (.aload_n 0, 1) := by decide +kernel
theorem d_Pic_become_125 : decode b_Pic_become 125 = .ok (.sipush 256, 3) := by decide +kernel
theorem d_Pic_become_128 : decode b_Pic_become 128 = .ok (.aload_n 0, 1) := by decide +kernel
theorem d_Pic_become_129 : decode b_Pic_become 129 = .ok (.getfield 20, 3) := by decide +kernel
theorem d_Pic_become_132 : decode b_Pic_become 132 = .ok (.iconst 1, 1) := by decide +kernel
theorem d_Pic_become_133 : decode b_Pic_become 133 = .ok (.iadd, 1) := by decide +kernel
theorem d_Pic_become_134 : decode b_Pic_become 134 = .ok (.idiv, 1) := by decide +kernel
theorem d_Pic_become_135 : decode b_Pic_become 135 = .ok (.invokevirtual 51, 3) := by decide +kernel
theorem d_Pic_become_138 : decode b_Pic_become 138 = .ok (.return_, 1) := by decide +kernel
theorem d_Pic_becomeCoarse_0 : decode b_Pic_becomeCoarse 0 = .ok (.aload_n 0, 1) := by decide +kernel
theorem d_Pic_becomeCoarse_1 : decode b_Pic_becomeCoarse 1 = .ok (.aload_n 0, 1) := by decide +kernel
theorem d_Pic_becomeCoarse_2 : decode b_Pic_becomeCoarse 2 = .ok (.iconst 2, 1) := by decide +kernel
theorem d_Pic_becomeCoarse_3 : decode b_Pic_becomeCoarse 3 = .ok (.iconst 3, 1) := by decide +kernel
theorem d_Pic_becomeCoarse_4 : decode b_Pic_becomeCoarse 4 = .ok (.iload_n 1, 1) := by decide +kernel
theorem d_Pic_becomeCoarse_5 : decode b_Pic_becomeCoarse 5 = .ok (.idiv, 1) := by decide +kernel
theorem d_Pic_becomeCoarse_6 : decode b_Pic_becomeCoarse 6 = .ok (.iconst 3, 1) := by decide +kernel
theorem d_Pic_becomeCoarse_7 : decode b_Pic_becomeCoarse 7 = .ok (.aload_n 0, 1) := by decide +kernel
theorem d_Pic_becomeCoarse_8 : decode b_Pic_becomeCoarse 8 = .ok (.getfield 23, 3) := by decide +kernel
theorem d_Pic_becomeCoarse_11 : decode b_Pic_becomeCoarse 11 = .ok (.imul, 1) := by decide +kernel
theorem d_Pic_becomeCoarse_12 : decode b_Pic_becomeCoarse 12 = .ok (.iadd, 1) := by decide +kernel
theorem d_Pic_becomeCoarse_13 : decode b_Pic_becomeCoarse 13 = .ok (.invokestatic 39, 3) := by decide +kernel
theorem d_Pic_becomeCoarse_16 : decode b_Pic_becomeCoarse 16 = .ok (.aload_n 0, 1) := by decide +kernel
theorem d_Pic_becomeCoarse_17 : decode b_Pic_becomeCoarse 17 = .ok (.getfield 23, 3) := by decide +kernel
theorem d_Pic_becomeCoarse_20 : decode b_Pic_becomeCoarse 20 = .ok (.iconst 1, 1) := by decide +kernel
theorem d_Pic_becomeCoarse_21 : decode b_Pic_becomeCoarse 21 = .ok (.iadd, 1) := by decide +kernel
theorem d_Pic_becomeCoarse_22 : decode b_Pic_becomeCoarse 22 = .ok (.invokevirtual 54, 3) := by decide +kernel
theorem d_Pic_becomeCoarse_25 : decode b_Pic_becomeCoarse 25 = .ok (.putfield 57, 3) := by decide +kernel
theorem d_Pic_becomeCoarse_28 : decode b_Pic_becomeCoarse 28 = .ok (.aload_n 0, 1) := by decide +kernel
theorem d_Pic_becomeCoarse_29 : decode b_Pic_becomeCoarse 29 = .ok (.aload_n 0, 1) := by decide +kernel
theorem d_Pic_becomeCoarse_30 : decode b_Pic_becomeCoarse 30 = .ok (.iconst 3, 1) := by decide +kernel
theorem d_Pic_becomeCoarse_31 : decode b_Pic_becomeCoarse 31 = .ok (.bipush 7, 2) := by decide +kernel
theorem d_Pic_becomeCoarse_33 : decode b_Pic_becomeCoarse 33 = .ok (.iload_n 1, 1) := by decide +kernel
theorem d_Pic_becomeCoarse_34 : decode b_Pic_becomeCoarse 34 = .ok (.idiv, 1) := by decide +kernel
theorem d_Pic_becomeCoarse_35 : decode b_Pic_becomeCoarse 35 = .ok (.iconst 5, 1) := by decide +kernel
theorem d_Pic_becomeCoarse_36 : decode b_Pic_becomeCoarse 36 = .ok (.aload_n 0, 1) := by decide +kernel
theorem d_Pic_becomeCoarse_37 : decode b_Pic_becomeCoarse 37 = .ok (.getfield 23, 3) := by decide +kernel
theorem d_Pic_becomeCoarse_40 : decode b_Pic_becomeCoarse 40 = .ok (.imul, 1) := by decide +kernel
theorem d_Pic_becomeCoarse_41 : decode b_Pic_becomeCoarse 41 = .ok (.iadd, 1) := by decide +kernel
theorem d_Pic_becomeCoarse_42 : decode b_Pic_becomeCoarse 42 = .ok (.invokestatic 39, 3) := by decide +kernel
theorem d_Pic_becomeCoarse_45 : decode b_Pic_becomeCoarse 45 = .ok (.aload_n 0, 1) := by decide +kernel
theorem d_Pic_becomeCoarse_46 : decode b_Pic_becomeCoarse 46 = .ok (.getfield 57, 3) := by decide +kernel
theorem d_Pic_becomeCoarse_49 : decode b_Pic_becomeCoarse 49 = .ok (.invokevirtual 54, 3) := by decide +kernel
theorem d_Pic_becomeCoarse_52 : decode b_Pic_becomeCoarse 52 = .ok (.putfield 60, 3) := by decide +kernel
theorem d_Pic_becomeCoarse_55 : decode b_Pic_becomeCoarse 55 = .ok (.aload_n 0, 1) := by decide +kernel
theorem d_Pic_becomeCoarse_56 : decode b_Pic_becomeCoarse 56 = .ok (.aload_n 0, 1) := by decide +kernel
theorem d_Pic_becomeCoarse_57 : decode b_Pic_becomeCoarse 57 = .ok (.iconst 4, 1) := by decide +kernel
theorem d_Pic_becomeCoarse_58 : decode b_Pic_becomeCoarse 58 = .ok (.bipush 21, 2) := by decide +kernel
theorem d_Pic_becomeCoarse_60 : decode b_Pic_becomeCoarse 60 = .ok (.iload_n 1, 1) := by decide +kernel
theorem d_Pic_becomeCoarse_61 : decode b_Pic_becomeCoarse 61 = .ok (.idiv, 1) := by decide +kernel
theorem d_Pic_becomeCoarse_62 : decode b_Pic_becomeCoarse 62 = .ok (.bipush 7, 2) := by decide +kernel
theorem d_Pic_becomeCoarse_64 : decode b_Pic_becomeCoarse 64 = .ok (.aload_n 0, 1) := by decide +kernel
theorem d_Pic_becomeCoarse_65 : decode b_Pic_becomeCoarse 65 = .ok (.getfield 23, 3) := by decide +kernel
theorem d_Pic_becomeCoarse_68 : decode b_Pic_becomeCoarse 68 = .ok (.imul, 1) := by decide +kernel
theorem d_Pic_becomeCoarse_69 : decode b_Pic_becomeCoarse 69 = .ok (.iadd, 1) := by decide +kernel
theorem d_Pic_becomeCoarse_70 : decode b_Pic_becomeCoarse 70 = .ok (.invokestatic 39, 3) := by decide +kernel
theorem d_Pic_becomeCoarse_73 : decode b_Pic_becomeCoarse 73 = .ok (.aload_n 0, 1) := by decide +kernel
theorem d_Pic_becomeCoarse_74 : decode b_Pic_becomeCoarse 74 = .ok (.getfield 60, 3) := by decide +kernel
theorem d_Pic_becomeCoarse_77 : decode b_Pic_becomeCoarse 77 = .ok (.invokevirtual 54, 3) := by decide +kernel
theorem d_Pic_becomeCoarse_80 : decode b_Pic_becomeCoarse 80 = .ok (.putfield 63, 3) := by decide +kernel
theorem d_Pic_becomeCoarse_83 : decode b_Pic_becomeCoarse 83 = .ok (.return_, 1) := by decide +kernel
end
section
theorem d_Pic_becomeFine_0 : decode b_Pic_becomeFine 0 = .ok (.aload_n 0, 1) := by decide +kernel
theorem d_Pic_becomeFine_1 : decode b_Pic_becomeFine 1 = .ok (.aload_n 0, 1) := by decide +kernel
theorem d_Pic_becomeFine_2 : decode b_Pic_becomeFine 2 = .ok (.iload_n 1, 1) := by decide +kernel
theorem d_Pic_becomeFine_3 : decode b_Pic_becomeFine 3 = .ok (.iconst 2, 1) := by decide +kernel
theorem d_Pic_becomeFine_4 : decode b_Pic_becomeFine 4 = .ok (.iadd, 1) := by decide +kernel
theorem d_Pic_becomeFine_5 : decode b_Pic_becomeFine 5 = .ok (.iconst 3, 1) := by decide +kernel
theorem d_Pic_becomeFine_6 : decode b_Pic_becomeFine 6 = .ok (.aload_n 0, 1) := by decide +kernel
theorem d_Pic_becomeFine_7 : decode b_Pic_becomeFine 7 = .ok (.getfield 23, 3) := by decide +kernel
theorem d_Pic_becomeFine_10 : decode b_Pic_becomeFine 10 = .ok (.imul, 1) := by decide +kernel
theorem d_Pic_becomeFine_11 : decode b_Pic_becomeFine 11 = .ok (.iadd, 1) := by decide +kernel
theorem d_Pic_becomeFine_12 : decode b_Pic_becomeFine 12 = .ok (.aload_n 0, 1) := by decide +kernel
theorem d_Pic_becomeFine_13 : decode b_Pic_becomeFine 13 = .ok (.getfield 23, 3) := by decide +kernel
theorem d_Pic_becomeFine_16 : decode b_Pic_becomeFine 16 = .ok (.iconst 1, 1) := by decide +kernel
theorem d_Pic_becomeFine_17 : decode b_Pic_becomeFine 17 = .ok (.iadd, 1) := by decide +kernel
theorem d_Pic_becomeFine_18 : decode b_Pic_becomeFine 18 = .ok (.invokevirtual 54, 3) := by decide +kernel
theorem d_Pic_becomeFine_21 : decode b_Pic_becomeFine 21 = .ok (.putfield 57, 3) := by decide +kernel
theorem d_Pic_becomeFine_24 : decode b_Pic_becomeFine 24 = .ok (.aload_n 0, 1) := by decide +kernel
theorem d_Pic_becomeFine_25 : decode b_Pic_becomeFine 25 = .ok (.aload_n 0, 1) := by decide +kernel
theorem d_Pic_becomeFine_26 : decode b_Pic_becomeFine 26 = .ok (.iconst 4, 1) := by decide +kernel
theorem d_Pic_becomeFine_27 : decode b_Pic_becomeFine 27 = .ok (.iload_n 1, 1) := by decide +kernel
theorem d_Pic_becomeFine_28 : decode b_Pic_becomeFine 28 = .ok (.imul, 1) := by decide +kernel
theorem d_Pic_becomeFine_29 : decode b_Pic_becomeFine 29 = .ok (.iconst 3, 1) := by decide +kernel
theorem d_Pic_becomeFine_30 : decode b_Pic_becomeFine 30 = .ok (.iadd, 1) := by decide +kernel
theorem d_Pic_becomeFine_31 : decode b_Pic_becomeFine 31 = .ok (.iconst 5, 1) := by decide +kernel
theorem d_Pic_becomeFine_32 : decode b_Pic_becomeFine 32 = .ok (.aload_n 0, 1) := by decide +kernel
theorem d_Pic_becomeFine_33 : decode b_Pic_becomeFine 33 = .ok (.getfield 23, 3) := by decide +kernel
theorem d_Pic_becomeFine_36 : decode b_Pic_becomeFine 36 = .ok (.imul, 1) := by decide +kernel
theorem d_Pic_becomeFine_37 : decode b_Pic_becomeFine 37 = .ok (.iadd, 1) := by decide +kernel
theorem d_Pic_becomeFine_38 : decode b_Pic_becomeFine 38 = .ok (.aload_n 0, 1) := by decide +kernel
theorem d_Pic_becomeFine_39 : decode b_Pic_becomeFine 39 = .ok (.getfield 57, 3) := by decide +kernel
theorem d_Pic_becomeFine_42 : decode b_Pic_becomeFine 42 = .ok (.invokevirtual 54, 3) := by decide +kernel
theorem d_Pic_becomeFine_45 : decode b_Pic_becomeFine 45 = .ok (.putfield 60, 3) := by decide +kernel
theorem d_Pic_becomeFine_48 : decode b_Pic_becomeFine 48 = .ok (.aload_n 0, 1) := by decide +kernel
theorem d_Pic_becomeFine_49 : decode b_Pic_becomeFine 49 = .ok (.aload_n 0, 1) := by decide +kernel
theorem d_Pic_becomeFine_50 : decode b_Pic_becomeFine 50 = .ok (.bipush 17, 2) := by decide +kernel
theorem d_Pic_becomeFine_52 : decode b_Pic_becomeFine 52 = .ok (.iload_n 1, 1) := by decide +kernel
theorem d_Pic_becomeFine_53 : decode b_Pic_becomeFine 53 = .ok (.imul, 1) := by decide +kernel
theorem d_Pic_becomeFine_54 : decode b_Pic_becomeFine 54 = .ok (.iconst 4, 1) := by decide +kernel
theorem d_Pic_becomeFine_55 : decode b_Pic_becomeFine 55 = .ok (.iadd, 1) := by decide +kernel
theorem d_Pic_becomeFine_56 : decode b_Pic_becomeFine 56 = .ok (.bipush 7, 2) := by decide +kernel
theorem d_Pic_becomeFine_58 : decode b_Pic_becomeFine 58 = .ok (.aload_n 0, 1) := by decide +kernel
theorem d_Pic_becomeFine_59 : decode b_Pic_becomeFine 59 = .ok (.getfield 23, 3) := by decide +kernel
theorem d_Pic_becomeFine_62 : decode b_Pic_becomeFine 62 = .ok (.imul, 1) := by decide +kernel
theorem d_Pic_becomeFine_63 : decode b_Pic_becomeFine 63 = .ok (.iadd, 1) := by decide +kernel
theorem d_Pic_becomeFine_64 : decode b_Pic_becomeFine 64 = .ok (.aload_n 0, 1) := by decide +kernel
theorem d_Pic_becomeFine_65 : decode b_Pic_becomeFine 65 = .ok (.getfield 60, 3) := by decide +kernel
theorem d_Pic_becomeFine_68 : decode b_Pic_becomeFine 68 = .ok (.invokevirtual 54, 3) := by decide +kernel
theorem d_Pic_becomeFine_71 : decode b_Pic_becomeFine 71 = .ok (.putfield 63, 3) := by decide +kernel
theorem d_Pic_becomeFine_74 : decode b_Pic_becomeFine 74 = .ok (.return_, 1) := by decide +kernel
theorem d_Pic_bounded_0 : decode b_Pic_bounded 0 = .ok (.iconst 0, 1) := by decide +kernel
theorem d_Pic_bounded_1 : decode b_Pic_bounded 1 = .ok (.aload_n 0, 1) := by decide +kernel
theorem d_Pic_bounded_2 : decode b_Pic_bounded 2 = .ok (.getfield 20, 3) := by decide +kernel
theorem d_Pic_bounded_5 : decode b_Pic_bounded 5 = .ok (.iload_n 1, 1) := by decide +kernel
theorem d_Pic_bounded_6 : decode b_Pic_bounded 6 = .ok (.invokestatic 66, 3) := by decide +kernel
theorem d_Pic_bounded_9 : decode b_Pic_bounded 9 = .ok (.invokestatic 39, 3) := by decide +kernel
theorem d_Pic_bounded_12 : decode b_Pic_bounded 12 = .ok (.ireturn, 1) := by decide +kernel
theorem d_Pic_clamp_0 : decode b_Pic_clamp 0 = .ok (.iload_n 1, 1) := by decide +kernel
theorem d_Pic_clamp_1 : decode b_Pic_clamp 1 = .ok (.aload_n 0, 1) := by decide +kernel
theorem d_Pic_clamp_2 : decode b_Pic_clamp 2 = .ok (.getfield 20, 3) := by decide +kernel
theorem d_Pic_clamp_5 : decode b_Pic_clamp 5 = .ok (.if_icmp .gt 8, 3) := by decide +kernel
theorem d_Pic_clamp_8 : decode b_Pic_clamp 8 = .ok (.iload_n 1, 1) := by decide +kernel
theorem d_Pic_clamp_9 : decode b_Pic_clamp 9 = .ok (.iload_n 2, 1) := by decide +kernel
theorem d_Pic_clamp_10 : decode b_Pic_clamp 10 = .ok (.if_icmp .ge 7, 3) := by decide +kernel
theorem d_Pic_clamp_13 : decode b_Pic_clamp 13 = .ok (.iload_n 2, 1) := by decide +kernel
theorem d_Pic_clamp_14 : decode b_Pic_clamp 14 = .ok (.goto 4, 3) := by decide +kernel
theorem d_Pic_clamp_17 : decode b_Pic_clamp 17 = .ok (.iload_n 1, 1) := by decide +kernel
theorem d_Pic_clamp_18 : decode b_Pic_clamp 18 = .ok (.ireturn, 1) := by decide +kernel
theorem d_Pic_divided_0 : decode b_Pic_divided 0 = .ok (.iload_n 1, 1) := by decide +kernel
theorem d_Pic_divided_1 : decode b_Pic_divided 1 = .ok (.ifCond .le 17, 3) := by decide +kernel
theorem d_Pic_divided_4 : decode b_Pic_divided 4 = .ok (.iload_n 1, 1) := by decide +kernel
theorem d_Pic_divided_5 : decode b_Pic_divided 5 = .ok (.aload_n 0, 1) := by decide +kernel
theorem d_Pic_divided_6 : decode b_Pic_divided 6 = .ok (.getfield 23, 3) := by decide +kernel
theorem d_Pic_divided_9 : decode b_Pic_divided 9 = .ok (.iadd, 1) := by decide +kernel
theorem d_Pic_divided_10 : decode b_Pic_divided 10 = .ok (.aload_n 0, 1) := by decide +kernel
theorem d_Pic_divided_11 : decode b_Pic_divided 11 = .ok (.getfield 26, 3) := by decide +kernel
theorem d_Pic_divided_14 : decode b_Pic_divided 14 = .ok (.idiv, 1) := by decide +kernel
theorem d_Pic_divided_15 : decode b_Pic_divided 15 = .ok (.goto 15, 3) := by decide +kernel
theorem d_Pic_divided_18 : decode b_Pic_divided 18 = .ok (.aload_n 0, 1) := by decide +kernel
theorem d_Pic_divided_19 : decode b_Pic_divided 19 = .ok (.getfield 23, 3) := by decide +kernel
theorem d_Pic_divided_22 : decode b_Pic_divided 22 = .ok (.iload_n 1, 1) := by decide +kernel
theorem d_Pic_divided_23 : decode b_Pic_divided 23 = .ok (.isub, 1) := by decide +kernel
theorem d_Pic_divided_24 : decode b_Pic_divided 24 = .ok (.aload_n 0, 1) := by decide +kernel
theorem d_Pic_divided_25 : decode b_Pic_divided 25 = .ok (.getfield 26, 3) := by decide +kernel
theorem d_Pic_divided_28 : decode b_Pic_divided 28 = .ok (.idiv, 1) := by decide +kernel
theorem d_Pic_divided_29 : decode b_Pic_divided 29 = .ok (.ineg, 1) := by decide +kernel
theorem d_Pic_divided_30 : decode b_Pic_divided 30 = .ok (.ireturn, 1) := by decide +kernel
theorem d_Pic_fits_0 : decode b_Pic_fits 0 = .ok (.iload_n 0, 1) := by decide +kernel
theorem d_Pic_fits_1 : decode b_Pic_fits 1 = .ok (.iconst 1, 1) := by decide +kernel
theorem d_Pic_fits_2 : decode b_Pic_fits 2 = .ok (.if_icmp .lt 52, 3) := by decide +kernel
theorem d_Pic_fits_5 : decode b_Pic_fits 5 = .ok (.iload_n 0, 1) := by decide +kernel
theorem d_Pic_fits_6 : decode b_Pic_fits 6 = .ok (.bipush 8, 2) := by decide +kernel
theorem d_Pic_fits_8 : decode b_Pic_fits 8 = .ok (.if_icmp .gt 46, 3) := by decide +kernel
theorem d_Pic_fits_11 : decode b_Pic_fits 11 = .ok (.iload_n 1, 1) := by decide +kernel
theorem d_Pic_fits_12 : decode b_Pic_fits 12 = .ok (.iconst 1, 1) := by decide +kernel
theorem d_Pic_fits_13 : decode b_Pic_fits 13 = .ok (.if_icmp .lt 41, 3) := by decide +kernel
theorem d_Pic_fits_16 : decode b_Pic_fits 16 = .ok (.iload_n 1, 1) := by decide +kernel
theorem d_Pic_fits_17 : decode b_Pic_fits 17 = .ok (.bipush 8, 2) := by decide +kernel
theorem d_Pic_fits_19 : decode b_Pic_fits 19 = .ok (.if_icmp .gt 35, 3) := by decide +kernel
theorem d_Pic_fits_22 : decode b_Pic_fits 22 = .ok (.iload_n 2, 1) := by decide +kernel
theorem d_Pic_fits_23 : decode b_Pic_fits 23 = .ok (.iconst 3, 1) := by decide +kernel
theorem d_Pic_fits_24 : decode b_Pic_fits 24 = .ok (.if_icmp .lt 30, 3) := by decide +kernel
theorem d_Pic_fits_27 : decode b_Pic_fits 27 = .ok (.iload_n 2, 1) := by decide +kernel
theorem d_Pic_fits_28 : decode b_Pic_fits 28 = .ok (.sipush 255, 3) := by decide +kernel
theorem d_Pic_fits_31 : decode b_Pic_fits 31 = .ok (.if_icmp .gt 23, 3) := by decide +kernel
theorem d_Pic_fits_34 : decode b_Pic_fits 34 = .ok (.iload_n 3, 1) := by decide +kernel
theorem d_Pic_fits_35 : decode b_Pic_fits 35 = .ok (.ifCond .lt 19, 3) := by decide +kernel
theorem d_Pic_fits_38 : decode b_Pic_fits 38 = .ok (.iload_n 3, 1) := by decide +kernel
theorem d_Pic_fits_39 : decode b_Pic_fits 39 = .ok (.iconst 3, 1) := by decide +kernel
theorem d_Pic_fits_40 : decode b_Pic_fits 40 = .ok (.if_icmp .gt 14, 3) := by decide +kernel
theorem d_Pic_fits_43 : decode b_Pic_fits 43 = .ok (.iload_n 3, 1) := by decide +kernel
theorem d_Pic_fits_44 : decode b_Pic_fits 44 = .ok (.iload_n 2, 1) := by decide +kernel
theorem d_Pic_fits_45 : decode b_Pic_fits 45 = .ok (.iconst 2, 1) := by decide +kernel
theorem d_Pic_fits_46 : decode b_Pic_fits 46 = .ok (.idiv, 1) := by decide +kernel
theorem d_Pic_fits_47 : decode b_Pic_fits 47 = .ok (.if_icmp .gt 7, 3) := by decide +kernel
theorem d_Pic_fits_50 : decode b_Pic_fits 50 = .ok (.iconst 1, 1) := by decide +kernel
theorem d_Pic_fits_51 : decode b_Pic_fits 51 = .ok (.goto 4, 3) := by decide +kernel
theorem d_Pic_fits_54 : decode b_Pic_fits 54 = .ok (.iconst 0, 1) := by decide +kernel
theorem d_Pic_fits_55 : decode b_Pic_fits 55 = .ok (.ireturn, 1) := by decide +kernel
theorem d_Pic_hasPlace_0 : decode b_Pic_hasPlace 0 = .ok (.iload_n 1, 1) := by decide +kernel
theorem d_Pic_hasPlace_1 : decode b_Pic_hasPlace 1 = .ok (.ifCond .lt 27, 3) := by decide +kernel
theorem d_Pic_hasPlace_4 : decode b_Pic_hasPlace 4 = .ok (.iload_n 1, 1) := by decide +kernel
theorem d_Pic_hasPlace_5 : decode b_Pic_hasPlace 5 = .ok (.aload_n 0, 1) := by decide +kernel
theorem d_Pic_hasPlace_6 : decode b_Pic_hasPlace 6 = .ok (.getfield 13, 3) := by decide +kernel
theorem d_Pic_hasPlace_9 : decode b_Pic_hasPlace 9 = .ok (.if_icmp .ge 19, 3) := by decide +kernel
theorem d_Pic_hasPlace_12 : decode b_Pic_hasPlace 12 = .ok (.iload_n 2, 1) := by decide +kernel
theorem d_Pic_hasPlace_13 : decode b_Pic_hasPlace 13 = .ok (.ifCond .lt 15, 3) := by decide +kernel
theorem d_Pic_hasPlace_16 : decode b_Pic_hasPlace 16 = .ok (.iload_n 2, 1) := by decide +kernel
theorem d_Pic_hasPlace_17 : decode b_Pic_hasPlace 17 = .ok (.aload_n 0, 1) := by decide +kernel
theorem d_Pic_hasPlace_18 : decode b_Pic_hasPlace 18 = .ok (.getfield 17, 3) := by decide +kernel
theorem d_Pic_hasPlace_21 : decode b_Pic_hasPlace 21 = .ok (.if_icmp .ge 7, 3) := by decide +kernel
theorem d_Pic_hasPlace_24 : decode b_Pic_hasPlace 24 = .ok (.iconst 1, 1) := by decide +kernel
theorem d_Pic_hasPlace_25 : decode b_Pic_hasPlace 25 = .ok (.goto 4, 3) := by decide +kernel
theorem d_Pic_hasPlace_28 : decode b_Pic_hasPlace 28 = .ok (.iconst 0, 1) := by decide +kernel
theorem d_Pic_hasPlace_29 : decode b_Pic_hasPlace 29 = .ok (.ireturn, 1) := by decide +kernel
theorem d_Pic_isNear_0 : decode b_Pic_isNear 0 = .ok (.iload_n 1, 1) := by decide +kernel
theorem d_Pic_isNear_1 : decode b_Pic_isNear 1 = .ok (.aload_n 0, 1) := by decide +kernel
theorem d_Pic_isNear_2 : decode b_Pic_isNear 2 = .ok (.getfield 23, 3) := by decide +kernel
theorem d_Pic_isNear_5 : decode b_Pic_isNear 5 = .ok (.ineg, 1) := by decide +kernel
theorem d_Pic_isNear_6 : decode b_Pic_isNear 6 = .ok (.if_icmp .lt 15, 3) := by decide +kernel
theorem d_Pic_isNear_9 : decode b_Pic_isNear 9 = .ok (.iload_n 1, 1) := by decide +kernel
theorem d_Pic_isNear_10 : decode b_Pic_isNear 10 = .ok (.aload_n 0, 1) := by decide +kernel
theorem d_Pic_isNear_11 : decode b_Pic_isNear 11 = .ok (.getfield 23, 3) := by decide +kernel
theorem d_Pic_isNear_14 : decode b_Pic_isNear 14 = .ok (.if_icmp .gt 7, 3) := by decide +kernel
theorem d_Pic_isNear_17 : decode b_Pic_isNear 17 = .ok (.iconst 1, 1) := by decide +kernel
theorem d_Pic_isNear_18 : decode b_Pic_isNear 18 = .ok (.goto 4, 3) := by decide +kernel
theorem d_Pic_isNear_21 : decode b_Pic_isNear 21 = .ok (.iconst 0, 1) := by decide +kernel
theorem d_Pic_isNear_22 : decode b_Pic_isNear 22 = .ok (.ireturn, 1) := by decide +kernel
theorem d_Pic_isReduced_0 : decode b_Pic_isReduced 0 = .ok (.iload_n 1, 1) := by decide +kernel
theorem d_Pic_isReduced_1 : decode b_Pic_isReduced 1 = .ok (.aload_n 0, 1) := by decide +kernel
theorem d_Pic_isReduced_2 : decode b_Pic_isReduced 2 = .ok (.getfield 29, 3) := by decide +kernel
theorem d_Pic_isReduced_5 : decode b_Pic_isReduced 5 = .ok (.iconst 2, 1) := by decide +kernel
theorem d_Pic_isReduced_6 : decode b_Pic_isReduced 6 = .ok (.idiv, 1) := by decide +kernel
theorem d_Pic_isReduced_7 : decode b_Pic_isReduced 7 = .ok (.ineg, 1) := by decide +kernel
theorem d_Pic_isReduced_8 : decode b_Pic_isReduced 8 = .ok (.if_icmp .lt 19, 3) := by decide +kernel
theorem d_Pic_isReduced_11 : decode b_Pic_isReduced 11 = .ok (.iload_n 1, 1) := by decide +kernel
theorem d_Pic_isReduced_12 : decode b_Pic_isReduced 12 = .ok (.aload_n 0, 1) := by decide +kernel
theorem d_Pic_isReduced_13 : decode b_Pic_isReduced 13 = .ok (.getfield 29, 3) := by decide +kernel
theorem d_Pic_isReduced_16 : decode b_Pic_isReduced 16 = .ok (.iconst 1, 1) := by decide +kernel
theorem d_Pic_isReduced_17 : decode b_Pic_isReduced 17 = .ok (.iadd, 1) := by decide +kernel
theorem d_Pic_isReduced_18 : decode b_Pic_isReduced 18 = .ok (.iconst 2, 1) := by decide +kernel
theorem d_Pic_isReduced_19 : decode b_Pic_isReduced 19 = .ok (.idiv, 1) := by decide +kernel
theorem d_Pic_isReduced_20 : decode b_Pic_isReduced 20 = .ok (.if_icmp .ge 7, 3) := by decide +kernel
theorem d_Pic_isReduced_23 : decode b_Pic_isReduced 23 = .ok (.iconst 1, 1) := by decide +kernel
theorem d_Pic_isReduced_24 : decode b_Pic_isReduced 24 = .ok (.goto 4, 3) := by decide +kernel
theorem d_Pic_isReduced_27 : decode b_Pic_isReduced 27 = .ok (.iconst 0, 1) := by decide +kernel
theorem d_Pic_isReduced_28 : decode b_Pic_isReduced 28 = .ok (.ireturn, 1) := by decide +kernel
theorem d_Pic_leastPower_0 : decode b_Pic_leastPower 0 = .ok (.iload_n 0, 1) := by decide +kernel
theorem d_Pic_leastPower_1 : decode b_Pic_leastPower 1 = .ok (.istore_n 2, 1) := by decide +kernel
theorem d_Pic_leastPower_2 : decode b_Pic_leastPower 2 = .ok (.iload_n 2, 1) := by decide +kernel
theorem d_Pic_leastPower_3 : decode b_Pic_leastPower 3 = .ok (.bipush 30, 2) := by decide +kernel
theorem d_Pic_leastPower_5 : decode b_Pic_leastPower 5 = .ok (.if_icmp .ge 16, 3) := by decide +kernel
theorem d_Pic_leastPower_8 : decode b_Pic_leastPower 8 = .ok (.iconst 1, 1) := by decide +kernel
theorem d_Pic_leastPower_9 : decode b_Pic_leastPower 9 = .ok (.iload_n 2, 1) := by decide +kernel
theorem d_Pic_leastPower_10 : decode b_Pic_leastPower 10 = .ok (.ishl, 1) := by decide +kernel
theorem d_Pic_leastPower_11 : decode b_Pic_leastPower 11 = .ok (.iload_n 1, 1) := by decide +kernel
theorem d_Pic_leastPower_12 : decode b_Pic_leastPower 12 = .ok (.if_icmp .ge 9, 3) := by decide +kernel
theorem d_Pic_leastPower_15 : decode b_Pic_leastPower 15 = .ok (.iinc 2 1, 3) := by decide +kernel
theorem d_Pic_leastPower_18 : decode b_Pic_leastPower 18 = .ok (.goto (-16), 3) := by decide +kernel
theorem d_Pic_leastPower_21 : decode b_Pic_leastPower 21 = .ok (.iload_n 2, 1) := by decide +kernel
theorem d_Pic_leastPower_22 : decode b_Pic_leastPower 22 = .ok (.ireturn, 1) := by decide +kernel
theorem d_Pic_level_0 : decode b_Pic_level 0 = .ok (.iload_n 1, 1) := by decide +kernel
theorem d_Pic_level_1 : decode b_Pic_level 1 = .ok (.aload_n 0, 1) := by decide +kernel
theorem d_Pic_level_2 : decode b_Pic_level 2 = .ok (.getfield 63, 3) := by decide +kernel
theorem d_Pic_level_5 : decode b_Pic_level 5 = .ok (.ineg, 1) := by decide +kernel
theorem d_Pic_level_6 : decode b_Pic_level 6 = .ok (.if_icmp .gt 6, 3) := by decide +kernel
theorem d_Pic_level_9 : decode b_Pic_level 9 = .ok (.bipush (-4), 2) := by decide +kernel
theorem d_Pic_level_11 : decode b_Pic_level 11 = .ok (.ireturn, 1) := by decide +kernel
theorem d_Pic_level_12 : decode b_Pic_level 12 = .ok (.iload_n 1, 1) := by decide +kernel
theorem d_Pic_level_13 : decode b_Pic_level 13 = .ok (.aload_n 0, 1) := by decide +kernel
theorem d_Pic_level_14 : decode b_Pic_level 14 = .ok (.getfield 60, 3) := by decide +kernel
theorem d_Pic_level_17 : decode b_Pic_level 17 = .ok (.ineg, 1) := by decide +kernel
theorem d_Pic_level_18 : decode b_Pic_level 18 = .ok (.if_icmp .gt 6, 3) := by decide +kernel
theorem d_Pic_level_21 : decode b_Pic_level 21 = .ok (.bipush (-3), 2) := by decide +kernel
theorem d_Pic_level_23 : decode b_Pic_level 23 = .ok (.ireturn, 1) := by decide +kernel
theorem d_Pic_level_24 : decode b_Pic_level 24 = .ok (.iload_n 1, 1) := by decide +kernel
theorem d_Pic_level_25 : decode b_Pic_level 25 = .ok (.aload_n 0, 1) := by decide +kernel
theorem d_Pic_level_26 : decode b_Pic_level 26 = .ok (.getfield 57, 3) := by decide +kernel
theorem d_Pic_level_29 : decode b_Pic_level 29 = .ok (.ineg, 1) := by decide +kernel
theorem d_Pic_level_30 : decode b_Pic_level 30 = .ok (.if_icmp .gt 6, 3) := by decide +kernel
theorem d_Pic_level_33 : decode b_Pic_level 33 = .ok (.bipush (-2), 2) := by decide +kernel
theorem d_Pic_level_35 : decode b_Pic_level 35 = .ok (.ireturn, 1) := by decide +kernel
theorem d_Pic_level_36 : decode b_Pic_level 36 = .ok (.iload_n 1, 1) := by decide +kernel
theorem d_Pic_level_37 : decode b_Pic_level 37 = .ok (.aload_n 0, 1) := by decide +kernel
theorem d_Pic_level_38 : decode b_Pic_level 38 = .ok (.getfield 23, 3) := by decide +kernel
theorem d_Pic_level_41 : decode b_Pic_level 41 = .ok (.ineg, 1) := by decide +kernel
theorem d_Pic_level_42 : decode b_Pic_level 42 = .ok (.if_icmp .ge 5, 3) := by decide +kernel
theorem d_Pic_level_45 : decode b_Pic_level 45 = .ok (.iconst (-1), 1) := by decide +kernel
theorem d_Pic_level_46 : decode b_Pic_level 46 = .ok (.ireturn, 1) := by decide +kernel
theorem d_Pic_level_47 : decode b_Pic_level 47 = .ok (.iload_n 1, 1) := by decide +kernel
theorem d_Pic_level_48 : decode b_Pic_level 48 = .ok (.aload_n 0, 1) := by decide +kernel
theorem d_Pic_level_49 : decode b_Pic_level 49 = .ok (.getfield 23, 3) := by decide +kernel
theorem d_Pic_level_52 : decode b_Pic_level 52 = .ok (.if_icmp .gt 5, 3) := by decide +kernel
theorem d_Pic_level_55 : decode b_Pic_level 55 = .ok (.iconst 0, 1) := by decide +kernel
theorem d_Pic_level_56 : decode b_Pic_level 56 = .ok (.ireturn, 1) := by decide +kernel
theorem d_Pic_level_57 : decode b_Pic_level 57 = .ok (.iload_n 1, 1) := by decide +kernel
theorem d_Pic_level_58 : decode b_Pic_level 58 = .ok (.aload_n 0, 1) := by decide +kernel
theorem d_Pic_level_59 : decode b_Pic_level 59 = .ok (.getfield 57, 3) := by decide +kernel
theorem d_Pic_level_62 : decode b_Pic_level 62 = .ok (.if_icmp .ge 5, 3) := by decide +kernel
theorem d_Pic_level_65 : decode b_Pic_level 65 = .ok (.iconst 1, 1) := by decide +kernel
theorem d_Pic_level_66 : decode b_Pic_level 66 = .ok (.ireturn, 1) := by decide +kernel
theorem d_Pic_level_67 : decode b_Pic_level 67 = .ok (.iload_n 1, 1) := by decide +kernel
theorem d_Pic_level_68 : decode b_Pic_level 68 = .ok (.aload_n 0, 1) := by decide +kernel
theorem d_Pic_level_69 : decode b_Pic_level 69 = .ok (.getfield 60, 3) := by decide +kernel
theorem d_Pic_level_72 : decode b_Pic_level 72 = .ok (.if_icmp .ge 5, 3) := by decide +kernel
theorem d_Pic_level_75 : decode b_Pic_level 75 = .ok (.iconst 2, 1) := by decide +kernel
theorem d_Pic_level_76 : decode b_Pic_level 76 = .ok (.ireturn, 1) := by decide +kernel
theorem d_Pic_level_77 : decode b_Pic_level 77 = .ok (.iload_n 1, 1) := by decide +kernel
theorem d_Pic_level_78 : decode b_Pic_level 78 = .ok (.aload_n 0, 1) := by decide +kernel
theorem d_Pic_level_79 : decode b_Pic_level 79 = .ok (.getfield 63, 3) := by decide +kernel
theorem d_Pic_level_82 : decode b_Pic_level 82 = .ok (.if_icmp .ge 5, 3) := by decide +kernel
theorem d_Pic_level_85 : decode b_Pic_level 85 = .ok (.iconst 3, 1) := by decide +kernel
theorem d_Pic_level_86 : decode b_Pic_level 86 = .ok (.ireturn, 1) := by decide +kernel
theorem d_Pic_level_87 : decode b_Pic_level 87 = .ok (.iconst 4, 1) := by decide +kernel
theorem d_Pic_level_88 : decode b_Pic_level 88 = .ok (.ireturn, 1) := by decide +kernel
theorem d_Pic_place_0 : decode b_Pic_place 0 = .ok (.iload_n 1, 1) := by decide +kernel
theorem d_Pic_place_1 : decode b_Pic_place 1 = .ok (.bipush 8, 2) := by decide +kernel
theorem d_Pic_place_3 : decode b_Pic_place 3 = .ok (.imul, 1) := by decide +kernel
theorem d_Pic_place_4 : decode b_Pic_place 4 = .ok (.iload_n 0, 1) := by decide +kernel
theorem d_Pic_place_5 : decode b_Pic_place 5 = .ok (.iadd, 1) := by decide +kernel
theorem d_Pic_place_6 : decode b_Pic_place 6 = .ok (.ireturn, 1) := by decide +kernel
theorem d_Pic_reduced_0 : decode b_Pic_reduced 0 = .ok (.iload_n 1, 1) := by decide +kernel
theorem d_Pic_reduced_1 : decode b_Pic_reduced 1 = .ok (.ifCond .ge 12, 3) := by decide +kernel
theorem d_Pic_reduced_4 : decode b_Pic_reduced 4 = .ok (.iload_n 1, 1) := by decide +kernel
theorem d_Pic_reduced_5 : decode b_Pic_reduced 5 = .ok (.aload_n 0, 1) := by decide +kernel
theorem d_Pic_reduced_6 : decode b_Pic_reduced 6 = .ok (.getfield 29, 3) := by decide +kernel
theorem d_Pic_reduced_9 : decode b_Pic_reduced 9 = .ok (.iadd, 1) := by decide +kernel
theorem d_Pic_reduced_10 : decode b_Pic_reduced 10 = .ok (.goto 4, 3) := by decide +kernel
theorem d_Pic_reduced_13 : decode b_Pic_reduced 13 = .ok (.iload_n 1, 1) := by decide +kernel
theorem d_Pic_reduced_14 : decode b_Pic_reduced 14 = .ok (.istore_n 2, 1) := by decide +kernel
theorem d_Pic_reduced_15 : decode b_Pic_reduced 15 = .ok (.iload_n 2, 1) := by decide +kernel
theorem d_Pic_reduced_16 : decode b_Pic_reduced 16 = .ok (.aload_n 0, 1) := by decide +kernel
theorem d_Pic_reduced_17 : decode b_Pic_reduced 17 = .ok (.getfield 29, 3) := by decide +kernel
theorem d_Pic_reduced_20 : decode b_Pic_reduced 20 = .ok (.iconst 1, 1) := by decide +kernel
theorem d_Pic_reduced_21 : decode b_Pic_reduced 21 = .ok (.iadd, 1) := by decide +kernel
theorem d_Pic_reduced_22 : decode b_Pic_reduced 22 = .ok (.iconst 2, 1) := by decide +kernel
theorem d_Pic_reduced_23 : decode b_Pic_reduced 23 = .ok (.idiv, 1) := by decide +kernel
theorem d_Pic_reduced_24 : decode b_Pic_reduced 24 = .ok (.if_icmp .lt 12, 3) := by decide +kernel
theorem d_Pic_reduced_27 : decode b_Pic_reduced 27 = .ok (.iload_n 2, 1) := by decide +kernel
theorem d_Pic_reduced_28 : decode b_Pic_reduced 28 = .ok (.aload_n 0, 1) := by decide +kernel
theorem d_Pic_reduced_29 : decode b_Pic_reduced 29 = .ok (.getfield 29, 3) := by decide +kernel
theorem d_Pic_reduced_32 : decode b_Pic_reduced 32 = .ok (.isub, 1) := by decide +kernel
theorem d_Pic_reduced_33 : decode b_Pic_reduced 33 = .ok (.goto 4, 3) := by decide +kernel
theorem d_Pic_reduced_36 : decode b_Pic_reduced 36 = .ok (.iload_n 2, 1) := by decide +kernel
theorem d_Pic_reduced_37 : decode b_Pic_reduced 37 = .ok (.ireturn, 1) := by decide +kernel
theorem d_Pic_unreduced_0 : decode b_Pic_unreduced 0 = .ok (.iload_n 1, 1) := by decide +kernel
theorem d_Pic_unreduced_1 : decode b_Pic_unreduced 1 = .ok (.aload_n 0, 1) := by decide +kernel
theorem d_Pic_unreduced_2 : decode b_Pic_unreduced 2 = .ok (.getfield 23, 3) := by decide +kernel
theorem d_Pic_unreduced_5 : decode b_Pic_unreduced 5 = .ok (.ineg, 1) := by decide +kernel
theorem d_Pic_unreduced_6 : decode b_Pic_unreduced 6 = .ok (.if_icmp .ge 15, 3) := by decide +kernel
theorem d_Pic_unreduced_9 : decode b_Pic_unreduced 9 = .ok (.iload_n 1, 1) := by decide +kernel
theorem d_Pic_unreduced_10 : decode b_Pic_unreduced 10 = .ok (.aload_n 0, 1) := by decide +kernel
theorem d_Pic_unreduced_11 : decode b_Pic_unreduced 11 = .ok (.getfield 29, 3) := by decide +kernel
theorem d_Pic_unreduced_14 : decode b_Pic_unreduced 14 = .ok (.aload_n 0, 1) := by decide +kernel
theorem d_Pic_unreduced_15 : decode b_Pic_unreduced 15 = .ok (.getfield 26, 3) := by decide +kernel
theorem d_Pic_unreduced_18 : decode b_Pic_unreduced 18 = .ok (.imul, 1) := by decide +kernel
theorem d_Pic_unreduced_19 : decode b_Pic_unreduced 19 = .ok (.iadd, 1) := by decide +kernel
theorem d_Pic_unreduced_20 : decode b_Pic_unreduced 20 = .ok (.ireturn, 1) := by decide +kernel
theorem d_Pic_unreduced_21 : decode b_Pic_unreduced 21 = .ok (.iload_n 1, 1) := by decide +kernel
theorem d_Pic_unreduced_22 : decode b_Pic_unreduced 22 = .ok (.aload_n 0, 1) := by decide +kernel
theorem d_Pic_unreduced_23 : decode b_Pic_unreduced 23 = .ok (.getfield 20, 3) := by decide +kernel
theorem d_Pic_unreduced_26 : decode b_Pic_unreduced 26 = .ok (.aload_n 0, 1) := by decide +kernel
theorem d_Pic_unreduced_27 : decode b_Pic_unreduced 27 = .ok (.getfield 23, 3) := by decide +kernel
theorem d_Pic_unreduced_30 : decode b_Pic_unreduced 30 = .ok (.iadd, 1) := by decide +kernel
theorem d_Pic_unreduced_31 : decode b_Pic_unreduced 31 = .ok (.if_icmp .le 17, 3) := by decide +kernel
theorem d_Pic_unreduced_34 : decode b_Pic_unreduced 34 = .ok (.iload_n 1, 1) := by decide +kernel
theorem d_Pic_unreduced_35 : decode b_Pic_unreduced 35 = .ok (.aload_n 0, 1) := by decide +kernel
theorem d_Pic_unreduced_36 : decode b_Pic_unreduced 36 = .ok (.getfield 29, 3) := by decide +kernel
theorem d_Pic_unreduced_39 : decode b_Pic_unreduced 39 = .ok (.aload_n 0, 1) := by decide +kernel
theorem d_Pic_unreduced_40 : decode b_Pic_unreduced 40 = .ok (.getfield 26, 3) := by decide +kernel
theorem d_Pic_unreduced_43 : decode b_Pic_unreduced 43 = .ok (.imul, 1) := by decide +kernel
theorem d_Pic_unreduced_44 : decode b_Pic_unreduced 44 = .ok (.isub, 1) := by decide +kernel
theorem d_Pic_unreduced_45 : decode b_Pic_unreduced 45 = .ok (.goto 4, 3) := by decide +kernel
theorem d_Pic_unreduced_48 : decode b_Pic_unreduced 48 = .ok (.iload_n 1, 1) := by decide +kernel
theorem d_Pic_unreduced_49 : decode b_Pic_unreduced 49 = .ok (.ireturn, 1) := by decide +kernel
theorem d_Wri_endsWith255_0 : decode b_Wri_endsWith255 0 = .ok (.aload_n 0, 1) := by decide +kernel
theorem d_Wri_endsWith255_1 : decode b_Wri_endsWith255 1 = .ok (.getfield 13, 3) := by decide +kernel
theorem d_Wri_endsWith255_4 : decode b_Wri_endsWith255 4 = .ok (.ifCond .le 24, 3) := by decide +kernel
theorem d_Wri_endsWith255_7 : decode b_Wri_endsWith255 7 = .ok (.aload_n 0, 1) := by decide +kernel
theorem d_Wri_endsWith255_8 : decode b_Wri_endsWith255 8 = .ok (.getfield 9, 3) := by decide +kernel
theorem d_Wri_endsWith255_11 : decode b_Wri_endsWith255 11 = .ok (.aload_n 0, 1) := by decide +kernel
theorem d_Wri_endsWith255_12 : decode b_Wri_endsWith255 12 = .ok (.getfield 13, 3) := by decide +kernel
theorem d_Wri_endsWith255_15 : decode b_Wri_endsWith255 15 = .ok (.iconst 1, 1) := by decide +kernel
theorem d_Wri_endsWith255_16 : decode b_Wri_endsWith255 16 = .ok (.isub, 1) := by decide +kernel
theorem d_Wri_endsWith255_17 : decode b_Wri_endsWith255 17 = .ok (.iaload, 1) := by decide +kernel
theorem d_Wri_endsWith255_18 : decode b_Wri_endsWith255 18 = .ok (.sipush 255, 3) := by decide +kernel
theorem d_Wri_endsWith255_21 : decode b_Wri_endsWith255 21 = .ok (.if_icmp .ne 7, 3) := by decide +kernel
theorem d_Wri_endsWith255_24 : decode b_Wri_endsWith255 24 = .ok (.iconst 1, 1) := by decide +kernel
theorem d_Wri_endsWith255_25 : decode b_Wri_endsWith255 25 = .ok (.goto 4, 3) := by decide +kernel
theorem d_Wri_endsWith255_28 : decode b_Wri_endsWith255 28 = .ok (.iconst 0, 1) := by decide +kernel
theorem d_Wri_endsWith255_29 : decode b_Wri_endsWith255 29 = .ok (.ireturn, 1) := by decide +kernel
theorem d_Wri_restart_0 : decode b_Wri_restart 0 = .ok (.aload_n 0, 1) := by decide +kernel
theorem d_Wri_restart_1 : decode b_Wri_restart 1 = .ok (.iconst 0, 1) := by decide +kernel
theorem d_Wri_restart_2 : decode b_Wri_restart 2 = .ok (.putfield 13, 3) := by decide +kernel
theorem d_Wri_restart_5 : decode b_Wri_restart 5 = .ok (.aload_n 0, 1) := by decide +kernel
theorem d_Wri_restart_6 : decode b_Wri_restart 6 = .ok (.iconst 0, 1) := by decide +kernel
theorem d_Wri_restart_7 : decode b_Wri_restart 7 = .ok (.putfield 17, 3) := by decide +kernel
theorem d_Wri_restart_10 : decode b_Wri_restart 10 = .ok (.return_, 1) := by decide +kernel
theorem d_Wri_writeBits_0 : decode b_Wri_writeBits 0 = .ok (.iload_n 2, 1) := by decide +kernel
theorem d_Wri_writeBits_1 : decode b_Wri_writeBits 1 = .ok (.iconst 1, 1) := by decide +kernel
theorem d_Wri_writeBits_2 : decode b_Wri_writeBits 2 = .ok (.isub, 1) := by decide +kernel
theorem d_Wri_writeBits_3 : decode b_Wri_writeBits 3 = .ok (.istore_n 3, 1) := by decide +kernel
theorem d_Wri_writeBits_4 : decode b_Wri_writeBits 4 = .ok (.iload_n 3, 1) := by decide +kernel
theorem d_Wri_writeBits_5 : decode b_Wri_writeBits 5 = .ok (.ifCond .lt 73, 3) := by decide +kernel
theorem d_Wri_writeBits_8 : decode b_Wri_writeBits 8 = .ok (.aload_n 0, 1) := by decide +kernel
theorem d_Wri_writeBits_9 : decode b_Wri_writeBits 9 = .ok (.getfield 17, 3) := by decide +kernel
theorem d_Wri_writeBits_12 : decode b_Wri_writeBits 12 = .ok (.ifCond .ne 26, 3) := by decide +kernel
theorem d_Wri_writeBits_15 : decode b_Wri_writeBits 15 = .ok (.aload_n 0, 1) := by decide +kernel
theorem d_Wri_writeBits_16 : decode b_Wri_writeBits 16 = .ok (.aload_n 0, 1) := by decide +kernel
theorem d_Wri_writeBits_17 : decode b_Wri_writeBits 17 = .ok (.invokevirtual 20, 3) := by decide +kernel
theorem d_Wri_writeBits_20 : decode b_Wri_writeBits 20 = .ok (.ifCond .eq 8, 3) := by decide +kernel
theorem d_Wri_writeBits_23 : decode b_Wri_writeBits 23 = .ok (.bipush 7, 2) := by decide +kernel
theorem d_Wri_writeBits_25 : decode b_Wri_writeBits 25 = .ok (.goto 5, 3) := by decide +kernel
theorem d_Wri_writeBits_28 : decode b_Wri_writeBits 28 = .ok (.bipush 8, 2) := by decide +kernel
theorem d_Wri_writeBits_30 : decode b_Wri_writeBits 30 = .ok (.putfield 17, 3) := by decide +kernel
theorem d_Wri_writeBits_33 : decode b_Wri_writeBits 33 = .ok (.aload_n 0, 1) := by decide +kernel
theorem d_Wri_writeBits_34 : decode b_Wri_writeBits 34 = .ok (.iconst 0, 1) := by decide +kernel
theorem d_Wri_writeBits_35 : decode b_Wri_writeBits 35 = .ok (.invokevirtual 24, 3) := by decide +kernel
theorem d_Wri_writeBits_38 : decode b_Wri_writeBits 38 = .ok (.aload_n 0, 1) := by decide +kernel
theorem d_Wri_writeBits_39 : decode b_Wri_writeBits 39 = .ok (.dup, 1) := by decide +kernel
theorem d_Wri_writeBits_40 : decode b_Wri_writeBits 40 = .ok (.getfield 17, 3) := by decide +kernel
theorem d_Wri_writeBits_43 : decode b_Wri_writeBits 43 = .ok (.iconst 1, 1) := by decide +kernel
theorem d_Wri_writeBits_44 : decode b_Wri_writeBits 44 = .ok (.isub, 1) := by decide +kernel
theorem d_Wri_writeBits_45 : decode b_Wri_writeBits 45 = .ok (.putfield 17, 3) := by decide +kernel
theorem d_Wri_writeBits_48 : decode b_Wri_writeBits 48 = .ok (.aload_n 0, 1) := by decide +kernel
theorem d_Wri_writeBits_49 : decode b_Wri_writeBits 49 = .ok (.getfield 9, 3) := by decide +kernel
theorem d_Wri_writeBits_52 : decode b_Wri_writeBits 52 = .ok (.aload_n 0, 1) := by decide +kernel
theorem d_Wri_writeBits_53 : decode b_Wri_writeBits 53 = .ok (.getfield 13, 3) := by decide +kernel
theorem d_Wri_writeBits_56 : decode b_Wri_writeBits 56 = .ok (.iconst 1, 1) := by decide +kernel
theorem d_Wri_writeBits_57 : decode b_Wri_writeBits 57 = .ok (.isub, 1) := by decide +kernel
theorem d_Wri_writeBits_58 : decode b_Wri_writeBits 58 = .ok (.dup2, 1) := by decide +kernel
theorem d_Wri_writeBits_59 : decode b_Wri_writeBits 59 = .ok (.iaload, 1) := by decide +kernel
theorem d_Wri_writeBits_60 : decode b_Wri_writeBits 60 = .ok (.iload_n 1, 1) := by decide +kernel
theorem d_Wri_writeBits_61 : decode b_Wri_writeBits 61 = .ok (.iload_n 3, 1) := by decide +kernel
theorem d_Wri_writeBits_62 : decode b_Wri_writeBits 62 = .ok (.ishr, 1) := by decide +kernel
theorem d_Wri_writeBits_63 : decode b_Wri_writeBits 63 = .ok (.iconst 1, 1) := by decide +kernel
theorem d_Wri_writeBits_64 : decode b_Wri_writeBits 64 = .ok (.iand, 1) := by decide +kernel
theorem d_Wri_writeBits_65 : decode b_Wri_writeBits 65 = .ok (.aload_n 0, 1) := by decide +kernel
theorem d_Wri_writeBits_66 : decode b_Wri_writeBits 66 = .ok (.getfield 17, 3) := by decide +kernel
theorem d_Wri_writeBits_69 : decode b_Wri_writeBits 69 = .ok (.ishl, 1) := by decide +kernel
theorem d_Wri_writeBits_70 : decode b_Wri_writeBits 70 = .ok (.ior, 1) := by decide +kernel
theorem d_Wri_writeBits_71 : decode b_Wri_writeBits 71 = .ok (.iastore, 1) := by decide +kernel
theorem d_Wri_writeBits_72 : decode b_Wri_writeBits 72 = .ok (.iinc 3 (-1), 3) := by decide +kernel
theorem d_Wri_writeBits_75 : decode b_Wri_writeBits 75 = .ok (.goto (-71), 3) := by decide +kernel
theorem d_Wri_writeBits_78 : decode b_Wri_writeBits 78 = .ok (.return_, 1) := by decide +kernel
theorem d_Wri_writeByte_0 : decode b_Wri_writeByte 0 = .ok (.aload_n 0, 1) := by decide +kernel
theorem d_Wri_writeByte_1 : decode b_Wri_writeByte 1 = .ok (.getfield 13, 3) := by decide +kernel
theorem d_Wri_writeByte_4 : decode b_Wri_writeByte 4 = .ok (.sipush 512, 3) := by decide +kernel
theorem d_Wri_writeByte_7 : decode b_Wri_writeByte 7 = .ok (.if_icmp .ge 23, 3) := by decide +kernel
theorem d_Wri_writeByte_10 : decode b_Wri_writeByte 10 = .ok (.aload_n 0, 1) := by decide +kernel
theorem d_Wri_writeByte_11 : decode b_Wri_writeByte 11 = .ok (.getfield 9, 3) := by decide +kernel
theorem d_Wri_writeByte_14 : decode b_Wri_writeByte 14 = .ok (.aload_n 0, 1) := by decide +kernel
theorem d_Wri_writeByte_15 : decode b_Wri_writeByte 15 = .ok (.getfield 13, 3) := by decide +kernel
theorem d_Wri_writeByte_18 : decode b_Wri_writeByte 18 = .ok (.iload_n 1, 1) := by decide +kernel
theorem d_Wri_writeByte_19 : decode b_Wri_writeByte 19 = .ok (.iastore, 1) := by decide +kernel
theorem d_Wri_writeByte_20 : decode b_Wri_writeByte 20 = .ok (.aload_n 0, 1) := by decide +kernel
theorem d_Wri_writeByte_21 : decode b_Wri_writeByte 21 = .ok (.dup, 1) := by decide +kernel
theorem d_Wri_writeByte_22 : decode b_Wri_writeByte 22 = .ok (.getfield 13, 3) := by decide +kernel
theorem d_Wri_writeByte_25 : decode b_Wri_writeByte 25 = .ok (.iconst 1, 1) := by decide +kernel
theorem d_Wri_writeByte_26 : decode b_Wri_writeByte 26 = .ok (.iadd, 1) := by decide +kernel
theorem d_Wri_writeByte_27 : decode b_Wri_writeByte 27 = .ok (.putfield 13, 3) := by decide +kernel
theorem d_Wri_writeByte_30 : decode b_Wri_writeByte 30 = .ok (.return_, 1) := by decide +kernel
theorem d_Wri_writeEnd_0 : decode b_Wri_writeEnd 0 = .ok (.aload_n 0, 1) := by decide +kernel
theorem d_Wri_writeEnd_1 : decode b_Wri_writeEnd 1 = .ok (.invokevirtual 20, 3) := by decide +kernel
theorem d_Wri_writeEnd_4 : decode b_Wri_writeEnd 4 = .ok (.ifCond .eq 8, 3) := by decide +kernel
theorem d_Wri_writeEnd_7 : decode b_Wri_writeEnd 7 = .ok (.aload_n 0, 1) := by decide +kernel
theorem d_Wri_writeEnd_8 : decode b_Wri_writeEnd 8 = .ok (.iconst 0, 1) := by decide +kernel
theorem d_Wri_writeEnd_9 : decode b_Wri_writeEnd 9 = .ok (.invokevirtual 24, 3) := by decide +kernel
theorem d_Wri_writeEnd_12 : decode b_Wri_writeEnd 12 = .ok (.aload_n 0, 1) := by decide +kernel
theorem d_Wri_writeEnd_13 : decode b_Wri_writeEnd 13 = .ok (.sipush 255, 3) := by decide +kernel
theorem d_Wri_writeEnd_16 : decode b_Wri_writeEnd 16 = .ok (.invokevirtual 24, 3) := by decide +kernel
theorem d_Wri_writeEnd_19 : decode b_Wri_writeEnd 19 = .ok (.aload_n 0, 1) := by decide +kernel
theorem d_Wri_writeEnd_20 : decode b_Wri_writeEnd 20 = .ok (.sipush 217, 3) := by decide +kernel
theorem d_Wri_writeEnd_23 : decode b_Wri_writeEnd 23 = .ok (.invokevirtual 24, 3) := by decide +kernel
theorem d_Wri_writeEnd_26 : decode b_Wri_writeEnd 26 = .ok (.return_, 1) := by decide +kernel
theorem d_Wri_writeNumber_0 : decode b_Wri_writeNumber 0 = .ok (.iload_n 3, 1) := by decide +kernel
theorem d_Wri_writeNumber_1 : decode b_Wri_writeNumber 1 = .ok (.iload 4, 2) := by decide +kernel
theorem d_Wri_writeNumber_3 : decode b_Wri_writeNumber 3 = .ok (.isub, 1) := by decide +kernel
theorem d_Wri_writeNumber_4 : decode b_Wri_writeNumber 4 = .ok (.iconst 1, 1) := by decide +kernel
theorem d_Wri_writeNumber_5 : decode b_Wri_writeNumber 5 = .ok (.isub, 1) := by decide +kernel
theorem d_Wri_writeNumber_6 : decode b_Wri_writeNumber 6 = .ok (.istore 5, 2) := by decide +kernel
theorem d_Wri_writeNumber_8 : decode b_Wri_writeNumber 8 = .ok (.iload_n 1, 1) := by decide +kernel
theorem d_Wri_writeNumber_9 : decode b_Wri_writeNumber 9 = .ok (.iload_n 2, 1) := by decide +kernel
theorem d_Wri_writeNumber_10 : decode b_Wri_writeNumber 10 = .ok (.ishr, 1) := by decide +kernel
theorem d_Wri_writeNumber_11 : decode b_Wri_writeNumber 11 = .ok (.iload 5, 2) := by decide +kernel
theorem d_Wri_writeNumber_13 : decode b_Wri_writeNumber 13 = .ok (.if_icmp .ge 22, 3) := by decide +kernel
theorem d_Wri_writeNumber_16 : decode b_Wri_writeNumber 16 = .ok (.aload_n 0, 1) := by decide +kernel
theorem d_Wri_writeNumber_17 : decode b_Wri_writeNumber 17 = .ok (.iconst 1, 1) := by decide +kernel
theorem d_Wri_writeNumber_18 : decode b_Wri_writeNumber 18 = .ok (.iload_n 1, 1) := by decide +kernel
theorem d_Wri_writeNumber_19 : decode b_Wri_writeNumber 19 = .ok (.iload_n 2, 1) := by decide +kernel
theorem d_Wri_writeNumber_20 : decode b_Wri_writeNumber 20 = .ok (.ishr, 1) := by decide +kernel
theorem d_Wri_writeNumber_21 : decode b_Wri_writeNumber 21 = .ok (.iconst 1, 1) := by decide +kernel
theorem d_Wri_writeNumber_22 : decode b_Wri_writeNumber 22 = .ok (.iadd, 1) := by decide +kernel
theorem d_Wri_writeNumber_23 : decode b_Wri_writeNumber 23 = .ok (.invokevirtual 28, 3) := by decide +kernel
theorem d_Wri_writeNumber_26 : decode b_Wri_writeNumber 26 = .ok (.aload_n 0, 1) := by decide +kernel
theorem d_Wri_writeNumber_27 : decode b_Wri_writeNumber 27 = .ok (.iload_n 1, 1) := by decide +kernel
theorem d_Wri_writeNumber_28 : decode b_Wri_writeNumber 28 = .ok (.iload_n 2, 1) := by decide +kernel
theorem d_Wri_writeNumber_29 : decode b_Wri_writeNumber 29 = .ok (.invokevirtual 28, 3) := by decide +kernel
theorem d_Wri_writeNumber_32 : decode b_Wri_writeNumber 32 = .ok (.goto 21, 3) := by decide +kernel
theorem d_Wri_writeNumber_35 : decode b_Wri_writeNumber 35 = .ok (.aload_n 0, 1) := by decide +kernel
theorem d_Wri_writeNumber_36 : decode b_Wri_writeNumber 36 = .ok (.iconst 1, 1) := by decide +kernel
theorem d_Wri_writeNumber_37 : decode b_Wri_writeNumber 37 = .ok (.iload 5, 2) := by decide +kernel
theorem d_Wri_writeNumber_39 : decode b_Wri_writeNumber 39 = .ok (.iconst 1, 1) := by decide +kernel
theorem d_Wri_writeNumber_40 : decode b_Wri_writeNumber 40 = .ok (.iadd, 1) := by decide +kernel
theorem d_Wri_writeNumber_41 : decode b_Wri_writeNumber 41 = .ok (.invokevirtual 28, 3) := by decide +kernel
theorem d_Wri_writeNumber_44 : decode b_Wri_writeNumber 44 = .ok (.aload_n 0, 1) := by decide +kernel
theorem d_Wri_writeNumber_45 : decode b_Wri_writeNumber 45 = .ok (.iload_n 1, 1) := by decide +kernel
theorem d_Wri_writeNumber_46 : decode b_Wri_writeNumber 46 = .ok (.iconst 1, 1) := by decide +kernel
theorem d_Wri_writeNumber_47 : decode b_Wri_writeNumber 47 = .ok (.isub, 1) := by decide +kernel
theorem d_Wri_writeNumber_48 : decode b_Wri_writeNumber 48 = .ok (.iload 4, 2) := by decide +kernel
theorem d_Wri_writeNumber_50 : decode b_Wri_writeNumber 50 = .ok (.invokevirtual 28, 3) := by decide +kernel
theorem d_Wri_writeNumber_53 : decode b_Wri_writeNumber 53 = .ok (.return_, 1) := by decide +kernel
end
section
/-! my own rows: states as functions, pure pictures of methods, calls that make no cells -/
abbrev gU : Type := Nat → Nat → Int32
def tk {α β : Type} (x : α) (f : α → β) : β := f x
theorem tk_e {α β : Type} {x y : α} {f : α → β} {r : β} (h : tk x f = r) (e : y = x) : f y = r := by
  subst e
  exact h
theorem tk_o {α β : Type} {x : α} {f : α → β} {r : β} (h : tk x f = r) : ∃ y : α, y = x ∧ f y = r := ⟨x, rfl, h⟩
def gd {β : Type} (c : Prop) [Decidable c] (b : Option β) : Option β := if c then b else none
theorem gd_o {β : Type} {c : Prop} [Decidable c] {b : Option β} {r : β} (h : gd c b = some r) : c ∧ b = some r := by
  unfold gd at h
  by_cases hc : c
  · rw [if_pos hc] at h
    exact ⟨hc, h⟩
  · rw [if_neg hc] at h
    cases h
def bq {β : Type} (c : Prop) [Decidable c] (a b : β) : β := if c then a else b
theorem bq_t {β : Type} {c : Prop} [Decidable c] {a b r : β} (h : bq c a b = r) (hc : c) : a = r := by
  unfold bq at h
  rw [if_pos hc] at h
  exact h
theorem bq_n {β : Type} {c : Prop} [Decidable c] {a b r : β} (h : bq c a b = r) (hc : ¬ c) : b = r := by
  unfold bq at h
  rw [if_neg hc] at h
  exact h
def bd {α β : Type} (x : Option α) (f : α → Option β) : Option β := x.bind f
theorem bd_o {α β : Type} {x : Option α} {f : α → Option β} {r : β} (h : bd x f = some r) : ∃ a : α, x = some a ∧ f a = some r := by
  cases x with
  | none => cases h
  | some a => exact ⟨a, rfl, h⟩
/-- a place of an array of n cells -/
abbrev ix (i : Int32) (n : Nat) : Prop := 0 ≤ i.toInt ∧ i.toInt < (n : Int)
theorem ix_in {i : Int32} {n : Nat} (h : ix i n) : vp_in i n := vp_in_iff.mpr h
abbrev tc (i : Int32) : Nat := i.toNatClampNeg
def st1 (u : gU) (k : Nat) (f : Nat → Int32) : gU := fun i => if i = k then f else u i
def st2 (u : gU) (k j : Nat) (x : Int32) : gU := fun i => if i = k then upd (u k) j x else u i
def sb (mp : List Nat) (u : gU) : gU := fun i => u (mp.getD i 0)
def mg : List Nat → Nat → gU → gU → gU
  | [], _, u, _ => u
  | j :: l, k, u, v => st1 (mg l (k + 1) u v) j (v k)
/-- addresses: which, and that they are apart -/
def ad (as : List Nat) : Nat → Prop := fun q => q ∈ as
def dj (as : List Nat) : Prop := ∀ (i j a : Nat), as[i]? = some a → as[j]? = some a → i = j
theorem dj_D {ws : va_W} {as : List Nat} (h : ws.map (fun q => q.1) = as) (hd : dj as) : va_D (ad as) ws := by
  subst h
  refine ⟨fun i j p q hi hj hpq => ?_, fun k q hk => List.mem_map.mpr ⟨q, List.mem_of_getElem? hk, rfl⟩⟩
  refine hd i j p.1 ?_ ?_
  · rw [List.getElem?_map, hi]
    rfl
  · rw [List.getElem?_map, hj, hpq]
    rfl
theorem pl_key {α : Type} {as bs : List α} {is : List Nat} (hs : is.map (fun i => as[i]?) = bs.map some) (k : Nat) (a : α) (h : bs[k]? = some a) : ∃ i, is[k]? = some i ∧ as[i]? = some a := by
  have h1 : (is.map (fun i => as[i]?))[k]? = some (some a) := by
    rw [hs, List.getElem?_map, h]
    rfl
  rw [List.getElem?_map] at h1
  cases hi : is[k]? with
  | none => rw [hi] at h1; cases h1
  | some i => rw [hi] at h1; exact ⟨i, rfl, Option.some.inj h1⟩
theorem dj_sub {as bs : List Nat} (hd : dj as) (is : List Nat) (hn : va_nd is = true) (hs : is.map (fun i => as[i]?) = bs.map some) : dj bs := by
  intro i j a hi hj
  obtain ⟨x, h1, h2⟩ := pl_key hs i a hi
  obtain ⟨y, h3, h4⟩ := pl_key hs j a hj
  have hxy := hd x y a h2 h4
  subst hxy
  exact va_nd_inj is hn i j x h1 h3
theorem ad_sub {as bs : List Nat} (is : List Nat) (hs : is.map (fun i => as[i]?) = bs.map some) : ∀ q, ad bs q → ad as q := by
  intro q hq
  obtain ⟨k, hk⟩ := List.getElem?_of_mem hq
  obtain ⟨i, -, hi⟩ := pl_key hs k q hk
  exact List.mem_of_getElem? hi
theorem P_sub {D : va_G} {cl : List vw_C} {ws wc : va_W} {H : Heap} {is : List Nat} (hs : is.map (fun i => ws[i]?) = wc.map some) (h : va_P D cl ws H) : va_P D cl wc H := by
  intro k q hk
  obtain ⟨i, -, hi⟩ := pl_key hs k q hk
  exact h i q hi
/-- a world with some cells replaced -/
def rp (ws : va_W) : List Nat → va_W → va_W
  | i :: is, c :: w => (rp ws is w).set i c
  | _, _ => ws
theorem rp_get (ws : va_W) : ∀ (is : List Nat) (w : va_W) (k : Nat) (q : Nat × va_E), is.length = w.length → (rp ws is w)[k]? = some q → q ∈ w ∨ (k ∉ is ∧ ws[k]? = some q)
  | [], [], k, q, _, h => Or.inr ⟨by simp, h⟩
  | [], c :: w, k, q, hl, h => by simp at hl
  | i :: is, [], k, q, hl, h => by simp at hl
  | i :: is, c :: w, k, q, hl, h => by
    have hl' : is.length = w.length := by simpa using hl
    have h : ((rp ws is w).set i c)[k]? = some q := h
    by_cases hk : i = k
    · subst hk
      have hlt : i < ((rp ws is w).set i c).length := (List.getElem?_eq_some_iff.mp h).1
      rw [List.getElem?_set_self (by simpa using hlt)] at h
      cases h
      exact Or.inl List.mem_cons_self
    · rw [List.getElem?_set_ne hk] at h
      rcases rp_get ws is w k q hl' h with h1 | ⟨h1, h2⟩
      · exact Or.inl (List.mem_cons_of_mem _ h1)
      · exact Or.inr ⟨fun hm => (List.mem_cons.mp hm).elim (fun e => hk e.symm) h1, h2⟩
theorem rp_P {A0 : Nat → Prop} {D : va_G} {cl : List vw_C} {ws wc w1 : va_W} {as : List Nat} {H H1 : Heap} (hP : va_P D cl ws H) (hD : va_D A0 ws) (is : List Nat) (hC : is.map (fun i => ws[i]?) = wc.map some) (haC : wc.map (fun q => q.1) = as) (ha1 : w1.map (fun q => q.1) = as)
    (hk : ∀ q : Nat, q < H.size → ¬ ad as q → H1[q]? = H[q]?) (hP1 : va_P D cl w1 H1) : va_P D cl (rp ws is w1) H1 := by
  have hl : is.length = w1.length := by
    have e1 := congrArg List.length hC
    have e2 := congrArg List.length haC
    have e3 := congrArg List.length ha1
    simp at e1 e2 e3
    omega
  intro k q hq
  rcases rp_get ws is w1 k q hl hq with h1 | ⟨h1, h2⟩
  · obtain ⟨j, hj⟩ := List.getElem?_of_mem h1
    exact hP1 j q hj
  · refine (hP k q h2).kept (hk q.1 ((hP k q h2).lt) (fun h => ?_))
    have h3 : q.1 ∈ wc.map (fun q => q.1) := by rw [haC]; exact h
    obtain ⟨x, hx, hxe⟩ := List.mem_map.mp h3
    obtain ⟨j, hj⟩ := List.getElem?_of_mem hx
    obtain ⟨i, hi1, hi2⟩ := pl_key hC j x hj
    have := hD.1 k i q x h2 hi2 hxe.symm
    subst this
    exact h1 (List.mem_of_getElem? hi1)
theorem pre_S {D : va_G} {cl : List vw_C} {tys : List (ClassId × FieldType)} {wc : va_W} {s : State} {H : Heap} {As : List Value} (hP : va_P D cl wc H) (hK : va_K D cl tys s) : PreS s H (va_Pc As (fun U => va_P D cl wc U.heap ∧ va_K D cl tys U)) As :=
  ⟨fun a U g mk q => ⟨q.1, q.2.1, va_K.moved (u := U) (U := U.calling g mk a) (Vm.Alike.refl U.vm) q.2.2⟩, fun U hU hW => ⟨rfl, by rw [hU]; exact hP, va_K.moved hW.alike hK⟩⟩
theorem pre_V {D : va_G} {cl : List vw_C} {tys : List (ClassId × FieldType)} {wc : va_W} {s : State} {H : Heap} {As : List Value} {b ci : Nat} {q : vw_C} {fs : List Value} (hP : va_P D cl wc H) (hK : va_K D cl tys s) (hc : cl[ci]? = some q) (he : wc[0]? = some (b, .inr (ci, fs))) : PreV s H q.1 b (va_Pc (.ref b :: As) (fun U => va_P D cl wc U.heap ∧ va_K D cl tys U)) As :=
  ⟨fun a U g mk q => ⟨q.1, q.2.1, va_K.moved (u := U) (U := U.calling g mk a) (Vm.Alike.refl U.vm) q.2.2⟩, va_recv hK hP hc he, fun U hU hW => ⟨rfl, by rw [hU]; exact hP, va_K.moved hW.alike hK⟩⟩
section MYR
variable {p : Program} {l : Launch} {e : Env} {R : Room} {s : State} {m : MethodId} {args : Array Value} {below : List Frame} {meth : Method} {c : Code} {H : Heap} {locs : List Loc} {cells slots : Nat} {Q : State → Prop}
variable {pc : Nat} {ls : Array Slot} {rest st0 : List Value} {a : Array Value} {A0 : Nat → Prop} {H0 : Heap} {D : va_G} {cl : List vw_C} {ws wc w1 : va_W} {as : List Nat}
/-- a call that writes nothing -/
theorem ro_i {r : Int32} (hr : va_Run p l e R s m args below meth c H locs cells slots 0 0 (F0 m pc ls st0) rest (va_Qi (fun x (_ : Unit) => x = r) (fun _ _ => True) (fun _ => False) a) (fun _ => False)) (hS : va_S A0 H0 H locs) (hP : va_P D cl ws H)
    (kk : ∀ (H1 : Heap) (locs1 : List Loc), va_P D cl ws H1 → va_S A0 H0 H1 locs1 → W p l e R s m args below meth c H1 locs1 cells slots Q (F0 m (pc + 3) ls (.int r :: rest))) : W p l e R s m args below meth c H locs cells slots Q (F0 m pc ls st0) := by
  refine va_calli hr hS (fun q _ h => h.elim) (fun q h => h.elim) (fun x u t H1 locs1 ht hvm hx hB hz hk hS1 => ?_)
  subst hx
  exact kk H1 locs1 (hP.kept (fun k q hq => hk q.1 ((hP k q hq).lt) (fun h => h))) hS1
/-- a call that writes in its world -/
theorem rw_i {r : Int32} (hr : va_Run p l e R s m args below meth c H locs cells slots 0 0 (F0 m pc ls st0) rest (va_Qi (fun x (_ : Unit) => x = r) (fun _ t => va_P D cl w1 t.heap) (ad as) a) (ad as)) (hS : va_S A0 H0 H locs) (hP : va_P D cl ws H) (hD : va_D A0 ws) {is : List Nat} (hC : is.map (fun i => ws[i]?) = wc.map some) (haC : wc.map (fun q => q.1) = as) (ha1 : w1.map (fun q => q.1) = as)
    (kk : ∀ (H1 : Heap) (locs1 : List Loc), va_P D cl (rp ws is w1) H1 → va_S A0 H0 H1 locs1 → W p l e R s m args below meth c H1 locs1 cells slots Q (F0 m (pc + 3) ls (.int r :: rest))) : W p l e R s m args below meth c H locs cells slots Q (F0 m pc ls st0) := by
  have hF : ∀ q, ad as q → A0 q := by
    intro q hq
    have h3 : q ∈ wc.map (fun q => q.1) := by rw [haC]; exact hq
    obtain ⟨x, hx, hxe⟩ := List.mem_map.mp h3
    obtain ⟨j, hj⟩ := List.getElem?_of_mem hx
    obtain ⟨i, hi1, hi2⟩ := pl_key hC j x hj
    rw [← hxe]
    exact hD.2 i x hi2
  refine va_calli hr hS (fun q _ h => hF q h) hF (fun x u t H1 locs1 ht hvm hx hB hz hk hS1 => ?_)
  subst hx
  rw [ht] at hB
  exact kk H1 locs1 (rp_P hP hD is hC haC ha1 hk hB) hS1
theorem rw_v (hr : va_Run p l e R s m args below meth c H locs cells slots 0 0 (F0 m pc ls st0) rest (va_Qv (fun (_ : Unit) => True) (fun _ t => va_P D cl w1 t.heap) (ad as) a) (ad as)) (hS : va_S A0 H0 H locs) (hP : va_P D cl ws H) (hD : va_D A0 ws) {is : List Nat} (hC : is.map (fun i => ws[i]?) = wc.map some) (haC : wc.map (fun q => q.1) = as) (ha1 : w1.map (fun q => q.1) = as)
    (kk : ∀ (H1 : Heap) (locs1 : List Loc), va_P D cl (rp ws is w1) H1 → va_S A0 H0 H1 locs1 → W p l e R s m args below meth c H1 locs1 cells slots Q (F0 m (pc + 3) ls rest)) : W p l e R s m args below meth c H locs cells slots Q (F0 m pc ls st0) := by
  have hF : ∀ q, ad as q → A0 q := by
    intro q hq
    have h3 : q ∈ wc.map (fun q => q.1) := by rw [haC]; exact hq
    obtain ⟨x, hx, hxe⟩ := List.mem_map.mp h3
    obtain ⟨j, hj⟩ := List.getElem?_of_mem hx
    obtain ⟨i, hi1, hi2⟩ := pl_key hC j x hj
    rw [← hxe]
    exact hD.2 i x hi2
  refine va_callv hr hS (fun q _ h => hF q h) hF (fun u t H1 locs1 ht hvm hx hB hz hk hS1 => ?_)
  rw [ht] at hB
  exact kk H1 locs1 (rp_P hP hD is hC haC ha1 hk hB) hS1
/-- returns -/
theorem rt_roi {cc : ByteArray} {x r : Int32} (hx : p.tables.exec = Jvm.exec) (hb : c.code = cc) (hr : meth.sig.returnType = some .int) (hlocks : meth.locks = false) (hS : va_S (fun _ => False) s.heap H locs) (hf : some x = some r) (hdg : decode cc pc = .ok (.ireturn, 1)) : W p l e R s m args below meth c H locs cells slots (MQ below (va_Qi (fun x (_ : Unit) => x = r) (fun _ _ => True) (fun _ => False)) args s cells slots (fun _ => False)) (F0 m pc ls [.int x]) :=
  W.iret hx hb hr (fun t ht hW => ⟨⟨x, (), rfl, Option.some.inj hf, trivial⟩, hS.F ht⟩) hS.2.2 hdg hlocks
theorem rt_roz {cc : ByteArray} {x r : Int32} (hx : p.tables.exec = Jvm.exec) (hb : c.code = cc) (hr : meth.sig.returnType = some .boolean) (hlocks : meth.locks = false) (hz : x = 0 ∨ x = 1) (hS : va_S (fun _ => False) s.heap H locs) (hf : some x = some r) (hdg : decode cc pc = .ok (.ireturn, 1)) : W p l e R s m args below meth c H locs cells slots (MQ below (va_Qi (fun x (_ : Unit) => x = r) (fun _ _ => True) (fun _ => False)) args s cells slots (fun _ => False)) (F0 m pc ls [.int x]) :=
  W.zret hx hb hr (by rcases hz with h | h <;> subst h <;> rfl) (fun t ht hW => ⟨⟨x, (), rfl, Option.some.inj hf, trivial⟩, hS.F ht⟩) hS.2.2 hdg hlocks
theorem rt_i {cc : ByteArray} {x r : Int32} {v u : gU} {A : Nat → Prop} (wl : gU → va_W) (hx : p.tables.exec = Jvm.exec) (hb : c.code = cc) (hr : meth.sig.returnType = some .int) (hlocks : meth.locks = false) (hS : va_S A s.heap H locs) (hP : va_P D cl (wl v) H) (hf : some (x, v) = some (r, u)) (hdg : decode cc pc = .ok (.ireturn, 1)) : W p l e R s m args below meth c H locs cells slots (MQ below (va_Qi (fun x (_ : Unit) => x = r) (fun _ t => va_P D cl (wl u) t.heap) A) args s cells slots A) (F0 m pc ls [.int x]) := by
  cases hf
  exact W.iret hx hb hr (fun t ht hW => ⟨⟨x, (), rfl, rfl, by subst ht; exact hP⟩, hS.F ht⟩) hS.2.2 hdg hlocks
theorem rt_z {cc : ByteArray} {x r : Int32} {v u : gU} {A : Nat → Prop} (wl : gU → va_W) (hx : p.tables.exec = Jvm.exec) (hb : c.code = cc) (hr : meth.sig.returnType = some .boolean) (hlocks : meth.locks = false) (hz : x = 0 ∨ x = 1) (hS : va_S A s.heap H locs) (hP : va_P D cl (wl v) H) (hf : some (x, v) = some (r, u)) (hdg : decode cc pc = .ok (.ireturn, 1)) : W p l e R s m args below meth c H locs cells slots (MQ below (va_Qi (fun x (_ : Unit) => x = r) (fun _ t => va_P D cl (wl u) t.heap) A) args s cells slots A) (F0 m pc ls [.int x]) := by
  cases hf
  exact W.zret hx hb hr (by rcases hz with h | h <;> subst h <;> rfl) (fun t ht hW => ⟨⟨x, (), rfl, rfl, by subst ht; exact hP⟩, hS.F ht⟩) hS.2.2 hdg hlocks
theorem rt_v {cc : ByteArray} {v u : gU} {A : Nat → Prop} (wl : gU → va_W) (hx : p.tables.exec = Jvm.exec) (hb : c.code = cc) (hr : meth.sig.returnType = none) (hlocks : meth.locks = false) (hS : va_S A s.heap H locs) (hP : va_P D cl (wl v) H) (hf : some v = some u) (hdg : decode cc pc = .ok (.return_, 1)) : W p l e R s m args below meth c H locs cells slots (MQ below (va_Qv (fun (_ : Unit) => True) (fun _ t => va_P D cl (wl u) t.heap) A) args s cells slots A) (F0 m pc ls []) := by
  cases hf
  exact W.vret hx hb hr (fun t ht hW => ⟨⟨(), rfl, trivial, by subst ht; exact hP⟩, hS.F ht⟩) hS.2.2 hdg hlocks
end MYR
/-- a contract's opening -/
theorem ct_of {l : Launch} {y : MethodName} {cc : ByteArray} {maxL : Nat} {ret : Option FieldType} {TS : List Cond} {rm : Room} {vs : List Value} {D : va_G} {cl : List vw_C} {ws : va_W} {tys : List (ClassId × FieldType)} {Qc : Array Value → State → Outcome → State → Prop} {mc ms : Nat} {free : Addr → Prop}
    (hy : plainName y.cls = true) (hn : (lg_sl vs).length ≤ maxL)
    (body : ∀ (p : Program) (e : Env) (s : State) (m : MethodId) (below : List Frame) (meth : Method) (c : Code) (ls : Array Slot), p.tables.exec = Jvm.exec → c.code = cc → c.maxLocals = maxL → meth.sig.returnType = ret → meth.locks = false → s.vm.findClass y.cls = some m.cls → (∀ w ∈ TS, w.before vs.toArray s = true) → va_P D cl ws s.heap → va_K D cl tys s → lv_has ls maxL (lv_args 0 vs) →
      W p l e rm s m vs.toArray below meth c s.heap [] 0 0 (MQ below Qc vs.toArray s mc ms free) (F0 m 0 ls [])) :
    Met l y (.code y cc maxL ret :: TS) rm (va_Pc vs (fun U => va_P D cl ws U.heap ∧ va_K D cl tys U)) Qc mc ms free := by
  refine Met.ofW (cc := cc) (maxL := maxL) (ret := ret) hy rfl ?_
  intro p e s m args below meth c s₁ B hml hv
  obtain ⟨rfl, hP, hK⟩ := hv
  have hts := atoms_spec (ws := .code y cc maxL ret :: TS) B.pre
  have hl := lv_entry vs (n := maxL) hn
  rw [lg_entry_eq]
  exact body p e s m below meth c _ B.exec B.bytes hml B.returns B.notSynchronized (findClass_of_methodNamed B.named) (fun w h => hts w (List.mem_cons_of_mem _ h)) hP hK hl
theorem gi_V {TS : List Cond} {own C : String} {idx maxL : Nat} {y : MethodName} {cc : ByteArray} {ret : Option FieldType} (hg : GoodIn TS TS) (h1 : Cond.methodLink own idx y ∈ TS) (h2 : Cond.instanceMethod y ∈ TS) (h3 : Cond.selects C y y ∈ TS) (h4 : Cond.initialized C ∈ TS) (hc : Cond.code y cc maxL ret ∈ TS) : GoodIn TS (wsV own idx C y (.code y cc maxL ret :: TS)) := by
  intro w hw
  unfold wsV at hw
  rcases List.mem_append.mp hw with h | h
  · simp only [List.mem_cons, List.not_mem_nil, or_false] at h
    rcases h with rfl | rfl | rfl | rfl
    · exact hg _ h1
    · exact hg _ h2
    · exact hg _ h3
    · exact hg _ h4
  · rcases List.mem_cons.mp h with rfl | h
    · exact hg _ hc
    · exact hg _ h
theorem gi_S {TS : List Cond} {own : String} {idx maxL : Nat} {y : MethodName} {cc : ByteArray} {ret : Option FieldType} (hg : GoodIn TS TS) (h1 : Cond.methodLink own idx y ∈ TS) (h2 : Cond.static y ∈ TS) (h4 : Cond.initialized y.cls ∈ TS) (hc : Cond.code y cc maxL ret ∈ TS) : GoodIn TS (va_wsS own idx y (.code y cc maxL ret :: TS)) := by
  intro w hw
  unfold va_wsS at hw
  rcases List.mem_append.mp hw with h | h
  · simp only [List.mem_cons, List.not_mem_nil, or_false] at h
    rcases h with rfl | rfl | rfl
    · exact hg _ h1
    · exact hg _ h2
    · exact hg _ h4
  · rcases List.mem_cons.mp h with rfl | h
    · exact hg _ hc
    · exact hg _ h
theorem gi_U {TS : List Cond} {own C owner : String} {idx maxL : Nat} {x y : MethodName} {cc : ByteArray} {ret : Option FieldType} (hg : GoodIn TS TS) (h1 : Cond.methodLink own idx x ∈ TS) (h2 : Cond.sameMethod x.cls owner x.name x.desc ∈ TS) (h3 : Cond.selects C x y ∈ TS) (h4 : Cond.instanceMethod y ∈ TS) (h5 : Cond.initialized y.cls ∈ TS) (hc : Cond.code y cc maxL ret ∈ TS) : GoodIn TS (va_wsU own idx C owner x y (.code y cc maxL ret :: TS)) := by
  intro w hw
  unfold va_wsU at hw
  rcases List.mem_append.mp hw with h | h
  · simp only [List.mem_cons, List.not_mem_nil, or_false] at h
    rcases h with rfl | rfl | rfl | rfl | rfl
    · exact hg _ h1
    · exact hg _ h2
    · exact hg _ h3
    · exact hg _ h4
    · exact hg _ h5
  · rcases List.mem_cons.mp h with rfl | h
    · exact hg _ hc
    · exact hg _ h
/-! the static table J -/
def jv : Nat → Int32 := fun k => ([0, 0, 0, 0, 1, 1, 1, 1, 2, 2, 2, 2, 3, 3, 3, 3, 4, 4, 5, 5, 6, 6, 7, 7, 8, 9, 10, 11, 12, 13, 14, 15] : List Int32).getD k 0
def Jt (tJ : Nat) (A : Nat → Prop) (U : State) : Prop := va_Z "GradientCoder$Contexts" "J" "[I" (.ref tJ) A U U.heap ∧ va_T .int tJ 32 (fun j => .int (jv j)) A U U.heap ∧ va_Nw (.declares y_Pas_carryRun) U ∧ va_Nw (.declares y_Pas_carryRegular) U ∧ va_Nw (.declares y_Pas_carryEnd) U
theorem Jt_blind {A : Nat → Prop} {tJ : Nat} {U : State} {g : JFrame} {mk : MethodId} {a : Array Value} (h : Jt tJ A U) : Jt tJ A (U.calling g mk a) :=
  ⟨va_Z.moved (u := U) (U := U.calling g mk a) (Vm.Alike.refl U.vm) h.1, va_T.moved (u := U) (U := U.calling g mk a) (Vm.Alike.refl U.vm) h.2.1, va_Nw.same rfl (u := U) (U := U.calling g mk a) rfl h.2.2.1, va_Nw.same rfl (u := U) (U := U.calling g mk a) rfl h.2.2.2.1, va_Nw.same rfl (u := U) (U := U.calling g mk a) rfl h.2.2.2.2⟩
theorem Jt_call {A B : Nat → Prop} {tJ : Nat} {s : State} {H : Heap} {locs : List Loc} (h : Jt tJ A s) (hS : va_S A s.heap H locs) (hAB : ∀ q, B q → A q) : ∀ U : State, U.heap = H → s.WarmedH U.vm → Jt tJ B U := by
  intro U hU hW
  subst hU
  exact ⟨((h.1.kept hS.2.1).moved hW.alike).narrow hAB, ((h.2.1.kept hS.2.1).moved hW.alike).narrow hAB, va_Nw.warmD hW h.2.2.1, va_Nw.warmD hW h.2.2.2.1, va_Nw.warmD hW h.2.2.2.2⟩
theorem pre_SJ {A : Nat → Prop} {tJ : Nat} {D : va_G} {cl : List vw_C} {tys : List (ClassId × FieldType)} {wc : va_W} {s : State} {H : Heap} {As : List Value} (hP : va_P D cl wc H) (hK : va_K D cl tys s) (hJ : ∀ U : State, U.heap = H → s.WarmedH U.vm → Jt tJ A U) : PreS s H (va_Pc As (fun U => va_P D cl wc U.heap ∧ va_K D cl tys U ∧ Jt tJ A U)) As :=
  ⟨fun a U g mk q => ⟨q.1, q.2.1, va_K.moved (u := U) (U := U.calling g mk a) (Vm.Alike.refl U.vm) q.2.2.1, Jt_blind q.2.2.2⟩, fun U hU hW => ⟨rfl, by rw [hU]; exact hP, va_K.moved hW.alike hK, hJ U hU hW⟩⟩
theorem pre_VJ {A : Nat → Prop} {tJ : Nat} {D : va_G} {cl : List vw_C} {tys : List (ClassId × FieldType)} {wc : va_W} {s : State} {H : Heap} {As : List Value} {b ci : Nat} {q : vw_C} {fs : List Value} (hP : va_P D cl wc H) (hK : va_K D cl tys s) (hc : cl[ci]? = some q) (he : wc[0]? = some (b, .inr (ci, fs))) (hJ : ∀ U : State, U.heap = H → s.WarmedH U.vm → Jt tJ A U) : PreV s H q.1 b (va_Pc (.ref b :: As) (fun U => va_P D cl wc U.heap ∧ va_K D cl tys U ∧ Jt tJ A U)) As :=
  ⟨(pre_SJ (A := A) (tJ := tJ) (As := .ref b :: As) hP hK hJ).1, va_recv hK hP hc he, (pre_SJ (A := A) (tJ := tJ) (As := .ref b :: As) hP hK hJ).2⟩
theorem ct_ofJ {A : Nat → Prop} {tJ : Nat} {l : Launch} {y : MethodName} {cc : ByteArray} {maxL : Nat} {ret : Option FieldType} {TS : List Cond} {rm : Room} {vs : List Value} {D : va_G} {cl : List vw_C} {ws : va_W} {tys : List (ClassId × FieldType)} {Qc : Array Value → State → Outcome → State → Prop} {mc ms : Nat} {free : Addr → Prop}
    (hy : plainName y.cls = true) (hn : (lg_sl vs).length ≤ maxL)
    (body : ∀ (p : Program) (e : Env) (s : State) (m : MethodId) (below : List Frame) (meth : Method) (c : Code) (ls : Array Slot), p.tables.exec = Jvm.exec → c.code = cc → c.maxLocals = maxL → meth.sig.returnType = ret → meth.locks = false → s.vm.findClass y.cls = some m.cls → (∀ w ∈ TS, w.before vs.toArray s = true) → va_P D cl ws s.heap → va_K D cl tys s → Jt tJ A s → lv_has ls maxL (lv_args 0 vs) →
      W p l e rm s m vs.toArray below meth c s.heap [] 0 0 (MQ below Qc vs.toArray s mc ms free) (F0 m 0 ls [])) :
    Met l y (.code y cc maxL ret :: TS) rm (va_Pc vs (fun U => va_P D cl ws U.heap ∧ va_K D cl tys U ∧ Jt tJ A U)) Qc mc ms free := by
  refine Met.ofW (cc := cc) (maxL := maxL) (ret := ret) hy rfl ?_
  intro p e s m args below meth c s₁ B hml hv
  obtain ⟨rfl, hP, hK, hJ⟩ := hv
  have hts := atoms_spec (ws := .code y cc maxL ret :: TS) B.pre
  have hl := lv_entry vs (n := maxL) hn
  rw [lg_entry_eq]
  exact body p e s m below meth c _ B.exec B.bytes hml B.returns B.notSynchronized (findClass_of_methodNamed B.named) (fun w h => hts w (List.mem_cons_of_mem _ h)) hP hK hJ hl
theorem nzb {x : Int32} (h : x = 0 ∨ x = 1) : narrow .boolean (.int x) = .int x := by rcases h with h | h <;> subst h <;> rfl
theorem fzb {x : Int32} (h : x = 0 ∨ x = 1) : fits .boolean (.int x) = true := by rcases h with h | h <;> subst h <;> rfl
end
section
def TS_0 : List Cond := [.fieldLink R_Pic 20 "GradientCoder$Picture" "maxval" "I", .fieldLink R_Pic 23 "GradientCoder$Picture" "near" "I", .code y_Pic_clamp b_Pic_clamp 3 (some .int), .methodLink R_Pic 54 y_Pic_clamp, .instanceMethod y_Pic_clamp, .selects R_Pic y_Pic_clamp y_Pic_clamp, .initialized R_Pic, .fieldLink R_Pic 57 "GradientCoder$Picture" "t1" "I", .fieldLink R_Pic 60 "GradientCoder$Picture" "t2" "I", .fieldLink R_Pic 63 "GradientCoder$Picture" "t3" "I", .methodLink R_Pic 39 Lib.Math.max.name, .static Lib.Math.max.name, .initialized "java/lang/Math", .code Lib.Math.max.name Lib.Math.max.code 2 (some .int), .fieldLink R_Pic 13 "GradientCoder$Picture" "width" "I", .fieldLink R_Pic 17 "GradientCoder$Picture" "height" "I", .fieldLink R_Pic 26 "GradientCoder$Picture" "step" "I", .fieldLink R_Pic 29 "GradientCoder$Picture" "range" "I", .code y_Pic_leastPower b_Pic_leastPower 3 (some .int), .methodLink R_Pic 32 y_Pic_leastPower, .static y_Pic_leastPower, .fieldLink R_Pic 36 "GradientCoder$Picture" "qb" "I", .fieldLink R_Pic 44 "GradientCoder$Picture" "limit" "I", .code y_Pic_becomeCoarse b_Pic_becomeCoarse 2 none, .methodLink R_Pic 51 y_Pic_becomeCoarse, .instanceMethod y_Pic_becomeCoarse, .selects R_Pic y_Pic_becomeCoarse y_Pic_becomeCoarse, .code y_Pic_becomeFine b_Pic_becomeFine 2 none, .methodLink R_Pic 47 y_Pic_becomeFine, .instanceMethod y_Pic_becomeFine, .selects R_Pic y_Pic_becomeFine y_Pic_becomeFine, .methodLink R_Pic 66 Lib.Math.min.name, .static Lib.Math.min.name, .code Lib.Math.min.name Lib.Math.min.code 2 (some .int), .methodLink R_Fol 7 Lib.Math.abs.name, .static Lib.Math.abs.name, .code Lib.Math.abs.name Lib.Math.abs.code 1 (some .int), .fieldLink R_Ctx 47 "GradientCoder$Contexts" "J" "[I", .fieldLink R_Ctx 37 "GradientCoder$Contexts" "runIndex" "I", .fieldLink R_Ctx 19 "GradientCoder$Contexts" "n" "[I", .fieldLink R_Ctx 9 "GradientCoder$Contexts" "a" "[I", .code y_Ctx_leastK b_Ctx_leastK 4 (some .int), .methodLink R_Ctx 50 y_Ctx_leastK, .instanceMethod y_Ctx_leastK, .selects R_Ctx y_Ctx_leastK y_Ctx_leastK, .initialized R_Ctx, .fieldLink R_Ctx 13 "GradientCoder$Contexts" "b" "[I", .fieldLink R_Ctx 22 "GradientCoder$Contexts" "m" "[I", .methodLink R_Ctx 25 Lib.Math.max.name, .fieldLink R_Ctx 16 "GradientCoder$Contexts" "c" "[I", .methodLink R_Ctx 64 Lib.Math.min.name, .code y_Ctx_correctUp b_Ctx_correctUp 2 none, .methodLink R_Ctx 61 y_Ctx_correctUp, .instanceMethod y_Ctx_correctUp, .selects R_Ctx y_Ctx_correctUp y_Ctx_correctUp, .code y_Ctx_correctDown b_Ctx_correctDown 2 none, .methodLink R_Ctx 57 y_Ctx_correctDown, .instanceMethod y_Ctx_correctDown, .selects R_Ctx y_Ctx_correctDown y_Ctx_correctDown, .methodLink R_Ctx 53 Lib.Math.abs.name]
def TS_1 : List Cond := [.code y_Arrs_fill_102 b_Arrs_fill_102 4 none, .methodLink R_Ctx 31 y_Arrs_fill_102, .static y_Arrs_fill_102, .initialized R_Arrs, .methodLink R_Ctx 41 arraycopyName, .native arraycopyName, .static arraycopyName, .initialized "java/lang/System", .fieldLink R_Wri 13 "GradientCoder$Writer" "size" "I", .fieldLink R_Wri 17 "GradientCoder$Writer" "bitsFree" "I", .fieldLink R_Wri 9 "GradientCoder$Writer" "bytes" "[I", .code y_Wri_writeByte b_Wri_writeByte 2 none, .methodLink R_Wri 24 y_Wri_writeByte, .instanceMethod y_Wri_writeByte, .selects R_Wri y_Wri_writeByte y_Wri_writeByte, .initialized R_Wri, .code y_Wri_endsWith255 b_Wri_endsWith255 1 (some .boolean), .methodLink R_Wri 20 y_Wri_endsWith255, .instanceMethod y_Wri_endsWith255, .selects R_Wri y_Wri_endsWith255 y_Wri_endsWith255, .code y_Wri_writeBits b_Wri_writeBits 4 none, .methodLink R_Wri 28 y_Wri_writeBits, .instanceMethod y_Wri_writeBits, .selects R_Wri y_Wri_writeBits y_Wri_writeBits, .fieldLink R_Pas 23 "GradientCoder$Pass" "rebuilt" "[I", .code y_Pic_place b_Pic_place 2 (some .int), .methodLink R_Pas 41 y_Pic_place, .static y_Pic_place, .fieldLink R_Pas 74 "GradientCoder$Pass" "d" "I", .fieldLink R_Pas 71 "GradientCoder$Pass" "c" "I", .fieldLink R_Pas 10 "GradientCoder$Pass" "picture" "LGradientCoder$Picture;", .fieldLink R_Pas 38 "GradientCoder$Picture" "width" "I", .fieldLink R_Pas 68 "GradientCoder$Pass" "b" "I", .code y_Pas_rebuiltOrNothing b_Pas_rebuiltOrNothing 3 (some .int), .methodLink R_Pas 65 y_Pas_rebuiltOrNothing, .sameMethod R_Pas R_Pas "rebuiltOrNothing" "(II)I", .selects R_Cod y_Pas_rebuiltOrNothing y_Pas_rebuiltOrNothing, .instanceMethod y_Pas_rebuiltOrNothing, .initialized R_Pas, .fieldLink R_Pas 59 "GradientCoder$Pass" "a" "I", .code y_Pic_isNear b_Pic_isNear 2 (some .boolean), .methodLink R_Pas 77 y_Pic_isNear, .instanceMethod y_Pic_isNear, .selects R_Pic y_Pic_isNear y_Pic_isNear, .code y_Pic_level b_Pic_level 2 (some .int), .methodLink R_Pas 125 y_Pic_level, .instanceMethod y_Pic_level, .selects R_Pic y_Pic_level y_Pic_level, .methodLink R_Pas 128 Lib.Math.min.name, .methodLink R_Pas 131 Lib.Math.max.name, .fieldLink R_Pas 155 "GradientCoder$Picture" "limit" "I", .fieldLink R_Pas 19 "GradientCoder$Pass" "contexts" "LGradientCoder$Contexts;", .code y_Ctx_j b_Ctx_j 1 (some .int), .methodLink R_Pas 158 y_Ctx_j, .instanceMethod y_Ctx_j, .selects R_Ctx y_Ctx_j y_Ctx_j, .fieldLink R_Cod 26 "GradientCoder$Coding" "picture" "LGradientCoder$Picture;", .sameField "GradientCoder$Coding" "GradientCoder$Pass" "picture" "LGradientCoder$Picture;", .fieldLink R_Cod 140 "GradientCoder$Coding" "sign" "I", .sameField "GradientCoder$Coding" "GradientCoder$Pass" "sign" "I"]
def TS_2 : List Cond := [.fieldLink R_Cod 9 "GradientCoder$Coding" "samples" "[I", .fieldLink R_Cod 143 "GradientCoder$Coding" "foretold" "I", .sameField "GradientCoder$Coding" "GradientCoder$Pass" "foretold" "I", .code y_Pic_divided b_Pic_divided 2 (some .int), .methodLink R_Cod 146 y_Pic_divided, .instanceMethod y_Pic_divided, .selects R_Pic y_Pic_divided y_Pic_divided, .fieldLink R_Cod 50 "GradientCoder$Coding" "rebuilt" "[I", .sameField "GradientCoder$Coding" "GradientCoder$Pass" "rebuilt" "[I", .fieldLink R_Cod 149 "GradientCoder$Picture" "step" "I", .code y_Pic_bounded b_Pic_bounded 2 (some .int), .methodLink R_Cod 152 y_Pic_bounded, .instanceMethod y_Pic_bounded, .selects R_Pic y_Pic_bounded y_Pic_bounded, .code y_Pic_reduced b_Pic_reduced 3 (some .int), .methodLink R_Cod 155 y_Pic_reduced, .instanceMethod y_Pic_reduced, .selects R_Pic y_Pic_reduced y_Pic_reduced, .fieldLink R_Cod 22 "GradientCoder$Coding" "contexts" "LGradientCoder$Contexts;", .sameField "GradientCoder$Coding" "GradientCoder$Pass" "contexts" "LGradientCoder$Contexts;", .methodLink R_Cod 103 y_Ctx_j, .fieldLink R_Cod 18 "GradientCoder$Coding" "writer" "LGradientCoder$Writer;", .methodLink R_Cod 107 y_Wri_writeBits, .code y_Ctx_raiseRunIndex b_Ctx_raiseRunIndex 1 none, .methodLink R_Cod 111 y_Ctx_raiseRunIndex, .instanceMethod y_Ctx_raiseRunIndex, .selects R_Ctx y_Ctx_raiseRunIndex y_Ctx_raiseRunIndex, .fieldLink R_Cod 96 "GradientCoder$Coding" "a" "I", .sameField "GradientCoder$Coding" "GradientCoder$Pass" "a" "I", .methodLink R_Cod 99 y_Pic_isNear, .code y_Cod_takeError b_Cod_takeError 3 (some .int), .methodLink R_Cod 114 y_Cod_takeError, .instanceMethod y_Cod_takeError, .selects R_Cod y_Cod_takeError y_Cod_takeError, .initialized R_Cod, .code y_Fol_foldRegular b_Fol_foldRegular 2 (some .int), .methodLink R_Cod 118 y_Fol_foldRegular, .static y_Fol_foldRegular, .initialized R_Fol, .fieldLink R_Cod 124 "GradientCoder$Picture" "limit" "I", .fieldLink R_Cod 127 "GradientCoder$Picture" "qb" "I", .code y_Wri_writeNumber b_Wri_writeNumber 6 none, .methodLink R_Cod 130 y_Wri_writeNumber, .instanceMethod y_Wri_writeNumber, .selects R_Wri y_Wri_writeNumber y_Wri_writeNumber, .code y_Fol_foldEnd b_Fol_foldEnd 4 (some .int), .methodLink R_Cod 133 y_Fol_foldEnd, .static y_Fol_foldEnd, .code y_Pas_limitOfEnd b_Pas_limitOfEnd 1 (some .int), .methodLink R_Cod 137 y_Cod_limitOfEnd, .sameMethod R_Cod R_Pas "limitOfEnd" "()I", .selects R_Cod y_Cod_limitOfEnd y_Pas_limitOfEnd, .instanceMethod y_Pas_limitOfEnd, .code y_Cod_carryRegular b_Cod_carryRegular 5 (some .int), .methodLink R_Pas 114 y_Pas_carryRegular, .sameMethod R_Pas R_Pas "carryRegular" "(IIZ)I", .selects R_Cod y_Pas_carryRegular y_Cod_carryRegular, .instanceMethod y_Cod_carryRegular, .fieldLink R_Pas 118 "GradientCoder$Picture" "step" "I", .code y_Ctx_learnRegular b_Ctx_learnRegular 4 none]
def TS_3 : List Cond := [.methodLink R_Pas 121 y_Ctx_learnRegular, .instanceMethod y_Ctx_learnRegular, .selects R_Ctx y_Ctx_learnRegular y_Ctx_learnRegular, .fieldLink R_Pas 85 "GradientCoder$Pass" "sign" "I", .methodLink R_Pas 88 Lib.Math.abs.name, .code y_Pas_foretoldByNeighbours b_Pas_foretoldByNeighbours 3 (some .int), .methodLink R_Pas 94 y_Pas_foretoldByNeighbours, .sameMethod R_Pas R_Pas "foretoldByNeighbours" "()I", .selects R_Cod y_Pas_foretoldByNeighbours y_Pas_foretoldByNeighbours, .instanceMethod y_Pas_foretoldByNeighbours, .fieldLink R_Pas 97 "GradientCoder$Contexts" "c" "[I", .methodLink R_Pas 99 y_Pic_bounded, .fieldLink R_Pas 102 "GradientCoder$Pass" "foretold" "I", .code y_Ctx_kOfRegular b_Ctx_kOfRegular 2 (some .int), .methodLink R_Pas 105 y_Ctx_kOfRegular, .instanceMethod y_Ctx_kOfRegular, .selects R_Ctx y_Ctx_kOfRegular y_Ctx_kOfRegular, .fieldLink R_Pas 108 "GradientCoder$Picture" "near" "I", .code y_Ctx_leansDown b_Ctx_leansDown 2 (some .boolean), .methodLink R_Pas 111 y_Ctx_leansDown, .instanceMethod y_Ctx_leansDown, .selects R_Ctx y_Ctx_leansDown y_Ctx_leansDown, .code y_Pas_signedContext b_Pas_signedContext 1 (some .int), .methodLink R_Pas 81 y_Pas_signedContext, .sameMethod R_Pas R_Pas "signedContext" "()I", .selects R_Cod y_Pas_signedContext y_Pas_signedContext, .instanceMethod y_Pas_signedContext, .code y_Cod_carryEnd b_Cod_carryEnd 6 (some .int), .methodLink R_Pas 140 y_Pas_carryEnd, .sameMethod R_Pas R_Pas "carryEnd" "(IIIZ)I", .selects R_Cod y_Pas_carryEnd y_Cod_carryEnd, .instanceMethod y_Cod_carryEnd, .methodLink R_Pas 144 y_Fol_foldEnd, .code y_Ctx_learnEnd b_Ctx_learnEnd 4 none, .methodLink R_Pas 149 y_Ctx_learnEnd, .instanceMethod y_Ctx_learnEnd, .selects R_Ctx y_Ctx_learnEnd y_Ctx_learnEnd, .code y_Ctx_lowerRunIndex b_Ctx_lowerRunIndex 1 none, .methodLink R_Pas 152 y_Ctx_lowerRunIndex, .instanceMethod y_Ctx_lowerRunIndex, .selects R_Ctx y_Ctx_lowerRunIndex y_Ctx_lowerRunIndex, .code y_Ctx_kOfEnd b_Ctx_kOfEnd 2 (some .int), .methodLink R_Pas 134 y_Ctx_kOfEnd, .instanceMethod y_Ctx_kOfEnd, .selects R_Ctx y_Ctx_kOfEnd y_Ctx_kOfEnd, .code y_Ctx_isMostlyBelow b_Ctx_isMostlyBelow 2 (some .boolean), .methodLink R_Pas 137 y_Ctx_isMostlyBelow, .instanceMethod y_Ctx_isMostlyBelow, .selects R_Ctx y_Ctx_isMostlyBelow y_Ctx_isMostlyBelow, .code y_Pas_overEnd b_Pas_overEnd 7 none, .methodLink R_Pas 62 y_Pas_overEnd, .sameMethod R_Pas R_Pas "overEnd" "(I)V", .selects R_Cod y_Pas_overEnd y_Pas_overEnd, .instanceMethod y_Pas_overEnd, .code y_Pas_overRegular b_Pas_overRegular 7 none, .methodLink R_Pas 56 y_Pas_overRegular, .sameMethod R_Pas R_Pas "overRegular" "(I)V", .selects R_Cod y_Pas_overRegular y_Pas_overRegular, .instanceMethod y_Pas_overRegular, .code y_Pas_lookAround b_Pas_lookAround 3 none]
def TS_4 : List Cond := [.methodLink R_Pas 45 y_Pas_lookAround, .sameMethod R_Pas R_Pas "lookAround" "(II)V", .selects R_Cod y_Pas_lookAround y_Pas_lookAround, .instanceMethod y_Pas_lookAround, .code y_Pas_isEven b_Pas_isEven 1 (some .boolean), .methodLink R_Pas 49 y_Pas_isEven, .sameMethod R_Pas R_Pas "isEven" "()Z", .selects R_Cod y_Pas_isEven y_Pas_isEven, .instanceMethod y_Pas_isEven, .code y_Cod_carryRun b_Cod_carryRun 5 (some .int), .methodLink R_Pas 53 y_Pas_carryRun, .sameMethod R_Pas R_Pas "carryRun" "(II)I", .selects R_Cod y_Pas_carryRun y_Cod_carryRun, .instanceMethod y_Cod_carryRun, .fieldLink R_Pas 35 "GradientCoder$Picture" "height" "I", .fieldLink R_Pas 27 "GradientCoder$Picture" "range" "I", .code y_Ctx_restart b_Ctx_restart 2 none, .methodLink R_Pas 31 y_Ctx_restart, .instanceMethod y_Ctx_restart, .selects R_Ctx y_Ctx_restart y_Ctx_restart, .fieldLink R_Cod 56 "GradientCoder$Picture" "width" "I", .methodLink R_Cod 66 y_Pic_place, .code y_Cod_sampleIn b_Cod_sampleIn 3 (some .int), .methodLink R_Cod 59 y_Cod_sampleIn, .static y_Cod_sampleIn, .fieldLink R_Cod 63 "GradientCoder$Picture" "maxval" "I", .code y_Wri_restart b_Wri_restart 1 none, .methodLink R_Cod 91 y_Wri_restart, .instanceMethod y_Wri_restart, .selects R_Wri y_Wri_restart y_Wri_restart, .methodLink R_Cod 93 y_Wri_writeByte, .fieldLink R_Cod 73 "GradientCoder$Picture" "height" "I", .fieldLink R_Cod 76 "GradientCoder$Picture" "near" "I", .code y_Pic_become b_Pic_become 6 none, .methodLink R_Cod 40 y_Pic_become, .instanceMethod y_Pic_become, .selects R_Pic y_Pic_become y_Pic_become, .fieldLink R_Cod 30 "GradientCoder$Picture" "range" "I", .methodLink R_Cod 34 y_Ctx_restart, .methodLink R_Cod 44 y_Arrs_fill_102, .fieldLink R_Cod 53 "GradientCoder$Writer" "size" "I", .fieldLink R_Cod 70 "GradientCoder$Reading" "picture" "LGradientCoder$Picture;", .sameField "GradientCoder$Reading" "GradientCoder$Pass" "picture" "LGradientCoder$Picture;", .fieldLink R_Cod 79 "GradientCoder$Reading" "contexts" "LGradientCoder$Contexts;", .sameField "GradientCoder$Reading" "GradientCoder$Pass" "contexts" "LGradientCoder$Contexts;", .code y_Ctx_takeOver b_Ctx_takeOver 2 none, .methodLink R_Cod 80 y_Ctx_takeOver, .instanceMethod y_Ctx_takeOver, .selects R_Ctx y_Ctx_takeOver y_Ctx_takeOver, .fieldLink R_Cod 84 "GradientCoder$Reading" "rebuilt" "[I", .sameField "GradientCoder$Reading" "GradientCoder$Pass" "rebuilt" "[I", .methodLink R_Cod 85 arraycopyName, .fieldLink R_Grc 10 "GradientCoder" "coding" "LGradientCoder$Coding;", .fieldLink R_Grc 51 "GradientCoder$Coding" "writer" "LGradientCoder$Writer;", .fieldLink R_Grc 60 "GradientCoder$Writer" "size" "I", .code y_Pic_fits b_Pic_fits 4 (some .boolean), .methodLink R_Grc 23 y_Pic_fits, .static y_Pic_fits, .code y_Cod_beginPicture b_Cod_beginPicture 5 none, .methodLink R_Grc 29 y_Cod_beginPicture]
def TS_5 : List Cond := [.instanceMethod y_Cod_beginPicture, .selects R_Cod y_Cod_beginPicture y_Cod_beginPicture, .fieldLink R_Grc 33 "GradientCoder$Coding" "picture" "LGradientCoder$Picture;", .fieldLink R_Grc 37 "GradientCoder$Picture" "height" "I", .code y_Cod_takeRow b_Cod_takeRow 5 (some .boolean), .methodLink R_Grc 41 y_Cod_takeRow, .instanceMethod y_Cod_takeRow, .selects R_Cod y_Cod_takeRow y_Cod_takeRow, .code y_Cod_writeHead b_Cod_writeHead 1 none, .methodLink R_Grc 45 y_Cod_writeHead, .instanceMethod y_Cod_writeHead, .selects R_Cod y_Cod_writeHead y_Cod_writeHead, .code y_Pas_overAll b_Pas_overAll 6 none, .methodLink R_Grc 48 y_Cod_overAll, .sameMethod R_Cod R_Pas "overAll" "()V", .selects R_Cod y_Cod_overAll y_Pas_overAll, .instanceMethod y_Pas_overAll, .code y_Wri_writeEnd b_Wri_writeEnd 1 none, .methodLink R_Grc 55 y_Wri_writeEnd, .instanceMethod y_Wri_writeEnd, .selects R_Wri y_Wri_writeEnd y_Wri_writeEnd, .code y_Grc_hasByte b_Grc_hasByte 2 (some .boolean), .methodLink R_Grc 63 y_Grc_hasByte, .instanceMethod y_Grc_hasByte, .selects R_Grc y_Grc_hasByte y_Grc_hasByte, .initialized R_Grc, .fieldLink R_Grc 67 "GradientCoder$Writer" "bytes" "[I", .fieldLink R_Grc 89 "GradientCoder$Picture" "width" "I", .fieldLink R_Grc 92 "GradientCoder$Picture" "maxval" "I", .fieldLink R_Grc 95 "GradientCoder$Picture" "near" "I", .fieldLink R_Grc 98 "GradientCoder$Picture" "range" "I", .fieldLink R_Grc 101 "GradientCoder$Picture" "qb" "I", .fieldLink R_Grc 104 "GradientCoder$Picture" "limit" "I", .fieldLink R_Grc 107 "GradientCoder$Picture" "t1" "I", .fieldLink R_Grc 110 "GradientCoder$Picture" "t2" "I", .fieldLink R_Grc 113 "GradientCoder$Picture" "t3" "I", .code y_Pic_hasPlace b_Pic_hasPlace 3 (some .boolean), .methodLink R_Grc 116 y_Pic_hasPlace, .instanceMethod y_Pic_hasPlace, .selects R_Pic y_Pic_hasPlace y_Pic_hasPlace, .fieldLink R_Grc 120 "GradientCoder$Coding" "samples" "[I", .methodLink R_Grc 123 y_Pic_place, .fieldLink R_Grc 127 "GradientCoder$Coding" "rebuilt" "[I", .constant R_Grc 132 (-1000000), .fieldLink R_Grc 133 "GradientCoder$Coding" "contexts" "LGradientCoder$Contexts;", .fieldLink R_Grc 137 "GradientCoder$Contexts" "a" "[I", .fieldLink R_Grc 140 "GradientCoder$Contexts" "b" "[I", .fieldLink R_Grc 143 "GradientCoder$Contexts" "c" "[I", .fieldLink R_Grc 146 "GradientCoder$Contexts" "n" "[I", .fieldLink R_Grc 149 "GradientCoder$Contexts" "m" "[I", .fieldLink R_Grc 152 "GradientCoder$Contexts" "runIndex" "I", .fieldLink R_Mod 47 "GradientCoderModel" "thrown" "I", .fieldLink R_Mod 16 "GradientCoderModel" "maxval" "I", .fieldLink R_Mod 50 "GradientCoderModel" "near" "I", .fieldLink R_Mod 53 "GradientCoderModel" "step" "I", .fieldLink R_Mod 56 "GradientCoderModel" "range" "I", .code y_Mod_powerFor b_Mod_powerFor 3 (some .int), .methodLink R_Mod 59 y_Mod_powerFor, .static y_Mod_powerFor, .initialized R_Mod]
def TS_6 : List Cond := [.fieldLink R_Mod 63 "GradientCoderModel" "qb" "I", .code y_Mod_greater b_Mod_greater 2 (some .int), .methodLink R_Mod 66 y_Mod_greater, .static y_Mod_greater, .fieldLink R_Mod 69 "GradientCoderModel" "limit" "I", .code y_Mod_clamp b_Mod_clamp 3 (some .int), .methodLink R_Mod 72 y_Mod_clamp, .instanceMethod y_Mod_clamp, .selects R_Mod y_Mod_clamp y_Mod_clamp, .fieldLink R_Mod 75 "GradientCoderModel" "t1" "I", .fieldLink R_Mod 78 "GradientCoderModel" "t2" "I", .fieldLink R_Mod 81 "GradientCoderModel" "t3" "I", .fieldLink R_Mod 23 "GradientCoderModel" "rebuilt" "[I", .fieldLink R_Mod 84 "GradientCoderModel" "runIndex" "I", .fieldLink R_Mod 26 "GradientCoderModel" "contexts" "[I", .fieldLink R_Mod 91 "GradientCoderModel" "size" "I", .fieldLink R_Mod 19 "GradientCoderModel" "sample" "[I", .code y_Mod_fits b_Mod_fits 4 (some .boolean), .methodLink R_Mod 87 y_Mod_fits, .static y_Mod_fits, .fieldLink R_Mod 7 "GradientCoderModel" "width" "I", .fieldLink R_Mod 13 "GradientCoderModel" "height" "I", .code y_Mod_prepare b_Mod_prepare 3 none, .methodLink R_Mod 41 y_Mod_prepare, .instanceMethod y_Mod_prepare, .selects R_Mod y_Mod_prepare y_Mod_prepare, .code y_Mod_forget b_Mod_forget 2 none, .methodLink R_Mod 44 y_Mod_forget, .instanceMethod y_Mod_forget, .selects R_Mod y_Mod_forget y_Mod_forget, .constantLong R_Mod 94 255, .fieldLink R_Mod 29 "GradientCoderModel" "code" "[I", .fieldLink R_Mod 99 "GradientCoderModel" "bits" "I", .fieldLink R_Mod 96 "GradientCoderModel" "begun" "I", .code y_Mod_say b_Mod_say 2 none, .methodLink R_Mod 102 y_Mod_say, .instanceMethod y_Mod_say, .selects R_Mod y_Mod_say y_Mod_say, .code y_Mod_put b_Mod_put 2 none, .methodLink R_Mod 106 y_Mod_put, .instanceMethod y_Mod_put, .selects R_Mod y_Mod_put y_Mod_put, .fieldLink R_Mod 109 "GradientCoderModel" "left" "I", .fieldLink R_Mod 112 "GradientCoderModel" "now" "I", .fieldLink R_Mod 115 "GradientCoderModel" "at" "I", .fieldLink R_Mod 118 "GradientCoderModel" "good" "Z", .code y_Mod_get b_Mod_get 2 (some .int), .methodLink R_Mod 122 y_Mod_get, .instanceMethod y_Mod_get, .selects R_Mod y_Mod_get y_Mod_get, .code y_Mod_putMany b_Mod_putMany 4 none, .methodLink R_Mod 126 y_Mod_putMany, .instanceMethod y_Mod_putMany, .selects R_Mod y_Mod_putMany y_Mod_putMany, .code y_Mod_getMany b_Mod_getMany 4 (some .int), .methodLink R_Mod 130 y_Mod_getMany, .instanceMethod y_Mod_getMany, .selects R_Mod y_Mod_getMany y_Mod_getMany, .code y_Mod_value b_Mod_value 3 (some .int), .methodLink R_Mod 134 y_Mod_value]
def TS_7 : List Cond := [.instanceMethod y_Mod_value, .selects R_Mod y_Mod_value y_Mod_value, .code y_Mod_above b_Mod_above 3 (some .int), .methodLink R_Mod 137 y_Mod_above, .instanceMethod y_Mod_above, .selects R_Mod y_Mod_above y_Mod_above, .code y_Mod_before b_Mod_before 3 (some .int), .methodLink R_Mod 140 y_Mod_before, .instanceMethod y_Mod_before, .selects R_Mod y_Mod_before y_Mod_before, .code y_Mod_divided b_Mod_divided 2 (some .int), .methodLink R_Mod 143 y_Mod_divided, .instanceMethod y_Mod_divided, .selects R_Mod y_Mod_divided y_Mod_divided, .code y_Mod_held b_Mod_held 2 (some .int), .methodLink R_Mod 146 y_Mod_held, .instanceMethod y_Mod_held, .selects R_Mod y_Mod_held y_Mod_held, .code y_Mod_reduced b_Mod_reduced 3 (some .int), .methodLink R_Mod 149 y_Mod_reduced, .instanceMethod y_Mod_reduced, .selects R_Mod y_Mod_reduced y_Mod_reduced, .code y_Mod_half b_Mod_half 1 (some .int), .methodLink R_Mod 188 y_Mod_half, .static y_Mod_half, .code y_Mod_learn b_Mod_learn 6 none, .methodLink R_Mod 185 y_Mod_learn, .instanceMethod y_Mod_learn, .selects R_Mod y_Mod_learn y_Mod_learn, .code y_Mod_write b_Mod_write 6 none, .methodLink R_Mod 181 y_Mod_write, .instanceMethod y_Mod_write, .selects R_Mod y_Mod_write y_Mod_write, .code y_Mod_settle b_Mod_settle 7 none, .methodLink R_Mod 173 y_Mod_settle, .instanceMethod y_Mod_settle, .selects R_Mod y_Mod_settle y_Mod_settle, .fieldLink R_Mod 167 "GradientCoderModel" "reading" "Z", .code y_Mod_errorOf b_Mod_errorOf 6 (some .int), .methodLink R_Mod 177 y_Mod_errorOf, .instanceMethod y_Mod_errorOf, .selects R_Mod y_Mod_errorOf y_Mod_errorOf, .code y_Mod_read b_Mod_read 5 (some .int), .methodLink R_Mod 170 y_Mod_read, .instanceMethod y_Mod_read, .selects R_Mod y_Mod_read y_Mod_read, .code y_Mod_kFor b_Mod_kFor 3 (some .int), .methodLink R_Mod 164 y_Mod_kFor, .static y_Mod_kFor, .code y_Mod_lesser b_Mod_lesser 2 (some .int), .methodLink R_Mod 161 y_Mod_lesser, .static y_Mod_lesser, .code y_Mod_corner b_Mod_corner 3 (some .int), .methodLink R_Mod 152 y_Mod_corner, .instanceMethod y_Mod_corner, .selects R_Mod y_Mod_corner y_Mod_corner, .code y_Mod_beyond b_Mod_beyond 3 (some .int), .methodLink R_Mod 155 y_Mod_beyond, .instanceMethod y_Mod_beyond, .selects R_Mod y_Mod_beyond y_Mod_beyond]
def TS_8 : List Cond := [.code y_Mod_quantized b_Mod_quantized 2 (some .int), .methodLink R_Mod 158 y_Mod_quantized, .instanceMethod y_Mod_quantized, .selects R_Mod y_Mod_quantized y_Mod_quantized, .code y_Mod_isNear b_Mod_isNear 2 (some .boolean), .methodLink R_Mod 191 y_Mod_isNear, .instanceMethod y_Mod_isNear, .selects R_Mod y_Mod_isNear y_Mod_isNear, .code y_Mod_jOf b_Mod_jOf 2 (some .int), .methodLink R_Mod 195 y_Mod_jOf, .instanceMethod y_Mod_jOf, .selects R_Mod y_Mod_jOf y_Mod_jOf, .code y_Mod_endRun b_Mod_endRun 17 none, .methodLink R_Mod 198 y_Mod_endRun, .instanceMethod y_Mod_endRun, .selects R_Mod y_Mod_endRun y_Mod_endRun, .code y_Mod_regular b_Mod_regular 16 none, .methodLink R_Mod 207 y_Mod_regular, .instanceMethod y_Mod_regular, .selects R_Mod y_Mod_regular y_Mod_regular, .code y_Mod_writeRun b_Mod_writeRun 6 (some .int), .methodLink R_Mod 204 y_Mod_writeRun, .instanceMethod y_Mod_writeRun, .selects R_Mod y_Mod_writeRun y_Mod_writeRun, .code y_Mod_readRun b_Mod_readRun 8 (some .int), .methodLink R_Mod 201 y_Mod_readRun, .instanceMethod y_Mod_readRun, .selects R_Mod y_Mod_readRun y_Mod_readRun, .code y_Mod_walk b_Mod_walk 6 none, .methodLink R_Mod 210 y_Mod_walk, .instanceMethod y_Mod_walk, .selects R_Mod y_Mod_walk y_Mod_walk, .fieldLink R_Mod 38 "GradientCoderModel" "oldContexts" "[I", .fieldLink R_Mod 32 "GradientCoderModel" "oldSample" "[I", .fieldLink R_Mod 35 "GradientCoderModel" "oldRebuilt" "[I", .code y_Mod_putBack b_Mod_putBack 7 none, .methodLink R_Mod 220 y_Mod_putBack, .instanceMethod y_Mod_putBack, .selects R_Mod y_Mod_putBack y_Mod_putBack, .code y_Mod_endsWell b_Mod_endsWell 1 (some .boolean), .methodLink R_Mod 216 y_Mod_endsWell, .instanceMethod y_Mod_endsWell, .selects R_Mod y_Mod_endsWell y_Mod_endsWell, .code y_Mod_keep b_Mod_keep 2 none, .methodLink R_Mod 213 y_Mod_keep, .instanceMethod y_Mod_keep, .selects R_Mod y_Mod_keep y_Mod_keep, .code y_Mod_isPlace b_Mod_isPlace 3 (some .boolean), .methodLink R_Mod 223 y_Mod_isPlace, .instanceMethod y_Mod_isPlace, .selects R_Mod y_Mod_isPlace y_Mod_isPlace, .constant R_Mod 227 (-1000000), .laysFinal R_Grc "GradientCoder" "coding" "LGradientCoder$Coding;", .laysFinal R_Grc "GradientCoder" "reading" "LGradientCoder$Reading;", .lays R_Pic "GradientCoder$Picture" "width" "I", .lays R_Pic "GradientCoder$Picture" "height" "I", .lays R_Pic "GradientCoder$Picture" "maxval" "I", .lays R_Pic "GradientCoder$Picture" "near" "I", .lays R_Pic "GradientCoder$Picture" "step" "I", .lays R_Pic "GradientCoder$Picture" "range" "I"]
def TS_9 : List Cond := [.lays R_Pic "GradientCoder$Picture" "qb" "I", .lays R_Pic "GradientCoder$Picture" "limit" "I", .lays R_Pic "GradientCoder$Picture" "t1" "I", .lays R_Pic "GradientCoder$Picture" "t2" "I", .lays R_Pic "GradientCoder$Picture" "t3" "I", .laysFinal R_Ctx "GradientCoder$Contexts" "a" "[I", .laysFinal R_Ctx "GradientCoder$Contexts" "b" "[I", .laysFinal R_Ctx "GradientCoder$Contexts" "c" "[I", .laysFinal R_Ctx "GradientCoder$Contexts" "n" "[I", .laysFinal R_Ctx "GradientCoder$Contexts" "m" "[I", .lays R_Ctx "GradientCoder$Contexts" "runIndex" "I", .laysFinal R_Cod "GradientCoder$Pass" "picture" "LGradientCoder$Picture;", .laysFinal R_Cod "GradientCoder$Pass" "contexts" "LGradientCoder$Contexts;", .laysFinal R_Cod "GradientCoder$Pass" "rebuilt" "[I", .lays R_Cod "GradientCoder$Pass" "a" "I", .lays R_Cod "GradientCoder$Pass" "b" "I", .lays R_Cod "GradientCoder$Pass" "c" "I", .lays R_Cod "GradientCoder$Pass" "d" "I", .lays R_Cod "GradientCoder$Pass" "sign" "I", .lays R_Cod "GradientCoder$Pass" "foretold" "I", .laysFinal R_Cod "GradientCoder$Coding" "samples" "[I", .laysFinal R_Cod "GradientCoder$Coding" "writer" "LGradientCoder$Writer;", .laysFinal R_Rdg "GradientCoder$Pass" "picture" "LGradientCoder$Picture;", .laysFinal R_Rdg "GradientCoder$Pass" "contexts" "LGradientCoder$Contexts;", .laysFinal R_Rdg "GradientCoder$Pass" "rebuilt" "[I", .lays R_Rdg "GradientCoder$Pass" "a" "I", .lays R_Rdg "GradientCoder$Pass" "b" "I", .lays R_Rdg "GradientCoder$Pass" "c" "I", .lays R_Rdg "GradientCoder$Pass" "d" "I", .lays R_Rdg "GradientCoder$Pass" "sign" "I", .lays R_Rdg "GradientCoder$Pass" "foretold" "I", .laysFinal R_Rdg "GradientCoder$Reading" "reader" "LGradientCoder$Reader;", .laysFinal R_Wri "GradientCoder$Writer" "bytes" "[I", .lays R_Wri "GradientCoder$Writer" "size" "I", .lays R_Wri "GradientCoder$Writer" "bitsFree" "I", .laysFinal R_Rea "GradientCoder$Reader" "bytes" "[I", .lays R_Rea "GradientCoder$Reader" "end" "I", .lays R_Rea "GradientCoder$Reader" "next" "I", .lays R_Rea "GradientCoder$Reader" "bitsLeft" "I", .lays R_Mod "GradientCoderModel" "thrown" "I", .lays R_Mod "GradientCoderModel" "width" "I", .lays R_Mod "GradientCoderModel" "height" "I", .lays R_Mod "GradientCoderModel" "maxval" "I", .lays R_Mod "GradientCoderModel" "near" "I", .lays R_Mod "GradientCoderModel" "step" "I", .lays R_Mod "GradientCoderModel" "range" "I", .lays R_Mod "GradientCoderModel" "qb" "I", .lays R_Mod "GradientCoderModel" "limit" "I", .lays R_Mod "GradientCoderModel" "t1" "I", .lays R_Mod "GradientCoderModel" "t2" "I", .lays R_Mod "GradientCoderModel" "t3" "I", .laysFinal R_Mod "GradientCoderModel" "sample" "[I", .laysFinal R_Mod "GradientCoderModel" "rebuilt" "[I", .laysFinal R_Mod "GradientCoderModel" "contexts" "[I", .lays R_Mod "GradientCoderModel" "runIndex" "I", .laysFinal R_Mod "GradientCoderModel" "code" "[I", .lays R_Mod "GradientCoderModel" "size" "I", .lays R_Mod "GradientCoderModel" "begun" "I", .lays R_Mod "GradientCoderModel" "bits" "I", .lays R_Mod "GradientCoderModel" "reading" "Z"]
def TS_10 : List Cond := [.lays R_Mod "GradientCoderModel" "at" "I", .lays R_Mod "GradientCoderModel" "now" "I", .lays R_Mod "GradientCoderModel" "left" "I", .lays R_Mod "GradientCoderModel" "good" "Z", .laysFinal R_Mod "GradientCoderModel" "oldSample" "[I", .laysFinal R_Mod "GradientCoderModel" "oldRebuilt" "[I", .laysFinal R_Mod "GradientCoderModel" "oldContexts" "[I"]
def TS : List Cond := TS_0 ++ (TS_1 ++ (TS_2 ++ (TS_3 ++ (TS_4 ++ (TS_5 ++ (TS_6 ++ (TS_7 ++ (TS_8 ++ (TS_9 ++ (TS_10))))))))))
theorem TS_0_in : ∀ w ∈ TS_0, w ∈ TS := fun w h => List.mem_append_left _ h
theorem TS_1_in : ∀ w ∈ TS_1, w ∈ TS := fun w h => List.mem_append_right _ (List.mem_append_left _ h)
theorem TS_2_in : ∀ w ∈ TS_2, w ∈ TS := fun w h => List.mem_append_right _ (List.mem_append_right _ (List.mem_append_left _ h))
theorem TS_3_in : ∀ w ∈ TS_3, w ∈ TS := fun w h => List.mem_append_right _ (List.mem_append_right _ (List.mem_append_right _ (List.mem_append_left _ h)))
theorem TS_4_in : ∀ w ∈ TS_4, w ∈ TS := fun w h => List.mem_append_right _ (List.mem_append_right _ (List.mem_append_right _ (List.mem_append_right _ (List.mem_append_left _ h))))
theorem TS_5_in : ∀ w ∈ TS_5, w ∈ TS := fun w h => List.mem_append_right _ (List.mem_append_right _ (List.mem_append_right _ (List.mem_append_right _ (List.mem_append_right _ (List.mem_append_left _ h)))))
theorem TS_6_in : ∀ w ∈ TS_6, w ∈ TS := fun w h => List.mem_append_right _ (List.mem_append_right _ (List.mem_append_right _ (List.mem_append_right _ (List.mem_append_right _ (List.mem_append_right _ (List.mem_append_left _ h))))))
theorem TS_7_in : ∀ w ∈ TS_7, w ∈ TS := fun w h => List.mem_append_right _ (List.mem_append_right _ (List.mem_append_right _ (List.mem_append_right _ (List.mem_append_right _ (List.mem_append_right _ (List.mem_append_right _ (List.mem_append_left _ h)))))))
theorem TS_8_in : ∀ w ∈ TS_8, w ∈ TS := fun w h => List.mem_append_right _ (List.mem_append_right _ (List.mem_append_right _ (List.mem_append_right _ (List.mem_append_right _ (List.mem_append_right _ (List.mem_append_right _ (List.mem_append_right _ (List.mem_append_left _ h))))))))
theorem TS_9_in : ∀ w ∈ TS_9, w ∈ TS := fun w h => List.mem_append_right _ (List.mem_append_right _ (List.mem_append_right _ (List.mem_append_right _ (List.mem_append_right _ (List.mem_append_right _ (List.mem_append_right _ (List.mem_append_right _ (List.mem_append_right _ (List.mem_append_left _ h)))))))))
theorem TS_10_in : ∀ w ∈ TS_10, w ∈ TS := fun w h => List.mem_append_right _ (List.mem_append_right _ (List.mem_append_right _ (List.mem_append_right _ (List.mem_append_right _ (List.mem_append_right _ (List.mem_append_right _ (List.mem_append_right _ (List.mem_append_right _ (List.mem_append_right _ (h))))))))))
theorem m_0 : .fieldLink R_Pic 20 "GradientCoder$Picture" "maxval" "I" ∈ TS := TS_0_in _ (List.mem_of_getElem? (i := 0) rfl)
theorem m_1 : .fieldLink R_Pic 23 "GradientCoder$Picture" "near" "I" ∈ TS := TS_0_in _ (List.mem_of_getElem? (i := 1) rfl)
theorem m_2 : .code y_Pic_clamp b_Pic_clamp 3 (some .int) ∈ TS := TS_0_in _ (List.mem_of_getElem? (i := 2) rfl)
theorem m_3 : .methodLink R_Pic 54 y_Pic_clamp ∈ TS := TS_0_in _ (List.mem_of_getElem? (i := 3) rfl)
theorem m_4 : .instanceMethod y_Pic_clamp ∈ TS := TS_0_in _ (List.mem_of_getElem? (i := 4) rfl)
theorem m_5 : .selects R_Pic y_Pic_clamp y_Pic_clamp ∈ TS := TS_0_in _ (List.mem_of_getElem? (i := 5) rfl)
theorem m_6 : .initialized R_Pic ∈ TS := TS_0_in _ (List.mem_of_getElem? (i := 6) rfl)
theorem m_7 : .fieldLink R_Pic 57 "GradientCoder$Picture" "t1" "I" ∈ TS := TS_0_in _ (List.mem_of_getElem? (i := 7) rfl)
theorem m_8 : .fieldLink R_Pic 60 "GradientCoder$Picture" "t2" "I" ∈ TS := TS_0_in _ (List.mem_of_getElem? (i := 8) rfl)
theorem m_9 : .fieldLink R_Pic 63 "GradientCoder$Picture" "t3" "I" ∈ TS := TS_0_in _ (List.mem_of_getElem? (i := 9) rfl)
theorem m_10 : .methodLink R_Pic 39 Lib.Math.max.name ∈ TS := TS_0_in _ (List.mem_of_getElem? (i := 10) rfl)
theorem m_11 : .static Lib.Math.max.name ∈ TS := TS_0_in _ (List.mem_of_getElem? (i := 11) rfl)
theorem m_12 : .initialized "java/lang/Math" ∈ TS := TS_0_in _ (List.mem_of_getElem? (i := 12) rfl)
theorem m_13 : .code Lib.Math.max.name Lib.Math.max.code 2 (some .int) ∈ TS := TS_0_in _ (List.mem_of_getElem? (i := 13) rfl)
theorem m_14 : .fieldLink R_Pic 13 "GradientCoder$Picture" "width" "I" ∈ TS := TS_0_in _ (List.mem_of_getElem? (i := 14) rfl)
theorem m_15 : .fieldLink R_Pic 17 "GradientCoder$Picture" "height" "I" ∈ TS := TS_0_in _ (List.mem_of_getElem? (i := 15) rfl)
theorem m_16 : .fieldLink R_Pic 26 "GradientCoder$Picture" "step" "I" ∈ TS := TS_0_in _ (List.mem_of_getElem? (i := 16) rfl)
theorem m_17 : .fieldLink R_Pic 29 "GradientCoder$Picture" "range" "I" ∈ TS := TS_0_in _ (List.mem_of_getElem? (i := 17) rfl)
theorem m_18 : .code y_Pic_leastPower b_Pic_leastPower 3 (some .int) ∈ TS := TS_0_in _ (List.mem_of_getElem? (i := 18) rfl)
theorem m_19 : .methodLink R_Pic 32 y_Pic_leastPower ∈ TS := TS_0_in _ (List.mem_of_getElem? (i := 19) rfl)
theorem m_20 : .static y_Pic_leastPower ∈ TS := TS_0_in _ (List.mem_of_getElem? (i := 20) rfl)
theorem m_21 : .fieldLink R_Pic 36 "GradientCoder$Picture" "qb" "I" ∈ TS := TS_0_in _ (List.mem_of_getElem? (i := 21) rfl)
theorem m_22 : .fieldLink R_Pic 44 "GradientCoder$Picture" "limit" "I" ∈ TS := TS_0_in _ (List.mem_of_getElem? (i := 22) rfl)
theorem m_23 : .code y_Pic_becomeCoarse b_Pic_becomeCoarse 2 none ∈ TS := TS_0_in _ (List.mem_of_getElem? (i := 23) rfl)
theorem m_24 : .methodLink R_Pic 51 y_Pic_becomeCoarse ∈ TS := TS_0_in _ (List.mem_of_getElem? (i := 24) rfl)
theorem m_25 : .instanceMethod y_Pic_becomeCoarse ∈ TS := TS_0_in _ (List.mem_of_getElem? (i := 25) rfl)
theorem m_26 : .selects R_Pic y_Pic_becomeCoarse y_Pic_becomeCoarse ∈ TS := TS_0_in _ (List.mem_of_getElem? (i := 26) rfl)
theorem m_27 : .code y_Pic_becomeFine b_Pic_becomeFine 2 none ∈ TS := TS_0_in _ (List.mem_of_getElem? (i := 27) rfl)
theorem m_28 : .methodLink R_Pic 47 y_Pic_becomeFine ∈ TS := TS_0_in _ (List.mem_of_getElem? (i := 28) rfl)
theorem m_29 : .instanceMethod y_Pic_becomeFine ∈ TS := TS_0_in _ (List.mem_of_getElem? (i := 29) rfl)
theorem m_30 : .selects R_Pic y_Pic_becomeFine y_Pic_becomeFine ∈ TS := TS_0_in _ (List.mem_of_getElem? (i := 30) rfl)
theorem m_31 : .methodLink R_Pic 66 Lib.Math.min.name ∈ TS := TS_0_in _ (List.mem_of_getElem? (i := 31) rfl)
theorem m_32 : .static Lib.Math.min.name ∈ TS := TS_0_in _ (List.mem_of_getElem? (i := 32) rfl)
theorem m_33 : .code Lib.Math.min.name Lib.Math.min.code 2 (some .int) ∈ TS := TS_0_in _ (List.mem_of_getElem? (i := 33) rfl)
theorem m_34 : .methodLink R_Fol 7 Lib.Math.abs.name ∈ TS := TS_0_in _ (List.mem_of_getElem? (i := 34) rfl)
theorem m_35 : .static Lib.Math.abs.name ∈ TS := TS_0_in _ (List.mem_of_getElem? (i := 35) rfl)
theorem m_36 : .code Lib.Math.abs.name Lib.Math.abs.code 1 (some .int) ∈ TS := TS_0_in _ (List.mem_of_getElem? (i := 36) rfl)
theorem m_37 : .fieldLink R_Ctx 47 "GradientCoder$Contexts" "J" "[I" ∈ TS := TS_0_in _ (List.mem_of_getElem? (i := 37) rfl)
theorem m_38 : .fieldLink R_Ctx 37 "GradientCoder$Contexts" "runIndex" "I" ∈ TS := TS_0_in _ (List.mem_of_getElem? (i := 38) rfl)
theorem m_39 : .fieldLink R_Ctx 19 "GradientCoder$Contexts" "n" "[I" ∈ TS := TS_0_in _ (List.mem_of_getElem? (i := 39) rfl)
theorem m_40 : .fieldLink R_Ctx 9 "GradientCoder$Contexts" "a" "[I" ∈ TS := TS_0_in _ (List.mem_of_getElem? (i := 40) rfl)
theorem m_41 : .code y_Ctx_leastK b_Ctx_leastK 4 (some .int) ∈ TS := TS_0_in _ (List.mem_of_getElem? (i := 41) rfl)
theorem m_42 : .methodLink R_Ctx 50 y_Ctx_leastK ∈ TS := TS_0_in _ (List.mem_of_getElem? (i := 42) rfl)
theorem m_43 : .instanceMethod y_Ctx_leastK ∈ TS := TS_0_in _ (List.mem_of_getElem? (i := 43) rfl)
theorem m_44 : .selects R_Ctx y_Ctx_leastK y_Ctx_leastK ∈ TS := TS_0_in _ (List.mem_of_getElem? (i := 44) rfl)
theorem m_45 : .initialized R_Ctx ∈ TS := TS_0_in _ (List.mem_of_getElem? (i := 45) rfl)
theorem m_46 : .fieldLink R_Ctx 13 "GradientCoder$Contexts" "b" "[I" ∈ TS := TS_0_in _ (List.mem_of_getElem? (i := 46) rfl)
theorem m_47 : .fieldLink R_Ctx 22 "GradientCoder$Contexts" "m" "[I" ∈ TS := TS_0_in _ (List.mem_of_getElem? (i := 47) rfl)
theorem m_48 : .methodLink R_Ctx 25 Lib.Math.max.name ∈ TS := TS_0_in _ (List.mem_of_getElem? (i := 48) rfl)
theorem m_49 : .fieldLink R_Ctx 16 "GradientCoder$Contexts" "c" "[I" ∈ TS := TS_0_in _ (List.mem_of_getElem? (i := 49) rfl)
theorem m_50 : .methodLink R_Ctx 64 Lib.Math.min.name ∈ TS := TS_0_in _ (List.mem_of_getElem? (i := 50) rfl)
theorem m_51 : .code y_Ctx_correctUp b_Ctx_correctUp 2 none ∈ TS := TS_0_in _ (List.mem_of_getElem? (i := 51) rfl)
theorem m_52 : .methodLink R_Ctx 61 y_Ctx_correctUp ∈ TS := TS_0_in _ (List.mem_of_getElem? (i := 52) rfl)
theorem m_53 : .instanceMethod y_Ctx_correctUp ∈ TS := TS_0_in _ (List.mem_of_getElem? (i := 53) rfl)
theorem m_54 : .selects R_Ctx y_Ctx_correctUp y_Ctx_correctUp ∈ TS := TS_0_in _ (List.mem_of_getElem? (i := 54) rfl)
theorem m_55 : .code y_Ctx_correctDown b_Ctx_correctDown 2 none ∈ TS := TS_0_in _ (List.mem_of_getElem? (i := 55) rfl)
theorem m_56 : .methodLink R_Ctx 57 y_Ctx_correctDown ∈ TS := TS_0_in _ (List.mem_of_getElem? (i := 56) rfl)
theorem m_57 : .instanceMethod y_Ctx_correctDown ∈ TS := TS_0_in _ (List.mem_of_getElem? (i := 57) rfl)
theorem m_58 : .selects R_Ctx y_Ctx_correctDown y_Ctx_correctDown ∈ TS := TS_0_in _ (List.mem_of_getElem? (i := 58) rfl)
theorem m_59 : .methodLink R_Ctx 53 Lib.Math.abs.name ∈ TS := TS_0_in _ (List.mem_of_getElem? (i := 59) rfl)
theorem m_60 : .code y_Arrs_fill_102 b_Arrs_fill_102 4 none ∈ TS := TS_1_in _ (List.mem_of_getElem? (i := 0) rfl)
theorem m_61 : .methodLink R_Ctx 31 y_Arrs_fill_102 ∈ TS := TS_1_in _ (List.mem_of_getElem? (i := 1) rfl)
theorem m_62 : .static y_Arrs_fill_102 ∈ TS := TS_1_in _ (List.mem_of_getElem? (i := 2) rfl)
theorem m_63 : .initialized R_Arrs ∈ TS := TS_1_in _ (List.mem_of_getElem? (i := 3) rfl)
theorem m_64 : .methodLink R_Ctx 41 arraycopyName ∈ TS := TS_1_in _ (List.mem_of_getElem? (i := 4) rfl)
theorem m_65 : .native arraycopyName ∈ TS := TS_1_in _ (List.mem_of_getElem? (i := 5) rfl)
theorem m_66 : .static arraycopyName ∈ TS := TS_1_in _ (List.mem_of_getElem? (i := 6) rfl)
theorem m_67 : .initialized "java/lang/System" ∈ TS := TS_1_in _ (List.mem_of_getElem? (i := 7) rfl)
theorem m_68 : .fieldLink R_Wri 13 "GradientCoder$Writer" "size" "I" ∈ TS := TS_1_in _ (List.mem_of_getElem? (i := 8) rfl)
theorem m_69 : .fieldLink R_Wri 17 "GradientCoder$Writer" "bitsFree" "I" ∈ TS := TS_1_in _ (List.mem_of_getElem? (i := 9) rfl)
theorem m_70 : .fieldLink R_Wri 9 "GradientCoder$Writer" "bytes" "[I" ∈ TS := TS_1_in _ (List.mem_of_getElem? (i := 10) rfl)
theorem m_71 : .code y_Wri_writeByte b_Wri_writeByte 2 none ∈ TS := TS_1_in _ (List.mem_of_getElem? (i := 11) rfl)
theorem m_72 : .methodLink R_Wri 24 y_Wri_writeByte ∈ TS := TS_1_in _ (List.mem_of_getElem? (i := 12) rfl)
theorem m_73 : .instanceMethod y_Wri_writeByte ∈ TS := TS_1_in _ (List.mem_of_getElem? (i := 13) rfl)
theorem m_74 : .selects R_Wri y_Wri_writeByte y_Wri_writeByte ∈ TS := TS_1_in _ (List.mem_of_getElem? (i := 14) rfl)
theorem m_75 : .initialized R_Wri ∈ TS := TS_1_in _ (List.mem_of_getElem? (i := 15) rfl)
theorem m_76 : .code y_Wri_endsWith255 b_Wri_endsWith255 1 (some .boolean) ∈ TS := TS_1_in _ (List.mem_of_getElem? (i := 16) rfl)
theorem m_77 : .methodLink R_Wri 20 y_Wri_endsWith255 ∈ TS := TS_1_in _ (List.mem_of_getElem? (i := 17) rfl)
theorem m_78 : .instanceMethod y_Wri_endsWith255 ∈ TS := TS_1_in _ (List.mem_of_getElem? (i := 18) rfl)
theorem m_79 : .selects R_Wri y_Wri_endsWith255 y_Wri_endsWith255 ∈ TS := TS_1_in _ (List.mem_of_getElem? (i := 19) rfl)
theorem m_80 : .code y_Wri_writeBits b_Wri_writeBits 4 none ∈ TS := TS_1_in _ (List.mem_of_getElem? (i := 20) rfl)
theorem m_81 : .methodLink R_Wri 28 y_Wri_writeBits ∈ TS := TS_1_in _ (List.mem_of_getElem? (i := 21) rfl)
theorem m_82 : .instanceMethod y_Wri_writeBits ∈ TS := TS_1_in _ (List.mem_of_getElem? (i := 22) rfl)
theorem m_83 : .selects R_Wri y_Wri_writeBits y_Wri_writeBits ∈ TS := TS_1_in _ (List.mem_of_getElem? (i := 23) rfl)
theorem m_84 : .fieldLink R_Pas 23 "GradientCoder$Pass" "rebuilt" "[I" ∈ TS := TS_1_in _ (List.mem_of_getElem? (i := 24) rfl)
theorem m_85 : .code y_Pic_place b_Pic_place 2 (some .int) ∈ TS := TS_1_in _ (List.mem_of_getElem? (i := 25) rfl)
theorem m_86 : .methodLink R_Pas 41 y_Pic_place ∈ TS := TS_1_in _ (List.mem_of_getElem? (i := 26) rfl)
theorem m_87 : .static y_Pic_place ∈ TS := TS_1_in _ (List.mem_of_getElem? (i := 27) rfl)
theorem m_88 : .fieldLink R_Pas 74 "GradientCoder$Pass" "d" "I" ∈ TS := TS_1_in _ (List.mem_of_getElem? (i := 28) rfl)
theorem m_89 : .fieldLink R_Pas 71 "GradientCoder$Pass" "c" "I" ∈ TS := TS_1_in _ (List.mem_of_getElem? (i := 29) rfl)
theorem m_90 : .fieldLink R_Pas 10 "GradientCoder$Pass" "picture" "LGradientCoder$Picture;" ∈ TS := TS_1_in _ (List.mem_of_getElem? (i := 30) rfl)
theorem m_91 : .fieldLink R_Pas 38 "GradientCoder$Picture" "width" "I" ∈ TS := TS_1_in _ (List.mem_of_getElem? (i := 31) rfl)
theorem m_92 : .fieldLink R_Pas 68 "GradientCoder$Pass" "b" "I" ∈ TS := TS_1_in _ (List.mem_of_getElem? (i := 32) rfl)
theorem m_93 : .code y_Pas_rebuiltOrNothing b_Pas_rebuiltOrNothing 3 (some .int) ∈ TS := TS_1_in _ (List.mem_of_getElem? (i := 33) rfl)
theorem m_94 : .methodLink R_Pas 65 y_Pas_rebuiltOrNothing ∈ TS := TS_1_in _ (List.mem_of_getElem? (i := 34) rfl)
theorem m_95 : .sameMethod R_Pas R_Pas "rebuiltOrNothing" "(II)I" ∈ TS := TS_1_in _ (List.mem_of_getElem? (i := 35) rfl)
theorem m_96 : .selects R_Cod y_Pas_rebuiltOrNothing y_Pas_rebuiltOrNothing ∈ TS := TS_1_in _ (List.mem_of_getElem? (i := 36) rfl)
theorem m_97 : .instanceMethod y_Pas_rebuiltOrNothing ∈ TS := TS_1_in _ (List.mem_of_getElem? (i := 37) rfl)
theorem m_98 : .initialized R_Pas ∈ TS := TS_1_in _ (List.mem_of_getElem? (i := 38) rfl)
theorem m_99 : .fieldLink R_Pas 59 "GradientCoder$Pass" "a" "I" ∈ TS := TS_1_in _ (List.mem_of_getElem? (i := 39) rfl)
theorem m_100 : .code y_Pic_isNear b_Pic_isNear 2 (some .boolean) ∈ TS := TS_1_in _ (List.mem_of_getElem? (i := 40) rfl)
theorem m_101 : .methodLink R_Pas 77 y_Pic_isNear ∈ TS := TS_1_in _ (List.mem_of_getElem? (i := 41) rfl)
theorem m_102 : .instanceMethod y_Pic_isNear ∈ TS := TS_1_in _ (List.mem_of_getElem? (i := 42) rfl)
theorem m_103 : .selects R_Pic y_Pic_isNear y_Pic_isNear ∈ TS := TS_1_in _ (List.mem_of_getElem? (i := 43) rfl)
theorem m_104 : .code y_Pic_level b_Pic_level 2 (some .int) ∈ TS := TS_1_in _ (List.mem_of_getElem? (i := 44) rfl)
theorem m_105 : .methodLink R_Pas 125 y_Pic_level ∈ TS := TS_1_in _ (List.mem_of_getElem? (i := 45) rfl)
theorem m_106 : .instanceMethod y_Pic_level ∈ TS := TS_1_in _ (List.mem_of_getElem? (i := 46) rfl)
theorem m_107 : .selects R_Pic y_Pic_level y_Pic_level ∈ TS := TS_1_in _ (List.mem_of_getElem? (i := 47) rfl)
theorem m_108 : .methodLink R_Pas 128 Lib.Math.min.name ∈ TS := TS_1_in _ (List.mem_of_getElem? (i := 48) rfl)
theorem m_109 : .methodLink R_Pas 131 Lib.Math.max.name ∈ TS := TS_1_in _ (List.mem_of_getElem? (i := 49) rfl)
theorem m_110 : .fieldLink R_Pas 155 "GradientCoder$Picture" "limit" "I" ∈ TS := TS_1_in _ (List.mem_of_getElem? (i := 50) rfl)
theorem m_111 : .fieldLink R_Pas 19 "GradientCoder$Pass" "contexts" "LGradientCoder$Contexts;" ∈ TS := TS_1_in _ (List.mem_of_getElem? (i := 51) rfl)
theorem m_112 : .code y_Ctx_j b_Ctx_j 1 (some .int) ∈ TS := TS_1_in _ (List.mem_of_getElem? (i := 52) rfl)
theorem m_113 : .methodLink R_Pas 158 y_Ctx_j ∈ TS := TS_1_in _ (List.mem_of_getElem? (i := 53) rfl)
theorem m_114 : .instanceMethod y_Ctx_j ∈ TS := TS_1_in _ (List.mem_of_getElem? (i := 54) rfl)
theorem m_115 : .selects R_Ctx y_Ctx_j y_Ctx_j ∈ TS := TS_1_in _ (List.mem_of_getElem? (i := 55) rfl)
theorem m_116 : .fieldLink R_Cod 26 "GradientCoder$Coding" "picture" "LGradientCoder$Picture;" ∈ TS := TS_1_in _ (List.mem_of_getElem? (i := 56) rfl)
theorem m_117 : .sameField "GradientCoder$Coding" "GradientCoder$Pass" "picture" "LGradientCoder$Picture;" ∈ TS := TS_1_in _ (List.mem_of_getElem? (i := 57) rfl)
theorem m_118 : .fieldLink R_Cod 140 "GradientCoder$Coding" "sign" "I" ∈ TS := TS_1_in _ (List.mem_of_getElem? (i := 58) rfl)
theorem m_119 : .sameField "GradientCoder$Coding" "GradientCoder$Pass" "sign" "I" ∈ TS := TS_1_in _ (List.mem_of_getElem? (i := 59) rfl)
theorem m_120 : .fieldLink R_Cod 9 "GradientCoder$Coding" "samples" "[I" ∈ TS := TS_2_in _ (List.mem_of_getElem? (i := 0) rfl)
theorem m_121 : .fieldLink R_Cod 143 "GradientCoder$Coding" "foretold" "I" ∈ TS := TS_2_in _ (List.mem_of_getElem? (i := 1) rfl)
theorem m_122 : .sameField "GradientCoder$Coding" "GradientCoder$Pass" "foretold" "I" ∈ TS := TS_2_in _ (List.mem_of_getElem? (i := 2) rfl)
theorem m_123 : .code y_Pic_divided b_Pic_divided 2 (some .int) ∈ TS := TS_2_in _ (List.mem_of_getElem? (i := 3) rfl)
theorem m_124 : .methodLink R_Cod 146 y_Pic_divided ∈ TS := TS_2_in _ (List.mem_of_getElem? (i := 4) rfl)
theorem m_125 : .instanceMethod y_Pic_divided ∈ TS := TS_2_in _ (List.mem_of_getElem? (i := 5) rfl)
theorem m_126 : .selects R_Pic y_Pic_divided y_Pic_divided ∈ TS := TS_2_in _ (List.mem_of_getElem? (i := 6) rfl)
theorem m_127 : .fieldLink R_Cod 50 "GradientCoder$Coding" "rebuilt" "[I" ∈ TS := TS_2_in _ (List.mem_of_getElem? (i := 7) rfl)
theorem m_128 : .sameField "GradientCoder$Coding" "GradientCoder$Pass" "rebuilt" "[I" ∈ TS := TS_2_in _ (List.mem_of_getElem? (i := 8) rfl)
theorem m_129 : .fieldLink R_Cod 149 "GradientCoder$Picture" "step" "I" ∈ TS := TS_2_in _ (List.mem_of_getElem? (i := 9) rfl)
theorem m_130 : .code y_Pic_bounded b_Pic_bounded 2 (some .int) ∈ TS := TS_2_in _ (List.mem_of_getElem? (i := 10) rfl)
theorem m_131 : .methodLink R_Cod 152 y_Pic_bounded ∈ TS := TS_2_in _ (List.mem_of_getElem? (i := 11) rfl)
theorem m_132 : .instanceMethod y_Pic_bounded ∈ TS := TS_2_in _ (List.mem_of_getElem? (i := 12) rfl)
theorem m_133 : .selects R_Pic y_Pic_bounded y_Pic_bounded ∈ TS := TS_2_in _ (List.mem_of_getElem? (i := 13) rfl)
theorem m_134 : .code y_Pic_reduced b_Pic_reduced 3 (some .int) ∈ TS := TS_2_in _ (List.mem_of_getElem? (i := 14) rfl)
theorem m_135 : .methodLink R_Cod 155 y_Pic_reduced ∈ TS := TS_2_in _ (List.mem_of_getElem? (i := 15) rfl)
theorem m_136 : .instanceMethod y_Pic_reduced ∈ TS := TS_2_in _ (List.mem_of_getElem? (i := 16) rfl)
theorem m_137 : .selects R_Pic y_Pic_reduced y_Pic_reduced ∈ TS := TS_2_in _ (List.mem_of_getElem? (i := 17) rfl)
theorem m_138 : .fieldLink R_Cod 22 "GradientCoder$Coding" "contexts" "LGradientCoder$Contexts;" ∈ TS := TS_2_in _ (List.mem_of_getElem? (i := 18) rfl)
theorem m_139 : .sameField "GradientCoder$Coding" "GradientCoder$Pass" "contexts" "LGradientCoder$Contexts;" ∈ TS := TS_2_in _ (List.mem_of_getElem? (i := 19) rfl)
theorem m_140 : .methodLink R_Cod 103 y_Ctx_j ∈ TS := TS_2_in _ (List.mem_of_getElem? (i := 20) rfl)
theorem m_141 : .fieldLink R_Cod 18 "GradientCoder$Coding" "writer" "LGradientCoder$Writer;" ∈ TS := TS_2_in _ (List.mem_of_getElem? (i := 21) rfl)
theorem m_142 : .methodLink R_Cod 107 y_Wri_writeBits ∈ TS := TS_2_in _ (List.mem_of_getElem? (i := 22) rfl)
theorem m_143 : .code y_Ctx_raiseRunIndex b_Ctx_raiseRunIndex 1 none ∈ TS := TS_2_in _ (List.mem_of_getElem? (i := 23) rfl)
theorem m_144 : .methodLink R_Cod 111 y_Ctx_raiseRunIndex ∈ TS := TS_2_in _ (List.mem_of_getElem? (i := 24) rfl)
theorem m_145 : .instanceMethod y_Ctx_raiseRunIndex ∈ TS := TS_2_in _ (List.mem_of_getElem? (i := 25) rfl)
theorem m_146 : .selects R_Ctx y_Ctx_raiseRunIndex y_Ctx_raiseRunIndex ∈ TS := TS_2_in _ (List.mem_of_getElem? (i := 26) rfl)
theorem m_147 : .fieldLink R_Cod 96 "GradientCoder$Coding" "a" "I" ∈ TS := TS_2_in _ (List.mem_of_getElem? (i := 27) rfl)
theorem m_148 : .sameField "GradientCoder$Coding" "GradientCoder$Pass" "a" "I" ∈ TS := TS_2_in _ (List.mem_of_getElem? (i := 28) rfl)
theorem m_149 : .methodLink R_Cod 99 y_Pic_isNear ∈ TS := TS_2_in _ (List.mem_of_getElem? (i := 29) rfl)
theorem m_150 : .code y_Cod_takeError b_Cod_takeError 3 (some .int) ∈ TS := TS_2_in _ (List.mem_of_getElem? (i := 30) rfl)
theorem m_151 : .methodLink R_Cod 114 y_Cod_takeError ∈ TS := TS_2_in _ (List.mem_of_getElem? (i := 31) rfl)
theorem m_152 : .instanceMethod y_Cod_takeError ∈ TS := TS_2_in _ (List.mem_of_getElem? (i := 32) rfl)
theorem m_153 : .selects R_Cod y_Cod_takeError y_Cod_takeError ∈ TS := TS_2_in _ (List.mem_of_getElem? (i := 33) rfl)
theorem m_154 : .initialized R_Cod ∈ TS := TS_2_in _ (List.mem_of_getElem? (i := 34) rfl)
theorem m_155 : .code y_Fol_foldRegular b_Fol_foldRegular 2 (some .int) ∈ TS := TS_2_in _ (List.mem_of_getElem? (i := 35) rfl)
theorem m_156 : .methodLink R_Cod 118 y_Fol_foldRegular ∈ TS := TS_2_in _ (List.mem_of_getElem? (i := 36) rfl)
theorem m_157 : .static y_Fol_foldRegular ∈ TS := TS_2_in _ (List.mem_of_getElem? (i := 37) rfl)
theorem m_158 : .initialized R_Fol ∈ TS := TS_2_in _ (List.mem_of_getElem? (i := 38) rfl)
theorem m_159 : .fieldLink R_Cod 124 "GradientCoder$Picture" "limit" "I" ∈ TS := TS_2_in _ (List.mem_of_getElem? (i := 39) rfl)
theorem m_160 : .fieldLink R_Cod 127 "GradientCoder$Picture" "qb" "I" ∈ TS := TS_2_in _ (List.mem_of_getElem? (i := 40) rfl)
theorem m_161 : .code y_Wri_writeNumber b_Wri_writeNumber 6 none ∈ TS := TS_2_in _ (List.mem_of_getElem? (i := 41) rfl)
theorem m_162 : .methodLink R_Cod 130 y_Wri_writeNumber ∈ TS := TS_2_in _ (List.mem_of_getElem? (i := 42) rfl)
theorem m_163 : .instanceMethod y_Wri_writeNumber ∈ TS := TS_2_in _ (List.mem_of_getElem? (i := 43) rfl)
theorem m_164 : .selects R_Wri y_Wri_writeNumber y_Wri_writeNumber ∈ TS := TS_2_in _ (List.mem_of_getElem? (i := 44) rfl)
theorem m_165 : .code y_Fol_foldEnd b_Fol_foldEnd 4 (some .int) ∈ TS := TS_2_in _ (List.mem_of_getElem? (i := 45) rfl)
theorem m_166 : .methodLink R_Cod 133 y_Fol_foldEnd ∈ TS := TS_2_in _ (List.mem_of_getElem? (i := 46) rfl)
theorem m_167 : .static y_Fol_foldEnd ∈ TS := TS_2_in _ (List.mem_of_getElem? (i := 47) rfl)
theorem m_168 : .code y_Pas_limitOfEnd b_Pas_limitOfEnd 1 (some .int) ∈ TS := TS_2_in _ (List.mem_of_getElem? (i := 48) rfl)
theorem m_169 : .methodLink R_Cod 137 y_Cod_limitOfEnd ∈ TS := TS_2_in _ (List.mem_of_getElem? (i := 49) rfl)
theorem m_170 : .sameMethod R_Cod R_Pas "limitOfEnd" "()I" ∈ TS := TS_2_in _ (List.mem_of_getElem? (i := 50) rfl)
theorem m_171 : .selects R_Cod y_Cod_limitOfEnd y_Pas_limitOfEnd ∈ TS := TS_2_in _ (List.mem_of_getElem? (i := 51) rfl)
theorem m_172 : .instanceMethod y_Pas_limitOfEnd ∈ TS := TS_2_in _ (List.mem_of_getElem? (i := 52) rfl)
theorem m_173 : .code y_Cod_carryRegular b_Cod_carryRegular 5 (some .int) ∈ TS := TS_2_in _ (List.mem_of_getElem? (i := 53) rfl)
theorem m_174 : .methodLink R_Pas 114 y_Pas_carryRegular ∈ TS := TS_2_in _ (List.mem_of_getElem? (i := 54) rfl)
theorem m_175 : .sameMethod R_Pas R_Pas "carryRegular" "(IIZ)I" ∈ TS := TS_2_in _ (List.mem_of_getElem? (i := 55) rfl)
theorem m_176 : .selects R_Cod y_Pas_carryRegular y_Cod_carryRegular ∈ TS := TS_2_in _ (List.mem_of_getElem? (i := 56) rfl)
theorem m_177 : .instanceMethod y_Cod_carryRegular ∈ TS := TS_2_in _ (List.mem_of_getElem? (i := 57) rfl)
theorem m_178 : .fieldLink R_Pas 118 "GradientCoder$Picture" "step" "I" ∈ TS := TS_2_in _ (List.mem_of_getElem? (i := 58) rfl)
theorem m_179 : .code y_Ctx_learnRegular b_Ctx_learnRegular 4 none ∈ TS := TS_2_in _ (List.mem_of_getElem? (i := 59) rfl)
theorem m_180 : .methodLink R_Pas 121 y_Ctx_learnRegular ∈ TS := TS_3_in _ (List.mem_of_getElem? (i := 0) rfl)
theorem m_181 : .instanceMethod y_Ctx_learnRegular ∈ TS := TS_3_in _ (List.mem_of_getElem? (i := 1) rfl)
theorem m_182 : .selects R_Ctx y_Ctx_learnRegular y_Ctx_learnRegular ∈ TS := TS_3_in _ (List.mem_of_getElem? (i := 2) rfl)
theorem m_183 : .fieldLink R_Pas 85 "GradientCoder$Pass" "sign" "I" ∈ TS := TS_3_in _ (List.mem_of_getElem? (i := 3) rfl)
theorem m_184 : .methodLink R_Pas 88 Lib.Math.abs.name ∈ TS := TS_3_in _ (List.mem_of_getElem? (i := 4) rfl)
theorem m_185 : .code y_Pas_foretoldByNeighbours b_Pas_foretoldByNeighbours 3 (some .int) ∈ TS := TS_3_in _ (List.mem_of_getElem? (i := 5) rfl)
theorem m_186 : .methodLink R_Pas 94 y_Pas_foretoldByNeighbours ∈ TS := TS_3_in _ (List.mem_of_getElem? (i := 6) rfl)
theorem m_187 : .sameMethod R_Pas R_Pas "foretoldByNeighbours" "()I" ∈ TS := TS_3_in _ (List.mem_of_getElem? (i := 7) rfl)
theorem m_188 : .selects R_Cod y_Pas_foretoldByNeighbours y_Pas_foretoldByNeighbours ∈ TS := TS_3_in _ (List.mem_of_getElem? (i := 8) rfl)
theorem m_189 : .instanceMethod y_Pas_foretoldByNeighbours ∈ TS := TS_3_in _ (List.mem_of_getElem? (i := 9) rfl)
theorem m_190 : .fieldLink R_Pas 97 "GradientCoder$Contexts" "c" "[I" ∈ TS := TS_3_in _ (List.mem_of_getElem? (i := 10) rfl)
theorem m_191 : .methodLink R_Pas 99 y_Pic_bounded ∈ TS := TS_3_in _ (List.mem_of_getElem? (i := 11) rfl)
theorem m_192 : .fieldLink R_Pas 102 "GradientCoder$Pass" "foretold" "I" ∈ TS := TS_3_in _ (List.mem_of_getElem? (i := 12) rfl)
theorem m_193 : .code y_Ctx_kOfRegular b_Ctx_kOfRegular 2 (some .int) ∈ TS := TS_3_in _ (List.mem_of_getElem? (i := 13) rfl)
theorem m_194 : .methodLink R_Pas 105 y_Ctx_kOfRegular ∈ TS := TS_3_in _ (List.mem_of_getElem? (i := 14) rfl)
theorem m_195 : .instanceMethod y_Ctx_kOfRegular ∈ TS := TS_3_in _ (List.mem_of_getElem? (i := 15) rfl)
theorem m_196 : .selects R_Ctx y_Ctx_kOfRegular y_Ctx_kOfRegular ∈ TS := TS_3_in _ (List.mem_of_getElem? (i := 16) rfl)
theorem m_197 : .fieldLink R_Pas 108 "GradientCoder$Picture" "near" "I" ∈ TS := TS_3_in _ (List.mem_of_getElem? (i := 17) rfl)
theorem m_198 : .code y_Ctx_leansDown b_Ctx_leansDown 2 (some .boolean) ∈ TS := TS_3_in _ (List.mem_of_getElem? (i := 18) rfl)
theorem m_199 : .methodLink R_Pas 111 y_Ctx_leansDown ∈ TS := TS_3_in _ (List.mem_of_getElem? (i := 19) rfl)
theorem m_200 : .instanceMethod y_Ctx_leansDown ∈ TS := TS_3_in _ (List.mem_of_getElem? (i := 20) rfl)
theorem m_201 : .selects R_Ctx y_Ctx_leansDown y_Ctx_leansDown ∈ TS := TS_3_in _ (List.mem_of_getElem? (i := 21) rfl)
theorem m_202 : .code y_Pas_signedContext b_Pas_signedContext 1 (some .int) ∈ TS := TS_3_in _ (List.mem_of_getElem? (i := 22) rfl)
theorem m_203 : .methodLink R_Pas 81 y_Pas_signedContext ∈ TS := TS_3_in _ (List.mem_of_getElem? (i := 23) rfl)
theorem m_204 : .sameMethod R_Pas R_Pas "signedContext" "()I" ∈ TS := TS_3_in _ (List.mem_of_getElem? (i := 24) rfl)
theorem m_205 : .selects R_Cod y_Pas_signedContext y_Pas_signedContext ∈ TS := TS_3_in _ (List.mem_of_getElem? (i := 25) rfl)
theorem m_206 : .instanceMethod y_Pas_signedContext ∈ TS := TS_3_in _ (List.mem_of_getElem? (i := 26) rfl)
theorem m_207 : .code y_Cod_carryEnd b_Cod_carryEnd 6 (some .int) ∈ TS := TS_3_in _ (List.mem_of_getElem? (i := 27) rfl)
theorem m_208 : .methodLink R_Pas 140 y_Pas_carryEnd ∈ TS := TS_3_in _ (List.mem_of_getElem? (i := 28) rfl)
theorem m_209 : .sameMethod R_Pas R_Pas "carryEnd" "(IIIZ)I" ∈ TS := TS_3_in _ (List.mem_of_getElem? (i := 29) rfl)
theorem m_210 : .selects R_Cod y_Pas_carryEnd y_Cod_carryEnd ∈ TS := TS_3_in _ (List.mem_of_getElem? (i := 30) rfl)
theorem m_211 : .instanceMethod y_Cod_carryEnd ∈ TS := TS_3_in _ (List.mem_of_getElem? (i := 31) rfl)
theorem m_212 : .methodLink R_Pas 144 y_Fol_foldEnd ∈ TS := TS_3_in _ (List.mem_of_getElem? (i := 32) rfl)
theorem m_213 : .code y_Ctx_learnEnd b_Ctx_learnEnd 4 none ∈ TS := TS_3_in _ (List.mem_of_getElem? (i := 33) rfl)
theorem m_214 : .methodLink R_Pas 149 y_Ctx_learnEnd ∈ TS := TS_3_in _ (List.mem_of_getElem? (i := 34) rfl)
theorem m_215 : .instanceMethod y_Ctx_learnEnd ∈ TS := TS_3_in _ (List.mem_of_getElem? (i := 35) rfl)
theorem m_216 : .selects R_Ctx y_Ctx_learnEnd y_Ctx_learnEnd ∈ TS := TS_3_in _ (List.mem_of_getElem? (i := 36) rfl)
theorem m_217 : .code y_Ctx_lowerRunIndex b_Ctx_lowerRunIndex 1 none ∈ TS := TS_3_in _ (List.mem_of_getElem? (i := 37) rfl)
theorem m_218 : .methodLink R_Pas 152 y_Ctx_lowerRunIndex ∈ TS := TS_3_in _ (List.mem_of_getElem? (i := 38) rfl)
theorem m_219 : .instanceMethod y_Ctx_lowerRunIndex ∈ TS := TS_3_in _ (List.mem_of_getElem? (i := 39) rfl)
theorem m_220 : .selects R_Ctx y_Ctx_lowerRunIndex y_Ctx_lowerRunIndex ∈ TS := TS_3_in _ (List.mem_of_getElem? (i := 40) rfl)
theorem m_221 : .code y_Ctx_kOfEnd b_Ctx_kOfEnd 2 (some .int) ∈ TS := TS_3_in _ (List.mem_of_getElem? (i := 41) rfl)
theorem m_222 : .methodLink R_Pas 134 y_Ctx_kOfEnd ∈ TS := TS_3_in _ (List.mem_of_getElem? (i := 42) rfl)
theorem m_223 : .instanceMethod y_Ctx_kOfEnd ∈ TS := TS_3_in _ (List.mem_of_getElem? (i := 43) rfl)
theorem m_224 : .selects R_Ctx y_Ctx_kOfEnd y_Ctx_kOfEnd ∈ TS := TS_3_in _ (List.mem_of_getElem? (i := 44) rfl)
theorem m_225 : .code y_Ctx_isMostlyBelow b_Ctx_isMostlyBelow 2 (some .boolean) ∈ TS := TS_3_in _ (List.mem_of_getElem? (i := 45) rfl)
theorem m_226 : .methodLink R_Pas 137 y_Ctx_isMostlyBelow ∈ TS := TS_3_in _ (List.mem_of_getElem? (i := 46) rfl)
theorem m_227 : .instanceMethod y_Ctx_isMostlyBelow ∈ TS := TS_3_in _ (List.mem_of_getElem? (i := 47) rfl)
theorem m_228 : .selects R_Ctx y_Ctx_isMostlyBelow y_Ctx_isMostlyBelow ∈ TS := TS_3_in _ (List.mem_of_getElem? (i := 48) rfl)
theorem m_229 : .code y_Pas_overEnd b_Pas_overEnd 7 none ∈ TS := TS_3_in _ (List.mem_of_getElem? (i := 49) rfl)
theorem m_230 : .methodLink R_Pas 62 y_Pas_overEnd ∈ TS := TS_3_in _ (List.mem_of_getElem? (i := 50) rfl)
theorem m_231 : .sameMethod R_Pas R_Pas "overEnd" "(I)V" ∈ TS := TS_3_in _ (List.mem_of_getElem? (i := 51) rfl)
theorem m_232 : .selects R_Cod y_Pas_overEnd y_Pas_overEnd ∈ TS := TS_3_in _ (List.mem_of_getElem? (i := 52) rfl)
theorem m_233 : .instanceMethod y_Pas_overEnd ∈ TS := TS_3_in _ (List.mem_of_getElem? (i := 53) rfl)
theorem m_234 : .code y_Pas_overRegular b_Pas_overRegular 7 none ∈ TS := TS_3_in _ (List.mem_of_getElem? (i := 54) rfl)
theorem m_235 : .methodLink R_Pas 56 y_Pas_overRegular ∈ TS := TS_3_in _ (List.mem_of_getElem? (i := 55) rfl)
theorem m_236 : .sameMethod R_Pas R_Pas "overRegular" "(I)V" ∈ TS := TS_3_in _ (List.mem_of_getElem? (i := 56) rfl)
theorem m_237 : .selects R_Cod y_Pas_overRegular y_Pas_overRegular ∈ TS := TS_3_in _ (List.mem_of_getElem? (i := 57) rfl)
theorem m_238 : .instanceMethod y_Pas_overRegular ∈ TS := TS_3_in _ (List.mem_of_getElem? (i := 58) rfl)
theorem m_239 : .code y_Pas_lookAround b_Pas_lookAround 3 none ∈ TS := TS_3_in _ (List.mem_of_getElem? (i := 59) rfl)
theorem m_240 : .methodLink R_Pas 45 y_Pas_lookAround ∈ TS := TS_4_in _ (List.mem_of_getElem? (i := 0) rfl)
theorem m_241 : .sameMethod R_Pas R_Pas "lookAround" "(II)V" ∈ TS := TS_4_in _ (List.mem_of_getElem? (i := 1) rfl)
theorem m_242 : .selects R_Cod y_Pas_lookAround y_Pas_lookAround ∈ TS := TS_4_in _ (List.mem_of_getElem? (i := 2) rfl)
theorem m_243 : .instanceMethod y_Pas_lookAround ∈ TS := TS_4_in _ (List.mem_of_getElem? (i := 3) rfl)
theorem m_244 : .code y_Pas_isEven b_Pas_isEven 1 (some .boolean) ∈ TS := TS_4_in _ (List.mem_of_getElem? (i := 4) rfl)
theorem m_245 : .methodLink R_Pas 49 y_Pas_isEven ∈ TS := TS_4_in _ (List.mem_of_getElem? (i := 5) rfl)
theorem m_246 : .sameMethod R_Pas R_Pas "isEven" "()Z" ∈ TS := TS_4_in _ (List.mem_of_getElem? (i := 6) rfl)
theorem m_247 : .selects R_Cod y_Pas_isEven y_Pas_isEven ∈ TS := TS_4_in _ (List.mem_of_getElem? (i := 7) rfl)
theorem m_248 : .instanceMethod y_Pas_isEven ∈ TS := TS_4_in _ (List.mem_of_getElem? (i := 8) rfl)
theorem m_249 : .code y_Cod_carryRun b_Cod_carryRun 5 (some .int) ∈ TS := TS_4_in _ (List.mem_of_getElem? (i := 9) rfl)
theorem m_250 : .methodLink R_Pas 53 y_Pas_carryRun ∈ TS := TS_4_in _ (List.mem_of_getElem? (i := 10) rfl)
theorem m_251 : .sameMethod R_Pas R_Pas "carryRun" "(II)I" ∈ TS := TS_4_in _ (List.mem_of_getElem? (i := 11) rfl)
theorem m_252 : .selects R_Cod y_Pas_carryRun y_Cod_carryRun ∈ TS := TS_4_in _ (List.mem_of_getElem? (i := 12) rfl)
theorem m_253 : .instanceMethod y_Cod_carryRun ∈ TS := TS_4_in _ (List.mem_of_getElem? (i := 13) rfl)
theorem m_254 : .fieldLink R_Pas 35 "GradientCoder$Picture" "height" "I" ∈ TS := TS_4_in _ (List.mem_of_getElem? (i := 14) rfl)
theorem m_255 : .fieldLink R_Pas 27 "GradientCoder$Picture" "range" "I" ∈ TS := TS_4_in _ (List.mem_of_getElem? (i := 15) rfl)
theorem m_256 : .code y_Ctx_restart b_Ctx_restart 2 none ∈ TS := TS_4_in _ (List.mem_of_getElem? (i := 16) rfl)
theorem m_257 : .methodLink R_Pas 31 y_Ctx_restart ∈ TS := TS_4_in _ (List.mem_of_getElem? (i := 17) rfl)
theorem m_258 : .instanceMethod y_Ctx_restart ∈ TS := TS_4_in _ (List.mem_of_getElem? (i := 18) rfl)
theorem m_259 : .selects R_Ctx y_Ctx_restart y_Ctx_restart ∈ TS := TS_4_in _ (List.mem_of_getElem? (i := 19) rfl)
theorem m_260 : .fieldLink R_Cod 56 "GradientCoder$Picture" "width" "I" ∈ TS := TS_4_in _ (List.mem_of_getElem? (i := 20) rfl)
theorem m_261 : .methodLink R_Cod 66 y_Pic_place ∈ TS := TS_4_in _ (List.mem_of_getElem? (i := 21) rfl)
theorem m_262 : .code y_Cod_sampleIn b_Cod_sampleIn 3 (some .int) ∈ TS := TS_4_in _ (List.mem_of_getElem? (i := 22) rfl)
theorem m_263 : .methodLink R_Cod 59 y_Cod_sampleIn ∈ TS := TS_4_in _ (List.mem_of_getElem? (i := 23) rfl)
theorem m_264 : .static y_Cod_sampleIn ∈ TS := TS_4_in _ (List.mem_of_getElem? (i := 24) rfl)
theorem m_265 : .fieldLink R_Cod 63 "GradientCoder$Picture" "maxval" "I" ∈ TS := TS_4_in _ (List.mem_of_getElem? (i := 25) rfl)
theorem m_266 : .code y_Wri_restart b_Wri_restart 1 none ∈ TS := TS_4_in _ (List.mem_of_getElem? (i := 26) rfl)
theorem m_267 : .methodLink R_Cod 91 y_Wri_restart ∈ TS := TS_4_in _ (List.mem_of_getElem? (i := 27) rfl)
theorem m_268 : .instanceMethod y_Wri_restart ∈ TS := TS_4_in _ (List.mem_of_getElem? (i := 28) rfl)
theorem m_269 : .selects R_Wri y_Wri_restart y_Wri_restart ∈ TS := TS_4_in _ (List.mem_of_getElem? (i := 29) rfl)
theorem m_270 : .methodLink R_Cod 93 y_Wri_writeByte ∈ TS := TS_4_in _ (List.mem_of_getElem? (i := 30) rfl)
theorem m_271 : .fieldLink R_Cod 73 "GradientCoder$Picture" "height" "I" ∈ TS := TS_4_in _ (List.mem_of_getElem? (i := 31) rfl)
theorem m_272 : .fieldLink R_Cod 76 "GradientCoder$Picture" "near" "I" ∈ TS := TS_4_in _ (List.mem_of_getElem? (i := 32) rfl)
theorem m_273 : .code y_Pic_become b_Pic_become 6 none ∈ TS := TS_4_in _ (List.mem_of_getElem? (i := 33) rfl)
theorem m_274 : .methodLink R_Cod 40 y_Pic_become ∈ TS := TS_4_in _ (List.mem_of_getElem? (i := 34) rfl)
theorem m_275 : .instanceMethod y_Pic_become ∈ TS := TS_4_in _ (List.mem_of_getElem? (i := 35) rfl)
theorem m_276 : .selects R_Pic y_Pic_become y_Pic_become ∈ TS := TS_4_in _ (List.mem_of_getElem? (i := 36) rfl)
theorem m_277 : .fieldLink R_Cod 30 "GradientCoder$Picture" "range" "I" ∈ TS := TS_4_in _ (List.mem_of_getElem? (i := 37) rfl)
theorem m_278 : .methodLink R_Cod 34 y_Ctx_restart ∈ TS := TS_4_in _ (List.mem_of_getElem? (i := 38) rfl)
theorem m_279 : .methodLink R_Cod 44 y_Arrs_fill_102 ∈ TS := TS_4_in _ (List.mem_of_getElem? (i := 39) rfl)
theorem m_280 : .fieldLink R_Cod 53 "GradientCoder$Writer" "size" "I" ∈ TS := TS_4_in _ (List.mem_of_getElem? (i := 40) rfl)
theorem m_281 : .fieldLink R_Cod 70 "GradientCoder$Reading" "picture" "LGradientCoder$Picture;" ∈ TS := TS_4_in _ (List.mem_of_getElem? (i := 41) rfl)
theorem m_282 : .sameField "GradientCoder$Reading" "GradientCoder$Pass" "picture" "LGradientCoder$Picture;" ∈ TS := TS_4_in _ (List.mem_of_getElem? (i := 42) rfl)
theorem m_283 : .fieldLink R_Cod 79 "GradientCoder$Reading" "contexts" "LGradientCoder$Contexts;" ∈ TS := TS_4_in _ (List.mem_of_getElem? (i := 43) rfl)
theorem m_284 : .sameField "GradientCoder$Reading" "GradientCoder$Pass" "contexts" "LGradientCoder$Contexts;" ∈ TS := TS_4_in _ (List.mem_of_getElem? (i := 44) rfl)
theorem m_285 : .code y_Ctx_takeOver b_Ctx_takeOver 2 none ∈ TS := TS_4_in _ (List.mem_of_getElem? (i := 45) rfl)
theorem m_286 : .methodLink R_Cod 80 y_Ctx_takeOver ∈ TS := TS_4_in _ (List.mem_of_getElem? (i := 46) rfl)
theorem m_287 : .instanceMethod y_Ctx_takeOver ∈ TS := TS_4_in _ (List.mem_of_getElem? (i := 47) rfl)
theorem m_288 : .selects R_Ctx y_Ctx_takeOver y_Ctx_takeOver ∈ TS := TS_4_in _ (List.mem_of_getElem? (i := 48) rfl)
theorem m_289 : .fieldLink R_Cod 84 "GradientCoder$Reading" "rebuilt" "[I" ∈ TS := TS_4_in _ (List.mem_of_getElem? (i := 49) rfl)
theorem m_290 : .sameField "GradientCoder$Reading" "GradientCoder$Pass" "rebuilt" "[I" ∈ TS := TS_4_in _ (List.mem_of_getElem? (i := 50) rfl)
theorem m_291 : .methodLink R_Cod 85 arraycopyName ∈ TS := TS_4_in _ (List.mem_of_getElem? (i := 51) rfl)
theorem m_292 : .fieldLink R_Grc 10 "GradientCoder" "coding" "LGradientCoder$Coding;" ∈ TS := TS_4_in _ (List.mem_of_getElem? (i := 52) rfl)
theorem m_293 : .fieldLink R_Grc 51 "GradientCoder$Coding" "writer" "LGradientCoder$Writer;" ∈ TS := TS_4_in _ (List.mem_of_getElem? (i := 53) rfl)
theorem m_294 : .fieldLink R_Grc 60 "GradientCoder$Writer" "size" "I" ∈ TS := TS_4_in _ (List.mem_of_getElem? (i := 54) rfl)
theorem m_295 : .code y_Pic_fits b_Pic_fits 4 (some .boolean) ∈ TS := TS_4_in _ (List.mem_of_getElem? (i := 55) rfl)
theorem m_296 : .methodLink R_Grc 23 y_Pic_fits ∈ TS := TS_4_in _ (List.mem_of_getElem? (i := 56) rfl)
theorem m_297 : .static y_Pic_fits ∈ TS := TS_4_in _ (List.mem_of_getElem? (i := 57) rfl)
theorem m_298 : .code y_Cod_beginPicture b_Cod_beginPicture 5 none ∈ TS := TS_4_in _ (List.mem_of_getElem? (i := 58) rfl)
theorem m_299 : .methodLink R_Grc 29 y_Cod_beginPicture ∈ TS := TS_4_in _ (List.mem_of_getElem? (i := 59) rfl)
theorem m_300 : .instanceMethod y_Cod_beginPicture ∈ TS := TS_5_in _ (List.mem_of_getElem? (i := 0) rfl)
theorem m_301 : .selects R_Cod y_Cod_beginPicture y_Cod_beginPicture ∈ TS := TS_5_in _ (List.mem_of_getElem? (i := 1) rfl)
theorem m_302 : .fieldLink R_Grc 33 "GradientCoder$Coding" "picture" "LGradientCoder$Picture;" ∈ TS := TS_5_in _ (List.mem_of_getElem? (i := 2) rfl)
theorem m_303 : .fieldLink R_Grc 37 "GradientCoder$Picture" "height" "I" ∈ TS := TS_5_in _ (List.mem_of_getElem? (i := 3) rfl)
theorem m_304 : .code y_Cod_takeRow b_Cod_takeRow 5 (some .boolean) ∈ TS := TS_5_in _ (List.mem_of_getElem? (i := 4) rfl)
theorem m_305 : .methodLink R_Grc 41 y_Cod_takeRow ∈ TS := TS_5_in _ (List.mem_of_getElem? (i := 5) rfl)
theorem m_306 : .instanceMethod y_Cod_takeRow ∈ TS := TS_5_in _ (List.mem_of_getElem? (i := 6) rfl)
theorem m_307 : .selects R_Cod y_Cod_takeRow y_Cod_takeRow ∈ TS := TS_5_in _ (List.mem_of_getElem? (i := 7) rfl)
theorem m_308 : .code y_Cod_writeHead b_Cod_writeHead 1 none ∈ TS := TS_5_in _ (List.mem_of_getElem? (i := 8) rfl)
theorem m_309 : .methodLink R_Grc 45 y_Cod_writeHead ∈ TS := TS_5_in _ (List.mem_of_getElem? (i := 9) rfl)
theorem m_310 : .instanceMethod y_Cod_writeHead ∈ TS := TS_5_in _ (List.mem_of_getElem? (i := 10) rfl)
theorem m_311 : .selects R_Cod y_Cod_writeHead y_Cod_writeHead ∈ TS := TS_5_in _ (List.mem_of_getElem? (i := 11) rfl)
theorem m_312 : .code y_Pas_overAll b_Pas_overAll 6 none ∈ TS := TS_5_in _ (List.mem_of_getElem? (i := 12) rfl)
theorem m_313 : .methodLink R_Grc 48 y_Cod_overAll ∈ TS := TS_5_in _ (List.mem_of_getElem? (i := 13) rfl)
theorem m_314 : .sameMethod R_Cod R_Pas "overAll" "()V" ∈ TS := TS_5_in _ (List.mem_of_getElem? (i := 14) rfl)
theorem m_315 : .selects R_Cod y_Cod_overAll y_Pas_overAll ∈ TS := TS_5_in _ (List.mem_of_getElem? (i := 15) rfl)
theorem m_316 : .instanceMethod y_Pas_overAll ∈ TS := TS_5_in _ (List.mem_of_getElem? (i := 16) rfl)
theorem m_317 : .code y_Wri_writeEnd b_Wri_writeEnd 1 none ∈ TS := TS_5_in _ (List.mem_of_getElem? (i := 17) rfl)
theorem m_318 : .methodLink R_Grc 55 y_Wri_writeEnd ∈ TS := TS_5_in _ (List.mem_of_getElem? (i := 18) rfl)
theorem m_319 : .instanceMethod y_Wri_writeEnd ∈ TS := TS_5_in _ (List.mem_of_getElem? (i := 19) rfl)
theorem m_320 : .selects R_Wri y_Wri_writeEnd y_Wri_writeEnd ∈ TS := TS_5_in _ (List.mem_of_getElem? (i := 20) rfl)
theorem m_321 : .code y_Grc_hasByte b_Grc_hasByte 2 (some .boolean) ∈ TS := TS_5_in _ (List.mem_of_getElem? (i := 21) rfl)
theorem m_322 : .methodLink R_Grc 63 y_Grc_hasByte ∈ TS := TS_5_in _ (List.mem_of_getElem? (i := 22) rfl)
theorem m_323 : .instanceMethod y_Grc_hasByte ∈ TS := TS_5_in _ (List.mem_of_getElem? (i := 23) rfl)
theorem m_324 : .selects R_Grc y_Grc_hasByte y_Grc_hasByte ∈ TS := TS_5_in _ (List.mem_of_getElem? (i := 24) rfl)
theorem m_325 : .initialized R_Grc ∈ TS := TS_5_in _ (List.mem_of_getElem? (i := 25) rfl)
theorem m_326 : .fieldLink R_Grc 67 "GradientCoder$Writer" "bytes" "[I" ∈ TS := TS_5_in _ (List.mem_of_getElem? (i := 26) rfl)
theorem m_327 : .fieldLink R_Grc 89 "GradientCoder$Picture" "width" "I" ∈ TS := TS_5_in _ (List.mem_of_getElem? (i := 27) rfl)
theorem m_328 : .fieldLink R_Grc 92 "GradientCoder$Picture" "maxval" "I" ∈ TS := TS_5_in _ (List.mem_of_getElem? (i := 28) rfl)
theorem m_329 : .fieldLink R_Grc 95 "GradientCoder$Picture" "near" "I" ∈ TS := TS_5_in _ (List.mem_of_getElem? (i := 29) rfl)
theorem m_330 : .fieldLink R_Grc 98 "GradientCoder$Picture" "range" "I" ∈ TS := TS_5_in _ (List.mem_of_getElem? (i := 30) rfl)
theorem m_331 : .fieldLink R_Grc 101 "GradientCoder$Picture" "qb" "I" ∈ TS := TS_5_in _ (List.mem_of_getElem? (i := 31) rfl)
theorem m_332 : .fieldLink R_Grc 104 "GradientCoder$Picture" "limit" "I" ∈ TS := TS_5_in _ (List.mem_of_getElem? (i := 32) rfl)
theorem m_333 : .fieldLink R_Grc 107 "GradientCoder$Picture" "t1" "I" ∈ TS := TS_5_in _ (List.mem_of_getElem? (i := 33) rfl)
theorem m_334 : .fieldLink R_Grc 110 "GradientCoder$Picture" "t2" "I" ∈ TS := TS_5_in _ (List.mem_of_getElem? (i := 34) rfl)
theorem m_335 : .fieldLink R_Grc 113 "GradientCoder$Picture" "t3" "I" ∈ TS := TS_5_in _ (List.mem_of_getElem? (i := 35) rfl)
theorem m_336 : .code y_Pic_hasPlace b_Pic_hasPlace 3 (some .boolean) ∈ TS := TS_5_in _ (List.mem_of_getElem? (i := 36) rfl)
theorem m_337 : .methodLink R_Grc 116 y_Pic_hasPlace ∈ TS := TS_5_in _ (List.mem_of_getElem? (i := 37) rfl)
theorem m_338 : .instanceMethod y_Pic_hasPlace ∈ TS := TS_5_in _ (List.mem_of_getElem? (i := 38) rfl)
theorem m_339 : .selects R_Pic y_Pic_hasPlace y_Pic_hasPlace ∈ TS := TS_5_in _ (List.mem_of_getElem? (i := 39) rfl)
theorem m_340 : .fieldLink R_Grc 120 "GradientCoder$Coding" "samples" "[I" ∈ TS := TS_5_in _ (List.mem_of_getElem? (i := 40) rfl)
theorem m_341 : .methodLink R_Grc 123 y_Pic_place ∈ TS := TS_5_in _ (List.mem_of_getElem? (i := 41) rfl)
theorem m_342 : .fieldLink R_Grc 127 "GradientCoder$Coding" "rebuilt" "[I" ∈ TS := TS_5_in _ (List.mem_of_getElem? (i := 42) rfl)
theorem m_343 : .constant R_Grc 132 (-1000000) ∈ TS := TS_5_in _ (List.mem_of_getElem? (i := 43) rfl)
theorem m_344 : .fieldLink R_Grc 133 "GradientCoder$Coding" "contexts" "LGradientCoder$Contexts;" ∈ TS := TS_5_in _ (List.mem_of_getElem? (i := 44) rfl)
theorem m_345 : .fieldLink R_Grc 137 "GradientCoder$Contexts" "a" "[I" ∈ TS := TS_5_in _ (List.mem_of_getElem? (i := 45) rfl)
theorem m_346 : .fieldLink R_Grc 140 "GradientCoder$Contexts" "b" "[I" ∈ TS := TS_5_in _ (List.mem_of_getElem? (i := 46) rfl)
theorem m_347 : .fieldLink R_Grc 143 "GradientCoder$Contexts" "c" "[I" ∈ TS := TS_5_in _ (List.mem_of_getElem? (i := 47) rfl)
theorem m_348 : .fieldLink R_Grc 146 "GradientCoder$Contexts" "n" "[I" ∈ TS := TS_5_in _ (List.mem_of_getElem? (i := 48) rfl)
theorem m_349 : .fieldLink R_Grc 149 "GradientCoder$Contexts" "m" "[I" ∈ TS := TS_5_in _ (List.mem_of_getElem? (i := 49) rfl)
theorem m_350 : .fieldLink R_Grc 152 "GradientCoder$Contexts" "runIndex" "I" ∈ TS := TS_5_in _ (List.mem_of_getElem? (i := 50) rfl)
theorem m_351 : .fieldLink R_Mod 47 "GradientCoderModel" "thrown" "I" ∈ TS := TS_5_in _ (List.mem_of_getElem? (i := 51) rfl)
theorem m_352 : .fieldLink R_Mod 16 "GradientCoderModel" "maxval" "I" ∈ TS := TS_5_in _ (List.mem_of_getElem? (i := 52) rfl)
theorem m_353 : .fieldLink R_Mod 50 "GradientCoderModel" "near" "I" ∈ TS := TS_5_in _ (List.mem_of_getElem? (i := 53) rfl)
theorem m_354 : .fieldLink R_Mod 53 "GradientCoderModel" "step" "I" ∈ TS := TS_5_in _ (List.mem_of_getElem? (i := 54) rfl)
theorem m_355 : .fieldLink R_Mod 56 "GradientCoderModel" "range" "I" ∈ TS := TS_5_in _ (List.mem_of_getElem? (i := 55) rfl)
theorem m_356 : .code y_Mod_powerFor b_Mod_powerFor 3 (some .int) ∈ TS := TS_5_in _ (List.mem_of_getElem? (i := 56) rfl)
theorem m_357 : .methodLink R_Mod 59 y_Mod_powerFor ∈ TS := TS_5_in _ (List.mem_of_getElem? (i := 57) rfl)
theorem m_358 : .static y_Mod_powerFor ∈ TS := TS_5_in _ (List.mem_of_getElem? (i := 58) rfl)
theorem m_359 : .initialized R_Mod ∈ TS := TS_5_in _ (List.mem_of_getElem? (i := 59) rfl)
theorem m_360 : .fieldLink R_Mod 63 "GradientCoderModel" "qb" "I" ∈ TS := TS_6_in _ (List.mem_of_getElem? (i := 0) rfl)
theorem m_361 : .code y_Mod_greater b_Mod_greater 2 (some .int) ∈ TS := TS_6_in _ (List.mem_of_getElem? (i := 1) rfl)
theorem m_362 : .methodLink R_Mod 66 y_Mod_greater ∈ TS := TS_6_in _ (List.mem_of_getElem? (i := 2) rfl)
theorem m_363 : .static y_Mod_greater ∈ TS := TS_6_in _ (List.mem_of_getElem? (i := 3) rfl)
theorem m_364 : .fieldLink R_Mod 69 "GradientCoderModel" "limit" "I" ∈ TS := TS_6_in _ (List.mem_of_getElem? (i := 4) rfl)
theorem m_365 : .code y_Mod_clamp b_Mod_clamp 3 (some .int) ∈ TS := TS_6_in _ (List.mem_of_getElem? (i := 5) rfl)
theorem m_366 : .methodLink R_Mod 72 y_Mod_clamp ∈ TS := TS_6_in _ (List.mem_of_getElem? (i := 6) rfl)
theorem m_367 : .instanceMethod y_Mod_clamp ∈ TS := TS_6_in _ (List.mem_of_getElem? (i := 7) rfl)
theorem m_368 : .selects R_Mod y_Mod_clamp y_Mod_clamp ∈ TS := TS_6_in _ (List.mem_of_getElem? (i := 8) rfl)
theorem m_369 : .fieldLink R_Mod 75 "GradientCoderModel" "t1" "I" ∈ TS := TS_6_in _ (List.mem_of_getElem? (i := 9) rfl)
theorem m_370 : .fieldLink R_Mod 78 "GradientCoderModel" "t2" "I" ∈ TS := TS_6_in _ (List.mem_of_getElem? (i := 10) rfl)
theorem m_371 : .fieldLink R_Mod 81 "GradientCoderModel" "t3" "I" ∈ TS := TS_6_in _ (List.mem_of_getElem? (i := 11) rfl)
theorem m_372 : .fieldLink R_Mod 23 "GradientCoderModel" "rebuilt" "[I" ∈ TS := TS_6_in _ (List.mem_of_getElem? (i := 12) rfl)
theorem m_373 : .fieldLink R_Mod 84 "GradientCoderModel" "runIndex" "I" ∈ TS := TS_6_in _ (List.mem_of_getElem? (i := 13) rfl)
theorem m_374 : .fieldLink R_Mod 26 "GradientCoderModel" "contexts" "[I" ∈ TS := TS_6_in _ (List.mem_of_getElem? (i := 14) rfl)
theorem m_375 : .fieldLink R_Mod 91 "GradientCoderModel" "size" "I" ∈ TS := TS_6_in _ (List.mem_of_getElem? (i := 15) rfl)
theorem m_376 : .fieldLink R_Mod 19 "GradientCoderModel" "sample" "[I" ∈ TS := TS_6_in _ (List.mem_of_getElem? (i := 16) rfl)
theorem m_377 : .code y_Mod_fits b_Mod_fits 4 (some .boolean) ∈ TS := TS_6_in _ (List.mem_of_getElem? (i := 17) rfl)
theorem m_378 : .methodLink R_Mod 87 y_Mod_fits ∈ TS := TS_6_in _ (List.mem_of_getElem? (i := 18) rfl)
theorem m_379 : .static y_Mod_fits ∈ TS := TS_6_in _ (List.mem_of_getElem? (i := 19) rfl)
theorem m_380 : .fieldLink R_Mod 7 "GradientCoderModel" "width" "I" ∈ TS := TS_6_in _ (List.mem_of_getElem? (i := 20) rfl)
theorem m_381 : .fieldLink R_Mod 13 "GradientCoderModel" "height" "I" ∈ TS := TS_6_in _ (List.mem_of_getElem? (i := 21) rfl)
theorem m_382 : .code y_Mod_prepare b_Mod_prepare 3 none ∈ TS := TS_6_in _ (List.mem_of_getElem? (i := 22) rfl)
theorem m_383 : .methodLink R_Mod 41 y_Mod_prepare ∈ TS := TS_6_in _ (List.mem_of_getElem? (i := 23) rfl)
theorem m_384 : .instanceMethod y_Mod_prepare ∈ TS := TS_6_in _ (List.mem_of_getElem? (i := 24) rfl)
theorem m_385 : .selects R_Mod y_Mod_prepare y_Mod_prepare ∈ TS := TS_6_in _ (List.mem_of_getElem? (i := 25) rfl)
theorem m_386 : .code y_Mod_forget b_Mod_forget 2 none ∈ TS := TS_6_in _ (List.mem_of_getElem? (i := 26) rfl)
theorem m_387 : .methodLink R_Mod 44 y_Mod_forget ∈ TS := TS_6_in _ (List.mem_of_getElem? (i := 27) rfl)
theorem m_388 : .instanceMethod y_Mod_forget ∈ TS := TS_6_in _ (List.mem_of_getElem? (i := 28) rfl)
theorem m_389 : .selects R_Mod y_Mod_forget y_Mod_forget ∈ TS := TS_6_in _ (List.mem_of_getElem? (i := 29) rfl)
theorem m_390 : .constantLong R_Mod 94 255 ∈ TS := TS_6_in _ (List.mem_of_getElem? (i := 30) rfl)
theorem m_391 : .fieldLink R_Mod 29 "GradientCoderModel" "code" "[I" ∈ TS := TS_6_in _ (List.mem_of_getElem? (i := 31) rfl)
theorem m_392 : .fieldLink R_Mod 99 "GradientCoderModel" "bits" "I" ∈ TS := TS_6_in _ (List.mem_of_getElem? (i := 32) rfl)
theorem m_393 : .fieldLink R_Mod 96 "GradientCoderModel" "begun" "I" ∈ TS := TS_6_in _ (List.mem_of_getElem? (i := 33) rfl)
theorem m_394 : .code y_Mod_say b_Mod_say 2 none ∈ TS := TS_6_in _ (List.mem_of_getElem? (i := 34) rfl)
theorem m_395 : .methodLink R_Mod 102 y_Mod_say ∈ TS := TS_6_in _ (List.mem_of_getElem? (i := 35) rfl)
theorem m_396 : .instanceMethod y_Mod_say ∈ TS := TS_6_in _ (List.mem_of_getElem? (i := 36) rfl)
theorem m_397 : .selects R_Mod y_Mod_say y_Mod_say ∈ TS := TS_6_in _ (List.mem_of_getElem? (i := 37) rfl)
theorem m_398 : .code y_Mod_put b_Mod_put 2 none ∈ TS := TS_6_in _ (List.mem_of_getElem? (i := 38) rfl)
theorem m_399 : .methodLink R_Mod 106 y_Mod_put ∈ TS := TS_6_in _ (List.mem_of_getElem? (i := 39) rfl)
theorem m_400 : .instanceMethod y_Mod_put ∈ TS := TS_6_in _ (List.mem_of_getElem? (i := 40) rfl)
theorem m_401 : .selects R_Mod y_Mod_put y_Mod_put ∈ TS := TS_6_in _ (List.mem_of_getElem? (i := 41) rfl)
theorem m_402 : .fieldLink R_Mod 109 "GradientCoderModel" "left" "I" ∈ TS := TS_6_in _ (List.mem_of_getElem? (i := 42) rfl)
theorem m_403 : .fieldLink R_Mod 112 "GradientCoderModel" "now" "I" ∈ TS := TS_6_in _ (List.mem_of_getElem? (i := 43) rfl)
theorem m_404 : .fieldLink R_Mod 115 "GradientCoderModel" "at" "I" ∈ TS := TS_6_in _ (List.mem_of_getElem? (i := 44) rfl)
theorem m_405 : .fieldLink R_Mod 118 "GradientCoderModel" "good" "Z" ∈ TS := TS_6_in _ (List.mem_of_getElem? (i := 45) rfl)
theorem m_406 : .code y_Mod_get b_Mod_get 2 (some .int) ∈ TS := TS_6_in _ (List.mem_of_getElem? (i := 46) rfl)
theorem m_407 : .methodLink R_Mod 122 y_Mod_get ∈ TS := TS_6_in _ (List.mem_of_getElem? (i := 47) rfl)
theorem m_408 : .instanceMethod y_Mod_get ∈ TS := TS_6_in _ (List.mem_of_getElem? (i := 48) rfl)
theorem m_409 : .selects R_Mod y_Mod_get y_Mod_get ∈ TS := TS_6_in _ (List.mem_of_getElem? (i := 49) rfl)
theorem m_410 : .code y_Mod_putMany b_Mod_putMany 4 none ∈ TS := TS_6_in _ (List.mem_of_getElem? (i := 50) rfl)
theorem m_411 : .methodLink R_Mod 126 y_Mod_putMany ∈ TS := TS_6_in _ (List.mem_of_getElem? (i := 51) rfl)
theorem m_412 : .instanceMethod y_Mod_putMany ∈ TS := TS_6_in _ (List.mem_of_getElem? (i := 52) rfl)
theorem m_413 : .selects R_Mod y_Mod_putMany y_Mod_putMany ∈ TS := TS_6_in _ (List.mem_of_getElem? (i := 53) rfl)
theorem m_414 : .code y_Mod_getMany b_Mod_getMany 4 (some .int) ∈ TS := TS_6_in _ (List.mem_of_getElem? (i := 54) rfl)
theorem m_415 : .methodLink R_Mod 130 y_Mod_getMany ∈ TS := TS_6_in _ (List.mem_of_getElem? (i := 55) rfl)
theorem m_416 : .instanceMethod y_Mod_getMany ∈ TS := TS_6_in _ (List.mem_of_getElem? (i := 56) rfl)
theorem m_417 : .selects R_Mod y_Mod_getMany y_Mod_getMany ∈ TS := TS_6_in _ (List.mem_of_getElem? (i := 57) rfl)
theorem m_418 : .code y_Mod_value b_Mod_value 3 (some .int) ∈ TS := TS_6_in _ (List.mem_of_getElem? (i := 58) rfl)
theorem m_419 : .methodLink R_Mod 134 y_Mod_value ∈ TS := TS_6_in _ (List.mem_of_getElem? (i := 59) rfl)
theorem m_420 : .instanceMethod y_Mod_value ∈ TS := TS_7_in _ (List.mem_of_getElem? (i := 0) rfl)
theorem m_421 : .selects R_Mod y_Mod_value y_Mod_value ∈ TS := TS_7_in _ (List.mem_of_getElem? (i := 1) rfl)
theorem m_422 : .code y_Mod_above b_Mod_above 3 (some .int) ∈ TS := TS_7_in _ (List.mem_of_getElem? (i := 2) rfl)
theorem m_423 : .methodLink R_Mod 137 y_Mod_above ∈ TS := TS_7_in _ (List.mem_of_getElem? (i := 3) rfl)
theorem m_424 : .instanceMethod y_Mod_above ∈ TS := TS_7_in _ (List.mem_of_getElem? (i := 4) rfl)
theorem m_425 : .selects R_Mod y_Mod_above y_Mod_above ∈ TS := TS_7_in _ (List.mem_of_getElem? (i := 5) rfl)
theorem m_426 : .code y_Mod_before b_Mod_before 3 (some .int) ∈ TS := TS_7_in _ (List.mem_of_getElem? (i := 6) rfl)
theorem m_427 : .methodLink R_Mod 140 y_Mod_before ∈ TS := TS_7_in _ (List.mem_of_getElem? (i := 7) rfl)
theorem m_428 : .instanceMethod y_Mod_before ∈ TS := TS_7_in _ (List.mem_of_getElem? (i := 8) rfl)
theorem m_429 : .selects R_Mod y_Mod_before y_Mod_before ∈ TS := TS_7_in _ (List.mem_of_getElem? (i := 9) rfl)
theorem m_430 : .code y_Mod_divided b_Mod_divided 2 (some .int) ∈ TS := TS_7_in _ (List.mem_of_getElem? (i := 10) rfl)
theorem m_431 : .methodLink R_Mod 143 y_Mod_divided ∈ TS := TS_7_in _ (List.mem_of_getElem? (i := 11) rfl)
theorem m_432 : .instanceMethod y_Mod_divided ∈ TS := TS_7_in _ (List.mem_of_getElem? (i := 12) rfl)
theorem m_433 : .selects R_Mod y_Mod_divided y_Mod_divided ∈ TS := TS_7_in _ (List.mem_of_getElem? (i := 13) rfl)
theorem m_434 : .code y_Mod_held b_Mod_held 2 (some .int) ∈ TS := TS_7_in _ (List.mem_of_getElem? (i := 14) rfl)
theorem m_435 : .methodLink R_Mod 146 y_Mod_held ∈ TS := TS_7_in _ (List.mem_of_getElem? (i := 15) rfl)
theorem m_436 : .instanceMethod y_Mod_held ∈ TS := TS_7_in _ (List.mem_of_getElem? (i := 16) rfl)
theorem m_437 : .selects R_Mod y_Mod_held y_Mod_held ∈ TS := TS_7_in _ (List.mem_of_getElem? (i := 17) rfl)
theorem m_438 : .code y_Mod_reduced b_Mod_reduced 3 (some .int) ∈ TS := TS_7_in _ (List.mem_of_getElem? (i := 18) rfl)
theorem m_439 : .methodLink R_Mod 149 y_Mod_reduced ∈ TS := TS_7_in _ (List.mem_of_getElem? (i := 19) rfl)
theorem m_440 : .instanceMethod y_Mod_reduced ∈ TS := TS_7_in _ (List.mem_of_getElem? (i := 20) rfl)
theorem m_441 : .selects R_Mod y_Mod_reduced y_Mod_reduced ∈ TS := TS_7_in _ (List.mem_of_getElem? (i := 21) rfl)
theorem m_442 : .code y_Mod_half b_Mod_half 1 (some .int) ∈ TS := TS_7_in _ (List.mem_of_getElem? (i := 22) rfl)
theorem m_443 : .methodLink R_Mod 188 y_Mod_half ∈ TS := TS_7_in _ (List.mem_of_getElem? (i := 23) rfl)
theorem m_444 : .static y_Mod_half ∈ TS := TS_7_in _ (List.mem_of_getElem? (i := 24) rfl)
theorem m_445 : .code y_Mod_learn b_Mod_learn 6 none ∈ TS := TS_7_in _ (List.mem_of_getElem? (i := 25) rfl)
theorem m_446 : .methodLink R_Mod 185 y_Mod_learn ∈ TS := TS_7_in _ (List.mem_of_getElem? (i := 26) rfl)
theorem m_447 : .instanceMethod y_Mod_learn ∈ TS := TS_7_in _ (List.mem_of_getElem? (i := 27) rfl)
theorem m_448 : .selects R_Mod y_Mod_learn y_Mod_learn ∈ TS := TS_7_in _ (List.mem_of_getElem? (i := 28) rfl)
theorem m_449 : .code y_Mod_write b_Mod_write 6 none ∈ TS := TS_7_in _ (List.mem_of_getElem? (i := 29) rfl)
theorem m_450 : .methodLink R_Mod 181 y_Mod_write ∈ TS := TS_7_in _ (List.mem_of_getElem? (i := 30) rfl)
theorem m_451 : .instanceMethod y_Mod_write ∈ TS := TS_7_in _ (List.mem_of_getElem? (i := 31) rfl)
theorem m_452 : .selects R_Mod y_Mod_write y_Mod_write ∈ TS := TS_7_in _ (List.mem_of_getElem? (i := 32) rfl)
theorem m_453 : .code y_Mod_settle b_Mod_settle 7 none ∈ TS := TS_7_in _ (List.mem_of_getElem? (i := 33) rfl)
theorem m_454 : .methodLink R_Mod 173 y_Mod_settle ∈ TS := TS_7_in _ (List.mem_of_getElem? (i := 34) rfl)
theorem m_455 : .instanceMethod y_Mod_settle ∈ TS := TS_7_in _ (List.mem_of_getElem? (i := 35) rfl)
theorem m_456 : .selects R_Mod y_Mod_settle y_Mod_settle ∈ TS := TS_7_in _ (List.mem_of_getElem? (i := 36) rfl)
theorem m_457 : .fieldLink R_Mod 167 "GradientCoderModel" "reading" "Z" ∈ TS := TS_7_in _ (List.mem_of_getElem? (i := 37) rfl)
theorem m_458 : .code y_Mod_errorOf b_Mod_errorOf 6 (some .int) ∈ TS := TS_7_in _ (List.mem_of_getElem? (i := 38) rfl)
theorem m_459 : .methodLink R_Mod 177 y_Mod_errorOf ∈ TS := TS_7_in _ (List.mem_of_getElem? (i := 39) rfl)
theorem m_460 : .instanceMethod y_Mod_errorOf ∈ TS := TS_7_in _ (List.mem_of_getElem? (i := 40) rfl)
theorem m_461 : .selects R_Mod y_Mod_errorOf y_Mod_errorOf ∈ TS := TS_7_in _ (List.mem_of_getElem? (i := 41) rfl)
theorem m_462 : .code y_Mod_read b_Mod_read 5 (some .int) ∈ TS := TS_7_in _ (List.mem_of_getElem? (i := 42) rfl)
theorem m_463 : .methodLink R_Mod 170 y_Mod_read ∈ TS := TS_7_in _ (List.mem_of_getElem? (i := 43) rfl)
theorem m_464 : .instanceMethod y_Mod_read ∈ TS := TS_7_in _ (List.mem_of_getElem? (i := 44) rfl)
theorem m_465 : .selects R_Mod y_Mod_read y_Mod_read ∈ TS := TS_7_in _ (List.mem_of_getElem? (i := 45) rfl)
theorem m_466 : .code y_Mod_kFor b_Mod_kFor 3 (some .int) ∈ TS := TS_7_in _ (List.mem_of_getElem? (i := 46) rfl)
theorem m_467 : .methodLink R_Mod 164 y_Mod_kFor ∈ TS := TS_7_in _ (List.mem_of_getElem? (i := 47) rfl)
theorem m_468 : .static y_Mod_kFor ∈ TS := TS_7_in _ (List.mem_of_getElem? (i := 48) rfl)
theorem m_469 : .code y_Mod_lesser b_Mod_lesser 2 (some .int) ∈ TS := TS_7_in _ (List.mem_of_getElem? (i := 49) rfl)
theorem m_470 : .methodLink R_Mod 161 y_Mod_lesser ∈ TS := TS_7_in _ (List.mem_of_getElem? (i := 50) rfl)
theorem m_471 : .static y_Mod_lesser ∈ TS := TS_7_in _ (List.mem_of_getElem? (i := 51) rfl)
theorem m_472 : .code y_Mod_corner b_Mod_corner 3 (some .int) ∈ TS := TS_7_in _ (List.mem_of_getElem? (i := 52) rfl)
theorem m_473 : .methodLink R_Mod 152 y_Mod_corner ∈ TS := TS_7_in _ (List.mem_of_getElem? (i := 53) rfl)
theorem m_474 : .instanceMethod y_Mod_corner ∈ TS := TS_7_in _ (List.mem_of_getElem? (i := 54) rfl)
theorem m_475 : .selects R_Mod y_Mod_corner y_Mod_corner ∈ TS := TS_7_in _ (List.mem_of_getElem? (i := 55) rfl)
theorem m_476 : .code y_Mod_beyond b_Mod_beyond 3 (some .int) ∈ TS := TS_7_in _ (List.mem_of_getElem? (i := 56) rfl)
theorem m_477 : .methodLink R_Mod 155 y_Mod_beyond ∈ TS := TS_7_in _ (List.mem_of_getElem? (i := 57) rfl)
theorem m_478 : .instanceMethod y_Mod_beyond ∈ TS := TS_7_in _ (List.mem_of_getElem? (i := 58) rfl)
theorem m_479 : .selects R_Mod y_Mod_beyond y_Mod_beyond ∈ TS := TS_7_in _ (List.mem_of_getElem? (i := 59) rfl)
theorem m_480 : .code y_Mod_quantized b_Mod_quantized 2 (some .int) ∈ TS := TS_8_in _ (List.mem_of_getElem? (i := 0) rfl)
theorem m_481 : .methodLink R_Mod 158 y_Mod_quantized ∈ TS := TS_8_in _ (List.mem_of_getElem? (i := 1) rfl)
theorem m_482 : .instanceMethod y_Mod_quantized ∈ TS := TS_8_in _ (List.mem_of_getElem? (i := 2) rfl)
theorem m_483 : .selects R_Mod y_Mod_quantized y_Mod_quantized ∈ TS := TS_8_in _ (List.mem_of_getElem? (i := 3) rfl)
theorem m_484 : .code y_Mod_isNear b_Mod_isNear 2 (some .boolean) ∈ TS := TS_8_in _ (List.mem_of_getElem? (i := 4) rfl)
theorem m_485 : .methodLink R_Mod 191 y_Mod_isNear ∈ TS := TS_8_in _ (List.mem_of_getElem? (i := 5) rfl)
theorem m_486 : .instanceMethod y_Mod_isNear ∈ TS := TS_8_in _ (List.mem_of_getElem? (i := 6) rfl)
theorem m_487 : .selects R_Mod y_Mod_isNear y_Mod_isNear ∈ TS := TS_8_in _ (List.mem_of_getElem? (i := 7) rfl)
theorem m_488 : .code y_Mod_jOf b_Mod_jOf 2 (some .int) ∈ TS := TS_8_in _ (List.mem_of_getElem? (i := 8) rfl)
theorem m_489 : .methodLink R_Mod 195 y_Mod_jOf ∈ TS := TS_8_in _ (List.mem_of_getElem? (i := 9) rfl)
theorem m_490 : .instanceMethod y_Mod_jOf ∈ TS := TS_8_in _ (List.mem_of_getElem? (i := 10) rfl)
theorem m_491 : .selects R_Mod y_Mod_jOf y_Mod_jOf ∈ TS := TS_8_in _ (List.mem_of_getElem? (i := 11) rfl)
theorem m_492 : .code y_Mod_endRun b_Mod_endRun 17 none ∈ TS := TS_8_in _ (List.mem_of_getElem? (i := 12) rfl)
theorem m_493 : .methodLink R_Mod 198 y_Mod_endRun ∈ TS := TS_8_in _ (List.mem_of_getElem? (i := 13) rfl)
theorem m_494 : .instanceMethod y_Mod_endRun ∈ TS := TS_8_in _ (List.mem_of_getElem? (i := 14) rfl)
theorem m_495 : .selects R_Mod y_Mod_endRun y_Mod_endRun ∈ TS := TS_8_in _ (List.mem_of_getElem? (i := 15) rfl)
theorem m_496 : .code y_Mod_regular b_Mod_regular 16 none ∈ TS := TS_8_in _ (List.mem_of_getElem? (i := 16) rfl)
theorem m_497 : .methodLink R_Mod 207 y_Mod_regular ∈ TS := TS_8_in _ (List.mem_of_getElem? (i := 17) rfl)
theorem m_498 : .instanceMethod y_Mod_regular ∈ TS := TS_8_in _ (List.mem_of_getElem? (i := 18) rfl)
theorem m_499 : .selects R_Mod y_Mod_regular y_Mod_regular ∈ TS := TS_8_in _ (List.mem_of_getElem? (i := 19) rfl)
theorem m_500 : .code y_Mod_writeRun b_Mod_writeRun 6 (some .int) ∈ TS := TS_8_in _ (List.mem_of_getElem? (i := 20) rfl)
theorem m_501 : .methodLink R_Mod 204 y_Mod_writeRun ∈ TS := TS_8_in _ (List.mem_of_getElem? (i := 21) rfl)
theorem m_502 : .instanceMethod y_Mod_writeRun ∈ TS := TS_8_in _ (List.mem_of_getElem? (i := 22) rfl)
theorem m_503 : .selects R_Mod y_Mod_writeRun y_Mod_writeRun ∈ TS := TS_8_in _ (List.mem_of_getElem? (i := 23) rfl)
theorem m_504 : .code y_Mod_readRun b_Mod_readRun 8 (some .int) ∈ TS := TS_8_in _ (List.mem_of_getElem? (i := 24) rfl)
theorem m_505 : .methodLink R_Mod 201 y_Mod_readRun ∈ TS := TS_8_in _ (List.mem_of_getElem? (i := 25) rfl)
theorem m_506 : .instanceMethod y_Mod_readRun ∈ TS := TS_8_in _ (List.mem_of_getElem? (i := 26) rfl)
theorem m_507 : .selects R_Mod y_Mod_readRun y_Mod_readRun ∈ TS := TS_8_in _ (List.mem_of_getElem? (i := 27) rfl)
theorem m_508 : .code y_Mod_walk b_Mod_walk 6 none ∈ TS := TS_8_in _ (List.mem_of_getElem? (i := 28) rfl)
theorem m_509 : .methodLink R_Mod 210 y_Mod_walk ∈ TS := TS_8_in _ (List.mem_of_getElem? (i := 29) rfl)
theorem m_510 : .instanceMethod y_Mod_walk ∈ TS := TS_8_in _ (List.mem_of_getElem? (i := 30) rfl)
theorem m_511 : .selects R_Mod y_Mod_walk y_Mod_walk ∈ TS := TS_8_in _ (List.mem_of_getElem? (i := 31) rfl)
theorem m_512 : .fieldLink R_Mod 38 "GradientCoderModel" "oldContexts" "[I" ∈ TS := TS_8_in _ (List.mem_of_getElem? (i := 32) rfl)
theorem m_513 : .fieldLink R_Mod 32 "GradientCoderModel" "oldSample" "[I" ∈ TS := TS_8_in _ (List.mem_of_getElem? (i := 33) rfl)
theorem m_514 : .fieldLink R_Mod 35 "GradientCoderModel" "oldRebuilt" "[I" ∈ TS := TS_8_in _ (List.mem_of_getElem? (i := 34) rfl)
theorem m_515 : .code y_Mod_putBack b_Mod_putBack 7 none ∈ TS := TS_8_in _ (List.mem_of_getElem? (i := 35) rfl)
theorem m_516 : .methodLink R_Mod 220 y_Mod_putBack ∈ TS := TS_8_in _ (List.mem_of_getElem? (i := 36) rfl)
theorem m_517 : .instanceMethod y_Mod_putBack ∈ TS := TS_8_in _ (List.mem_of_getElem? (i := 37) rfl)
theorem m_518 : .selects R_Mod y_Mod_putBack y_Mod_putBack ∈ TS := TS_8_in _ (List.mem_of_getElem? (i := 38) rfl)
theorem m_519 : .code y_Mod_endsWell b_Mod_endsWell 1 (some .boolean) ∈ TS := TS_8_in _ (List.mem_of_getElem? (i := 39) rfl)
theorem m_520 : .methodLink R_Mod 216 y_Mod_endsWell ∈ TS := TS_8_in _ (List.mem_of_getElem? (i := 40) rfl)
theorem m_521 : .instanceMethod y_Mod_endsWell ∈ TS := TS_8_in _ (List.mem_of_getElem? (i := 41) rfl)
theorem m_522 : .selects R_Mod y_Mod_endsWell y_Mod_endsWell ∈ TS := TS_8_in _ (List.mem_of_getElem? (i := 42) rfl)
theorem m_523 : .code y_Mod_keep b_Mod_keep 2 none ∈ TS := TS_8_in _ (List.mem_of_getElem? (i := 43) rfl)
theorem m_524 : .methodLink R_Mod 213 y_Mod_keep ∈ TS := TS_8_in _ (List.mem_of_getElem? (i := 44) rfl)
theorem m_525 : .instanceMethod y_Mod_keep ∈ TS := TS_8_in _ (List.mem_of_getElem? (i := 45) rfl)
theorem m_526 : .selects R_Mod y_Mod_keep y_Mod_keep ∈ TS := TS_8_in _ (List.mem_of_getElem? (i := 46) rfl)
theorem m_527 : .code y_Mod_isPlace b_Mod_isPlace 3 (some .boolean) ∈ TS := TS_8_in _ (List.mem_of_getElem? (i := 47) rfl)
theorem m_528 : .methodLink R_Mod 223 y_Mod_isPlace ∈ TS := TS_8_in _ (List.mem_of_getElem? (i := 48) rfl)
theorem m_529 : .instanceMethod y_Mod_isPlace ∈ TS := TS_8_in _ (List.mem_of_getElem? (i := 49) rfl)
theorem m_530 : .selects R_Mod y_Mod_isPlace y_Mod_isPlace ∈ TS := TS_8_in _ (List.mem_of_getElem? (i := 50) rfl)
theorem m_531 : .constant R_Mod 227 (-1000000) ∈ TS := TS_8_in _ (List.mem_of_getElem? (i := 51) rfl)
theorem m_532 : .laysFinal R_Grc "GradientCoder" "coding" "LGradientCoder$Coding;" ∈ TS := TS_8_in _ (List.mem_of_getElem? (i := 52) rfl)
theorem m_533 : .laysFinal R_Grc "GradientCoder" "reading" "LGradientCoder$Reading;" ∈ TS := TS_8_in _ (List.mem_of_getElem? (i := 53) rfl)
theorem m_534 : .lays R_Pic "GradientCoder$Picture" "width" "I" ∈ TS := TS_8_in _ (List.mem_of_getElem? (i := 54) rfl)
theorem m_535 : .lays R_Pic "GradientCoder$Picture" "height" "I" ∈ TS := TS_8_in _ (List.mem_of_getElem? (i := 55) rfl)
theorem m_536 : .lays R_Pic "GradientCoder$Picture" "maxval" "I" ∈ TS := TS_8_in _ (List.mem_of_getElem? (i := 56) rfl)
theorem m_537 : .lays R_Pic "GradientCoder$Picture" "near" "I" ∈ TS := TS_8_in _ (List.mem_of_getElem? (i := 57) rfl)
theorem m_538 : .lays R_Pic "GradientCoder$Picture" "step" "I" ∈ TS := TS_8_in _ (List.mem_of_getElem? (i := 58) rfl)
theorem m_539 : .lays R_Pic "GradientCoder$Picture" "range" "I" ∈ TS := TS_8_in _ (List.mem_of_getElem? (i := 59) rfl)
theorem m_540 : .lays R_Pic "GradientCoder$Picture" "qb" "I" ∈ TS := TS_9_in _ (List.mem_of_getElem? (i := 0) rfl)
theorem m_541 : .lays R_Pic "GradientCoder$Picture" "limit" "I" ∈ TS := TS_9_in _ (List.mem_of_getElem? (i := 1) rfl)
theorem m_542 : .lays R_Pic "GradientCoder$Picture" "t1" "I" ∈ TS := TS_9_in _ (List.mem_of_getElem? (i := 2) rfl)
theorem m_543 : .lays R_Pic "GradientCoder$Picture" "t2" "I" ∈ TS := TS_9_in _ (List.mem_of_getElem? (i := 3) rfl)
theorem m_544 : .lays R_Pic "GradientCoder$Picture" "t3" "I" ∈ TS := TS_9_in _ (List.mem_of_getElem? (i := 4) rfl)
theorem m_545 : .laysFinal R_Ctx "GradientCoder$Contexts" "a" "[I" ∈ TS := TS_9_in _ (List.mem_of_getElem? (i := 5) rfl)
theorem m_546 : .laysFinal R_Ctx "GradientCoder$Contexts" "b" "[I" ∈ TS := TS_9_in _ (List.mem_of_getElem? (i := 6) rfl)
theorem m_547 : .laysFinal R_Ctx "GradientCoder$Contexts" "c" "[I" ∈ TS := TS_9_in _ (List.mem_of_getElem? (i := 7) rfl)
theorem m_548 : .laysFinal R_Ctx "GradientCoder$Contexts" "n" "[I" ∈ TS := TS_9_in _ (List.mem_of_getElem? (i := 8) rfl)
theorem m_549 : .laysFinal R_Ctx "GradientCoder$Contexts" "m" "[I" ∈ TS := TS_9_in _ (List.mem_of_getElem? (i := 9) rfl)
theorem m_550 : .lays R_Ctx "GradientCoder$Contexts" "runIndex" "I" ∈ TS := TS_9_in _ (List.mem_of_getElem? (i := 10) rfl)
theorem m_551 : .laysFinal R_Cod "GradientCoder$Pass" "picture" "LGradientCoder$Picture;" ∈ TS := TS_9_in _ (List.mem_of_getElem? (i := 11) rfl)
theorem m_552 : .laysFinal R_Cod "GradientCoder$Pass" "contexts" "LGradientCoder$Contexts;" ∈ TS := TS_9_in _ (List.mem_of_getElem? (i := 12) rfl)
theorem m_553 : .laysFinal R_Cod "GradientCoder$Pass" "rebuilt" "[I" ∈ TS := TS_9_in _ (List.mem_of_getElem? (i := 13) rfl)
theorem m_554 : .lays R_Cod "GradientCoder$Pass" "a" "I" ∈ TS := TS_9_in _ (List.mem_of_getElem? (i := 14) rfl)
theorem m_555 : .lays R_Cod "GradientCoder$Pass" "b" "I" ∈ TS := TS_9_in _ (List.mem_of_getElem? (i := 15) rfl)
theorem m_556 : .lays R_Cod "GradientCoder$Pass" "c" "I" ∈ TS := TS_9_in _ (List.mem_of_getElem? (i := 16) rfl)
theorem m_557 : .lays R_Cod "GradientCoder$Pass" "d" "I" ∈ TS := TS_9_in _ (List.mem_of_getElem? (i := 17) rfl)
theorem m_558 : .lays R_Cod "GradientCoder$Pass" "sign" "I" ∈ TS := TS_9_in _ (List.mem_of_getElem? (i := 18) rfl)
theorem m_559 : .lays R_Cod "GradientCoder$Pass" "foretold" "I" ∈ TS := TS_9_in _ (List.mem_of_getElem? (i := 19) rfl)
theorem m_560 : .laysFinal R_Cod "GradientCoder$Coding" "samples" "[I" ∈ TS := TS_9_in _ (List.mem_of_getElem? (i := 20) rfl)
theorem m_561 : .laysFinal R_Cod "GradientCoder$Coding" "writer" "LGradientCoder$Writer;" ∈ TS := TS_9_in _ (List.mem_of_getElem? (i := 21) rfl)
theorem m_562 : .laysFinal R_Rdg "GradientCoder$Pass" "picture" "LGradientCoder$Picture;" ∈ TS := TS_9_in _ (List.mem_of_getElem? (i := 22) rfl)
theorem m_563 : .laysFinal R_Rdg "GradientCoder$Pass" "contexts" "LGradientCoder$Contexts;" ∈ TS := TS_9_in _ (List.mem_of_getElem? (i := 23) rfl)
theorem m_564 : .laysFinal R_Rdg "GradientCoder$Pass" "rebuilt" "[I" ∈ TS := TS_9_in _ (List.mem_of_getElem? (i := 24) rfl)
theorem m_565 : .lays R_Rdg "GradientCoder$Pass" "a" "I" ∈ TS := TS_9_in _ (List.mem_of_getElem? (i := 25) rfl)
theorem m_566 : .lays R_Rdg "GradientCoder$Pass" "b" "I" ∈ TS := TS_9_in _ (List.mem_of_getElem? (i := 26) rfl)
theorem m_567 : .lays R_Rdg "GradientCoder$Pass" "c" "I" ∈ TS := TS_9_in _ (List.mem_of_getElem? (i := 27) rfl)
theorem m_568 : .lays R_Rdg "GradientCoder$Pass" "d" "I" ∈ TS := TS_9_in _ (List.mem_of_getElem? (i := 28) rfl)
theorem m_569 : .lays R_Rdg "GradientCoder$Pass" "sign" "I" ∈ TS := TS_9_in _ (List.mem_of_getElem? (i := 29) rfl)
theorem m_570 : .lays R_Rdg "GradientCoder$Pass" "foretold" "I" ∈ TS := TS_9_in _ (List.mem_of_getElem? (i := 30) rfl)
theorem m_571 : .laysFinal R_Rdg "GradientCoder$Reading" "reader" "LGradientCoder$Reader;" ∈ TS := TS_9_in _ (List.mem_of_getElem? (i := 31) rfl)
theorem m_572 : .laysFinal R_Wri "GradientCoder$Writer" "bytes" "[I" ∈ TS := TS_9_in _ (List.mem_of_getElem? (i := 32) rfl)
theorem m_573 : .lays R_Wri "GradientCoder$Writer" "size" "I" ∈ TS := TS_9_in _ (List.mem_of_getElem? (i := 33) rfl)
theorem m_574 : .lays R_Wri "GradientCoder$Writer" "bitsFree" "I" ∈ TS := TS_9_in _ (List.mem_of_getElem? (i := 34) rfl)
theorem m_575 : .laysFinal R_Rea "GradientCoder$Reader" "bytes" "[I" ∈ TS := TS_9_in _ (List.mem_of_getElem? (i := 35) rfl)
theorem m_576 : .lays R_Rea "GradientCoder$Reader" "end" "I" ∈ TS := TS_9_in _ (List.mem_of_getElem? (i := 36) rfl)
theorem m_577 : .lays R_Rea "GradientCoder$Reader" "next" "I" ∈ TS := TS_9_in _ (List.mem_of_getElem? (i := 37) rfl)
theorem m_578 : .lays R_Rea "GradientCoder$Reader" "bitsLeft" "I" ∈ TS := TS_9_in _ (List.mem_of_getElem? (i := 38) rfl)
theorem m_579 : .lays R_Mod "GradientCoderModel" "thrown" "I" ∈ TS := TS_9_in _ (List.mem_of_getElem? (i := 39) rfl)
theorem m_580 : .lays R_Mod "GradientCoderModel" "width" "I" ∈ TS := TS_9_in _ (List.mem_of_getElem? (i := 40) rfl)
theorem m_581 : .lays R_Mod "GradientCoderModel" "height" "I" ∈ TS := TS_9_in _ (List.mem_of_getElem? (i := 41) rfl)
theorem m_582 : .lays R_Mod "GradientCoderModel" "maxval" "I" ∈ TS := TS_9_in _ (List.mem_of_getElem? (i := 42) rfl)
theorem m_583 : .lays R_Mod "GradientCoderModel" "near" "I" ∈ TS := TS_9_in _ (List.mem_of_getElem? (i := 43) rfl)
theorem m_584 : .lays R_Mod "GradientCoderModel" "step" "I" ∈ TS := TS_9_in _ (List.mem_of_getElem? (i := 44) rfl)
theorem m_585 : .lays R_Mod "GradientCoderModel" "range" "I" ∈ TS := TS_9_in _ (List.mem_of_getElem? (i := 45) rfl)
theorem m_586 : .lays R_Mod "GradientCoderModel" "qb" "I" ∈ TS := TS_9_in _ (List.mem_of_getElem? (i := 46) rfl)
theorem m_587 : .lays R_Mod "GradientCoderModel" "limit" "I" ∈ TS := TS_9_in _ (List.mem_of_getElem? (i := 47) rfl)
theorem m_588 : .lays R_Mod "GradientCoderModel" "t1" "I" ∈ TS := TS_9_in _ (List.mem_of_getElem? (i := 48) rfl)
theorem m_589 : .lays R_Mod "GradientCoderModel" "t2" "I" ∈ TS := TS_9_in _ (List.mem_of_getElem? (i := 49) rfl)
theorem m_590 : .lays R_Mod "GradientCoderModel" "t3" "I" ∈ TS := TS_9_in _ (List.mem_of_getElem? (i := 50) rfl)
theorem m_591 : .laysFinal R_Mod "GradientCoderModel" "sample" "[I" ∈ TS := TS_9_in _ (List.mem_of_getElem? (i := 51) rfl)
theorem m_592 : .laysFinal R_Mod "GradientCoderModel" "rebuilt" "[I" ∈ TS := TS_9_in _ (List.mem_of_getElem? (i := 52) rfl)
theorem m_593 : .laysFinal R_Mod "GradientCoderModel" "contexts" "[I" ∈ TS := TS_9_in _ (List.mem_of_getElem? (i := 53) rfl)
theorem m_594 : .lays R_Mod "GradientCoderModel" "runIndex" "I" ∈ TS := TS_9_in _ (List.mem_of_getElem? (i := 54) rfl)
theorem m_595 : .laysFinal R_Mod "GradientCoderModel" "code" "[I" ∈ TS := TS_9_in _ (List.mem_of_getElem? (i := 55) rfl)
theorem m_596 : .lays R_Mod "GradientCoderModel" "size" "I" ∈ TS := TS_9_in _ (List.mem_of_getElem? (i := 56) rfl)
theorem m_597 : .lays R_Mod "GradientCoderModel" "begun" "I" ∈ TS := TS_9_in _ (List.mem_of_getElem? (i := 57) rfl)
theorem m_598 : .lays R_Mod "GradientCoderModel" "bits" "I" ∈ TS := TS_9_in _ (List.mem_of_getElem? (i := 58) rfl)
theorem m_599 : .lays R_Mod "GradientCoderModel" "reading" "Z" ∈ TS := TS_9_in _ (List.mem_of_getElem? (i := 59) rfl)
theorem m_600 : .lays R_Mod "GradientCoderModel" "at" "I" ∈ TS := TS_10_in _ (List.mem_of_getElem? (i := 0) rfl)
theorem m_601 : .lays R_Mod "GradientCoderModel" "now" "I" ∈ TS := TS_10_in _ (List.mem_of_getElem? (i := 1) rfl)
theorem m_602 : .lays R_Mod "GradientCoderModel" "left" "I" ∈ TS := TS_10_in _ (List.mem_of_getElem? (i := 2) rfl)
theorem m_603 : .lays R_Mod "GradientCoderModel" "good" "Z" ∈ TS := TS_10_in _ (List.mem_of_getElem? (i := 3) rfl)
theorem m_604 : .laysFinal R_Mod "GradientCoderModel" "oldSample" "[I" ∈ TS := TS_10_in _ (List.mem_of_getElem? (i := 4) rfl)
theorem m_605 : .laysFinal R_Mod "GradientCoderModel" "oldRebuilt" "[I" ∈ TS := TS_10_in _ (List.mem_of_getElem? (i := 5) rfl)
theorem m_606 : .laysFinal R_Mod "GradientCoderModel" "oldContexts" "[I" ∈ TS := TS_10_in _ (List.mem_of_getElem? (i := 6) rfl)
theorem TS_0_ok : TS_0.all goodWord = true := by decide +kernel
theorem TS_1_ok : TS_1.all goodWord = true := by decide +kernel
theorem TS_2_ok : TS_2.all goodWord = true := by decide +kernel
theorem TS_3_ok : TS_3.all goodWord = true := by decide +kernel
theorem TS_4_ok : TS_4.all goodWord = true := by decide +kernel
theorem TS_5_ok : TS_5.all goodWord = true := by decide +kernel
theorem TS_6_ok : TS_6.all goodWord = true := by decide +kernel
theorem TS_7_ok : TS_7.all goodWord = true := by decide +kernel
theorem TS_8_ok : TS_8.all goodWord = true := by decide +kernel
theorem TS_9_ok : TS_9.all goodWord = true := by decide +kernel
theorem TS_10_ok : TS_10.all goodWord = true := by decide +kernel
theorem TS_good : ∀ w ∈ TS, goodWord w = true := by
  intro w h
  unfold TS at h
  rcases List.mem_append.mp h with h | h
  · exact List.all_eq_true.mp TS_0_ok w h
  rcases List.mem_append.mp h with h | h
  · exact List.all_eq_true.mp TS_1_ok w h
  rcases List.mem_append.mp h with h | h
  · exact List.all_eq_true.mp TS_2_ok w h
  rcases List.mem_append.mp h with h | h
  · exact List.all_eq_true.mp TS_3_ok w h
  rcases List.mem_append.mp h with h | h
  · exact List.all_eq_true.mp TS_4_ok w h
  rcases List.mem_append.mp h with h | h
  · exact List.all_eq_true.mp TS_5_ok w h
  rcases List.mem_append.mp h with h | h
  · exact List.all_eq_true.mp TS_6_ok w h
  rcases List.mem_append.mp h with h | h
  · exact List.all_eq_true.mp TS_7_ok w h
  rcases List.mem_append.mp h with h | h
  · exact List.all_eq_true.mp TS_8_ok w h
  rcases List.mem_append.mp h with h | h
  · exact List.all_eq_true.mp TS_9_ok w h
  exact List.all_eq_true.mp TS_10_ok w h
theorem TS_ok : GoodIn TS TS := fun w h => ⟨h, good_of_word (TS_good w h)⟩
theorem in_Grc : ∀ w ∈ u_ws R_Grc F_Grc 2, w ∈ TS := by
  intro w h
  obtain ⟨k, hk, rfl⟩ := List.mem_map.mp h
  have hk := List.mem_range.mp hk
  match k, hk with
  | 0, _ => exact m_532
  | 1, _ => exact m_533
  | n + 2, hk => omega
theorem in_Pic : ∀ w ∈ u_ws R_Pic F_Pic 11, w ∈ TS := by
  intro w h
  obtain ⟨k, hk, rfl⟩ := List.mem_map.mp h
  have hk := List.mem_range.mp hk
  match k, hk with
  | 0, _ => exact m_534
  | 1, _ => exact m_535
  | 2, _ => exact m_536
  | 3, _ => exact m_537
  | 4, _ => exact m_538
  | 5, _ => exact m_539
  | 6, _ => exact m_540
  | 7, _ => exact m_541
  | 8, _ => exact m_542
  | 9, _ => exact m_543
  | 10, _ => exact m_544
  | n + 11, hk => omega
theorem in_Ctx : ∀ w ∈ u_ws R_Ctx F_Ctx 6, w ∈ TS := by
  intro w h
  obtain ⟨k, hk, rfl⟩ := List.mem_map.mp h
  have hk := List.mem_range.mp hk
  match k, hk with
  | 0, _ => exact m_545
  | 1, _ => exact m_546
  | 2, _ => exact m_547
  | 3, _ => exact m_548
  | 4, _ => exact m_549
  | 5, _ => exact m_550
  | n + 6, hk => omega
theorem in_Cod : ∀ w ∈ u_ws R_Cod F_Cod 11, w ∈ TS := by
  intro w h
  obtain ⟨k, hk, rfl⟩ := List.mem_map.mp h
  have hk := List.mem_range.mp hk
  match k, hk with
  | 0, _ => exact m_551
  | 1, _ => exact m_552
  | 2, _ => exact m_553
  | 3, _ => exact m_554
  | 4, _ => exact m_555
  | 5, _ => exact m_556
  | 6, _ => exact m_557
  | 7, _ => exact m_558
  | 8, _ => exact m_559
  | 9, _ => exact m_560
  | 10, _ => exact m_561
  | n + 11, hk => omega
theorem in_Rdg : ∀ w ∈ u_ws R_Rdg F_Rdg 10, w ∈ TS := by
  intro w h
  obtain ⟨k, hk, rfl⟩ := List.mem_map.mp h
  have hk := List.mem_range.mp hk
  match k, hk with
  | 0, _ => exact m_562
  | 1, _ => exact m_563
  | 2, _ => exact m_564
  | 3, _ => exact m_565
  | 4, _ => exact m_566
  | 5, _ => exact m_567
  | 6, _ => exact m_568
  | 7, _ => exact m_569
  | 8, _ => exact m_570
  | 9, _ => exact m_571
  | n + 10, hk => omega
theorem in_Wri : ∀ w ∈ u_ws R_Wri F_Wri 3, w ∈ TS := by
  intro w h
  obtain ⟨k, hk, rfl⟩ := List.mem_map.mp h
  have hk := List.mem_range.mp hk
  match k, hk with
  | 0, _ => exact m_572
  | 1, _ => exact m_573
  | 2, _ => exact m_574
  | n + 3, hk => omega
theorem in_Rea : ∀ w ∈ u_ws R_Rea F_Rea 4, w ∈ TS := by
  intro w h
  obtain ⟨k, hk, rfl⟩ := List.mem_map.mp h
  have hk := List.mem_range.mp hk
  match k, hk with
  | 0, _ => exact m_575
  | 1, _ => exact m_576
  | 2, _ => exact m_577
  | 3, _ => exact m_578
  | n + 4, hk => omega
theorem in_Mod : ∀ w ∈ u_ws R_Mod F_Mod 28, w ∈ TS := by
  intro w h
  obtain ⟨k, hk, rfl⟩ := List.mem_map.mp h
  have hk := List.mem_range.mp hk
  match k, hk with
  | 0, _ => exact m_579
  | 1, _ => exact m_580
  | 2, _ => exact m_581
  | 3, _ => exact m_582
  | 4, _ => exact m_583
  | 5, _ => exact m_584
  | 6, _ => exact m_585
  | 7, _ => exact m_586
  | 8, _ => exact m_587
  | 9, _ => exact m_588
  | 10, _ => exact m_589
  | 11, _ => exact m_590
  | 12, _ => exact m_591
  | 13, _ => exact m_592
  | 14, _ => exact m_593
  | 15, _ => exact m_594
  | 16, _ => exact m_595
  | 17, _ => exact m_596
  | 18, _ => exact m_597
  | 19, _ => exact m_598
  | 20, _ => exact m_599
  | 21, _ => exact m_600
  | 22, _ => exact m_601
  | 23, _ => exact m_602
  | 24, _ => exact m_603
  | 25, _ => exact m_604
  | 26, _ => exact m_605
  | 27, _ => exact m_606
  | n + 28, hk => omega
end
section
abbrev wPic (cI : ClassId) (q0 : Nat) (u : gU) : va_W := [(q0, .inr (1, [.int (u 0 0), .int (u 0 1), .int (u 0 2), .int (u 0 3), .int (u 0 4), .int (u 0 5), .int (u 0 6), .int (u 0 7), .int (u 0 8), .int (u 0 9), .int (u 0 10)]))]
abbrev wCtx (cI : ClassId) (q0 q1 q2 q3 q4 q5 : Nat) (u : gU) : va_W := [(q0, .inr (2, [.ref q1, .ref q2, .ref q3, .ref q4, .ref q5, .int (u 0 0)])), (q1, .inl (cI, 367, .inl (u 1))), (q2, .inl (cI, 367, .inl (u 2))), (q3, .inl (cI, 367, .inl (u 3))), (q4, .inl (cI, 367, .inl (u 4))), (q5, .inl (cI, 367, .inl (u 5)))]
abbrev wWri (cI : ClassId) (q0 q1 : Nat) (u : gU) : va_W := [(q0, .inr (5, [.ref q1, .int (u 0 0), .int (u 0 1)])), (q1, .inl (cI, 512, .inl (u 1)))]
abbrev wRea (cI : ClassId) (q0 q1 : Nat) (u : gU) : va_W := [(q0, .inr (6, [.ref q1, .int (u 0 0), .int (u 0 1), .int (u 0 2)])), (q1, .inl (cI, 512, .inl (u 1)))]
abbrev wCod (cI : ClassId) (q0 q1 q2 q3 q4 q5 q6 q7 q8 q9 q10 q11 : Nat) (u : gU) : va_W := [(q0, .inr (3, [.ref q1, .ref q2, .ref q8, .int (u 0 0), .int (u 0 1), .int (u 0 2), .int (u 0 3), .int (u 0 4), .int (u 0 5), .ref q9, .ref q10])), (q1, .inr (1, [.int (u 1 0), .int (u 1 1), .int (u 1 2), .int (u 1 3), .int (u 1 4), .int (u 1 5), .int (u 1 6), .int (u 1 7), .int (u 1 8), .int (u 1 9), .int (u 1 10)])), (q2, .inr (2, [.ref q3, .ref q4, .ref q5, .ref q6, .ref q7, .int (u 2 0)])), (q3, .inl (cI, 367, .inl (u 3))), (q4, .inl (cI, 367, .inl (u 4))), (q5, .inl (cI, 367, .inl (u 5))), (q6, .inl (cI, 367, .inl (u 6))), (q7, .inl (cI, 367, .inl (u 7))), (q8, .inl (cI, 64, .inl (u 8))), (q9, .inl (cI, 64, .inl (u 9))), (q10, .inr (5, [.ref q11, .int (u 10 0), .int (u 10 1)])), (q11, .inl (cI, 512, .inl (u 11)))]
abbrev wRdg (cI : ClassId) (q0 q1 q2 q3 q4 q5 q6 q7 q8 q9 q10 : Nat) (u : gU) : va_W := [(q0, .inr (4, [.ref q1, .ref q2, .ref q8, .int (u 0 0), .int (u 0 1), .int (u 0 2), .int (u 0 3), .int (u 0 4), .int (u 0 5), .ref q9])), (q1, .inr (1, [.int (u 1 0), .int (u 1 1), .int (u 1 2), .int (u 1 3), .int (u 1 4), .int (u 1 5), .int (u 1 6), .int (u 1 7), .int (u 1 8), .int (u 1 9), .int (u 1 10)])), (q2, .inr (2, [.ref q3, .ref q4, .ref q5, .ref q6, .ref q7, .int (u 2 0)])), (q3, .inl (cI, 367, .inl (u 3))), (q4, .inl (cI, 367, .inl (u 4))), (q5, .inl (cI, 367, .inl (u 5))), (q6, .inl (cI, 367, .inl (u 6))), (q7, .inl (cI, 367, .inl (u 7))), (q8, .inl (cI, 64, .inl (u 8))), (q9, .inr (6, [.ref q10, .int (u 9 0), .int (u 9 1), .int (u 9 2)])), (q10, .inl (cI, 512, .inl (u 10)))]
abbrev wGrc (cI : ClassId) (q0 q1 q2 q3 q4 q5 q6 q7 q8 q9 q10 q11 q12 q13 q14 q15 q16 q17 q18 q19 q20 q21 q22 q23 : Nat) (u : gU) : va_W := [(q0, .inr (0, [.ref q1, .ref q13])), (q1, .inr (3, [.ref q2, .ref q3, .ref q9, .int (u 1 0), .int (u 1 1), .int (u 1 2), .int (u 1 3), .int (u 1 4), .int (u 1 5), .ref q10, .ref q11])), (q2, .inr (1, [.int (u 2 0), .int (u 2 1), .int (u 2 2), .int (u 2 3), .int (u 2 4), .int (u 2 5), .int (u 2 6), .int (u 2 7), .int (u 2 8), .int (u 2 9), .int (u 2 10)])), (q3, .inr (2, [.ref q4, .ref q5, .ref q6, .ref q7, .ref q8, .int (u 3 0)])), (q4, .inl (cI, 367, .inl (u 4))), (q5, .inl (cI, 367, .inl (u 5))), (q6, .inl (cI, 367, .inl (u 6))), (q7, .inl (cI, 367, .inl (u 7))), (q8, .inl (cI, 367, .inl (u 8))), (q9, .inl (cI, 64, .inl (u 9))), (q10, .inl (cI, 64, .inl (u 10))), (q11, .inr (5, [.ref q12, .int (u 11 0), .int (u 11 1)])), (q12, .inl (cI, 512, .inl (u 12))), (q13, .inr (4, [.ref q14, .ref q15, .ref q21, .int (u 13 0), .int (u 13 1), .int (u 13 2), .int (u 13 3), .int (u 13 4), .int (u 13 5), .ref q22])), (q14, .inr (1, [.int (u 14 0), .int (u 14 1), .int (u 14 2), .int (u 14 3), .int (u 14 4), .int (u 14 5), .int (u 14 6), .int (u 14 7), .int (u 14 8), .int (u 14 9), .int (u 14 10)])), (q15, .inr (2, [.ref q16, .ref q17, .ref q18, .ref q19, .ref q20, .int (u 15 0)])), (q16, .inl (cI, 367, .inl (u 16))), (q17, .inl (cI, 367, .inl (u 17))), (q18, .inl (cI, 367, .inl (u 18))), (q19, .inl (cI, 367, .inl (u 19))), (q20, .inl (cI, 367, .inl (u 20))), (q21, .inl (cI, 64, .inl (u 21))), (q22, .inr (6, [.ref q23, .int (u 22 0), .int (u 22 1), .int (u 22 2)])), (q23, .inl (cI, 512, .inl (u 23)))]
abbrev wMod (cI : ClassId) (q0 q1 q2 q3 q4 q5 q6 q7 : Nat) (u : gU) : va_W := [(q0, .inr (7, [.int (u 0 0), .int (u 0 1), .int (u 0 2), .int (u 0 3), .int (u 0 4), .int (u 0 5), .int (u 0 6), .int (u 0 7), .int (u 0 8), .int (u 0 9), .int (u 0 10), .int (u 0 11), .ref q1, .ref q2, .ref q3, .int (u 0 12), .ref q4, .int (u 0 13), .int (u 0 14), .int (u 0 15), .int (u 0 16), .int (u 0 17), .int (u 0 18), .int (u 0 19), .int (u 0 20), .ref q5, .ref q6, .ref q7])), (q1, .inl (cI, 64, .inl (u 1))), (q2, .inl (cI, 64, .inl (u 2))), (q3, .inl (cI, 1835, .inl (u 3))), (q4, .inl (cI, 600, .inl (u 4))), (q5, .inl (cI, 64, .inl (u 5))), (q6, .inl (cI, 64, .inl (u 6))), (q7, .inl (cI, 1835, .inl (u 7)))]
abbrev wCtxCtx (cI : ClassId) (q0 q1 q2 q3 q4 q5 q6 q7 q8 q9 q10 q11 : Nat) (u : gU) : va_W := [(q0, .inr (2, [.ref q1, .ref q2, .ref q3, .ref q4, .ref q5, .int (u 0 0)])), (q1, .inl (cI, 367, .inl (u 1))), (q2, .inl (cI, 367, .inl (u 2))), (q3, .inl (cI, 367, .inl (u 3))), (q4, .inl (cI, 367, .inl (u 4))), (q5, .inl (cI, 367, .inl (u 5))), (q6, .inr (2, [.ref q7, .ref q8, .ref q9, .ref q10, .ref q11, .int (u 6 0)])), (q7, .inl (cI, 367, .inl (u 7))), (q8, .inl (cI, 367, .inl (u 8))), (q9, .inl (cI, 367, .inl (u 9))), (q10, .inl (cI, 367, .inl (u 10))), (q11, .inl (cI, 367, .inl (u 11)))]
abbrev wCodRdg (cI : ClassId) (q0 q1 q2 q3 q4 q5 q6 q7 q8 q9 q10 q11 q12 q13 q14 q15 q16 q17 q18 q19 q20 q21 q22 : Nat) (u : gU) : va_W := [(q0, .inr (3, [.ref q1, .ref q2, .ref q8, .int (u 0 0), .int (u 0 1), .int (u 0 2), .int (u 0 3), .int (u 0 4), .int (u 0 5), .ref q9, .ref q10])), (q1, .inr (1, [.int (u 1 0), .int (u 1 1), .int (u 1 2), .int (u 1 3), .int (u 1 4), .int (u 1 5), .int (u 1 6), .int (u 1 7), .int (u 1 8), .int (u 1 9), .int (u 1 10)])), (q2, .inr (2, [.ref q3, .ref q4, .ref q5, .ref q6, .ref q7, .int (u 2 0)])), (q3, .inl (cI, 367, .inl (u 3))), (q4, .inl (cI, 367, .inl (u 4))), (q5, .inl (cI, 367, .inl (u 5))), (q6, .inl (cI, 367, .inl (u 6))), (q7, .inl (cI, 367, .inl (u 7))), (q8, .inl (cI, 64, .inl (u 8))), (q9, .inl (cI, 64, .inl (u 9))), (q10, .inr (5, [.ref q11, .int (u 10 0), .int (u 10 1)])), (q11, .inl (cI, 512, .inl (u 11))), (q12, .inr (4, [.ref q13, .ref q14, .ref q20, .int (u 12 0), .int (u 12 1), .int (u 12 2), .int (u 12 3), .int (u 12 4), .int (u 12 5), .ref q21])), (q13, .inr (1, [.int (u 13 0), .int (u 13 1), .int (u 13 2), .int (u 13 3), .int (u 13 4), .int (u 13 5), .int (u 13 6), .int (u 13 7), .int (u 13 8), .int (u 13 9), .int (u 13 10)])), (q14, .inr (2, [.ref q15, .ref q16, .ref q17, .ref q18, .ref q19, .int (u 14 0)])), (q15, .inl (cI, 367, .inl (u 15))), (q16, .inl (cI, 367, .inl (u 16))), (q17, .inl (cI, 367, .inl (u 17))), (q18, .inl (cI, 367, .inl (u 18))), (q19, .inl (cI, 367, .inl (u 19))), (q20, .inl (cI, 64, .inl (u 20))), (q21, .inr (6, [.ref q22, .int (u 21 0), .int (u 21 1), .int (u 21 2)])), (q22, .inl (cI, 512, .inl (u 22)))]
abbrev wRdgWri (cI : ClassId) (q0 q1 q2 q3 q4 q5 q6 q7 q8 q9 q10 q11 q12 : Nat) (u : gU) : va_W := [(q0, .inr (4, [.ref q1, .ref q2, .ref q8, .int (u 0 0), .int (u 0 1), .int (u 0 2), .int (u 0 3), .int (u 0 4), .int (u 0 5), .ref q9])), (q1, .inr (1, [.int (u 1 0), .int (u 1 1), .int (u 1 2), .int (u 1 3), .int (u 1 4), .int (u 1 5), .int (u 1 6), .int (u 1 7), .int (u 1 8), .int (u 1 9), .int (u 1 10)])), (q2, .inr (2, [.ref q3, .ref q4, .ref q5, .ref q6, .ref q7, .int (u 2 0)])), (q3, .inl (cI, 367, .inl (u 3))), (q4, .inl (cI, 367, .inl (u 4))), (q5, .inl (cI, 367, .inl (u 5))), (q6, .inl (cI, 367, .inl (u 6))), (q7, .inl (cI, 367, .inl (u 7))), (q8, .inl (cI, 64, .inl (u 8))), (q9, .inr (6, [.ref q10, .int (u 9 0), .int (u 9 1), .int (u 9 2)])), (q10, .inl (cI, 512, .inl (u 10))), (q11, .inr (5, [.ref q12, .int (u 11 0), .int (u 11 1)])), (q12, .inl (cI, 512, .inl (u 12)))]
abbrev wReaArr (cI : ClassId) (q0 q1 q2 : Nat) (u : gU) : va_W := [(q0, .inr (6, [.ref q1, .int (u 0 0), .int (u 0 1), .int (u 0 2)])), (q1, .inl (cI, 512, .inl (u 1))), (q2, .inl (cI, 512, .inl (u 2)))]
abbrev wArrN (cI : ClassId) (nn : Nat) (q0 : Nat) (u : gU) : va_W := [(q0, .inl (cI, nn, .inl (u 0)))]
end
section
theorem g_0 : GoodIn TS (wsV R_Pic 54 R_Pic y_Pic_clamp (.code y_Pic_clamp b_Pic_clamp 3 (some .int) :: TS)) := gi_V TS_ok m_3 m_4 m_5 m_6 m_2
theorem g_1 : GoodIn TS (va_wsS R_Pic 32 y_Pic_leastPower (.code y_Pic_leastPower b_Pic_leastPower 3 (some .int) :: TS)) := gi_S TS_ok m_19 m_20 m_6 m_18
theorem g_2 : GoodIn TS (wsV R_Pic 51 R_Pic y_Pic_becomeCoarse (.code y_Pic_becomeCoarse b_Pic_becomeCoarse 2 none :: TS)) := gi_V TS_ok m_24 m_25 m_26 m_6 m_23
theorem g_3 : GoodIn TS (wsV R_Pic 47 R_Pic y_Pic_becomeFine (.code y_Pic_becomeFine b_Pic_becomeFine 2 none :: TS)) := gi_V TS_ok m_28 m_29 m_30 m_6 m_27
theorem g_4 : GoodIn TS (wsV R_Ctx 50 R_Ctx y_Ctx_leastK (.code y_Ctx_leastK b_Ctx_leastK 4 (some .int) :: TS)) := gi_V TS_ok m_42 m_43 m_44 m_45 m_41
theorem g_5 : GoodIn TS (wsV R_Ctx 61 R_Ctx y_Ctx_correctUp (.code y_Ctx_correctUp b_Ctx_correctUp 2 none :: TS)) := gi_V TS_ok m_52 m_53 m_54 m_45 m_51
theorem g_6 : GoodIn TS (wsV R_Ctx 57 R_Ctx y_Ctx_correctDown (.code y_Ctx_correctDown b_Ctx_correctDown 2 none :: TS)) := gi_V TS_ok m_56 m_57 m_58 m_45 m_55
theorem g_7 : GoodIn TS (va_wsS R_Ctx 31 y_Arrs_fill_102 (.code y_Arrs_fill_102 b_Arrs_fill_102 4 none :: TS)) := gi_S TS_ok m_61 m_62 m_63 m_60
theorem g_8 : GoodIn TS (wsV R_Wri 24 R_Wri y_Wri_writeByte (.code y_Wri_writeByte b_Wri_writeByte 2 none :: TS)) := gi_V TS_ok m_72 m_73 m_74 m_75 m_71
theorem g_9 : GoodIn TS (wsV R_Wri 20 R_Wri y_Wri_endsWith255 (.code y_Wri_endsWith255 b_Wri_endsWith255 1 (some .boolean) :: TS)) := gi_V TS_ok m_77 m_78 m_79 m_75 m_76
theorem g_10 : GoodIn TS (wsV R_Wri 28 R_Wri y_Wri_writeBits (.code y_Wri_writeBits b_Wri_writeBits 4 none :: TS)) := gi_V TS_ok m_81 m_82 m_83 m_75 m_80
theorem g_11 : GoodIn TS (va_wsS R_Pas 41 y_Pic_place (.code y_Pic_place b_Pic_place 2 (some .int) :: TS)) := gi_S TS_ok m_86 m_87 m_6 m_85
theorem g_12 : GoodIn TS (va_wsU R_Pas 65 R_Cod R_Pas y_Pas_rebuiltOrNothing y_Pas_rebuiltOrNothing (.code y_Pas_rebuiltOrNothing b_Pas_rebuiltOrNothing 3 (some .int) :: TS)) := gi_U TS_ok m_94 m_95 m_96 m_97 m_98 m_93
theorem g_13 : GoodIn TS (wsV R_Pas 77 R_Pic y_Pic_isNear (.code y_Pic_isNear b_Pic_isNear 2 (some .boolean) :: TS)) := gi_V TS_ok m_101 m_102 m_103 m_6 m_100
theorem g_14 : GoodIn TS (wsV R_Pas 125 R_Pic y_Pic_level (.code y_Pic_level b_Pic_level 2 (some .int) :: TS)) := gi_V TS_ok m_105 m_106 m_107 m_6 m_104
theorem g_15 : GoodIn TS (wsV R_Pas 158 R_Ctx y_Ctx_j (.code y_Ctx_j b_Ctx_j 1 (some .int) :: TS)) := gi_V TS_ok m_113 m_114 m_115 m_45 m_112
theorem g_16 : GoodIn TS (wsV R_Cod 146 R_Pic y_Pic_divided (.code y_Pic_divided b_Pic_divided 2 (some .int) :: TS)) := gi_V TS_ok m_124 m_125 m_126 m_6 m_123
theorem g_17 : GoodIn TS (wsV R_Cod 152 R_Pic y_Pic_bounded (.code y_Pic_bounded b_Pic_bounded 2 (some .int) :: TS)) := gi_V TS_ok m_131 m_132 m_133 m_6 m_130
theorem g_18 : GoodIn TS (wsV R_Cod 155 R_Pic y_Pic_reduced (.code y_Pic_reduced b_Pic_reduced 3 (some .int) :: TS)) := gi_V TS_ok m_135 m_136 m_137 m_6 m_134
theorem g_19 : GoodIn TS (wsV R_Cod 103 R_Ctx y_Ctx_j (.code y_Ctx_j b_Ctx_j 1 (some .int) :: TS)) := gi_V TS_ok m_140 m_114 m_115 m_45 m_112
theorem g_20 : GoodIn TS (wsV R_Cod 107 R_Wri y_Wri_writeBits (.code y_Wri_writeBits b_Wri_writeBits 4 none :: TS)) := gi_V TS_ok m_142 m_82 m_83 m_75 m_80
theorem g_21 : GoodIn TS (wsV R_Cod 111 R_Ctx y_Ctx_raiseRunIndex (.code y_Ctx_raiseRunIndex b_Ctx_raiseRunIndex 1 none :: TS)) := gi_V TS_ok m_144 m_145 m_146 m_45 m_143
theorem g_22 : GoodIn TS (wsV R_Cod 99 R_Pic y_Pic_isNear (.code y_Pic_isNear b_Pic_isNear 2 (some .boolean) :: TS)) := gi_V TS_ok m_149 m_102 m_103 m_6 m_100
theorem g_23 : GoodIn TS (wsV R_Cod 114 R_Cod y_Cod_takeError (.code y_Cod_takeError b_Cod_takeError 3 (some .int) :: TS)) := gi_V TS_ok m_151 m_152 m_153 m_154 m_150
theorem g_24 : GoodIn TS (va_wsS R_Cod 118 y_Fol_foldRegular (.code y_Fol_foldRegular b_Fol_foldRegular 2 (some .int) :: TS)) := gi_S TS_ok m_156 m_157 m_158 m_155
theorem g_25 : GoodIn TS (wsV R_Cod 130 R_Wri y_Wri_writeNumber (.code y_Wri_writeNumber b_Wri_writeNumber 6 none :: TS)) := gi_V TS_ok m_162 m_163 m_164 m_75 m_161
theorem g_26 : GoodIn TS (va_wsS R_Cod 133 y_Fol_foldEnd (.code y_Fol_foldEnd b_Fol_foldEnd 4 (some .int) :: TS)) := gi_S TS_ok m_166 m_167 m_158 m_165
theorem g_27 : GoodIn TS (va_wsU R_Cod 137 R_Cod R_Pas y_Cod_limitOfEnd y_Pas_limitOfEnd (.code y_Pas_limitOfEnd b_Pas_limitOfEnd 1 (some .int) :: TS)) := gi_U TS_ok m_169 m_170 m_171 m_172 m_98 m_168
theorem g_28 : GoodIn TS (va_wsU R_Pas 114 R_Cod R_Pas y_Pas_carryRegular y_Cod_carryRegular (.code y_Cod_carryRegular b_Cod_carryRegular 5 (some .int) :: TS)) := gi_U TS_ok m_174 m_175 m_176 m_177 m_154 m_173
theorem g_29 : GoodIn TS (wsV R_Pas 121 R_Ctx y_Ctx_learnRegular (.code y_Ctx_learnRegular b_Ctx_learnRegular 4 none :: TS)) := gi_V TS_ok m_180 m_181 m_182 m_45 m_179
theorem g_30 : GoodIn TS (va_wsU R_Pas 94 R_Cod R_Pas y_Pas_foretoldByNeighbours y_Pas_foretoldByNeighbours (.code y_Pas_foretoldByNeighbours b_Pas_foretoldByNeighbours 3 (some .int) :: TS)) := gi_U TS_ok m_186 m_187 m_188 m_189 m_98 m_185
theorem g_31 : GoodIn TS (wsV R_Pas 99 R_Pic y_Pic_bounded (.code y_Pic_bounded b_Pic_bounded 2 (some .int) :: TS)) := gi_V TS_ok m_191 m_132 m_133 m_6 m_130
theorem g_32 : GoodIn TS (wsV R_Pas 105 R_Ctx y_Ctx_kOfRegular (.code y_Ctx_kOfRegular b_Ctx_kOfRegular 2 (some .int) :: TS)) := gi_V TS_ok m_194 m_195 m_196 m_45 m_193
theorem g_33 : GoodIn TS (wsV R_Pas 111 R_Ctx y_Ctx_leansDown (.code y_Ctx_leansDown b_Ctx_leansDown 2 (some .boolean) :: TS)) := gi_V TS_ok m_199 m_200 m_201 m_45 m_198
theorem g_34 : GoodIn TS (va_wsU R_Pas 81 R_Cod R_Pas y_Pas_signedContext y_Pas_signedContext (.code y_Pas_signedContext b_Pas_signedContext 1 (some .int) :: TS)) := gi_U TS_ok m_203 m_204 m_205 m_206 m_98 m_202
theorem g_35 : GoodIn TS (va_wsU R_Pas 140 R_Cod R_Pas y_Pas_carryEnd y_Cod_carryEnd (.code y_Cod_carryEnd b_Cod_carryEnd 6 (some .int) :: TS)) := gi_U TS_ok m_208 m_209 m_210 m_211 m_154 m_207
theorem g_36 : GoodIn TS (va_wsS R_Pas 144 y_Fol_foldEnd (.code y_Fol_foldEnd b_Fol_foldEnd 4 (some .int) :: TS)) := gi_S TS_ok m_212 m_167 m_158 m_165
theorem g_37 : GoodIn TS (wsV R_Pas 149 R_Ctx y_Ctx_learnEnd (.code y_Ctx_learnEnd b_Ctx_learnEnd 4 none :: TS)) := gi_V TS_ok m_214 m_215 m_216 m_45 m_213
theorem g_38 : GoodIn TS (wsV R_Pas 152 R_Ctx y_Ctx_lowerRunIndex (.code y_Ctx_lowerRunIndex b_Ctx_lowerRunIndex 1 none :: TS)) := gi_V TS_ok m_218 m_219 m_220 m_45 m_217
theorem g_39 : GoodIn TS (wsV R_Pas 134 R_Ctx y_Ctx_kOfEnd (.code y_Ctx_kOfEnd b_Ctx_kOfEnd 2 (some .int) :: TS)) := gi_V TS_ok m_222 m_223 m_224 m_45 m_221
theorem g_40 : GoodIn TS (wsV R_Pas 137 R_Ctx y_Ctx_isMostlyBelow (.code y_Ctx_isMostlyBelow b_Ctx_isMostlyBelow 2 (some .boolean) :: TS)) := gi_V TS_ok m_226 m_227 m_228 m_45 m_225
theorem g_41 : GoodIn TS (va_wsU R_Pas 62 R_Cod R_Pas y_Pas_overEnd y_Pas_overEnd (.code y_Pas_overEnd b_Pas_overEnd 7 none :: TS)) := gi_U TS_ok m_230 m_231 m_232 m_233 m_98 m_229
theorem g_42 : GoodIn TS (va_wsU R_Pas 56 R_Cod R_Pas y_Pas_overRegular y_Pas_overRegular (.code y_Pas_overRegular b_Pas_overRegular 7 none :: TS)) := gi_U TS_ok m_235 m_236 m_237 m_238 m_98 m_234
theorem g_43 : GoodIn TS (va_wsU R_Pas 45 R_Cod R_Pas y_Pas_lookAround y_Pas_lookAround (.code y_Pas_lookAround b_Pas_lookAround 3 none :: TS)) := gi_U TS_ok m_240 m_241 m_242 m_243 m_98 m_239
theorem g_44 : GoodIn TS (va_wsU R_Pas 49 R_Cod R_Pas y_Pas_isEven y_Pas_isEven (.code y_Pas_isEven b_Pas_isEven 1 (some .boolean) :: TS)) := gi_U TS_ok m_245 m_246 m_247 m_248 m_98 m_244
theorem g_45 : GoodIn TS (va_wsU R_Pas 53 R_Cod R_Pas y_Pas_carryRun y_Cod_carryRun (.code y_Cod_carryRun b_Cod_carryRun 5 (some .int) :: TS)) := gi_U TS_ok m_250 m_251 m_252 m_253 m_154 m_249
theorem g_46 : GoodIn TS (wsV R_Pas 31 R_Ctx y_Ctx_restart (.code y_Ctx_restart b_Ctx_restart 2 none :: TS)) := gi_V TS_ok m_257 m_258 m_259 m_45 m_256
theorem g_47 : GoodIn TS (va_wsS R_Cod 66 y_Pic_place (.code y_Pic_place b_Pic_place 2 (some .int) :: TS)) := gi_S TS_ok m_261 m_87 m_6 m_85
theorem g_48 : GoodIn TS (va_wsS R_Cod 59 y_Cod_sampleIn (.code y_Cod_sampleIn b_Cod_sampleIn 3 (some .int) :: TS)) := gi_S TS_ok m_263 m_264 m_154 m_262
theorem g_49 : GoodIn TS (wsV R_Cod 91 R_Wri y_Wri_restart (.code y_Wri_restart b_Wri_restart 1 none :: TS)) := gi_V TS_ok m_267 m_268 m_269 m_75 m_266
theorem g_50 : GoodIn TS (wsV R_Cod 93 R_Wri y_Wri_writeByte (.code y_Wri_writeByte b_Wri_writeByte 2 none :: TS)) := gi_V TS_ok m_270 m_73 m_74 m_75 m_71
theorem g_51 : GoodIn TS (wsV R_Cod 40 R_Pic y_Pic_become (.code y_Pic_become b_Pic_become 6 none :: TS)) := gi_V TS_ok m_274 m_275 m_276 m_6 m_273
theorem g_52 : GoodIn TS (wsV R_Cod 34 R_Ctx y_Ctx_restart (.code y_Ctx_restart b_Ctx_restart 2 none :: TS)) := gi_V TS_ok m_278 m_258 m_259 m_45 m_256
theorem g_53 : GoodIn TS (va_wsS R_Cod 44 y_Arrs_fill_102 (.code y_Arrs_fill_102 b_Arrs_fill_102 4 none :: TS)) := gi_S TS_ok m_279 m_62 m_63 m_60
theorem g_54 : GoodIn TS (wsV R_Cod 80 R_Ctx y_Ctx_takeOver (.code y_Ctx_takeOver b_Ctx_takeOver 2 none :: TS)) := gi_V TS_ok m_286 m_287 m_288 m_45 m_285
theorem g_55 : GoodIn TS (va_wsS R_Grc 23 y_Pic_fits (.code y_Pic_fits b_Pic_fits 4 (some .boolean) :: TS)) := gi_S TS_ok m_296 m_297 m_6 m_295
theorem g_56 : GoodIn TS (wsV R_Grc 29 R_Cod y_Cod_beginPicture (.code y_Cod_beginPicture b_Cod_beginPicture 5 none :: TS)) := gi_V TS_ok m_299 m_300 m_301 m_154 m_298
theorem g_57 : GoodIn TS (wsV R_Grc 41 R_Cod y_Cod_takeRow (.code y_Cod_takeRow b_Cod_takeRow 5 (some .boolean) :: TS)) := gi_V TS_ok m_305 m_306 m_307 m_154 m_304
theorem g_58 : GoodIn TS (wsV R_Grc 45 R_Cod y_Cod_writeHead (.code y_Cod_writeHead b_Cod_writeHead 1 none :: TS)) := gi_V TS_ok m_309 m_310 m_311 m_154 m_308
theorem g_59 : GoodIn TS (va_wsU R_Grc 48 R_Cod R_Pas y_Cod_overAll y_Pas_overAll (.code y_Pas_overAll b_Pas_overAll 6 none :: TS)) := gi_U TS_ok m_313 m_314 m_315 m_316 m_98 m_312
theorem g_60 : GoodIn TS (wsV R_Grc 55 R_Wri y_Wri_writeEnd (.code y_Wri_writeEnd b_Wri_writeEnd 1 none :: TS)) := gi_V TS_ok m_318 m_319 m_320 m_75 m_317
theorem g_61 : GoodIn TS (wsV R_Grc 63 R_Grc y_Grc_hasByte (.code y_Grc_hasByte b_Grc_hasByte 2 (some .boolean) :: TS)) := gi_V TS_ok m_322 m_323 m_324 m_325 m_321
theorem g_62 : GoodIn TS (wsV R_Grc 116 R_Pic y_Pic_hasPlace (.code y_Pic_hasPlace b_Pic_hasPlace 3 (some .boolean) :: TS)) := gi_V TS_ok m_337 m_338 m_339 m_6 m_336
theorem g_63 : GoodIn TS (va_wsS R_Grc 123 y_Pic_place (.code y_Pic_place b_Pic_place 2 (some .int) :: TS)) := gi_S TS_ok m_341 m_87 m_6 m_85
theorem g_64 : GoodIn TS (va_wsS R_Mod 59 y_Mod_powerFor (.code y_Mod_powerFor b_Mod_powerFor 3 (some .int) :: TS)) := gi_S TS_ok m_357 m_358 m_359 m_356
theorem g_65 : GoodIn TS (va_wsS R_Mod 66 y_Mod_greater (.code y_Mod_greater b_Mod_greater 2 (some .int) :: TS)) := gi_S TS_ok m_362 m_363 m_359 m_361
theorem g_66 : GoodIn TS (wsV R_Mod 72 R_Mod y_Mod_clamp (.code y_Mod_clamp b_Mod_clamp 3 (some .int) :: TS)) := gi_V TS_ok m_366 m_367 m_368 m_359 m_365
theorem g_67 : GoodIn TS (va_wsS R_Mod 87 y_Mod_fits (.code y_Mod_fits b_Mod_fits 4 (some .boolean) :: TS)) := gi_S TS_ok m_378 m_379 m_359 m_377
theorem g_68 : GoodIn TS (wsV R_Mod 41 R_Mod y_Mod_prepare (.code y_Mod_prepare b_Mod_prepare 3 none :: TS)) := gi_V TS_ok m_383 m_384 m_385 m_359 m_382
theorem g_69 : GoodIn TS (wsV R_Mod 44 R_Mod y_Mod_forget (.code y_Mod_forget b_Mod_forget 2 none :: TS)) := gi_V TS_ok m_387 m_388 m_389 m_359 m_386
theorem g_70 : GoodIn TS (wsV R_Mod 102 R_Mod y_Mod_say (.code y_Mod_say b_Mod_say 2 none :: TS)) := gi_V TS_ok m_395 m_396 m_397 m_359 m_394
theorem g_71 : GoodIn TS (wsV R_Mod 106 R_Mod y_Mod_put (.code y_Mod_put b_Mod_put 2 none :: TS)) := gi_V TS_ok m_399 m_400 m_401 m_359 m_398
theorem g_72 : GoodIn TS (wsV R_Mod 122 R_Mod y_Mod_get (.code y_Mod_get b_Mod_get 2 (some .int) :: TS)) := gi_V TS_ok m_407 m_408 m_409 m_359 m_406
theorem g_73 : GoodIn TS (wsV R_Mod 126 R_Mod y_Mod_putMany (.code y_Mod_putMany b_Mod_putMany 4 none :: TS)) := gi_V TS_ok m_411 m_412 m_413 m_359 m_410
theorem g_74 : GoodIn TS (wsV R_Mod 130 R_Mod y_Mod_getMany (.code y_Mod_getMany b_Mod_getMany 4 (some .int) :: TS)) := gi_V TS_ok m_415 m_416 m_417 m_359 m_414
theorem g_75 : GoodIn TS (wsV R_Mod 134 R_Mod y_Mod_value (.code y_Mod_value b_Mod_value 3 (some .int) :: TS)) := gi_V TS_ok m_419 m_420 m_421 m_359 m_418
theorem g_76 : GoodIn TS (wsV R_Mod 137 R_Mod y_Mod_above (.code y_Mod_above b_Mod_above 3 (some .int) :: TS)) := gi_V TS_ok m_423 m_424 m_425 m_359 m_422
theorem g_77 : GoodIn TS (wsV R_Mod 140 R_Mod y_Mod_before (.code y_Mod_before b_Mod_before 3 (some .int) :: TS)) := gi_V TS_ok m_427 m_428 m_429 m_359 m_426
theorem g_78 : GoodIn TS (wsV R_Mod 143 R_Mod y_Mod_divided (.code y_Mod_divided b_Mod_divided 2 (some .int) :: TS)) := gi_V TS_ok m_431 m_432 m_433 m_359 m_430
theorem g_79 : GoodIn TS (wsV R_Mod 146 R_Mod y_Mod_held (.code y_Mod_held b_Mod_held 2 (some .int) :: TS)) := gi_V TS_ok m_435 m_436 m_437 m_359 m_434
theorem g_80 : GoodIn TS (wsV R_Mod 149 R_Mod y_Mod_reduced (.code y_Mod_reduced b_Mod_reduced 3 (some .int) :: TS)) := gi_V TS_ok m_439 m_440 m_441 m_359 m_438
theorem g_81 : GoodIn TS (va_wsS R_Mod 188 y_Mod_half (.code y_Mod_half b_Mod_half 1 (some .int) :: TS)) := gi_S TS_ok m_443 m_444 m_359 m_442
theorem g_82 : GoodIn TS (wsV R_Mod 185 R_Mod y_Mod_learn (.code y_Mod_learn b_Mod_learn 6 none :: TS)) := gi_V TS_ok m_446 m_447 m_448 m_359 m_445
theorem g_83 : GoodIn TS (wsV R_Mod 181 R_Mod y_Mod_write (.code y_Mod_write b_Mod_write 6 none :: TS)) := gi_V TS_ok m_450 m_451 m_452 m_359 m_449
theorem g_84 : GoodIn TS (wsV R_Mod 173 R_Mod y_Mod_settle (.code y_Mod_settle b_Mod_settle 7 none :: TS)) := gi_V TS_ok m_454 m_455 m_456 m_359 m_453
theorem g_85 : GoodIn TS (wsV R_Mod 177 R_Mod y_Mod_errorOf (.code y_Mod_errorOf b_Mod_errorOf 6 (some .int) :: TS)) := gi_V TS_ok m_459 m_460 m_461 m_359 m_458
theorem g_86 : GoodIn TS (wsV R_Mod 170 R_Mod y_Mod_read (.code y_Mod_read b_Mod_read 5 (some .int) :: TS)) := gi_V TS_ok m_463 m_464 m_465 m_359 m_462
theorem g_87 : GoodIn TS (va_wsS R_Mod 164 y_Mod_kFor (.code y_Mod_kFor b_Mod_kFor 3 (some .int) :: TS)) := gi_S TS_ok m_467 m_468 m_359 m_466
theorem g_88 : GoodIn TS (va_wsS R_Mod 161 y_Mod_lesser (.code y_Mod_lesser b_Mod_lesser 2 (some .int) :: TS)) := gi_S TS_ok m_470 m_471 m_359 m_469
theorem g_89 : GoodIn TS (wsV R_Mod 152 R_Mod y_Mod_corner (.code y_Mod_corner b_Mod_corner 3 (some .int) :: TS)) := gi_V TS_ok m_473 m_474 m_475 m_359 m_472
theorem g_90 : GoodIn TS (wsV R_Mod 155 R_Mod y_Mod_beyond (.code y_Mod_beyond b_Mod_beyond 3 (some .int) :: TS)) := gi_V TS_ok m_477 m_478 m_479 m_359 m_476
theorem g_91 : GoodIn TS (wsV R_Mod 158 R_Mod y_Mod_quantized (.code y_Mod_quantized b_Mod_quantized 2 (some .int) :: TS)) := gi_V TS_ok m_481 m_482 m_483 m_359 m_480
theorem g_92 : GoodIn TS (wsV R_Mod 191 R_Mod y_Mod_isNear (.code y_Mod_isNear b_Mod_isNear 2 (some .boolean) :: TS)) := gi_V TS_ok m_485 m_486 m_487 m_359 m_484
theorem g_93 : GoodIn TS (wsV R_Mod 195 R_Mod y_Mod_jOf (.code y_Mod_jOf b_Mod_jOf 2 (some .int) :: TS)) := gi_V TS_ok m_489 m_490 m_491 m_359 m_488
theorem g_94 : GoodIn TS (wsV R_Mod 198 R_Mod y_Mod_endRun (.code y_Mod_endRun b_Mod_endRun 17 none :: TS)) := gi_V TS_ok m_493 m_494 m_495 m_359 m_492
theorem g_95 : GoodIn TS (wsV R_Mod 207 R_Mod y_Mod_regular (.code y_Mod_regular b_Mod_regular 16 none :: TS)) := gi_V TS_ok m_497 m_498 m_499 m_359 m_496
theorem g_96 : GoodIn TS (wsV R_Mod 204 R_Mod y_Mod_writeRun (.code y_Mod_writeRun b_Mod_writeRun 6 (some .int) :: TS)) := gi_V TS_ok m_501 m_502 m_503 m_359 m_500
theorem g_97 : GoodIn TS (wsV R_Mod 201 R_Mod y_Mod_readRun (.code y_Mod_readRun b_Mod_readRun 8 (some .int) :: TS)) := gi_V TS_ok m_505 m_506 m_507 m_359 m_504
theorem g_98 : GoodIn TS (wsV R_Mod 210 R_Mod y_Mod_walk (.code y_Mod_walk b_Mod_walk 6 none :: TS)) := gi_V TS_ok m_509 m_510 m_511 m_359 m_508
theorem g_99 : GoodIn TS (wsV R_Mod 220 R_Mod y_Mod_putBack (.code y_Mod_putBack b_Mod_putBack 7 none :: TS)) := gi_V TS_ok m_516 m_517 m_518 m_359 m_515
theorem g_100 : GoodIn TS (wsV R_Mod 216 R_Mod y_Mod_endsWell (.code y_Mod_endsWell b_Mod_endsWell 1 (some .boolean) :: TS)) := gi_V TS_ok m_520 m_521 m_522 m_359 m_519
theorem g_101 : GoodIn TS (wsV R_Mod 213 R_Mod y_Mod_keep (.code y_Mod_keep b_Mod_keep 2 none :: TS)) := gi_V TS_ok m_524 m_525 m_526 m_359 m_523
theorem g_102 : GoodIn TS (wsV R_Mod 223 R_Mod y_Mod_isPlace (.code y_Mod_isPlace b_Mod_isPlace 3 (some .boolean) :: TS)) := gi_V TS_ok m_528 m_529 m_530 m_359 m_527
end
section
def f_Pic_place (a0 : Int32) (a1 : Int32) : Option (Int32) := some ((a1 * 8) + a0)
set_option maxHeartbeats 4000000 in
set_option maxRecDepth 100000 in
theorem c_Pic_place (l : Launch) (D : va_G) (cI : ClassId) (a0 : Int32) (a1 : Int32) (r : Int32) (hf : f_Pic_place a0 a1 = some r) : Met l y_Pic_place (.code y_Pic_place b_Pic_place 2 (some .int) :: TS) ({ frames := 0, cells := 0, slots := 0, locals := 0 }) (va_Pc [.int a0, .int a1] (fun U => va_P D cls (([] : va_W)) U.heap ∧ va_K D cls [(cI, .int)] U)) (va_Qi (fun x (_ : Unit) => x = r) (fun _ _ => True) (fun _ => False)) 0 0 (fun _ => False) := by
  refine ct_of (by decide +kernel) (Nat.le_of_ble_eq_true rfl) ?_
  intro p e s m below meth c ls hx hb hml hr hlocks hown hw hP hK hl
  have hS : va_S (fun _ => False) s.heap s.heap [] := va_S.rf
  have hl : lv_has ls 2 [(0, .int a0), (1, .int a1)] := hl
  have hP : va_P D cls (([] : va_W)) s.heap := hP
  unfold f_Pic_place at hf
  refine lv_iload_n hx hb d_Pic_place_0 rfl (lv_at hl 1 rfl) ?_
  refine lv_bipush (v := 8) hx hb d_Pic_place_1 (by decide) ?_
  refine lv_imul hx hb d_Pic_place_3 ?_
  refine lv_iload_n hx hb d_Pic_place_4 rfl (lv_at hl 0 rfl) ?_
  refine lv_iadd hx hb d_Pic_place_5 ?_
  exact rt_roi hx hb hr hlocks hS hf d_Pic_place_6
def f_Pic_fits (a0 : Int32) (a1 : Int32) (a2 : Int32) (a3 : Int32) : Option (Int32) := bq (a0 < 1) (some 0) (bq (8 < a0) (some 0) (bq (a1 < 1) (some 0) (bq (8 < a1) (some 0) (bq (a2 < 3) (some 0) (bq (255 < a2) (some 0) (bq (a3 < 0) (some 0) (bq (3 < a3) (some 0) (bq ((a2 / 2) < a3) (some 0) (some 1)))))))))
set_option maxHeartbeats 4000000 in
set_option maxRecDepth 100000 in
theorem c_Pic_fits (l : Launch) (D : va_G) (cI : ClassId) (a0 : Int32) (a1 : Int32) (a2 : Int32) (a3 : Int32) (r : Int32) (hf : f_Pic_fits a0 a1 a2 a3 = some r) : Met l y_Pic_fits (.code y_Pic_fits b_Pic_fits 4 (some .boolean) :: TS) ({ frames := 0, cells := 0, slots := 0, locals := 0 }) (va_Pc [.int a0, .int a1, .int a2, .int a3] (fun U => va_P D cls (([] : va_W)) U.heap ∧ va_K D cls [(cI, .int)] U)) (va_Qi (fun x (_ : Unit) => x = r) (fun _ _ => True) (fun _ => False)) 0 0 (fun _ => False) := by
  refine ct_of (by decide +kernel) (Nat.le_of_ble_eq_true rfl) ?_
  intro p e s m below meth c ls hx hb hml hr hlocks hown hw hP hK hl
  have hS : va_S (fun _ => False) s.heap s.heap [] := va_S.rf
  have hl : lv_has ls 4 [(0, .int a0), (1, .int a1), (2, .int a2), (3, .int a3)] := hl
  have hP : va_P D cls (([] : va_W)) s.heap := hP
  unfold f_Pic_fits at hf
  refine lv_iload_n hx hb d_Pic_fits_0 rfl (lv_at hl 0 rfl) ?_
  refine lv_iconst (v := 1) hx hb d_Pic_fits_1 (by decide) ?_
  refine lv_icmp_lt (tgt := 54) hx hb d_Pic_fits_2 (by decide) (fun hc => ?_) (fun hc => ?_)
  · have hf := bq_t hf hc
    refine lv_iconst (v := 0) hx hb d_Pic_fits_54 (by decide) ?_
    exact rt_roz hx hb hr hlocks (Or.inl rfl) hS hf d_Pic_fits_55
  have hf := bq_n hf hc
  refine lv_iload_n hx hb d_Pic_fits_5 rfl (lv_at hl 0 rfl) ?_
  refine lv_bipush (v := 8) hx hb d_Pic_fits_6 (by decide) ?_
  refine lv_icmp_gt (tgt := 54) hx hb d_Pic_fits_8 (by decide) (fun hc => ?_) (fun hc => ?_)
  · have hf := bq_t hf hc
    refine lv_iconst (v := 0) hx hb d_Pic_fits_54 (by decide) ?_
    exact rt_roz hx hb hr hlocks (Or.inl rfl) hS hf d_Pic_fits_55
  have hf := bq_n hf hc
  refine lv_iload_n hx hb d_Pic_fits_11 rfl (lv_at hl 1 rfl) ?_
  refine lv_iconst (v := 1) hx hb d_Pic_fits_12 (by decide) ?_
  refine lv_icmp_lt (tgt := 54) hx hb d_Pic_fits_13 (by decide) (fun hc => ?_) (fun hc => ?_)
  · have hf := bq_t hf hc
    refine lv_iconst (v := 0) hx hb d_Pic_fits_54 (by decide) ?_
    exact rt_roz hx hb hr hlocks (Or.inl rfl) hS hf d_Pic_fits_55
  have hf := bq_n hf hc
  refine lv_iload_n hx hb d_Pic_fits_16 rfl (lv_at hl 1 rfl) ?_
  refine lv_bipush (v := 8) hx hb d_Pic_fits_17 (by decide) ?_
  refine lv_icmp_gt (tgt := 54) hx hb d_Pic_fits_19 (by decide) (fun hc => ?_) (fun hc => ?_)
  · have hf := bq_t hf hc
    refine lv_iconst (v := 0) hx hb d_Pic_fits_54 (by decide) ?_
    exact rt_roz hx hb hr hlocks (Or.inl rfl) hS hf d_Pic_fits_55
  have hf := bq_n hf hc
  refine lv_iload_n hx hb d_Pic_fits_22 rfl (lv_at hl 2 rfl) ?_
  refine lv_iconst (v := 3) hx hb d_Pic_fits_23 (by decide) ?_
  refine lv_icmp_lt (tgt := 54) hx hb d_Pic_fits_24 (by decide) (fun hc => ?_) (fun hc => ?_)
  · have hf := bq_t hf hc
    refine lv_iconst (v := 0) hx hb d_Pic_fits_54 (by decide) ?_
    exact rt_roz hx hb hr hlocks (Or.inl rfl) hS hf d_Pic_fits_55
  have hf := bq_n hf hc
  refine lv_iload_n hx hb d_Pic_fits_27 rfl (lv_at hl 2 rfl) ?_
  refine lv_sipush (v := 255) hx hb d_Pic_fits_28 (by decide) ?_
  refine lv_icmp_gt (tgt := 54) hx hb d_Pic_fits_31 (by decide) (fun hc => ?_) (fun hc => ?_)
  · have hf := bq_t hf hc
    refine lv_iconst (v := 0) hx hb d_Pic_fits_54 (by decide) ?_
    exact rt_roz hx hb hr hlocks (Or.inl rfl) hS hf d_Pic_fits_55
  have hf := bq_n hf hc
  refine lv_iload_n hx hb d_Pic_fits_34 rfl (lv_at hl 3 rfl) ?_
  refine lv_if_lt (tgt := 54) hx hb d_Pic_fits_35 (by decide) (fun hc => ?_) (fun hc => ?_)
  · have hf := bq_t hf hc
    refine lv_iconst (v := 0) hx hb d_Pic_fits_54 (by decide) ?_
    exact rt_roz hx hb hr hlocks (Or.inl rfl) hS hf d_Pic_fits_55
  have hf := bq_n hf hc
  refine lv_iload_n hx hb d_Pic_fits_38 rfl (lv_at hl 3 rfl) ?_
  refine lv_iconst (v := 3) hx hb d_Pic_fits_39 (by decide) ?_
  refine lv_icmp_gt (tgt := 54) hx hb d_Pic_fits_40 (by decide) (fun hc => ?_) (fun hc => ?_)
  · have hf := bq_t hf hc
    refine lv_iconst (v := 0) hx hb d_Pic_fits_54 (by decide) ?_
    exact rt_roz hx hb hr hlocks (Or.inl rfl) hS hf d_Pic_fits_55
  have hf := bq_n hf hc
  refine lv_iload_n hx hb d_Pic_fits_43 rfl (lv_at hl 3 rfl) ?_
  refine lv_iload_n hx hb d_Pic_fits_44 rfl (lv_at hl 2 rfl) ?_
  refine lv_iconst (v := 2) hx hb d_Pic_fits_45 (by decide) ?_
  refine lv_idiv hx hb d_Pic_fits_46 (by decide) ?_
  refine lv_icmp_gt (tgt := 54) hx hb d_Pic_fits_47 (by decide) (fun hc => ?_) (fun hc => ?_)
  · have hf := bq_t hf hc
    refine lv_iconst (v := 0) hx hb d_Pic_fits_54 (by decide) ?_
    exact rt_roz hx hb hr hlocks (Or.inl rfl) hS hf d_Pic_fits_55
  have hf := bq_n hf hc
  refine lv_iconst (v := 1) hx hb d_Pic_fits_50 (by decide) ?_
  refine lv_goto (tgt := 55) hx hb d_Pic_fits_51 (by decide) ?_
  exact rt_roz hx hb hr hlocks (Or.inr rfl) hS hf d_Pic_fits_55
def L_Pic_leastPower_2 : Nat → Int32 → Int32 → Option (Int32)
  | 0, _, _ => none
  | n + 1, l1, l2 => bq (30 ≤ l2) (some l2) (bq (l1 ≤ (1 <<< (l2 &&& 31))) (some l2) (tk (l2 + 1) fun x1 => (L_Pic_leastPower_2 n) l1 x1))
theorem L_Pic_leastPower_2_z (l1 : Int32) (l2 : Int32) : L_Pic_leastPower_2 0 l1 l2 = none := rfl
theorem L_Pic_leastPower_2_s (n : Nat) (l1 : Int32) (l2 : Int32) : L_Pic_leastPower_2 (n + 1) l1 l2 = bq (30 ≤ l2) (some l2) (bq (l1 ≤ (1 <<< (l2 &&& 31))) (some l2) (tk (l2 + 1) fun x1 => (L_Pic_leastPower_2 n) l1 x1)) := rfl
def f_Pic_leastPower (a0 : Int32) (a1 : Int32) : Option (Int32) := L_Pic_leastPower_2 40 a1 a0
set_option maxHeartbeats 4000000 in
set_option maxRecDepth 100000 in
theorem c_Pic_leastPower (l : Launch) (D : va_G) (cI : ClassId) (a0 : Int32) (a1 : Int32) (r : Int32) (hf : f_Pic_leastPower a0 a1 = some r) : Met l y_Pic_leastPower (.code y_Pic_leastPower b_Pic_leastPower 3 (some .int) :: TS) ({ frames := 0, cells := 0, slots := 0, locals := 0 }) (va_Pc [.int a0, .int a1] (fun U => va_P D cls (([] : va_W)) U.heap ∧ va_K D cls [(cI, .int)] U)) (va_Qi (fun x (_ : Unit) => x = r) (fun _ _ => True) (fun _ => False)) 0 0 (fun _ => False) := by
  refine ct_of (by decide +kernel) (Nat.le_of_ble_eq_true rfl) ?_
  intro p e s m below meth c ls hx hb hml hr hlocks hown hw hP hK hl
  have hS : va_S (fun _ => False) s.heap s.heap [] := va_S.rf
  have hl : lv_has ls 3 [(0, .int a0), (1, .int a1)] := hl
  have hP : va_P D cls (([] : va_W)) s.heap := hP
  have lp2 : ∀ (n2 : Nat), ∀ (ls : Array Slot) (H : Heap) (locs : List Loc) (l1 : Int32) (l2 : Int32), lv_has ls 3 [(1, .int l1), (2, .int l2)] → va_P D cls (([] : va_W)) H → va_S (fun _ => False) s.heap H locs → L_Pic_leastPower_2 n2 l1 l2 = some r → W p l e ({ frames := 0, cells := 0, slots := 0, locals := 0 }) s m [.int a0, .int a1].toArray below meth c H locs 0 0 (MQ below (va_Qi (fun x (_ : Unit) => x = r) (fun _ _ => True) (fun _ => False)) [.int a0, .int a1].toArray s 0 0 (fun _ => False)) (F0 m 2 ls []) := by
    intro n2
    induction n2 with
    | zero =>
      intro ls H locs l1 l2 hl hP hS hf
      rw [L_Pic_leastPower_2_z] at hf
      cases hf
    | succ n2 ih2 =>
      intro ls H locs l1 l2 hl hP hS hf
      rw [L_Pic_leastPower_2_s] at hf
      refine lv_iload_n hx hb d_Pic_leastPower_2 rfl (lv_at hl 1 rfl) ?_
      refine lv_bipush (v := 30) hx hb d_Pic_leastPower_3 (by decide) ?_
      refine lv_icmp_ge (tgt := 21) hx hb d_Pic_leastPower_5 (by decide) (fun hc => ?_) (fun hc => ?_)
      · have hf := bq_t hf hc
        refine lv_iload_n hx hb d_Pic_leastPower_21 rfl (lv_at hl 1 rfl) ?_
        exact rt_roi hx hb hr hlocks hS hf d_Pic_leastPower_22
      have hf := bq_n hf hc
      refine lv_iconst (v := 1) hx hb d_Pic_leastPower_8 (by decide) ?_
      refine lv_iload_n hx hb d_Pic_leastPower_9 rfl (lv_at hl 1 rfl) ?_
      refine lv_ishl hx hb d_Pic_leastPower_10 ?_
      refine lv_iload_n hx hb d_Pic_leastPower_11 rfl (lv_at hl 0 rfl) ?_
      refine lv_icmp_ge (tgt := 21) hx hb d_Pic_leastPower_12 (by decide) (fun hc => ?_) (fun hc => ?_)
      · have hf := bq_t hf hc
        refine lv_iload_n hx hb d_Pic_leastPower_21 rfl (lv_at hl 1 rfl) ?_
        exact rt_roi hx hb hr hlocks hS hf d_Pic_leastPower_22
      have hf := bq_n hf hc
      obtain ⟨x1, e_x1, hf⟩ := tk_o hf
      refine lv_iinc (v := x1) (lv' := [(2, .int x1), (1, .int l1)]) hx hb d_Pic_leastPower_15 hl (k := 1) rfl e_x1.symm (by decide) rfl (fun ls hl => ?_)
      refine lv_goto (tgt := 2) hx hb d_Pic_leastPower_18 (by decide) ?_
      exact ih2 _ _ _ l1 x1 (lv_sub hl [1, 0] rfl) hP hS hf
  unfold f_Pic_leastPower at hf
  refine lv_iload_n hx hb d_Pic_leastPower_0 rfl (lv_at hl 0 rfl) ?_
  refine lv_istore_n (lv' := [(2, .int a0), (0, .int a0), (1, .int a1)]) hx hb d_Pic_leastPower_1 rfl hl (by decide) rfl (fun ls hl => ?_)
  exact lp2 40 _ _ _ a1 a0 (lv_sub hl [2, 0] rfl) hP hS hf
def f_Pic_clamp (a1 : Int32) (a2 : Int32) (u : gU) : Option (Int32) := bq ((u 0 2) < a1) (some a2) (bq (a2 ≤ a1) (some a1) (some a2))
set_option maxHeartbeats 4000000 in
set_option maxRecDepth 100000 in
theorem c_Pic_clamp (l : Launch) (D : va_G) (cI : ClassId) (q0 : Nat) (a1 : Int32) (a2 : Int32) (u : gU) (r : Int32) (hf : f_Pic_clamp a1 a2 u = some r) : Met l y_Pic_clamp (.code y_Pic_clamp b_Pic_clamp 3 (some .int) :: TS) ({ frames := 0, cells := 0, slots := 0, locals := 0 }) (va_Pc [.ref q0, .int a1, .int a2] (fun U => va_P D cls (wPic cI q0 u) U.heap ∧ va_K D cls [(cI, .int)] U)) (va_Qi (fun x (_ : Unit) => x = r) (fun _ _ => True) (fun _ => False)) 0 0 (fun _ => False) := by
  refine ct_of (by decide +kernel) (Nat.le_of_ble_eq_true rfl) ?_
  intro p e s m below meth c ls hx hb hml hr hlocks hown hw hP hK hl
  have hS : va_S (fun _ => False) s.heap s.heap [] := va_S.rf
  have hl : lv_has ls 3 [(0, .ref q0), (1, .int a1), (2, .int a2)] := hl
  have hP : va_P D cls (wPic cI q0 u) s.heap := hP
  unfold f_Pic_clamp at hf
  refine lv_iload_n hx hb d_Pic_clamp_0 rfl (lv_at hl 1 rfl) ?_
  refine lv_aload_n hx hb d_Pic_clamp_1 rfl (lv_at hl 0 rfl) ?_
  refine va_get (D := D) (ci := 1) (v := .int (u 0 2)) (C := R_Pic) (T := F_Pic) (N := 11) hx hb hw in_Pic hown hK hP 0 rfl rfl 2 (by decide) (hw _ m_0) (fun _ h9 => h9) rfl d_Pic_clamp_2 ?_
  refine lv_icmp_gt (tgt := 13) hx hb d_Pic_clamp_5 (by decide) (fun hc => ?_) (fun hc => ?_)
  · have hf := bq_t hf hc
    refine lv_iload_n hx hb d_Pic_clamp_13 rfl (lv_at hl 2 rfl) ?_
    refine lv_goto (tgt := 18) hx hb d_Pic_clamp_14 (by decide) ?_
    exact rt_roi hx hb hr hlocks hS hf d_Pic_clamp_18
  have hf := bq_n hf hc
  refine lv_iload_n hx hb d_Pic_clamp_8 rfl (lv_at hl 1 rfl) ?_
  refine lv_iload_n hx hb d_Pic_clamp_9 rfl (lv_at hl 2 rfl) ?_
  refine lv_icmp_ge (tgt := 17) hx hb d_Pic_clamp_10 (by decide) (fun hc => ?_) (fun hc => ?_)
  · have hf := bq_t hf hc
    refine lv_iload_n hx hb d_Pic_clamp_17 rfl (lv_at hl 1 rfl) ?_
    exact rt_roi hx hb hr hlocks hS hf d_Pic_clamp_18
  have hf := bq_n hf hc
  refine lv_iload_n hx hb d_Pic_clamp_13 rfl (lv_at hl 2 rfl) ?_
  refine lv_goto (tgt := 18) hx hb d_Pic_clamp_14 (by decide) ?_
  exact rt_roi hx hb hr hlocks hS hf d_Pic_clamp_18
def f_Pic_becomeFine (a1 : Int32) (u : gU) : Option (gU) := bd (f_Pic_clamp ((a1 + 2) + (3 * (u 0 3))) ((u 0 3) + 1) u) fun x1 => tk (st2 u 0 8 x1) fun u2 => bd (f_Pic_clamp (((4 * a1) + 3) + (5 * (u2 0 3))) (u2 0 8) u2) fun x3 => tk (st2 u2 0 9 x3) fun u4 => bd (f_Pic_clamp (((17 * a1) + 4) + (7 * (u4 0 3))) (u4 0 9) u4) fun x5 => tk (st2 u4 0 10 x5) fun u6 => some u6
set_option maxHeartbeats 4000000 in
set_option maxRecDepth 100000 in
theorem c_Pic_becomeFine (l : Launch) (D : va_G) (cI : ClassId) (q0 : Nat) (hd : dj [q0]) (a1 : Int32) (u : gU) (v : gU) (hf : f_Pic_becomeFine a1 u = some v) : Met l y_Pic_becomeFine (.code y_Pic_becomeFine b_Pic_becomeFine 2 none :: TS) ({ frames := 1, cells := 0, slots := 0, locals := 22 }) (va_Pc [.ref q0, .int a1] (fun U => va_P D cls (wPic cI q0 u) U.heap ∧ va_K D cls [(cI, .int)] U)) (va_Qv (fun (_ : Unit) => True) (fun _ t => va_P D cls (wPic cI q0 v) t.heap) (ad [q0])) 0 0 (ad [q0]) := by
  refine ct_of (by decide +kernel) (Nat.le_of_ble_eq_true rfl) ?_
  intro p e s m below meth c ls hx hb hml hr hlocks hown hw hP hK hl
  have hS : va_S (ad [q0]) s.heap s.heap [] := va_S.rf
  have hD : ∀ v, va_D (ad [q0]) (wPic cI q0 v) := fun _ => dj_D rfl hd
  have hl : lv_has ls 2 [(0, .ref q0), (1, .int a1)] := hl
  have hP : va_P D cls (wPic cI q0 u) s.heap := hP
  unfold f_Pic_becomeFine at hf
  refine lv_aload_n hx hb d_Pic_becomeFine_0 rfl (lv_at hl 0 rfl) ?_
  refine lv_aload_n hx hb d_Pic_becomeFine_1 rfl (lv_at hl 0 rfl) ?_
  refine lv_iload_n hx hb d_Pic_becomeFine_2 rfl (lv_at hl 1 rfl) ?_
  refine lv_iconst (v := 2) hx hb d_Pic_becomeFine_3 (by decide) ?_
  refine lv_iadd hx hb d_Pic_becomeFine_4 ?_
  refine lv_iconst (v := 3) hx hb d_Pic_becomeFine_5 (by decide) ?_
  refine lv_aload_n hx hb d_Pic_becomeFine_6 rfl (lv_at hl 0 rfl) ?_
  refine va_get (D := D) (ci := 1) (v := .int (u 0 3)) (C := R_Pic) (T := F_Pic) (N := 11) hx hb hw in_Pic hown hK hP 0 rfl rfl 3 (by decide) (hw _ m_1) (fun _ h9 => h9) rfl d_Pic_becomeFine_7 ?_
  refine lv_imul hx hb d_Pic_becomeFine_10 ?_
  refine lv_iadd hx hb d_Pic_becomeFine_11 ?_
  refine lv_aload_n hx hb d_Pic_becomeFine_12 rfl (lv_at hl 0 rfl) ?_
  refine va_get (D := D) (ci := 1) (v := .int (u 0 3)) (C := R_Pic) (T := F_Pic) (N := 11) hx hb hw in_Pic hown hK hP 0 rfl rfl 3 (by decide) (hw _ m_1) (fun _ h9 => h9) rfl d_Pic_becomeFine_13 ?_
  refine lv_iconst (v := 1) hx hb d_Pic_becomeFine_16 (by decide) ?_
  refine lv_iadd hx hb d_Pic_becomeFine_17 ?_
  have hC : [0].map (fun i => (wPic cI q0 u)[i]?) = (wPic cI q0 u).map some := rfl
  obtain ⟨x1, hc, hf⟩ := bd_o hf
  refine ro_i (va_runV (As := [.int ((a1 + 2) + (3 * (u 0 3))), .int ((u 0 3) + 1)]) (rest := [.ref q0]) ⟨hx, hb, hml, hown, hw⟩ (c_Pic_clamp l D cI q0 ((a1 + 2) + (3 * (u 0 3))) ((u 0 3) + 1) u x1 hc) (cwV 2 hw g_0 rfl rfl rfl (by decide +kernel) ⟨Nat.le_of_ble_eq_true rfl, Nat.le_of_ble_eq_true rfl⟩) (pre_V (P_sub hC hP) hK rfl rfl) rfl rfl hl.1 rfl (lv_room (Nat.le_of_ble_eq_true rfl)) d_Pic_becomeFine_18 ⟨Nat.le_of_ble_eq_true rfl, Nat.le_of_ble_eq_true rfl⟩) hS hP (fun H locs hP hS => ?_)
  refine va_put (D := D) (ci := 1) (v := .int x1) (ty := .int) (C := R_Pic) (T := F_Pic) (N := 11) hx hb hw in_Pic t_Pic t_Pic_ok n_Pic hown hK hP (hD _) hS 0 rfl rfl 8 (by decide) (hw _ m_7) (fun _ h9 => h9) rfl (by decide +kernel) rfl rfl (Nat.le_of_ble_eq_true rfl) d_Pic_becomeFine_21 (fun H locs hP _ hS => ?_)
  obtain ⟨u2, e_u2, hf⟩ := tk_o hf
  have hP : va_P D cls (wPic cI q0 u2) H := by rw [e_u2]; exact hP
  refine lv_aload_n hx hb d_Pic_becomeFine_24 rfl (lv_at hl 0 rfl) ?_
  refine lv_aload_n hx hb d_Pic_becomeFine_25 rfl (lv_at hl 0 rfl) ?_
  refine lv_iconst (v := 4) hx hb d_Pic_becomeFine_26 (by decide) ?_
  refine lv_iload_n hx hb d_Pic_becomeFine_27 rfl (lv_at hl 1 rfl) ?_
  refine lv_imul hx hb d_Pic_becomeFine_28 ?_
  refine lv_iconst (v := 3) hx hb d_Pic_becomeFine_29 (by decide) ?_
  refine lv_iadd hx hb d_Pic_becomeFine_30 ?_
  refine lv_iconst (v := 5) hx hb d_Pic_becomeFine_31 (by decide) ?_
  refine lv_aload_n hx hb d_Pic_becomeFine_32 rfl (lv_at hl 0 rfl) ?_
  refine va_get (D := D) (ci := 1) (v := .int (u2 0 3)) (C := R_Pic) (T := F_Pic) (N := 11) hx hb hw in_Pic hown hK hP 0 rfl rfl 3 (by decide) (hw _ m_1) (fun _ h9 => h9) rfl d_Pic_becomeFine_33 ?_
  refine lv_imul hx hb d_Pic_becomeFine_36 ?_
  refine lv_iadd hx hb d_Pic_becomeFine_37 ?_
  refine lv_aload_n hx hb d_Pic_becomeFine_38 rfl (lv_at hl 0 rfl) ?_
  refine va_get (D := D) (ci := 1) (v := .int (u2 0 8)) (C := R_Pic) (T := F_Pic) (N := 11) hx hb hw in_Pic hown hK hP 0 rfl rfl 8 (by decide) (hw _ m_7) (fun _ h9 => h9) rfl d_Pic_becomeFine_39 ?_
  have hC : [0].map (fun i => (wPic cI q0 u2)[i]?) = (wPic cI q0 u2).map some := rfl
  obtain ⟨x3, hc, hf⟩ := bd_o hf
  refine ro_i (va_runV (As := [.int (((4 * a1) + 3) + (5 * (u2 0 3))), .int (u2 0 8)]) (rest := [.ref q0]) ⟨hx, hb, hml, hown, hw⟩ (c_Pic_clamp l D cI q0 (((4 * a1) + 3) + (5 * (u2 0 3))) (u2 0 8) u2 x3 hc) (cwV 2 hw g_0 rfl rfl rfl (by decide +kernel) ⟨Nat.le_of_ble_eq_true rfl, Nat.le_of_ble_eq_true rfl⟩) (pre_V (P_sub hC hP) hK rfl rfl) rfl rfl hl.1 rfl (lv_room (Nat.le_of_ble_eq_true rfl)) d_Pic_becomeFine_42 ⟨Nat.le_of_ble_eq_true rfl, Nat.le_of_ble_eq_true rfl⟩) hS hP (fun H locs hP hS => ?_)
  refine va_put (D := D) (ci := 1) (v := .int x3) (ty := .int) (C := R_Pic) (T := F_Pic) (N := 11) hx hb hw in_Pic t_Pic t_Pic_ok n_Pic hown hK hP (hD _) hS 0 rfl rfl 9 (by decide) (hw _ m_8) (fun _ h9 => h9) rfl (by decide +kernel) rfl rfl (Nat.le_of_ble_eq_true rfl) d_Pic_becomeFine_45 (fun H locs hP _ hS => ?_)
  obtain ⟨u4, e_u4, hf⟩ := tk_o hf
  have hP : va_P D cls (wPic cI q0 u4) H := by rw [e_u4]; exact hP
  refine lv_aload_n hx hb d_Pic_becomeFine_48 rfl (lv_at hl 0 rfl) ?_
  refine lv_aload_n hx hb d_Pic_becomeFine_49 rfl (lv_at hl 0 rfl) ?_
  refine lv_bipush (v := 17) hx hb d_Pic_becomeFine_50 (by decide) ?_
  refine lv_iload_n hx hb d_Pic_becomeFine_52 rfl (lv_at hl 1 rfl) ?_
  refine lv_imul hx hb d_Pic_becomeFine_53 ?_
  refine lv_iconst (v := 4) hx hb d_Pic_becomeFine_54 (by decide) ?_
  refine lv_iadd hx hb d_Pic_becomeFine_55 ?_
  refine lv_bipush (v := 7) hx hb d_Pic_becomeFine_56 (by decide) ?_
  refine lv_aload_n hx hb d_Pic_becomeFine_58 rfl (lv_at hl 0 rfl) ?_
  refine va_get (D := D) (ci := 1) (v := .int (u4 0 3)) (C := R_Pic) (T := F_Pic) (N := 11) hx hb hw in_Pic hown hK hP 0 rfl rfl 3 (by decide) (hw _ m_1) (fun _ h9 => h9) rfl d_Pic_becomeFine_59 ?_
  refine lv_imul hx hb d_Pic_becomeFine_62 ?_
  refine lv_iadd hx hb d_Pic_becomeFine_63 ?_
  refine lv_aload_n hx hb d_Pic_becomeFine_64 rfl (lv_at hl 0 rfl) ?_
  refine va_get (D := D) (ci := 1) (v := .int (u4 0 9)) (C := R_Pic) (T := F_Pic) (N := 11) hx hb hw in_Pic hown hK hP 0 rfl rfl 9 (by decide) (hw _ m_8) (fun _ h9 => h9) rfl d_Pic_becomeFine_65 ?_
  have hC : [0].map (fun i => (wPic cI q0 u4)[i]?) = (wPic cI q0 u4).map some := rfl
  obtain ⟨x5, hc, hf⟩ := bd_o hf
  refine ro_i (va_runV (As := [.int (((17 * a1) + 4) + (7 * (u4 0 3))), .int (u4 0 9)]) (rest := [.ref q0]) ⟨hx, hb, hml, hown, hw⟩ (c_Pic_clamp l D cI q0 (((17 * a1) + 4) + (7 * (u4 0 3))) (u4 0 9) u4 x5 hc) (cwV 2 hw g_0 rfl rfl rfl (by decide +kernel) ⟨Nat.le_of_ble_eq_true rfl, Nat.le_of_ble_eq_true rfl⟩) (pre_V (P_sub hC hP) hK rfl rfl) rfl rfl hl.1 rfl (lv_room (Nat.le_of_ble_eq_true rfl)) d_Pic_becomeFine_68 ⟨Nat.le_of_ble_eq_true rfl, Nat.le_of_ble_eq_true rfl⟩) hS hP (fun H locs hP hS => ?_)
  refine va_put (D := D) (ci := 1) (v := .int x5) (ty := .int) (C := R_Pic) (T := F_Pic) (N := 11) hx hb hw in_Pic t_Pic t_Pic_ok n_Pic hown hK hP (hD _) hS 0 rfl rfl 10 (by decide) (hw _ m_9) (fun _ h9 => h9) rfl (by decide +kernel) rfl rfl (Nat.le_of_ble_eq_true rfl) d_Pic_becomeFine_71 (fun H locs hP _ hS => ?_)
  obtain ⟨u6, e_u6, hf⟩ := tk_o hf
  have hP : va_P D cls (wPic cI q0 u6) H := by rw [e_u6]; exact hP
  exact rt_v (wPic cI q0) hx hb hr hlocks hS hP hf d_Pic_becomeFine_74
def f_Pic_becomeCoarse (a1 : Int32) (u : gU) : Option (gU) := gd (¬ a1 = 0) (tk (if 2 < ((3 / a1) + (3 * (u 0 3))) then ((3 / a1) + (3 * (u 0 3))) else 2) fun x2 => bd (f_Pic_clamp x2 ((u 0 3) + 1) u) fun x3 => tk (st2 u 0 8 x3) fun u4 => gd (¬ a1 = 0) (tk (if 3 < ((7 / a1) + (5 * (u4 0 3))) then ((7 / a1) + (5 * (u4 0 3))) else 3) fun x6 => bd (f_Pic_clamp x6 (u4 0 8) u4) fun x7 => tk (st2 u4 0 9 x7) fun u8 => gd (¬ a1 = 0) (tk (if 4 < ((21 / a1) + (7 * (u8 0 3))) then ((21 / a1) + (7 * (u8 0 3))) else 4) fun x10 => bd (f_Pic_clamp x10 (u8 0 9) u8) fun x11 => tk (st2 u8 0 10 x11) fun u12 => some u12)))
set_option maxHeartbeats 4000000 in
set_option maxRecDepth 100000 in
theorem c_Pic_becomeCoarse (l : Launch) (D : va_G) (cI : ClassId) (q0 : Nat) (hd : dj [q0]) (a1 : Int32) (u : gU) (v : gU) (hf : f_Pic_becomeCoarse a1 u = some v) : Met l y_Pic_becomeCoarse (.code y_Pic_becomeCoarse b_Pic_becomeCoarse 2 none :: TS) ({ frames := 1, cells := 0, slots := 0, locals := 24 }) (va_Pc [.ref q0, .int a1] (fun U => va_P D cls (wPic cI q0 u) U.heap ∧ va_K D cls [(cI, .int)] U)) (va_Qv (fun (_ : Unit) => True) (fun _ t => va_P D cls (wPic cI q0 v) t.heap) (ad [q0])) 0 0 (ad [q0]) := by
  refine ct_of (by decide +kernel) (Nat.le_of_ble_eq_true rfl) ?_
  intro p e s m below meth c ls hx hb hml hr hlocks hown hw hP hK hl
  have hS : va_S (ad [q0]) s.heap s.heap [] := va_S.rf
  have hD : ∀ v, va_D (ad [q0]) (wPic cI q0 v) := fun _ => dj_D rfl hd
  have hl : lv_has ls 2 [(0, .ref q0), (1, .int a1)] := hl
  have hP : va_P D cls (wPic cI q0 u) s.heap := hP
  unfold f_Pic_becomeCoarse at hf
  refine lv_aload_n hx hb d_Pic_becomeCoarse_0 rfl (lv_at hl 0 rfl) ?_
  refine lv_aload_n hx hb d_Pic_becomeCoarse_1 rfl (lv_at hl 0 rfl) ?_
  refine lv_iconst (v := 2) hx hb d_Pic_becomeCoarse_2 (by decide) ?_
  refine lv_iconst (v := 3) hx hb d_Pic_becomeCoarse_3 (by decide) ?_
  refine lv_iload_n hx hb d_Pic_becomeCoarse_4 rfl (lv_at hl 1 rfl) ?_
  obtain ⟨h1, hf⟩ := gd_o hf
  refine lv_idiv hx hb d_Pic_becomeCoarse_5 h1 ?_
  refine lv_iconst (v := 3) hx hb d_Pic_becomeCoarse_6 (by decide) ?_
  refine lv_aload_n hx hb d_Pic_becomeCoarse_7 rfl (lv_at hl 0 rfl) ?_
  refine va_get (D := D) (ci := 1) (v := .int (u 0 3)) (C := R_Pic) (T := F_Pic) (N := 11) hx hb hw in_Pic hown hK hP 0 rfl rfl 3 (by decide) (hw _ m_1) (fun _ h9 => h9) rfl d_Pic_becomeCoarse_8 ?_
  refine lv_imul hx hb d_Pic_becomeCoarse_11 ?_
  refine lv_iadd hx hb d_Pic_becomeCoarse_12 ?_
  refine va_mmax hx hb (hml.trans hl.1.symm) hown (hw _ m_10) (hw _ m_11) (hw _ m_12) (hw _ m_13) (Nat.le_of_ble_eq_true rfl) (Nat.le_of_ble_eq_true rfl) (Nat.le_of_ble_eq_true rfl) (Nat.le_of_ble_eq_true rfl) d_Pic_becomeCoarse_13 ?_
  refine lv_topi (fun x2 e_x2 => ?_)
  have hf := tk_e hf e_x2
  refine lv_aload_n hx hb d_Pic_becomeCoarse_16 rfl (lv_at hl 0 rfl) ?_
  refine va_get (D := D) (ci := 1) (v := .int (u 0 3)) (C := R_Pic) (T := F_Pic) (N := 11) hx hb hw in_Pic hown hK hP 0 rfl rfl 3 (by decide) (hw _ m_1) (fun _ h9 => h9) rfl d_Pic_becomeCoarse_17 ?_
  refine lv_iconst (v := 1) hx hb d_Pic_becomeCoarse_20 (by decide) ?_
  refine lv_iadd hx hb d_Pic_becomeCoarse_21 ?_
  have hC : [0].map (fun i => (wPic cI q0 u)[i]?) = (wPic cI q0 u).map some := rfl
  obtain ⟨x3, hc, hf⟩ := bd_o hf
  refine ro_i (va_runV (As := [.int x2, .int ((u 0 3) + 1)]) (rest := [.ref q0]) ⟨hx, hb, hml, hown, hw⟩ (c_Pic_clamp l D cI q0 x2 ((u 0 3) + 1) u x3 hc) (cwV 2 hw g_0 rfl rfl rfl (by decide +kernel) ⟨Nat.le_of_ble_eq_true rfl, Nat.le_of_ble_eq_true rfl⟩) (pre_V (P_sub hC hP) hK rfl rfl) rfl rfl hl.1 rfl (lv_room (Nat.le_of_ble_eq_true rfl)) d_Pic_becomeCoarse_22 ⟨Nat.le_of_ble_eq_true rfl, Nat.le_of_ble_eq_true rfl⟩) hS hP (fun H locs hP hS => ?_)
  refine va_put (D := D) (ci := 1) (v := .int x3) (ty := .int) (C := R_Pic) (T := F_Pic) (N := 11) hx hb hw in_Pic t_Pic t_Pic_ok n_Pic hown hK hP (hD _) hS 0 rfl rfl 8 (by decide) (hw _ m_7) (fun _ h9 => h9) rfl (by decide +kernel) rfl rfl (Nat.le_of_ble_eq_true rfl) d_Pic_becomeCoarse_25 (fun H locs hP _ hS => ?_)
  obtain ⟨u4, e_u4, hf⟩ := tk_o hf
  have hP : va_P D cls (wPic cI q0 u4) H := by rw [e_u4]; exact hP
  refine lv_aload_n hx hb d_Pic_becomeCoarse_28 rfl (lv_at hl 0 rfl) ?_
  refine lv_aload_n hx hb d_Pic_becomeCoarse_29 rfl (lv_at hl 0 rfl) ?_
  refine lv_iconst (v := 3) hx hb d_Pic_becomeCoarse_30 (by decide) ?_
  refine lv_bipush (v := 7) hx hb d_Pic_becomeCoarse_31 (by decide) ?_
  refine lv_iload_n hx hb d_Pic_becomeCoarse_33 rfl (lv_at hl 1 rfl) ?_
  obtain ⟨h5, hf⟩ := gd_o hf
  refine lv_idiv hx hb d_Pic_becomeCoarse_34 h5 ?_
  refine lv_iconst (v := 5) hx hb d_Pic_becomeCoarse_35 (by decide) ?_
  refine lv_aload_n hx hb d_Pic_becomeCoarse_36 rfl (lv_at hl 0 rfl) ?_
  refine va_get (D := D) (ci := 1) (v := .int (u4 0 3)) (C := R_Pic) (T := F_Pic) (N := 11) hx hb hw in_Pic hown hK hP 0 rfl rfl 3 (by decide) (hw _ m_1) (fun _ h9 => h9) rfl d_Pic_becomeCoarse_37 ?_
  refine lv_imul hx hb d_Pic_becomeCoarse_40 ?_
  refine lv_iadd hx hb d_Pic_becomeCoarse_41 ?_
  refine va_mmax hx hb (hml.trans hl.1.symm) hown (hw _ m_10) (hw _ m_11) (hw _ m_12) (hw _ m_13) (Nat.le_of_ble_eq_true rfl) (Nat.le_of_ble_eq_true rfl) (Nat.le_of_ble_eq_true rfl) (Nat.le_of_ble_eq_true rfl) d_Pic_becomeCoarse_42 ?_
  refine lv_topi (fun x6 e_x6 => ?_)
  have hf := tk_e hf e_x6
  refine lv_aload_n hx hb d_Pic_becomeCoarse_45 rfl (lv_at hl 0 rfl) ?_
  refine va_get (D := D) (ci := 1) (v := .int (u4 0 8)) (C := R_Pic) (T := F_Pic) (N := 11) hx hb hw in_Pic hown hK hP 0 rfl rfl 8 (by decide) (hw _ m_7) (fun _ h9 => h9) rfl d_Pic_becomeCoarse_46 ?_
  have hC : [0].map (fun i => (wPic cI q0 u4)[i]?) = (wPic cI q0 u4).map some := rfl
  obtain ⟨x7, hc, hf⟩ := bd_o hf
  refine ro_i (va_runV (As := [.int x6, .int (u4 0 8)]) (rest := [.ref q0]) ⟨hx, hb, hml, hown, hw⟩ (c_Pic_clamp l D cI q0 x6 (u4 0 8) u4 x7 hc) (cwV 2 hw g_0 rfl rfl rfl (by decide +kernel) ⟨Nat.le_of_ble_eq_true rfl, Nat.le_of_ble_eq_true rfl⟩) (pre_V (P_sub hC hP) hK rfl rfl) rfl rfl hl.1 rfl (lv_room (Nat.le_of_ble_eq_true rfl)) d_Pic_becomeCoarse_49 ⟨Nat.le_of_ble_eq_true rfl, Nat.le_of_ble_eq_true rfl⟩) hS hP (fun H locs hP hS => ?_)
  refine va_put (D := D) (ci := 1) (v := .int x7) (ty := .int) (C := R_Pic) (T := F_Pic) (N := 11) hx hb hw in_Pic t_Pic t_Pic_ok n_Pic hown hK hP (hD _) hS 0 rfl rfl 9 (by decide) (hw _ m_8) (fun _ h9 => h9) rfl (by decide +kernel) rfl rfl (Nat.le_of_ble_eq_true rfl) d_Pic_becomeCoarse_52 (fun H locs hP _ hS => ?_)
  obtain ⟨u8, e_u8, hf⟩ := tk_o hf
  have hP : va_P D cls (wPic cI q0 u8) H := by rw [e_u8]; exact hP
  refine lv_aload_n hx hb d_Pic_becomeCoarse_55 rfl (lv_at hl 0 rfl) ?_
  refine lv_aload_n hx hb d_Pic_becomeCoarse_56 rfl (lv_at hl 0 rfl) ?_
  refine lv_iconst (v := 4) hx hb d_Pic_becomeCoarse_57 (by decide) ?_
  refine lv_bipush (v := 21) hx hb d_Pic_becomeCoarse_58 (by decide) ?_
  refine lv_iload_n hx hb d_Pic_becomeCoarse_60 rfl (lv_at hl 1 rfl) ?_
  obtain ⟨h9, hf⟩ := gd_o hf
  refine lv_idiv hx hb d_Pic_becomeCoarse_61 h9 ?_
  refine lv_bipush (v := 7) hx hb d_Pic_becomeCoarse_62 (by decide) ?_
  refine lv_aload_n hx hb d_Pic_becomeCoarse_64 rfl (lv_at hl 0 rfl) ?_
  refine va_get (D := D) (ci := 1) (v := .int (u8 0 3)) (C := R_Pic) (T := F_Pic) (N := 11) hx hb hw in_Pic hown hK hP 0 rfl rfl 3 (by decide) (hw _ m_1) (fun _ h9 => h9) rfl d_Pic_becomeCoarse_65 ?_
  refine lv_imul hx hb d_Pic_becomeCoarse_68 ?_
  refine lv_iadd hx hb d_Pic_becomeCoarse_69 ?_
  refine va_mmax hx hb (hml.trans hl.1.symm) hown (hw _ m_10) (hw _ m_11) (hw _ m_12) (hw _ m_13) (Nat.le_of_ble_eq_true rfl) (Nat.le_of_ble_eq_true rfl) (Nat.le_of_ble_eq_true rfl) (Nat.le_of_ble_eq_true rfl) d_Pic_becomeCoarse_70 ?_
  refine lv_topi (fun x10 e_x10 => ?_)
  have hf := tk_e hf e_x10
  refine lv_aload_n hx hb d_Pic_becomeCoarse_73 rfl (lv_at hl 0 rfl) ?_
  refine va_get (D := D) (ci := 1) (v := .int (u8 0 9)) (C := R_Pic) (T := F_Pic) (N := 11) hx hb hw in_Pic hown hK hP 0 rfl rfl 9 (by decide) (hw _ m_8) (fun _ h9 => h9) rfl d_Pic_becomeCoarse_74 ?_
  have hC : [0].map (fun i => (wPic cI q0 u8)[i]?) = (wPic cI q0 u8).map some := rfl
  obtain ⟨x11, hc, hf⟩ := bd_o hf
  refine ro_i (va_runV (As := [.int x10, .int (u8 0 9)]) (rest := [.ref q0]) ⟨hx, hb, hml, hown, hw⟩ (c_Pic_clamp l D cI q0 x10 (u8 0 9) u8 x11 hc) (cwV 2 hw g_0 rfl rfl rfl (by decide +kernel) ⟨Nat.le_of_ble_eq_true rfl, Nat.le_of_ble_eq_true rfl⟩) (pre_V (P_sub hC hP) hK rfl rfl) rfl rfl hl.1 rfl (lv_room (Nat.le_of_ble_eq_true rfl)) d_Pic_becomeCoarse_77 ⟨Nat.le_of_ble_eq_true rfl, Nat.le_of_ble_eq_true rfl⟩) hS hP (fun H locs hP hS => ?_)
  refine va_put (D := D) (ci := 1) (v := .int x11) (ty := .int) (C := R_Pic) (T := F_Pic) (N := 11) hx hb hw in_Pic t_Pic t_Pic_ok n_Pic hown hK hP (hD _) hS 0 rfl rfl 10 (by decide) (hw _ m_9) (fun _ h9 => h9) rfl (by decide +kernel) rfl rfl (Nat.le_of_ble_eq_true rfl) d_Pic_becomeCoarse_80 (fun H locs hP _ hS => ?_)
  obtain ⟨u12, e_u12, hf⟩ := tk_o hf
  have hP : va_P D cls (wPic cI q0 u12) H := by rw [e_u12]; exact hP
  exact rt_v (wPic cI q0) hx hb hr hlocks hS hP hf d_Pic_becomeCoarse_83
def f_Pic_become (a1 : Int32) (a2 : Int32) (a3 : Int32) (a4 : Int32) (u : gU) : Option (gU) := tk (st2 u 0 0 a1) fun u1 => tk (st2 u1 0 1 a2) fun u2 => tk (st2 u2 0 2 a3) fun u3 => tk (st2 u3 0 3 a4) fun u4 => tk (st2 u4 0 4 ((2 * (u4 0 3)) + 1)) fun u5 => gd (¬ (u5 0 4) = 0) (tk (st2 u5 0 5 ((((u5 0 2) + (2 * (u5 0 3))) / (u5 0 4)) + 1)) fun u7 => bd (f_Pic_leastPower 0 (u7 0 5)) fun x8 => tk (st2 u7 0 6 x8) fun u9 => bd (f_Pic_leastPower 2 ((u9 0 2) + 1)) fun x10 => tk (if 8 < x10 then x10 else 8) fun x11 => tk (st2 u9 0 7 (2 * (x10 + x11))) fun u12 => bq ((u12 0 2) < 128) (gd (¬ ((u12 0 2) + 1) = 0) (bd (f_Pic_becomeCoarse (256 / ((u12 0 2) + 1)) u12) fun w14 => tk (w14) fun u15 => some u15)) (bd (f_Pic_becomeFine (((u12 0 2) + 128) / 256) u12) fun w16 => tk (w16) fun u17 => some u17))
set_option maxHeartbeats 4000000 in
set_option maxRecDepth 100000 in
theorem c_Pic_become (l : Launch) (D : va_G) (cI : ClassId) (q0 : Nat) (hd : dj [q0]) (a1 : Int32) (a2 : Int32) (a3 : Int32) (a4 : Int32) (u : gU) (v : gU) (hf : f_Pic_become a1 a2 a3 a4 u = some v) : Met l y_Pic_become (.code y_Pic_become b_Pic_become 6 none :: TS) ({ frames := 2, cells := 0, slots := 0, locals := 45 }) (va_Pc [.ref q0, .int a1, .int a2, .int a3, .int a4] (fun U => va_P D cls (wPic cI q0 u) U.heap ∧ va_K D cls [(cI, .int)] U)) (va_Qv (fun (_ : Unit) => True) (fun _ t => va_P D cls (wPic cI q0 v) t.heap) (ad [q0])) 0 0 (ad [q0]) := by
  refine ct_of (by decide +kernel) (Nat.le_of_ble_eq_true rfl) ?_
  intro p e s m below meth c ls hx hb hml hr hlocks hown hw hP hK hl
  have hS : va_S (ad [q0]) s.heap s.heap [] := va_S.rf
  have hD : ∀ v, va_D (ad [q0]) (wPic cI q0 v) := fun _ => dj_D rfl hd
  have hl : lv_has ls 6 [(0, .ref q0), (1, .int a1), (2, .int a2), (3, .int a3), (4, .int a4)] := hl
  have hP : va_P D cls (wPic cI q0 u) s.heap := hP
  unfold f_Pic_become at hf
  refine lv_aload_n hx hb d_Pic_become_0 rfl (lv_at hl 0 rfl) ?_
  refine lv_iload_n hx hb d_Pic_become_1 rfl (lv_at hl 1 rfl) ?_
  refine va_put (D := D) (ci := 1) (v := .int a1) (ty := .int) (C := R_Pic) (T := F_Pic) (N := 11) hx hb hw in_Pic t_Pic t_Pic_ok n_Pic hown hK hP (hD _) hS 0 rfl rfl 0 (by decide) (hw _ m_14) (fun _ h9 => h9) rfl (by decide +kernel) rfl rfl (Nat.le_of_ble_eq_true rfl) d_Pic_become_2 (fun H locs hP _ hS => ?_)
  obtain ⟨u1, e_u1, hf⟩ := tk_o hf
  have hP : va_P D cls (wPic cI q0 u1) H := by rw [e_u1]; exact hP
  refine lv_aload_n hx hb d_Pic_become_5 rfl (lv_at hl 0 rfl) ?_
  refine lv_iload_n hx hb d_Pic_become_6 rfl (lv_at hl 2 rfl) ?_
  refine va_put (D := D) (ci := 1) (v := .int a2) (ty := .int) (C := R_Pic) (T := F_Pic) (N := 11) hx hb hw in_Pic t_Pic t_Pic_ok n_Pic hown hK hP (hD _) hS 0 rfl rfl 1 (by decide) (hw _ m_15) (fun _ h9 => h9) rfl (by decide +kernel) rfl rfl (Nat.le_of_ble_eq_true rfl) d_Pic_become_7 (fun H locs hP _ hS => ?_)
  obtain ⟨u2, e_u2, hf⟩ := tk_o hf
  have hP : va_P D cls (wPic cI q0 u2) H := by rw [e_u2]; exact hP
  refine lv_aload_n hx hb d_Pic_become_10 rfl (lv_at hl 0 rfl) ?_
  refine lv_iload_n hx hb d_Pic_become_11 rfl (lv_at hl 3 rfl) ?_
  refine va_put (D := D) (ci := 1) (v := .int a3) (ty := .int) (C := R_Pic) (T := F_Pic) (N := 11) hx hb hw in_Pic t_Pic t_Pic_ok n_Pic hown hK hP (hD _) hS 0 rfl rfl 2 (by decide) (hw _ m_0) (fun _ h9 => h9) rfl (by decide +kernel) rfl rfl (Nat.le_of_ble_eq_true rfl) d_Pic_become_12 (fun H locs hP _ hS => ?_)
  obtain ⟨u3, e_u3, hf⟩ := tk_o hf
  have hP : va_P D cls (wPic cI q0 u3) H := by rw [e_u3]; exact hP
  refine lv_aload_n hx hb d_Pic_become_15 rfl (lv_at hl 0 rfl) ?_
  refine lv_iload hx hb d_Pic_become_16 (lv_at hl 4 rfl) ?_
  refine va_put (D := D) (ci := 1) (v := .int a4) (ty := .int) (C := R_Pic) (T := F_Pic) (N := 11) hx hb hw in_Pic t_Pic t_Pic_ok n_Pic hown hK hP (hD _) hS 0 rfl rfl 3 (by decide) (hw _ m_1) (fun _ h9 => h9) rfl (by decide +kernel) rfl rfl (Nat.le_of_ble_eq_true rfl) d_Pic_become_18 (fun H locs hP _ hS => ?_)
  obtain ⟨u4, e_u4, hf⟩ := tk_o hf
  have hP : va_P D cls (wPic cI q0 u4) H := by rw [e_u4]; exact hP
  refine lv_aload_n hx hb d_Pic_become_21 rfl (lv_at hl 0 rfl) ?_
  refine lv_iconst (v := 2) hx hb d_Pic_become_22 (by decide) ?_
  refine lv_aload_n hx hb d_Pic_become_23 rfl (lv_at hl 0 rfl) ?_
  refine va_get (D := D) (ci := 1) (v := .int (u4 0 3)) (C := R_Pic) (T := F_Pic) (N := 11) hx hb hw in_Pic hown hK hP 0 rfl rfl 3 (by decide) (hw _ m_1) (fun _ h9 => h9) rfl d_Pic_become_24 ?_
  refine lv_imul hx hb d_Pic_become_27 ?_
  refine lv_iconst (v := 1) hx hb d_Pic_become_28 (by decide) ?_
  refine lv_iadd hx hb d_Pic_become_29 ?_
  refine va_put (D := D) (ci := 1) (v := .int ((2 * (u4 0 3)) + 1)) (ty := .int) (C := R_Pic) (T := F_Pic) (N := 11) hx hb hw in_Pic t_Pic t_Pic_ok n_Pic hown hK hP (hD _) hS 0 rfl rfl 4 (by decide) (hw _ m_16) (fun _ h9 => h9) rfl (by decide +kernel) rfl rfl (Nat.le_of_ble_eq_true rfl) d_Pic_become_30 (fun H locs hP _ hS => ?_)
  obtain ⟨u5, e_u5, hf⟩ := tk_o hf
  have hP : va_P D cls (wPic cI q0 u5) H := by rw [e_u5]; exact hP
  refine lv_aload_n hx hb d_Pic_become_33 rfl (lv_at hl 0 rfl) ?_
  refine lv_aload_n hx hb d_Pic_become_34 rfl (lv_at hl 0 rfl) ?_
  refine va_get (D := D) (ci := 1) (v := .int (u5 0 2)) (C := R_Pic) (T := F_Pic) (N := 11) hx hb hw in_Pic hown hK hP 0 rfl rfl 2 (by decide) (hw _ m_0) (fun _ h9 => h9) rfl d_Pic_become_35 ?_
  refine lv_iconst (v := 2) hx hb d_Pic_become_38 (by decide) ?_
  refine lv_aload_n hx hb d_Pic_become_39 rfl (lv_at hl 0 rfl) ?_
  refine va_get (D := D) (ci := 1) (v := .int (u5 0 3)) (C := R_Pic) (T := F_Pic) (N := 11) hx hb hw in_Pic hown hK hP 0 rfl rfl 3 (by decide) (hw _ m_1) (fun _ h9 => h9) rfl d_Pic_become_40 ?_
  refine lv_imul hx hb d_Pic_become_43 ?_
  refine lv_iadd hx hb d_Pic_become_44 ?_
  refine lv_aload_n hx hb d_Pic_become_45 rfl (lv_at hl 0 rfl) ?_
  refine va_get (D := D) (ci := 1) (v := .int (u5 0 4)) (C := R_Pic) (T := F_Pic) (N := 11) hx hb hw in_Pic hown hK hP 0 rfl rfl 4 (by decide) (hw _ m_16) (fun _ h9 => h9) rfl d_Pic_become_46 ?_
  obtain ⟨h6, hf⟩ := gd_o hf
  refine lv_idiv hx hb d_Pic_become_49 h6 ?_
  refine lv_iconst (v := 1) hx hb d_Pic_become_50 (by decide) ?_
  refine lv_iadd hx hb d_Pic_become_51 ?_
  refine va_put (D := D) (ci := 1) (v := .int ((((u5 0 2) + (2 * (u5 0 3))) / (u5 0 4)) + 1)) (ty := .int) (C := R_Pic) (T := F_Pic) (N := 11) hx hb hw in_Pic t_Pic t_Pic_ok n_Pic hown hK hP (hD _) hS 0 rfl rfl 5 (by decide) (hw _ m_17) (fun _ h9 => h9) rfl (by decide +kernel) rfl rfl (Nat.le_of_ble_eq_true rfl) d_Pic_become_52 (fun H locs hP _ hS => ?_)
  obtain ⟨u7, e_u7, hf⟩ := tk_o hf
  have hP : va_P D cls (wPic cI q0 u7) H := by rw [e_u7]; exact hP
  refine lv_aload_n hx hb d_Pic_become_55 rfl (lv_at hl 0 rfl) ?_
  refine lv_iconst (v := 0) hx hb d_Pic_become_56 (by decide) ?_
  refine lv_aload_n hx hb d_Pic_become_57 rfl (lv_at hl 0 rfl) ?_
  refine va_get (D := D) (ci := 1) (v := .int (u7 0 5)) (C := R_Pic) (T := F_Pic) (N := 11) hx hb hw in_Pic hown hK hP 0 rfl rfl 5 (by decide) (hw _ m_17) (fun _ h9 => h9) rfl d_Pic_become_58 ?_
  have hC : ([] : List Nat).map (fun i => (wPic cI q0 u7)[i]?) = ([] : va_W).map some := rfl
  obtain ⟨x8, hc, hf⟩ := bd_o hf
  refine ro_i (va_runS (As := [.int 0, .int (u7 0 5)]) (rest := [.ref q0]) ⟨hx, hb, hml, hown, hw⟩ (c_Pic_leastPower l D cI 0 (u7 0 5) x8 hc) (va_cwS 2 hw g_1 rfl rfl rfl (by decide +kernel) ⟨Nat.le_of_ble_eq_true rfl, Nat.le_of_ble_eq_true rfl⟩) (pre_S (P_sub hC hP) hK) rfl rfl hl.1 rfl (lv_room (Nat.le_of_ble_eq_true rfl)) d_Pic_become_61 ⟨Nat.le_of_ble_eq_true rfl, Nat.le_of_ble_eq_true rfl⟩) hS hP (fun H locs hP hS => ?_)
  refine va_put (D := D) (ci := 1) (v := .int x8) (ty := .int) (C := R_Pic) (T := F_Pic) (N := 11) hx hb hw in_Pic t_Pic t_Pic_ok n_Pic hown hK hP (hD _) hS 0 rfl rfl 6 (by decide) (hw _ m_21) (fun _ h9 => h9) rfl (by decide +kernel) rfl rfl (Nat.le_of_ble_eq_true rfl) d_Pic_become_64 (fun H locs hP _ hS => ?_)
  obtain ⟨u9, e_u9, hf⟩ := tk_o hf
  have hP : va_P D cls (wPic cI q0 u9) H := by rw [e_u9]; exact hP
  refine lv_iconst (v := 2) hx hb d_Pic_become_67 (by decide) ?_
  refine lv_aload_n hx hb d_Pic_become_68 rfl (lv_at hl 0 rfl) ?_
  refine va_get (D := D) (ci := 1) (v := .int (u9 0 2)) (C := R_Pic) (T := F_Pic) (N := 11) hx hb hw in_Pic hown hK hP 0 rfl rfl 2 (by decide) (hw _ m_0) (fun _ h9 => h9) rfl d_Pic_become_69 ?_
  refine lv_iconst (v := 1) hx hb d_Pic_become_72 (by decide) ?_
  refine lv_iadd hx hb d_Pic_become_73 ?_
  have hC : ([] : List Nat).map (fun i => (wPic cI q0 u9)[i]?) = ([] : va_W).map some := rfl
  obtain ⟨x10, hc, hf⟩ := bd_o hf
  refine ro_i (va_runS (As := [.int 2, .int ((u9 0 2) + 1)]) (rest := []) ⟨hx, hb, hml, hown, hw⟩ (c_Pic_leastPower l D cI 2 ((u9 0 2) + 1) x10 hc) (va_cwS 2 hw g_1 rfl rfl rfl (by decide +kernel) ⟨Nat.le_of_ble_eq_true rfl, Nat.le_of_ble_eq_true rfl⟩) (pre_S (P_sub hC hP) hK) rfl rfl hl.1 rfl (lv_room (Nat.le_of_ble_eq_true rfl)) d_Pic_become_74 ⟨Nat.le_of_ble_eq_true rfl, Nat.le_of_ble_eq_true rfl⟩) hS hP (fun H locs hP hS => ?_)
  refine lv_istore (lv' := [(5, .int x10), (0, .ref q0), (1, .int a1), (2, .int a2), (3, .int a3), (4, .int a4)]) hx hb d_Pic_become_77 hl (by decide) rfl (fun ls hl => ?_)
  refine lv_aload_n hx hb d_Pic_become_79 rfl (lv_at hl 1 rfl) ?_
  refine lv_iconst (v := 2) hx hb d_Pic_become_80 (by decide) ?_
  refine lv_iload hx hb d_Pic_become_81 (lv_at hl 0 rfl) ?_
  refine lv_bipush (v := 8) hx hb d_Pic_become_83 (by decide) ?_
  refine lv_iload hx hb d_Pic_become_85 (lv_at hl 0 rfl) ?_
  refine va_mmax hx hb (hml.trans hl.1.symm) hown (hw _ m_10) (hw _ m_11) (hw _ m_12) (hw _ m_13) (Nat.le_of_ble_eq_true rfl) (Nat.le_of_ble_eq_true rfl) (Nat.le_of_ble_eq_true rfl) (Nat.le_of_ble_eq_true rfl) d_Pic_become_87 ?_
  refine lv_topi (fun x11 e_x11 => ?_)
  have hf := tk_e hf e_x11
  refine lv_iadd hx hb d_Pic_become_90 ?_
  refine lv_imul hx hb d_Pic_become_91 ?_
  refine va_put (D := D) (ci := 1) (v := .int (2 * (x10 + x11))) (ty := .int) (C := R_Pic) (T := F_Pic) (N := 11) hx hb hw in_Pic t_Pic t_Pic_ok n_Pic hown hK hP (hD _) hS 0 rfl rfl 7 (by decide) (hw _ m_22) (fun _ h9 => h9) rfl (by decide +kernel) rfl rfl (Nat.le_of_ble_eq_true rfl) d_Pic_become_92 (fun H locs hP _ hS => ?_)
  obtain ⟨u12, e_u12, hf⟩ := tk_o hf
  have hP : va_P D cls (wPic cI q0 u12) H := by rw [e_u12]; exact hP
  refine lv_aload_n hx hb d_Pic_become_95 rfl (lv_at hl 1 rfl) ?_
  refine va_get (D := D) (ci := 1) (v := .int (u12 0 2)) (C := R_Pic) (T := F_Pic) (N := 11) hx hb hw in_Pic hown hK hP 0 rfl rfl 2 (by decide) (hw _ m_0) (fun _ h9 => h9) rfl d_Pic_become_96 ?_
  refine lv_sipush (v := 128) hx hb d_Pic_become_99 (by decide) ?_
  refine lv_icmp_lt (tgt := 124) hx hb d_Pic_become_102 (by decide) (fun hc => ?_) (fun hc => ?_)
  · have hf := bq_t hf hc
    refine lv_aload_n hx hb d_Pic_become_124 rfl (lv_at hl 1 rfl) ?_
    refine lv_sipush (v := 256) hx hb d_Pic_become_125 (by decide) ?_
    refine lv_aload_n hx hb d_Pic_become_128 rfl (lv_at hl 1 rfl) ?_
    refine va_get (D := D) (ci := 1) (v := .int (u12 0 2)) (C := R_Pic) (T := F_Pic) (N := 11) hx hb hw in_Pic hown hK hP 0 rfl rfl 2 (by decide) (hw _ m_0) (fun _ h9 => h9) rfl d_Pic_become_129 ?_
    refine lv_iconst (v := 1) hx hb d_Pic_become_132 (by decide) ?_
    refine lv_iadd hx hb d_Pic_become_133 ?_
    obtain ⟨h13, hf⟩ := gd_o hf
    refine lv_idiv hx hb d_Pic_become_134 h13 ?_
    have hC : [0].map (fun i => (wPic cI q0 u12)[i]?) = (wPic cI q0 u12).map some := rfl
    obtain ⟨w14, hc, hf⟩ := bd_o hf
    refine rw_v (va_runV (As := [.int (256 / ((u12 0 2) + 1))]) (rest := []) ⟨hx, hb, hml, hown, hw⟩ (c_Pic_becomeCoarse l D cI q0 (dj_sub hd [0] (by decide) rfl) (256 / ((u12 0 2) + 1)) u12 w14 hc) (cwV 1 hw g_2 rfl rfl rfl (by decide +kernel) ⟨Nat.le_of_ble_eq_true rfl, Nat.le_of_ble_eq_true rfl⟩) (pre_V (P_sub hC hP) hK rfl rfl) rfl rfl hl.1 rfl (lv_room (Nat.le_of_ble_eq_true rfl)) d_Pic_become_135 ⟨Nat.le_of_ble_eq_true rfl, Nat.le_of_ble_eq_true rfl⟩) hS hP (hD _) hC rfl rfl (fun H locs hP hS => ?_)
    obtain ⟨u15, e_u15, hf⟩ := tk_o hf
    have hP : va_P D cls (wPic cI q0 u15) H := by rw [e_u15]; exact hP
    exact rt_v (wPic cI q0) hx hb hr hlocks hS hP hf d_Pic_become_138
  have hf := bq_n hf hc
  refine lv_aload_n hx hb d_Pic_become_105 rfl (lv_at hl 1 rfl) ?_
  refine lv_aload_n hx hb d_Pic_become_106 rfl (lv_at hl 1 rfl) ?_
  refine va_get (D := D) (ci := 1) (v := .int (u12 0 2)) (C := R_Pic) (T := F_Pic) (N := 11) hx hb hw in_Pic hown hK hP 0 rfl rfl 2 (by decide) (hw _ m_0) (fun _ h9 => h9) rfl d_Pic_become_107 ?_
  refine lv_sipush (v := 128) hx hb d_Pic_become_110 (by decide) ?_
  refine lv_iadd hx hb d_Pic_become_113 ?_
  refine lv_sipush (v := 256) hx hb d_Pic_become_114 (by decide) ?_
  refine lv_idiv hx hb d_Pic_become_117 (by decide) ?_
  have hC : [0].map (fun i => (wPic cI q0 u12)[i]?) = (wPic cI q0 u12).map some := rfl
  obtain ⟨w16, hc, hf⟩ := bd_o hf
  refine rw_v (va_runV (As := [.int (((u12 0 2) + 128) / 256)]) (rest := []) ⟨hx, hb, hml, hown, hw⟩ (c_Pic_becomeFine l D cI q0 (dj_sub hd [0] (by decide) rfl) (((u12 0 2) + 128) / 256) u12 w16 hc) (cwV 1 hw g_3 rfl rfl rfl (by decide +kernel) ⟨Nat.le_of_ble_eq_true rfl, Nat.le_of_ble_eq_true rfl⟩) (pre_V (P_sub hC hP) hK rfl rfl) rfl rfl hl.1 rfl (lv_room (Nat.le_of_ble_eq_true rfl)) d_Pic_become_118 ⟨Nat.le_of_ble_eq_true rfl, Nat.le_of_ble_eq_true rfl⟩) hS hP (hD _) hC rfl rfl (fun H locs hP hS => ?_)
  obtain ⟨u17, e_u17, hf⟩ := tk_o hf
  have hP : va_P D cls (wPic cI q0 u17) H := by rw [e_u17]; exact hP
  refine lv_goto (tgt := 138) hx hb d_Pic_become_121 (by decide) ?_
  exact rt_v (wPic cI q0) hx hb hr hlocks hS hP hf d_Pic_become_138
def f_Pic_hasPlace (a1 : Int32) (a2 : Int32) (u : gU) : Option (Int32) := bq (a1 < 0) (some 0) (bq ((u 0 0) ≤ a1) (some 0) (bq (a2 < 0) (some 0) (bq ((u 0 1) ≤ a2) (some 0) (some 1))))
set_option maxHeartbeats 4000000 in
set_option maxRecDepth 100000 in
theorem c_Pic_hasPlace (l : Launch) (D : va_G) (cI : ClassId) (q0 : Nat) (a1 : Int32) (a2 : Int32) (u : gU) (r : Int32) (hf : f_Pic_hasPlace a1 a2 u = some r) : Met l y_Pic_hasPlace (.code y_Pic_hasPlace b_Pic_hasPlace 3 (some .boolean) :: TS) ({ frames := 0, cells := 0, slots := 0, locals := 0 }) (va_Pc [.ref q0, .int a1, .int a2] (fun U => va_P D cls (wPic cI q0 u) U.heap ∧ va_K D cls [(cI, .int)] U)) (va_Qi (fun x (_ : Unit) => x = r) (fun _ _ => True) (fun _ => False)) 0 0 (fun _ => False) := by
  refine ct_of (by decide +kernel) (Nat.le_of_ble_eq_true rfl) ?_
  intro p e s m below meth c ls hx hb hml hr hlocks hown hw hP hK hl
  have hS : va_S (fun _ => False) s.heap s.heap [] := va_S.rf
  have hl : lv_has ls 3 [(0, .ref q0), (1, .int a1), (2, .int a2)] := hl
  have hP : va_P D cls (wPic cI q0 u) s.heap := hP
  unfold f_Pic_hasPlace at hf
  refine lv_iload_n hx hb d_Pic_hasPlace_0 rfl (lv_at hl 1 rfl) ?_
  refine lv_if_lt (tgt := 28) hx hb d_Pic_hasPlace_1 (by decide) (fun hc => ?_) (fun hc => ?_)
  · have hf := bq_t hf hc
    refine lv_iconst (v := 0) hx hb d_Pic_hasPlace_28 (by decide) ?_
    exact rt_roz hx hb hr hlocks (Or.inl rfl) hS hf d_Pic_hasPlace_29
  have hf := bq_n hf hc
  refine lv_iload_n hx hb d_Pic_hasPlace_4 rfl (lv_at hl 1 rfl) ?_
  refine lv_aload_n hx hb d_Pic_hasPlace_5 rfl (lv_at hl 0 rfl) ?_
  refine va_get (D := D) (ci := 1) (v := .int (u 0 0)) (C := R_Pic) (T := F_Pic) (N := 11) hx hb hw in_Pic hown hK hP 0 rfl rfl 0 (by decide) (hw _ m_14) (fun _ h9 => h9) rfl d_Pic_hasPlace_6 ?_
  refine lv_icmp_ge (tgt := 28) hx hb d_Pic_hasPlace_9 (by decide) (fun hc => ?_) (fun hc => ?_)
  · have hf := bq_t hf hc
    refine lv_iconst (v := 0) hx hb d_Pic_hasPlace_28 (by decide) ?_
    exact rt_roz hx hb hr hlocks (Or.inl rfl) hS hf d_Pic_hasPlace_29
  have hf := bq_n hf hc
  refine lv_iload_n hx hb d_Pic_hasPlace_12 rfl (lv_at hl 2 rfl) ?_
  refine lv_if_lt (tgt := 28) hx hb d_Pic_hasPlace_13 (by decide) (fun hc => ?_) (fun hc => ?_)
  · have hf := bq_t hf hc
    refine lv_iconst (v := 0) hx hb d_Pic_hasPlace_28 (by decide) ?_
    exact rt_roz hx hb hr hlocks (Or.inl rfl) hS hf d_Pic_hasPlace_29
  have hf := bq_n hf hc
  refine lv_iload_n hx hb d_Pic_hasPlace_16 rfl (lv_at hl 2 rfl) ?_
  refine lv_aload_n hx hb d_Pic_hasPlace_17 rfl (lv_at hl 0 rfl) ?_
  refine va_get (D := D) (ci := 1) (v := .int (u 0 1)) (C := R_Pic) (T := F_Pic) (N := 11) hx hb hw in_Pic hown hK hP 0 rfl rfl 1 (by decide) (hw _ m_15) (fun _ h9 => h9) rfl d_Pic_hasPlace_18 ?_
  refine lv_icmp_ge (tgt := 28) hx hb d_Pic_hasPlace_21 (by decide) (fun hc => ?_) (fun hc => ?_)
  · have hf := bq_t hf hc
    refine lv_iconst (v := 0) hx hb d_Pic_hasPlace_28 (by decide) ?_
    exact rt_roz hx hb hr hlocks (Or.inl rfl) hS hf d_Pic_hasPlace_29
  have hf := bq_n hf hc
  refine lv_iconst (v := 1) hx hb d_Pic_hasPlace_24 (by decide) ?_
  refine lv_goto (tgt := 29) hx hb d_Pic_hasPlace_25 (by decide) ?_
  exact rt_roz hx hb hr hlocks (Or.inr rfl) hS hf d_Pic_hasPlace_29
def f_Pic_isNear (a1 : Int32) (u : gU) : Option (Int32) := bq (a1 < (-(u 0 3))) (some 0) (bq ((u 0 3) < a1) (some 0) (some 1))
set_option maxHeartbeats 4000000 in
set_option maxRecDepth 100000 in
theorem c_Pic_isNear (l : Launch) (D : va_G) (cI : ClassId) (q0 : Nat) (a1 : Int32) (u : gU) (r : Int32) (hf : f_Pic_isNear a1 u = some r) : Met l y_Pic_isNear (.code y_Pic_isNear b_Pic_isNear 2 (some .boolean) :: TS) ({ frames := 0, cells := 0, slots := 0, locals := 0 }) (va_Pc [.ref q0, .int a1] (fun U => va_P D cls (wPic cI q0 u) U.heap ∧ va_K D cls [(cI, .int)] U)) (va_Qi (fun x (_ : Unit) => x = r) (fun _ _ => True) (fun _ => False)) 0 0 (fun _ => False) := by
  refine ct_of (by decide +kernel) (Nat.le_of_ble_eq_true rfl) ?_
  intro p e s m below meth c ls hx hb hml hr hlocks hown hw hP hK hl
  have hS : va_S (fun _ => False) s.heap s.heap [] := va_S.rf
  have hl : lv_has ls 2 [(0, .ref q0), (1, .int a1)] := hl
  have hP : va_P D cls (wPic cI q0 u) s.heap := hP
  unfold f_Pic_isNear at hf
  refine lv_iload_n hx hb d_Pic_isNear_0 rfl (lv_at hl 1 rfl) ?_
  refine lv_aload_n hx hb d_Pic_isNear_1 rfl (lv_at hl 0 rfl) ?_
  refine va_get (D := D) (ci := 1) (v := .int (u 0 3)) (C := R_Pic) (T := F_Pic) (N := 11) hx hb hw in_Pic hown hK hP 0 rfl rfl 3 (by decide) (hw _ m_1) (fun _ h9 => h9) rfl d_Pic_isNear_2 ?_
  refine lv_ineg hx hb d_Pic_isNear_5 ?_
  refine lv_icmp_lt (tgt := 21) hx hb d_Pic_isNear_6 (by decide) (fun hc => ?_) (fun hc => ?_)
  · have hf := bq_t hf hc
    refine lv_iconst (v := 0) hx hb d_Pic_isNear_21 (by decide) ?_
    exact rt_roz hx hb hr hlocks (Or.inl rfl) hS hf d_Pic_isNear_22
  have hf := bq_n hf hc
  refine lv_iload_n hx hb d_Pic_isNear_9 rfl (lv_at hl 1 rfl) ?_
  refine lv_aload_n hx hb d_Pic_isNear_10 rfl (lv_at hl 0 rfl) ?_
  refine va_get (D := D) (ci := 1) (v := .int (u 0 3)) (C := R_Pic) (T := F_Pic) (N := 11) hx hb hw in_Pic hown hK hP 0 rfl rfl 3 (by decide) (hw _ m_1) (fun _ h9 => h9) rfl d_Pic_isNear_11 ?_
  refine lv_icmp_gt (tgt := 21) hx hb d_Pic_isNear_14 (by decide) (fun hc => ?_) (fun hc => ?_)
  · have hf := bq_t hf hc
    refine lv_iconst (v := 0) hx hb d_Pic_isNear_21 (by decide) ?_
    exact rt_roz hx hb hr hlocks (Or.inl rfl) hS hf d_Pic_isNear_22
  have hf := bq_n hf hc
  refine lv_iconst (v := 1) hx hb d_Pic_isNear_17 (by decide) ?_
  refine lv_goto (tgt := 22) hx hb d_Pic_isNear_18 (by decide) ?_
  exact rt_roz hx hb hr hlocks (Or.inr rfl) hS hf d_Pic_isNear_22
def f_Pic_bounded (a1 : Int32) (u : gU) : Option (Int32) := tk (if a1 < (u 0 2) then a1 else (u 0 2)) fun x1 => tk (if 0 < x1 then x1 else 0) fun x2 => some x2
set_option maxHeartbeats 4000000 in
set_option maxRecDepth 100000 in
theorem c_Pic_bounded (l : Launch) (D : va_G) (cI : ClassId) (q0 : Nat) (a1 : Int32) (u : gU) (r : Int32) (hf : f_Pic_bounded a1 u = some r) : Met l y_Pic_bounded (.code y_Pic_bounded b_Pic_bounded 2 (some .int) :: TS) ({ frames := 1, cells := 0, slots := 0, locals := 24 }) (va_Pc [.ref q0, .int a1] (fun U => va_P D cls (wPic cI q0 u) U.heap ∧ va_K D cls [(cI, .int)] U)) (va_Qi (fun x (_ : Unit) => x = r) (fun _ _ => True) (fun _ => False)) 0 0 (fun _ => False) := by
  refine ct_of (by decide +kernel) (Nat.le_of_ble_eq_true rfl) ?_
  intro p e s m below meth c ls hx hb hml hr hlocks hown hw hP hK hl
  have hS : va_S (fun _ => False) s.heap s.heap [] := va_S.rf
  have hl : lv_has ls 2 [(0, .ref q0), (1, .int a1)] := hl
  have hP : va_P D cls (wPic cI q0 u) s.heap := hP
  unfold f_Pic_bounded at hf
  refine lv_iconst (v := 0) hx hb d_Pic_bounded_0 (by decide) ?_
  refine lv_aload_n hx hb d_Pic_bounded_1 rfl (lv_at hl 0 rfl) ?_
  refine va_get (D := D) (ci := 1) (v := .int (u 0 2)) (C := R_Pic) (T := F_Pic) (N := 11) hx hb hw in_Pic hown hK hP 0 rfl rfl 2 (by decide) (hw _ m_0) (fun _ h9 => h9) rfl d_Pic_bounded_2 ?_
  refine lv_iload_n hx hb d_Pic_bounded_5 rfl (lv_at hl 1 rfl) ?_
  refine va_mmin hx hb (hml.trans hl.1.symm) hown (hw _ m_31) (hw _ m_32) (hw _ m_12) (hw _ m_33) (Nat.le_of_ble_eq_true rfl) (Nat.le_of_ble_eq_true rfl) (Nat.le_of_ble_eq_true rfl) (Nat.le_of_ble_eq_true rfl) d_Pic_bounded_6 ?_
  refine lv_topi (fun x1 e_x1 => ?_)
  have hf := tk_e hf e_x1
  refine va_mmax hx hb (hml.trans hl.1.symm) hown (hw _ m_10) (hw _ m_11) (hw _ m_12) (hw _ m_13) (Nat.le_of_ble_eq_true rfl) (Nat.le_of_ble_eq_true rfl) (Nat.le_of_ble_eq_true rfl) (Nat.le_of_ble_eq_true rfl) d_Pic_bounded_9 ?_
  refine lv_topi (fun x2 e_x2 => ?_)
  have hf := tk_e hf e_x2
  exact rt_roi hx hb hr hlocks hS hf d_Pic_bounded_12
def f_Pic_level (a1 : Int32) (u : gU) : Option (Int32) := bq ((-(u 0 10)) < a1) (bq ((-(u 0 9)) < a1) (bq ((-(u 0 8)) < a1) (bq ((-(u 0 3)) ≤ a1) (bq ((u 0 3) < a1) (bq ((u 0 8) ≤ a1) (bq ((u 0 9) ≤ a1) (bq ((u 0 10) ≤ a1) (some 4) (some 3)) (some 2)) (some 1)) (some 0)) (some (-1))) (some (-2))) (some (-3))) (some (-4))
set_option maxHeartbeats 4000000 in
set_option maxRecDepth 100000 in
theorem c_Pic_level (l : Launch) (D : va_G) (cI : ClassId) (q0 : Nat) (a1 : Int32) (u : gU) (r : Int32) (hf : f_Pic_level a1 u = some r) : Met l y_Pic_level (.code y_Pic_level b_Pic_level 2 (some .int) :: TS) ({ frames := 0, cells := 0, slots := 0, locals := 0 }) (va_Pc [.ref q0, .int a1] (fun U => va_P D cls (wPic cI q0 u) U.heap ∧ va_K D cls [(cI, .int)] U)) (va_Qi (fun x (_ : Unit) => x = r) (fun _ _ => True) (fun _ => False)) 0 0 (fun _ => False) := by
  refine ct_of (by decide +kernel) (Nat.le_of_ble_eq_true rfl) ?_
  intro p e s m below meth c ls hx hb hml hr hlocks hown hw hP hK hl
  have hS : va_S (fun _ => False) s.heap s.heap [] := va_S.rf
  have hl : lv_has ls 2 [(0, .ref q0), (1, .int a1)] := hl
  have hP : va_P D cls (wPic cI q0 u) s.heap := hP
  unfold f_Pic_level at hf
  refine lv_iload_n hx hb d_Pic_level_0 rfl (lv_at hl 1 rfl) ?_
  refine lv_aload_n hx hb d_Pic_level_1 rfl (lv_at hl 0 rfl) ?_
  refine va_get (D := D) (ci := 1) (v := .int (u 0 10)) (C := R_Pic) (T := F_Pic) (N := 11) hx hb hw in_Pic hown hK hP 0 rfl rfl 10 (by decide) (hw _ m_9) (fun _ h9 => h9) rfl d_Pic_level_2 ?_
  refine lv_ineg hx hb d_Pic_level_5 ?_
  refine lv_icmp_gt (tgt := 12) hx hb d_Pic_level_6 (by decide) (fun hc => ?_) (fun hc => ?_)
  · have hf := bq_t hf hc
    refine lv_iload_n hx hb d_Pic_level_12 rfl (lv_at hl 1 rfl) ?_
    refine lv_aload_n hx hb d_Pic_level_13 rfl (lv_at hl 0 rfl) ?_
    refine va_get (D := D) (ci := 1) (v := .int (u 0 9)) (C := R_Pic) (T := F_Pic) (N := 11) hx hb hw in_Pic hown hK hP 0 rfl rfl 9 (by decide) (hw _ m_8) (fun _ h9 => h9) rfl d_Pic_level_14 ?_
    refine lv_ineg hx hb d_Pic_level_17 ?_
    refine lv_icmp_gt (tgt := 24) hx hb d_Pic_level_18 (by decide) (fun hc => ?_) (fun hc => ?_)
    · have hf := bq_t hf hc
      refine lv_iload_n hx hb d_Pic_level_24 rfl (lv_at hl 1 rfl) ?_
      refine lv_aload_n hx hb d_Pic_level_25 rfl (lv_at hl 0 rfl) ?_
      refine va_get (D := D) (ci := 1) (v := .int (u 0 8)) (C := R_Pic) (T := F_Pic) (N := 11) hx hb hw in_Pic hown hK hP 0 rfl rfl 8 (by decide) (hw _ m_7) (fun _ h9 => h9) rfl d_Pic_level_26 ?_
      refine lv_ineg hx hb d_Pic_level_29 ?_
      refine lv_icmp_gt (tgt := 36) hx hb d_Pic_level_30 (by decide) (fun hc => ?_) (fun hc => ?_)
      · have hf := bq_t hf hc
        refine lv_iload_n hx hb d_Pic_level_36 rfl (lv_at hl 1 rfl) ?_
        refine lv_aload_n hx hb d_Pic_level_37 rfl (lv_at hl 0 rfl) ?_
        refine va_get (D := D) (ci := 1) (v := .int (u 0 3)) (C := R_Pic) (T := F_Pic) (N := 11) hx hb hw in_Pic hown hK hP 0 rfl rfl 3 (by decide) (hw _ m_1) (fun _ h9 => h9) rfl d_Pic_level_38 ?_
        refine lv_ineg hx hb d_Pic_level_41 ?_
        refine lv_icmp_ge (tgt := 47) hx hb d_Pic_level_42 (by decide) (fun hc => ?_) (fun hc => ?_)
        · have hf := bq_t hf hc
          refine lv_iload_n hx hb d_Pic_level_47 rfl (lv_at hl 1 rfl) ?_
          refine lv_aload_n hx hb d_Pic_level_48 rfl (lv_at hl 0 rfl) ?_
          refine va_get (D := D) (ci := 1) (v := .int (u 0 3)) (C := R_Pic) (T := F_Pic) (N := 11) hx hb hw in_Pic hown hK hP 0 rfl rfl 3 (by decide) (hw _ m_1) (fun _ h9 => h9) rfl d_Pic_level_49 ?_
          refine lv_icmp_gt (tgt := 57) hx hb d_Pic_level_52 (by decide) (fun hc => ?_) (fun hc => ?_)
          · have hf := bq_t hf hc
            refine lv_iload_n hx hb d_Pic_level_57 rfl (lv_at hl 1 rfl) ?_
            refine lv_aload_n hx hb d_Pic_level_58 rfl (lv_at hl 0 rfl) ?_
            refine va_get (D := D) (ci := 1) (v := .int (u 0 8)) (C := R_Pic) (T := F_Pic) (N := 11) hx hb hw in_Pic hown hK hP 0 rfl rfl 8 (by decide) (hw _ m_7) (fun _ h9 => h9) rfl d_Pic_level_59 ?_
            refine lv_icmp_ge (tgt := 67) hx hb d_Pic_level_62 (by decide) (fun hc => ?_) (fun hc => ?_)
            · have hf := bq_t hf hc
              refine lv_iload_n hx hb d_Pic_level_67 rfl (lv_at hl 1 rfl) ?_
              refine lv_aload_n hx hb d_Pic_level_68 rfl (lv_at hl 0 rfl) ?_
              refine va_get (D := D) (ci := 1) (v := .int (u 0 9)) (C := R_Pic) (T := F_Pic) (N := 11) hx hb hw in_Pic hown hK hP 0 rfl rfl 9 (by decide) (hw _ m_8) (fun _ h9 => h9) rfl d_Pic_level_69 ?_
              refine lv_icmp_ge (tgt := 77) hx hb d_Pic_level_72 (by decide) (fun hc => ?_) (fun hc => ?_)
              · have hf := bq_t hf hc
                refine lv_iload_n hx hb d_Pic_level_77 rfl (lv_at hl 1 rfl) ?_
                refine lv_aload_n hx hb d_Pic_level_78 rfl (lv_at hl 0 rfl) ?_
                refine va_get (D := D) (ci := 1) (v := .int (u 0 10)) (C := R_Pic) (T := F_Pic) (N := 11) hx hb hw in_Pic hown hK hP 0 rfl rfl 10 (by decide) (hw _ m_9) (fun _ h9 => h9) rfl d_Pic_level_79 ?_
                refine lv_icmp_ge (tgt := 87) hx hb d_Pic_level_82 (by decide) (fun hc => ?_) (fun hc => ?_)
                · have hf := bq_t hf hc
                  refine lv_iconst (v := 4) hx hb d_Pic_level_87 (by decide) ?_
                  exact rt_roi hx hb hr hlocks hS hf d_Pic_level_88
                have hf := bq_n hf hc
                refine lv_iconst (v := 3) hx hb d_Pic_level_85 (by decide) ?_
                exact rt_roi hx hb hr hlocks hS hf d_Pic_level_86
              have hf := bq_n hf hc
              refine lv_iconst (v := 2) hx hb d_Pic_level_75 (by decide) ?_
              exact rt_roi hx hb hr hlocks hS hf d_Pic_level_76
            have hf := bq_n hf hc
            refine lv_iconst (v := 1) hx hb d_Pic_level_65 (by decide) ?_
            exact rt_roi hx hb hr hlocks hS hf d_Pic_level_66
          have hf := bq_n hf hc
          refine lv_iconst (v := 0) hx hb d_Pic_level_55 (by decide) ?_
          exact rt_roi hx hb hr hlocks hS hf d_Pic_level_56
        have hf := bq_n hf hc
        refine lv_iconst (v := (-1)) hx hb d_Pic_level_45 (by decide) ?_
        exact rt_roi hx hb hr hlocks hS hf d_Pic_level_46
      have hf := bq_n hf hc
      refine lv_bipush (v := (-2)) hx hb d_Pic_level_33 (by decide) ?_
      exact rt_roi hx hb hr hlocks hS hf d_Pic_level_35
    have hf := bq_n hf hc
    refine lv_bipush (v := (-3)) hx hb d_Pic_level_21 (by decide) ?_
    exact rt_roi hx hb hr hlocks hS hf d_Pic_level_23
  have hf := bq_n hf hc
  refine lv_bipush (v := (-4)) hx hb d_Pic_level_9 (by decide) ?_
  exact rt_roi hx hb hr hlocks hS hf d_Pic_level_11
def f_Pic_divided (a1 : Int32) (u : gU) : Option (Int32) := bq (a1 ≤ 0) (gd (¬ (u 0 4) = 0) (some (-(((u 0 3) - a1) / (u 0 4))))) (gd (¬ (u 0 4) = 0) (some ((a1 + (u 0 3)) / (u 0 4))))
set_option maxHeartbeats 4000000 in
set_option maxRecDepth 100000 in
theorem c_Pic_divided (l : Launch) (D : va_G) (cI : ClassId) (q0 : Nat) (a1 : Int32) (u : gU) (r : Int32) (hf : f_Pic_divided a1 u = some r) : Met l y_Pic_divided (.code y_Pic_divided b_Pic_divided 2 (some .int) :: TS) ({ frames := 0, cells := 0, slots := 0, locals := 0 }) (va_Pc [.ref q0, .int a1] (fun U => va_P D cls (wPic cI q0 u) U.heap ∧ va_K D cls [(cI, .int)] U)) (va_Qi (fun x (_ : Unit) => x = r) (fun _ _ => True) (fun _ => False)) 0 0 (fun _ => False) := by
  refine ct_of (by decide +kernel) (Nat.le_of_ble_eq_true rfl) ?_
  intro p e s m below meth c ls hx hb hml hr hlocks hown hw hP hK hl
  have hS : va_S (fun _ => False) s.heap s.heap [] := va_S.rf
  have hl : lv_has ls 2 [(0, .ref q0), (1, .int a1)] := hl
  have hP : va_P D cls (wPic cI q0 u) s.heap := hP
  unfold f_Pic_divided at hf
  refine lv_iload_n hx hb d_Pic_divided_0 rfl (lv_at hl 1 rfl) ?_
  refine lv_if_le (tgt := 18) hx hb d_Pic_divided_1 (by decide) (fun hc => ?_) (fun hc => ?_)
  · have hf := bq_t hf hc
    refine lv_aload_n hx hb d_Pic_divided_18 rfl (lv_at hl 0 rfl) ?_
    refine va_get (D := D) (ci := 1) (v := .int (u 0 3)) (C := R_Pic) (T := F_Pic) (N := 11) hx hb hw in_Pic hown hK hP 0 rfl rfl 3 (by decide) (hw _ m_1) (fun _ h9 => h9) rfl d_Pic_divided_19 ?_
    refine lv_iload_n hx hb d_Pic_divided_22 rfl (lv_at hl 1 rfl) ?_
    refine lv_isub hx hb d_Pic_divided_23 ?_
    refine lv_aload_n hx hb d_Pic_divided_24 rfl (lv_at hl 0 rfl) ?_
    refine va_get (D := D) (ci := 1) (v := .int (u 0 4)) (C := R_Pic) (T := F_Pic) (N := 11) hx hb hw in_Pic hown hK hP 0 rfl rfl 4 (by decide) (hw _ m_16) (fun _ h9 => h9) rfl d_Pic_divided_25 ?_
    obtain ⟨h1, hf⟩ := gd_o hf
    refine lv_idiv hx hb d_Pic_divided_28 h1 ?_
    refine lv_ineg hx hb d_Pic_divided_29 ?_
    exact rt_roi hx hb hr hlocks hS hf d_Pic_divided_30
  have hf := bq_n hf hc
  refine lv_iload_n hx hb d_Pic_divided_4 rfl (lv_at hl 1 rfl) ?_
  refine lv_aload_n hx hb d_Pic_divided_5 rfl (lv_at hl 0 rfl) ?_
  refine va_get (D := D) (ci := 1) (v := .int (u 0 3)) (C := R_Pic) (T := F_Pic) (N := 11) hx hb hw in_Pic hown hK hP 0 rfl rfl 3 (by decide) (hw _ m_1) (fun _ h9 => h9) rfl d_Pic_divided_6 ?_
  refine lv_iadd hx hb d_Pic_divided_9 ?_
  refine lv_aload_n hx hb d_Pic_divided_10 rfl (lv_at hl 0 rfl) ?_
  refine va_get (D := D) (ci := 1) (v := .int (u 0 4)) (C := R_Pic) (T := F_Pic) (N := 11) hx hb hw in_Pic hown hK hP 0 rfl rfl 4 (by decide) (hw _ m_16) (fun _ h9 => h9) rfl d_Pic_divided_11 ?_
  obtain ⟨h2, hf⟩ := gd_o hf
  refine lv_idiv hx hb d_Pic_divided_14 h2 ?_
  refine lv_goto (tgt := 30) hx hb d_Pic_divided_15 (by decide) ?_
  exact rt_roi hx hb hr hlocks hS hf d_Pic_divided_30
def J_Pic_reduced_14 (s0 : Int32) (u : gU) : Option (Int32) := bq (s0 < (((u 0 5) + 1) / 2)) (some s0) (some (s0 - (u 0 5)))
def f_Pic_reduced (a1 : Int32) (u : gU) : Option (Int32) := bq (0 ≤ a1) (J_Pic_reduced_14 a1 u) (J_Pic_reduced_14 (a1 + (u 0 5)) u)
set_option maxHeartbeats 4000000 in
set_option maxRecDepth 100000 in
theorem c_Pic_reduced (l : Launch) (D : va_G) (cI : ClassId) (q0 : Nat) (a1 : Int32) (u : gU) (r : Int32) (hf : f_Pic_reduced a1 u = some r) : Met l y_Pic_reduced (.code y_Pic_reduced b_Pic_reduced 3 (some .int) :: TS) ({ frames := 0, cells := 0, slots := 0, locals := 0 }) (va_Pc [.ref q0, .int a1] (fun U => va_P D cls (wPic cI q0 u) U.heap ∧ va_K D cls [(cI, .int)] U)) (va_Qi (fun x (_ : Unit) => x = r) (fun _ _ => True) (fun _ => False)) 0 0 (fun _ => False) := by
  refine ct_of (by decide +kernel) (Nat.le_of_ble_eq_true rfl) ?_
  intro p e s m below meth c ls hx hb hml hr hlocks hown hw hP hK hl
  have hS : va_S (fun _ => False) s.heap s.heap [] := va_S.rf
  have hl : lv_has ls 3 [(0, .ref q0), (1, .int a1)] := hl
  have hP : va_P D cls (wPic cI q0 u) s.heap := hP
  have j14 : ∀ (ls : Array Slot) (H : Heap) (locs : List Loc) (s0 : Int32) (u : gU), lv_has ls 3 [(0, .ref q0)] → va_P D cls (wPic cI q0 u) H → va_S (fun _ => False) s.heap H locs → J_Pic_reduced_14 s0 u = some r → W p l e ({ frames := 0, cells := 0, slots := 0, locals := 0 }) s m [.ref q0, .int a1].toArray below meth c H locs 0 0 (MQ below (va_Qi (fun x (_ : Unit) => x = r) (fun _ _ => True) (fun _ => False)) [.ref q0, .int a1].toArray s 0 0 (fun _ => False)) (F0 m 14 ls [.int s0]) := by
    intro ls H locs s0 u hl hP hS hf
    unfold J_Pic_reduced_14 at hf
    refine lv_istore_n (lv' := [(2, .int s0), (0, .ref q0)]) hx hb d_Pic_reduced_14 rfl hl (by decide) rfl (fun ls hl => ?_)
    refine lv_iload_n hx hb d_Pic_reduced_15 rfl (lv_at hl 0 rfl) ?_
    refine lv_aload_n hx hb d_Pic_reduced_16 rfl (lv_at hl 1 rfl) ?_
    refine va_get (D := D) (ci := 1) (v := .int (u 0 5)) (C := R_Pic) (T := F_Pic) (N := 11) hx hb hw in_Pic hown hK hP 0 rfl rfl 5 (by decide) (hw _ m_17) (fun _ h9 => h9) rfl d_Pic_reduced_17 ?_
    refine lv_iconst (v := 1) hx hb d_Pic_reduced_20 (by decide) ?_
    refine lv_iadd hx hb d_Pic_reduced_21 ?_
    refine lv_iconst (v := 2) hx hb d_Pic_reduced_22 (by decide) ?_
    refine lv_idiv hx hb d_Pic_reduced_23 (by decide) ?_
    refine lv_icmp_lt (tgt := 36) hx hb d_Pic_reduced_24 (by decide) (fun hc => ?_) (fun hc => ?_)
    · have hf := bq_t hf hc
      refine lv_iload_n hx hb d_Pic_reduced_36 rfl (lv_at hl 0 rfl) ?_
      exact rt_roi hx hb hr hlocks hS hf d_Pic_reduced_37
    have hf := bq_n hf hc
    refine lv_iload_n hx hb d_Pic_reduced_27 rfl (lv_at hl 0 rfl) ?_
    refine lv_aload_n hx hb d_Pic_reduced_28 rfl (lv_at hl 1 rfl) ?_
    refine va_get (D := D) (ci := 1) (v := .int (u 0 5)) (C := R_Pic) (T := F_Pic) (N := 11) hx hb hw in_Pic hown hK hP 0 rfl rfl 5 (by decide) (hw _ m_17) (fun _ h9 => h9) rfl d_Pic_reduced_29 ?_
    refine lv_isub hx hb d_Pic_reduced_32 ?_
    refine lv_goto (tgt := 37) hx hb d_Pic_reduced_33 (by decide) ?_
    exact rt_roi hx hb hr hlocks hS hf d_Pic_reduced_37
  unfold f_Pic_reduced at hf
  refine lv_iload_n hx hb d_Pic_reduced_0 rfl (lv_at hl 1 rfl) ?_
  refine lv_if_ge (tgt := 13) hx hb d_Pic_reduced_1 (by decide) (fun hc => ?_) (fun hc => ?_)
  · have hf := bq_t hf hc
    refine lv_iload_n hx hb d_Pic_reduced_13 rfl (lv_at hl 1 rfl) ?_
    exact j14 _ _ _ a1 u (lv_sub hl [0] rfl) hP hS hf
  have hf := bq_n hf hc
  refine lv_iload_n hx hb d_Pic_reduced_4 rfl (lv_at hl 1 rfl) ?_
  refine lv_aload_n hx hb d_Pic_reduced_5 rfl (lv_at hl 0 rfl) ?_
  refine va_get (D := D) (ci := 1) (v := .int (u 0 5)) (C := R_Pic) (T := F_Pic) (N := 11) hx hb hw in_Pic hown hK hP 0 rfl rfl 5 (by decide) (hw _ m_17) (fun _ h9 => h9) rfl d_Pic_reduced_6 ?_
  refine lv_iadd hx hb d_Pic_reduced_9 ?_
  refine lv_goto (tgt := 14) hx hb d_Pic_reduced_10 (by decide) ?_
  exact j14 _ _ _ (a1 + (u 0 5)) u (lv_sub hl [0] rfl) hP hS hf
def f_Pic_isReduced (a1 : Int32) (u : gU) : Option (Int32) := bq (a1 < (-((u 0 5) / 2))) (some 0) (bq ((((u 0 5) + 1) / 2) ≤ a1) (some 0) (some 1))
set_option maxHeartbeats 4000000 in
set_option maxRecDepth 100000 in
theorem c_Pic_isReduced (l : Launch) (D : va_G) (cI : ClassId) (q0 : Nat) (a1 : Int32) (u : gU) (r : Int32) (hf : f_Pic_isReduced a1 u = some r) : Met l y_Pic_isReduced (.code y_Pic_isReduced b_Pic_isReduced 2 (some .boolean) :: TS) ({ frames := 0, cells := 0, slots := 0, locals := 0 }) (va_Pc [.ref q0, .int a1] (fun U => va_P D cls (wPic cI q0 u) U.heap ∧ va_K D cls [(cI, .int)] U)) (va_Qi (fun x (_ : Unit) => x = r) (fun _ _ => True) (fun _ => False)) 0 0 (fun _ => False) := by
  refine ct_of (by decide +kernel) (Nat.le_of_ble_eq_true rfl) ?_
  intro p e s m below meth c ls hx hb hml hr hlocks hown hw hP hK hl
  have hS : va_S (fun _ => False) s.heap s.heap [] := va_S.rf
  have hl : lv_has ls 2 [(0, .ref q0), (1, .int a1)] := hl
  have hP : va_P D cls (wPic cI q0 u) s.heap := hP
  unfold f_Pic_isReduced at hf
  refine lv_iload_n hx hb d_Pic_isReduced_0 rfl (lv_at hl 1 rfl) ?_
  refine lv_aload_n hx hb d_Pic_isReduced_1 rfl (lv_at hl 0 rfl) ?_
  refine va_get (D := D) (ci := 1) (v := .int (u 0 5)) (C := R_Pic) (T := F_Pic) (N := 11) hx hb hw in_Pic hown hK hP 0 rfl rfl 5 (by decide) (hw _ m_17) (fun _ h9 => h9) rfl d_Pic_isReduced_2 ?_
  refine lv_iconst (v := 2) hx hb d_Pic_isReduced_5 (by decide) ?_
  refine lv_idiv hx hb d_Pic_isReduced_6 (by decide) ?_
  refine lv_ineg hx hb d_Pic_isReduced_7 ?_
  refine lv_icmp_lt (tgt := 27) hx hb d_Pic_isReduced_8 (by decide) (fun hc => ?_) (fun hc => ?_)
  · have hf := bq_t hf hc
    refine lv_iconst (v := 0) hx hb d_Pic_isReduced_27 (by decide) ?_
    exact rt_roz hx hb hr hlocks (Or.inl rfl) hS hf d_Pic_isReduced_28
  have hf := bq_n hf hc
  refine lv_iload_n hx hb d_Pic_isReduced_11 rfl (lv_at hl 1 rfl) ?_
  refine lv_aload_n hx hb d_Pic_isReduced_12 rfl (lv_at hl 0 rfl) ?_
  refine va_get (D := D) (ci := 1) (v := .int (u 0 5)) (C := R_Pic) (T := F_Pic) (N := 11) hx hb hw in_Pic hown hK hP 0 rfl rfl 5 (by decide) (hw _ m_17) (fun _ h9 => h9) rfl d_Pic_isReduced_13 ?_
  refine lv_iconst (v := 1) hx hb d_Pic_isReduced_16 (by decide) ?_
  refine lv_iadd hx hb d_Pic_isReduced_17 ?_
  refine lv_iconst (v := 2) hx hb d_Pic_isReduced_18 (by decide) ?_
  refine lv_idiv hx hb d_Pic_isReduced_19 (by decide) ?_
  refine lv_icmp_ge (tgt := 27) hx hb d_Pic_isReduced_20 (by decide) (fun hc => ?_) (fun hc => ?_)
  · have hf := bq_t hf hc
    refine lv_iconst (v := 0) hx hb d_Pic_isReduced_27 (by decide) ?_
    exact rt_roz hx hb hr hlocks (Or.inl rfl) hS hf d_Pic_isReduced_28
  have hf := bq_n hf hc
  refine lv_iconst (v := 1) hx hb d_Pic_isReduced_23 (by decide) ?_
  refine lv_goto (tgt := 28) hx hb d_Pic_isReduced_24 (by decide) ?_
  exact rt_roz hx hb hr hlocks (Or.inr rfl) hS hf d_Pic_isReduced_28
def f_Pic_unreduced (a1 : Int32) (u : gU) : Option (Int32) := bq ((-(u 0 3)) ≤ a1) (bq (a1 ≤ ((u 0 2) + (u 0 3))) (some a1) (some (a1 - ((u 0 5) * (u 0 4))))) (some (a1 + ((u 0 5) * (u 0 4))))
set_option maxHeartbeats 4000000 in
set_option maxRecDepth 100000 in
theorem c_Pic_unreduced (l : Launch) (D : va_G) (cI : ClassId) (q0 : Nat) (a1 : Int32) (u : gU) (r : Int32) (hf : f_Pic_unreduced a1 u = some r) : Met l y_Pic_unreduced (.code y_Pic_unreduced b_Pic_unreduced 2 (some .int) :: TS) ({ frames := 0, cells := 0, slots := 0, locals := 0 }) (va_Pc [.ref q0, .int a1] (fun U => va_P D cls (wPic cI q0 u) U.heap ∧ va_K D cls [(cI, .int)] U)) (va_Qi (fun x (_ : Unit) => x = r) (fun _ _ => True) (fun _ => False)) 0 0 (fun _ => False) := by
  refine ct_of (by decide +kernel) (Nat.le_of_ble_eq_true rfl) ?_
  intro p e s m below meth c ls hx hb hml hr hlocks hown hw hP hK hl
  have hS : va_S (fun _ => False) s.heap s.heap [] := va_S.rf
  have hl : lv_has ls 2 [(0, .ref q0), (1, .int a1)] := hl
  have hP : va_P D cls (wPic cI q0 u) s.heap := hP
  unfold f_Pic_unreduced at hf
  refine lv_iload_n hx hb d_Pic_unreduced_0 rfl (lv_at hl 1 rfl) ?_
  refine lv_aload_n hx hb d_Pic_unreduced_1 rfl (lv_at hl 0 rfl) ?_
  refine va_get (D := D) (ci := 1) (v := .int (u 0 3)) (C := R_Pic) (T := F_Pic) (N := 11) hx hb hw in_Pic hown hK hP 0 rfl rfl 3 (by decide) (hw _ m_1) (fun _ h9 => h9) rfl d_Pic_unreduced_2 ?_
  refine lv_ineg hx hb d_Pic_unreduced_5 ?_
  refine lv_icmp_ge (tgt := 21) hx hb d_Pic_unreduced_6 (by decide) (fun hc => ?_) (fun hc => ?_)
  · have hf := bq_t hf hc
    refine lv_iload_n hx hb d_Pic_unreduced_21 rfl (lv_at hl 1 rfl) ?_
    refine lv_aload_n hx hb d_Pic_unreduced_22 rfl (lv_at hl 0 rfl) ?_
    refine va_get (D := D) (ci := 1) (v := .int (u 0 2)) (C := R_Pic) (T := F_Pic) (N := 11) hx hb hw in_Pic hown hK hP 0 rfl rfl 2 (by decide) (hw _ m_0) (fun _ h9 => h9) rfl d_Pic_unreduced_23 ?_
    refine lv_aload_n hx hb d_Pic_unreduced_26 rfl (lv_at hl 0 rfl) ?_
    refine va_get (D := D) (ci := 1) (v := .int (u 0 3)) (C := R_Pic) (T := F_Pic) (N := 11) hx hb hw in_Pic hown hK hP 0 rfl rfl 3 (by decide) (hw _ m_1) (fun _ h9 => h9) rfl d_Pic_unreduced_27 ?_
    refine lv_iadd hx hb d_Pic_unreduced_30 ?_
    refine lv_icmp_le (tgt := 48) hx hb d_Pic_unreduced_31 (by decide) (fun hc => ?_) (fun hc => ?_)
    · have hf := bq_t hf hc
      refine lv_iload_n hx hb d_Pic_unreduced_48 rfl (lv_at hl 1 rfl) ?_
      exact rt_roi hx hb hr hlocks hS hf d_Pic_unreduced_49
    have hf := bq_n hf hc
    refine lv_iload_n hx hb d_Pic_unreduced_34 rfl (lv_at hl 1 rfl) ?_
    refine lv_aload_n hx hb d_Pic_unreduced_35 rfl (lv_at hl 0 rfl) ?_
    refine va_get (D := D) (ci := 1) (v := .int (u 0 5)) (C := R_Pic) (T := F_Pic) (N := 11) hx hb hw in_Pic hown hK hP 0 rfl rfl 5 (by decide) (hw _ m_17) (fun _ h9 => h9) rfl d_Pic_unreduced_36 ?_
    refine lv_aload_n hx hb d_Pic_unreduced_39 rfl (lv_at hl 0 rfl) ?_
    refine va_get (D := D) (ci := 1) (v := .int (u 0 4)) (C := R_Pic) (T := F_Pic) (N := 11) hx hb hw in_Pic hown hK hP 0 rfl rfl 4 (by decide) (hw _ m_16) (fun _ h9 => h9) rfl d_Pic_unreduced_40 ?_
    refine lv_imul hx hb d_Pic_unreduced_43 ?_
    refine lv_isub hx hb d_Pic_unreduced_44 ?_
    refine lv_goto (tgt := 49) hx hb d_Pic_unreduced_45 (by decide) ?_
    exact rt_roi hx hb hr hlocks hS hf d_Pic_unreduced_49
  have hf := bq_n hf hc
  refine lv_iload_n hx hb d_Pic_unreduced_9 rfl (lv_at hl 1 rfl) ?_
  refine lv_aload_n hx hb d_Pic_unreduced_10 rfl (lv_at hl 0 rfl) ?_
  refine va_get (D := D) (ci := 1) (v := .int (u 0 5)) (C := R_Pic) (T := F_Pic) (N := 11) hx hb hw in_Pic hown hK hP 0 rfl rfl 5 (by decide) (hw _ m_17) (fun _ h9 => h9) rfl d_Pic_unreduced_11 ?_
  refine lv_aload_n hx hb d_Pic_unreduced_14 rfl (lv_at hl 0 rfl) ?_
  refine va_get (D := D) (ci := 1) (v := .int (u 0 4)) (C := R_Pic) (T := F_Pic) (N := 11) hx hb hw in_Pic hown hK hP 0 rfl rfl 4 (by decide) (hw _ m_16) (fun _ h9 => h9) rfl d_Pic_unreduced_15 ?_
  refine lv_imul hx hb d_Pic_unreduced_18 ?_
  refine lv_iadd hx hb d_Pic_unreduced_19 ?_
  exact rt_roi hx hb hr hlocks hS hf d_Pic_unreduced_20
end
section
def f_Fol_foldRegular (a0 : Int32) (a1 : Int32) : Option (Int32) := bq (a1 = 0) (bq (a0 < 0) (some (((-2) * a0) - 1)) (some (2 * a0))) (bq (a0 < 0) (some ((-2) * (a0 + 1))) (some ((2 * a0) + 1)))
set_option maxHeartbeats 4000000 in
set_option maxRecDepth 100000 in
theorem c_Fol_foldRegular (l : Launch) (D : va_G) (cI : ClassId) (a0 : Int32) (a1 : Int32) (r : Int32) (hf : f_Fol_foldRegular a0 a1 = some r) : Met l y_Fol_foldRegular (.code y_Fol_foldRegular b_Fol_foldRegular 2 (some .int) :: TS) ({ frames := 0, cells := 0, slots := 0, locals := 0 }) (va_Pc [.int a0, .int a1] (fun U => va_P D cls (([] : va_W)) U.heap ∧ va_K D cls [(cI, .int)] U)) (va_Qi (fun x (_ : Unit) => x = r) (fun _ _ => True) (fun _ => False)) 0 0 (fun _ => False) := by
  refine ct_of (by decide +kernel) (Nat.le_of_ble_eq_true rfl) ?_
  intro p e s m below meth c ls hx hb hml hr hlocks hown hw hP hK hl
  have hS : va_S (fun _ => False) s.heap s.heap [] := va_S.rf
  have hl : lv_has ls 2 [(0, .int a0), (1, .int a1)] := hl
  have hP : va_P D cls (([] : va_W)) s.heap := hP
  unfold f_Fol_foldRegular at hf
  refine lv_iload_n hx hb d_Fol_foldRegular_0 rfl (lv_at hl 1 rfl) ?_
  refine lv_if_eq (tgt := 23) hx hb d_Fol_foldRegular_1 (by decide) (fun hc => ?_) (fun hc => ?_)
  · have hf := bq_t hf hc
    refine lv_iload_n hx hb d_Fol_foldRegular_23 rfl (lv_at hl 0 rfl) ?_
    refine lv_if_lt (tgt := 33) hx hb d_Fol_foldRegular_24 (by decide) (fun hc => ?_) (fun hc => ?_)
    · have hf := bq_t hf hc
      refine lv_bipush (v := (-2)) hx hb d_Fol_foldRegular_33 (by decide) ?_
      refine lv_iload_n hx hb d_Fol_foldRegular_35 rfl (lv_at hl 0 rfl) ?_
      refine lv_imul hx hb d_Fol_foldRegular_36 ?_
      refine lv_iconst (v := 1) hx hb d_Fol_foldRegular_37 (by decide) ?_
      refine lv_isub hx hb d_Fol_foldRegular_38 ?_
      exact rt_roi hx hb hr hlocks hS hf d_Fol_foldRegular_39
    have hf := bq_n hf hc
    refine lv_iconst (v := 2) hx hb d_Fol_foldRegular_27 (by decide) ?_
    refine lv_iload_n hx hb d_Fol_foldRegular_28 rfl (lv_at hl 0 rfl) ?_
    refine lv_imul hx hb d_Fol_foldRegular_29 ?_
    refine lv_goto (tgt := 39) hx hb d_Fol_foldRegular_30 (by decide) ?_
    exact rt_roi hx hb hr hlocks hS hf d_Fol_foldRegular_39
  have hf := bq_n hf hc
  refine lv_iload_n hx hb d_Fol_foldRegular_4 rfl (lv_at hl 0 rfl) ?_
  refine lv_if_lt (tgt := 16) hx hb d_Fol_foldRegular_5 (by decide) (fun hc => ?_) (fun hc => ?_)
  · have hf := bq_t hf hc
    refine lv_bipush (v := (-2)) hx hb d_Fol_foldRegular_16 (by decide) ?_
    refine lv_iload_n hx hb d_Fol_foldRegular_18 rfl (lv_at hl 0 rfl) ?_
    refine lv_iconst (v := 1) hx hb d_Fol_foldRegular_19 (by decide) ?_
    refine lv_iadd hx hb d_Fol_foldRegular_20 ?_
    refine lv_imul hx hb d_Fol_foldRegular_21 ?_
    exact rt_roi hx hb hr hlocks hS hf d_Fol_foldRegular_22
  have hf := bq_n hf hc
  refine lv_iconst (v := 2) hx hb d_Fol_foldRegular_8 (by decide) ?_
  refine lv_iload_n hx hb d_Fol_foldRegular_9 rfl (lv_at hl 0 rfl) ?_
  refine lv_imul hx hb d_Fol_foldRegular_10 ?_
  refine lv_iconst (v := 1) hx hb d_Fol_foldRegular_11 (by decide) ?_
  refine lv_iadd hx hb d_Fol_foldRegular_12 ?_
  refine lv_goto (tgt := 22) hx hb d_Fol_foldRegular_13 (by decide) ?_
  exact rt_roi hx hb hr hlocks hS hf d_Fol_foldRegular_22
def J_Fol_unfoldRegular_12 (l0 : Int32) (l1 : Int32) (s0 : Int32) : Option (Int32) := bq (l1 = 0) (bq (s0 = 0) (some (l0 / 2)) (some ((-(l0 / 2)) - 1))) (bq (s0 = 0) (some ((-(l0 / 2)) - 1)) (some (l0 / 2)))
def f_Fol_unfoldRegular (a0 : Int32) (a1 : Int32) : Option (Int32) := bq ((a0 &&& 1) = 1) (J_Fol_unfoldRegular_12 a0 a1 1) (J_Fol_unfoldRegular_12 a0 a1 0)
set_option maxHeartbeats 4000000 in
set_option maxRecDepth 100000 in
theorem c_Fol_unfoldRegular (l : Launch) (D : va_G) (cI : ClassId) (a0 : Int32) (a1 : Int32) (r : Int32) (hf : f_Fol_unfoldRegular a0 a1 = some r) : Met l y_Fol_unfoldRegular (.code y_Fol_unfoldRegular b_Fol_unfoldRegular 3 (some .int) :: TS) ({ frames := 0, cells := 0, slots := 0, locals := 0 }) (va_Pc [.int a0, .int a1] (fun U => va_P D cls (([] : va_W)) U.heap ∧ va_K D cls [(cI, .int)] U)) (va_Qi (fun x (_ : Unit) => x = r) (fun _ _ => True) (fun _ => False)) 0 0 (fun _ => False) := by
  refine ct_of (by decide +kernel) (Nat.le_of_ble_eq_true rfl) ?_
  intro p e s m below meth c ls hx hb hml hr hlocks hown hw hP hK hl
  have hS : va_S (fun _ => False) s.heap s.heap [] := va_S.rf
  have hl : lv_has ls 3 [(0, .int a0), (1, .int a1)] := hl
  have hP : va_P D cls (([] : va_W)) s.heap := hP
  have j12 : ∀ (ls : Array Slot) (H : Heap) (locs : List Loc) (l0 : Int32) (l1 : Int32) (s0 : Int32), lv_has ls 3 [(0, .int l0), (1, .int l1)] → va_P D cls (([] : va_W)) H → va_S (fun _ => False) s.heap H locs → J_Fol_unfoldRegular_12 l0 l1 s0 = some r → W p l e ({ frames := 0, cells := 0, slots := 0, locals := 0 }) s m [.int a0, .int a1].toArray below meth c H locs 0 0 (MQ below (va_Qi (fun x (_ : Unit) => x = r) (fun _ _ => True) (fun _ => False)) [.int a0, .int a1].toArray s 0 0 (fun _ => False)) (F0 m 12 ls [.int s0]) := by
    intro ls H locs l0 l1 s0 hl hP hS hf
    unfold J_Fol_unfoldRegular_12 at hf
    refine lv_istore_n (lv' := [(2, .int s0), (0, .int l0), (1, .int l1)]) hx hb d_Fol_unfoldRegular_12 rfl hl (by decide) rfl (fun ls hl => ?_)
    refine lv_iload_n hx hb d_Fol_unfoldRegular_13 rfl (lv_at hl 2 rfl) ?_
    refine lv_if_eq (tgt := 34) hx hb d_Fol_unfoldRegular_14 (by decide) (fun hc => ?_) (fun hc => ?_)
    · have hf := bq_t hf hc
      refine lv_iload_n hx hb d_Fol_unfoldRegular_34 rfl (lv_at hl 0 rfl) ?_
      refine lv_if_eq (tgt := 47) hx hb d_Fol_unfoldRegular_35 (by decide) (fun hc => ?_) (fun hc => ?_)
      · have hf := bq_t hf hc
        refine lv_iload_n hx hb d_Fol_unfoldRegular_47 rfl (lv_at hl 1 rfl) ?_
        refine lv_iconst (v := 2) hx hb d_Fol_unfoldRegular_48 (by decide) ?_
        refine lv_idiv hx hb d_Fol_unfoldRegular_49 (by decide) ?_
        exact rt_roi hx hb hr hlocks hS hf d_Fol_unfoldRegular_50
      have hf := bq_n hf hc
      refine lv_iload_n hx hb d_Fol_unfoldRegular_38 rfl (lv_at hl 1 rfl) ?_
      refine lv_iconst (v := 2) hx hb d_Fol_unfoldRegular_39 (by decide) ?_
      refine lv_idiv hx hb d_Fol_unfoldRegular_40 (by decide) ?_
      refine lv_ineg hx hb d_Fol_unfoldRegular_41 ?_
      refine lv_iconst (v := 1) hx hb d_Fol_unfoldRegular_42 (by decide) ?_
      refine lv_isub hx hb d_Fol_unfoldRegular_43 ?_
      refine lv_goto (tgt := 50) hx hb d_Fol_unfoldRegular_44 (by decide) ?_
      exact rt_roi hx hb hr hlocks hS hf d_Fol_unfoldRegular_50
    have hf := bq_n hf hc
    refine lv_iload_n hx hb d_Fol_unfoldRegular_17 rfl (lv_at hl 0 rfl) ?_
    refine lv_if_eq (tgt := 27) hx hb d_Fol_unfoldRegular_18 (by decide) (fun hc => ?_) (fun hc => ?_)
    · have hf := bq_t hf hc
      refine lv_iload_n hx hb d_Fol_unfoldRegular_27 rfl (lv_at hl 1 rfl) ?_
      refine lv_iconst (v := 2) hx hb d_Fol_unfoldRegular_28 (by decide) ?_
      refine lv_idiv hx hb d_Fol_unfoldRegular_29 (by decide) ?_
      refine lv_ineg hx hb d_Fol_unfoldRegular_30 ?_
      refine lv_iconst (v := 1) hx hb d_Fol_unfoldRegular_31 (by decide) ?_
      refine lv_isub hx hb d_Fol_unfoldRegular_32 ?_
      exact rt_roi hx hb hr hlocks hS hf d_Fol_unfoldRegular_33
    have hf := bq_n hf hc
    refine lv_iload_n hx hb d_Fol_unfoldRegular_21 rfl (lv_at hl 1 rfl) ?_
    refine lv_iconst (v := 2) hx hb d_Fol_unfoldRegular_22 (by decide) ?_
    refine lv_idiv hx hb d_Fol_unfoldRegular_23 (by decide) ?_
    refine lv_goto (tgt := 33) hx hb d_Fol_unfoldRegular_24 (by decide) ?_
    exact rt_roi hx hb hr hlocks hS hf d_Fol_unfoldRegular_33
  unfold f_Fol_unfoldRegular at hf
  refine lv_iload_n hx hb d_Fol_unfoldRegular_0 rfl (lv_at hl 0 rfl) ?_
  refine lv_iconst (v := 1) hx hb d_Fol_unfoldRegular_1 (by decide) ?_
  refine lv_iand hx hb d_Fol_unfoldRegular_2 ?_
  refine lv_iconst (v := 1) hx hb d_Fol_unfoldRegular_3 (by decide) ?_
  refine lv_icmp_ne (tgt := 11) hx hb d_Fol_unfoldRegular_4 (by decide) (fun hc => ?_) (fun hc => ?_)
  · have hf := bq_n hf hc
    refine lv_iconst (v := 0) hx hb d_Fol_unfoldRegular_11 (by decide) ?_
    exact j12 _ _ _ a0 a1 0 (lv_sub hl [0, 1] rfl) hP hS hf
  have hf := bq_t hf hc
  refine lv_iconst (v := 1) hx hb d_Fol_unfoldRegular_7 (by decide) ?_
  refine lv_goto (tgt := 12) hx hb d_Fol_unfoldRegular_8 (by decide) ?_
  exact j12 _ _ _ a0 a1 1 (lv_sub hl [0, 1] rfl) hP hS hf
def J_Fol_foldEnd_22 (l0 : Int32) (l1 : Int32) (s0 : Int32) : Option (Int32) := tk (if 0 ≤ l0 then l0 else 0 - l0) fun x1 => some (((2 * x1) - l1) - s0)
def J_Fol_foldEnd_21 (l0 : Int32) (l1 : Int32) : Option (Int32) := J_Fol_foldEnd_22 l0 l1 0
def J_Fol_foldEnd_13 (l0 : Int32) (l1 : Int32) (l2 : Int32) (s0 : Int32) : Option (Int32) := bq (s0 = l2) (J_Fol_foldEnd_22 l0 l1 1) (J_Fol_foldEnd_21 l0 l1)
def f_Fol_foldEnd (a0 : Int32) (a1 : Int32) (a2 : Int32) : Option (Int32) := bq (a0 = 0) (J_Fol_foldEnd_21 a0 a1) (bq (0 ≤ a0) (J_Fol_foldEnd_13 a0 a1 a2 0) (J_Fol_foldEnd_13 a0 a1 a2 1))
set_option maxHeartbeats 4000000 in
set_option maxRecDepth 100000 in
theorem c_Fol_foldEnd (l : Launch) (D : va_G) (cI : ClassId) (a0 : Int32) (a1 : Int32) (a2 : Int32) (r : Int32) (hf : f_Fol_foldEnd a0 a1 a2 = some r) : Met l y_Fol_foldEnd (.code y_Fol_foldEnd b_Fol_foldEnd 4 (some .int) :: TS) ({ frames := 1, cells := 0, slots := 0, locals := 24 }) (va_Pc [.int a0, .int a1, .int a2] (fun U => va_P D cls (([] : va_W)) U.heap ∧ va_K D cls [(cI, .int)] U)) (va_Qi (fun x (_ : Unit) => x = r) (fun _ _ => True) (fun _ => False)) 0 0 (fun _ => False) := by
  refine ct_of (by decide +kernel) (Nat.le_of_ble_eq_true rfl) ?_
  intro p e s m below meth c ls hx hb hml hr hlocks hown hw hP hK hl
  have hS : va_S (fun _ => False) s.heap s.heap [] := va_S.rf
  have hl : lv_has ls 4 [(0, .int a0), (1, .int a1), (2, .int a2)] := hl
  have hP : va_P D cls (([] : va_W)) s.heap := hP
  have j22 : ∀ (ls : Array Slot) (H : Heap) (locs : List Loc) (l0 : Int32) (l1 : Int32) (s0 : Int32), lv_has ls 4 [(0, .int l0), (1, .int l1)] → va_P D cls (([] : va_W)) H → va_S (fun _ => False) s.heap H locs → J_Fol_foldEnd_22 l0 l1 s0 = some r → W p l e ({ frames := 1, cells := 0, slots := 0, locals := 24 }) s m [.int a0, .int a1, .int a2].toArray below meth c H locs 0 0 (MQ below (va_Qi (fun x (_ : Unit) => x = r) (fun _ _ => True) (fun _ => False)) [.int a0, .int a1, .int a2].toArray s 0 0 (fun _ => False)) (F0 m 22 ls [.int s0]) := by
    intro ls H locs l0 l1 s0 hl hP hS hf
    unfold J_Fol_foldEnd_22 at hf
    refine lv_istore_n (lv' := [(3, .int s0), (0, .int l0), (1, .int l1)]) hx hb d_Fol_foldEnd_22 rfl hl (by decide) rfl (fun ls hl => ?_)
    refine lv_iconst (v := 2) hx hb d_Fol_foldEnd_23 (by decide) ?_
    refine lv_iload_n hx hb d_Fol_foldEnd_24 rfl (lv_at hl 1 rfl) ?_
    refine va_mabs hx hb (hml.trans hl.1.symm) hown (hw _ m_34) (hw _ m_35) (hw _ m_12) (hw _ m_36) (Nat.le_of_ble_eq_true rfl) (Nat.le_of_ble_eq_true rfl) (Nat.le_of_ble_eq_true rfl) (Nat.le_of_ble_eq_true rfl) d_Fol_foldEnd_25 ?_
    refine lv_topi (fun x1 e_x1 => ?_)
    have hf := tk_e hf e_x1
    refine lv_imul hx hb d_Fol_foldEnd_28 ?_
    refine lv_iload_n hx hb d_Fol_foldEnd_29 rfl (lv_at hl 2 rfl) ?_
    refine lv_isub hx hb d_Fol_foldEnd_30 ?_
    refine lv_iload_n hx hb d_Fol_foldEnd_31 rfl (lv_at hl 0 rfl) ?_
    refine lv_isub hx hb d_Fol_foldEnd_32 ?_
    exact rt_roi hx hb hr hlocks hS hf d_Fol_foldEnd_33
  have j21 : ∀ (ls : Array Slot) (H : Heap) (locs : List Loc) (l0 : Int32) (l1 : Int32), lv_has ls 4 [(0, .int l0), (1, .int l1)] → va_P D cls (([] : va_W)) H → va_S (fun _ => False) s.heap H locs → J_Fol_foldEnd_21 l0 l1 = some r → W p l e ({ frames := 1, cells := 0, slots := 0, locals := 24 }) s m [.int a0, .int a1, .int a2].toArray below meth c H locs 0 0 (MQ below (va_Qi (fun x (_ : Unit) => x = r) (fun _ _ => True) (fun _ => False)) [.int a0, .int a1, .int a2].toArray s 0 0 (fun _ => False)) (F0 m 21 ls []) := by
    intro ls H locs l0 l1 hl hP hS hf
    unfold J_Fol_foldEnd_21 at hf
    refine lv_iconst (v := 0) hx hb d_Fol_foldEnd_21 (by decide) ?_
    exact j22 _ _ _ l0 l1 0 (lv_sub hl [0, 1] rfl) hP hS hf
  have j13 : ∀ (ls : Array Slot) (H : Heap) (locs : List Loc) (l0 : Int32) (l1 : Int32) (l2 : Int32) (s0 : Int32), lv_has ls 4 [(0, .int l0), (1, .int l1), (2, .int l2)] → va_P D cls (([] : va_W)) H → va_S (fun _ => False) s.heap H locs → J_Fol_foldEnd_13 l0 l1 l2 s0 = some r → W p l e ({ frames := 1, cells := 0, slots := 0, locals := 24 }) s m [.int a0, .int a1, .int a2].toArray below meth c H locs 0 0 (MQ below (va_Qi (fun x (_ : Unit) => x = r) (fun _ _ => True) (fun _ => False)) [.int a0, .int a1, .int a2].toArray s 0 0 (fun _ => False)) (F0 m 13 ls [.int s0]) := by
    intro ls H locs l0 l1 l2 s0 hl hP hS hf
    unfold J_Fol_foldEnd_13 at hf
    refine lv_iload_n hx hb d_Fol_foldEnd_13 rfl (lv_at hl 2 rfl) ?_
    refine lv_icmp_ne (tgt := 21) hx hb d_Fol_foldEnd_14 (by decide) (fun hc => ?_) (fun hc => ?_)
    · have hf := bq_n hf hc
      exact j21 _ _ _ l0 l1 (lv_sub hl [0, 1] rfl) hP hS hf
    have hf := bq_t hf hc
    refine lv_iconst (v := 1) hx hb d_Fol_foldEnd_17 (by decide) ?_
    refine lv_goto (tgt := 22) hx hb d_Fol_foldEnd_18 (by decide) ?_
    exact j22 _ _ _ l0 l1 1 (lv_sub hl [0, 1] rfl) hP hS hf
  unfold f_Fol_foldEnd at hf
  refine lv_iload_n hx hb d_Fol_foldEnd_0 rfl (lv_at hl 0 rfl) ?_
  refine lv_if_eq (tgt := 21) hx hb d_Fol_foldEnd_1 (by decide) (fun hc => ?_) (fun hc => ?_)
  · have hf := bq_t hf hc
    exact j21 _ _ _ a0 a1 (lv_sub hl [0, 1] rfl) hP hS hf
  have hf := bq_n hf hc
  refine lv_iload_n hx hb d_Fol_foldEnd_4 rfl (lv_at hl 0 rfl) ?_
  refine lv_if_ge (tgt := 12) hx hb d_Fol_foldEnd_5 (by decide) (fun hc => ?_) (fun hc => ?_)
  · have hf := bq_t hf hc
    refine lv_iconst (v := 0) hx hb d_Fol_foldEnd_12 (by decide) ?_
    exact j13 _ _ _ a0 a1 a2 0 (lv_sub hl [0, 1, 2] rfl) hP hS hf
  have hf := bq_n hf hc
  refine lv_iconst (v := 1) hx hb d_Fol_foldEnd_8 (by decide) ?_
  refine lv_goto (tgt := 13) hx hb d_Fol_foldEnd_9 (by decide) ?_
  exact j13 _ _ _ a0 a1 a2 1 (lv_sub hl [0, 1, 2] rfl) hP hS hf
def J_Fol_unfoldEnd_25 (l2 : Int32) (l4 : Int32) (s0 : Int32) : Option (Int32) := bq (s0 = l2) (some (-l4)) (some l4)
def f_Fol_unfoldEnd (a0 : Int32) (a1 : Int32) (a2 : Int32) : Option (Int32) := tk ((a0 + a1) &&& 1) fun x1 => tk (((a0 + a1) + x1) / 2) fun x2 => bq (x1 = 1) (J_Fol_unfoldEnd_25 a2 x2 1) (J_Fol_unfoldEnd_25 a2 x2 0)
set_option maxHeartbeats 4000000 in
set_option maxRecDepth 100000 in
theorem c_Fol_unfoldEnd (l : Launch) (D : va_G) (cI : ClassId) (a0 : Int32) (a1 : Int32) (a2 : Int32) (r : Int32) (hf : f_Fol_unfoldEnd a0 a1 a2 = some r) : Met l y_Fol_unfoldEnd (.code y_Fol_unfoldEnd b_Fol_unfoldEnd 5 (some .int) :: TS) ({ frames := 0, cells := 0, slots := 0, locals := 0 }) (va_Pc [.int a0, .int a1, .int a2] (fun U => va_P D cls (([] : va_W)) U.heap ∧ va_K D cls [(cI, .int)] U)) (va_Qi (fun x (_ : Unit) => x = r) (fun _ _ => True) (fun _ => False)) 0 0 (fun _ => False) := by
  refine ct_of (by decide +kernel) (Nat.le_of_ble_eq_true rfl) ?_
  intro p e s m below meth c ls hx hb hml hr hlocks hown hw hP hK hl
  have hS : va_S (fun _ => False) s.heap s.heap [] := va_S.rf
  have hl : lv_has ls 5 [(0, .int a0), (1, .int a1), (2, .int a2)] := hl
  have hP : va_P D cls (([] : va_W)) s.heap := hP
  have j25 : ∀ (ls : Array Slot) (H : Heap) (locs : List Loc) (l2 : Int32) (l4 : Int32) (s0 : Int32), lv_has ls 5 [(2, .int l2), (4, .int l4)] → va_P D cls (([] : va_W)) H → va_S (fun _ => False) s.heap H locs → J_Fol_unfoldEnd_25 l2 l4 s0 = some r → W p l e ({ frames := 0, cells := 0, slots := 0, locals := 0 }) s m [.int a0, .int a1, .int a2].toArray below meth c H locs 0 0 (MQ below (va_Qi (fun x (_ : Unit) => x = r) (fun _ _ => True) (fun _ => False)) [.int a0, .int a1, .int a2].toArray s 0 0 (fun _ => False)) (F0 m 25 ls [.int s0]) := by
    intro ls H locs l2 l4 s0 hl hP hS hf
    unfold J_Fol_unfoldEnd_25 at hf
    refine lv_iload_n hx hb d_Fol_unfoldEnd_25 rfl (lv_at hl 0 rfl) ?_
    refine lv_icmp_ne (tgt := 35) hx hb d_Fol_unfoldEnd_26 (by decide) (fun hc => ?_) (fun hc => ?_)
    · have hf := bq_n hf hc
      refine lv_iload hx hb d_Fol_unfoldEnd_35 (lv_at hl 1 rfl) ?_
      exact rt_roi hx hb hr hlocks hS hf d_Fol_unfoldEnd_37
    have hf := bq_t hf hc
    refine lv_iload hx hb d_Fol_unfoldEnd_29 (lv_at hl 1 rfl) ?_
    refine lv_ineg hx hb d_Fol_unfoldEnd_31 ?_
    refine lv_goto (tgt := 37) hx hb d_Fol_unfoldEnd_32 (by decide) ?_
    exact rt_roi hx hb hr hlocks hS hf d_Fol_unfoldEnd_37
  unfold f_Fol_unfoldEnd at hf
  refine lv_iload_n hx hb d_Fol_unfoldEnd_0 rfl (lv_at hl 0 rfl) ?_
  refine lv_iload_n hx hb d_Fol_unfoldEnd_1 rfl (lv_at hl 1 rfl) ?_
  refine lv_iadd hx hb d_Fol_unfoldEnd_2 ?_
  refine lv_iconst (v := 1) hx hb d_Fol_unfoldEnd_3 (by decide) ?_
  refine lv_iand hx hb d_Fol_unfoldEnd_4 ?_
  refine lv_topi (fun x1 e_x1 => ?_)
  have hf := tk_e hf e_x1
  refine lv_istore_n (lv' := [(3, .int x1), (0, .int a0), (1, .int a1), (2, .int a2)]) hx hb d_Fol_unfoldEnd_5 rfl hl (by decide) rfl (fun ls hl => ?_)
  refine lv_iload_n hx hb d_Fol_unfoldEnd_6 rfl (lv_at hl 1 rfl) ?_
  refine lv_iload_n hx hb d_Fol_unfoldEnd_7 rfl (lv_at hl 2 rfl) ?_
  refine lv_iadd hx hb d_Fol_unfoldEnd_8 ?_
  refine lv_iload_n hx hb d_Fol_unfoldEnd_9 rfl (lv_at hl 0 rfl) ?_
  refine lv_iadd hx hb d_Fol_unfoldEnd_10 ?_
  refine lv_iconst (v := 2) hx hb d_Fol_unfoldEnd_11 (by decide) ?_
  refine lv_idiv hx hb d_Fol_unfoldEnd_12 (by decide) ?_
  refine lv_topi (fun x2 e_x2 => ?_)
  have hf := tk_e hf e_x2
  refine lv_istore (lv' := [(4, .int x2), (3, .int x1), (0, .int a0), (1, .int a1), (2, .int a2)]) hx hb d_Fol_unfoldEnd_13 hl (by decide) rfl (fun ls hl => ?_)
  refine lv_iload_n hx hb d_Fol_unfoldEnd_15 rfl (lv_at hl 1 rfl) ?_
  refine lv_iconst (v := 1) hx hb d_Fol_unfoldEnd_16 (by decide) ?_
  refine lv_icmp_ne (tgt := 24) hx hb d_Fol_unfoldEnd_17 (by decide) (fun hc => ?_) (fun hc => ?_)
  · have hf := bq_n hf hc
    refine lv_iconst (v := 0) hx hb d_Fol_unfoldEnd_24 (by decide) ?_
    exact j25 _ _ _ a2 x2 0 (lv_sub hl [4, 0] rfl) hP hS hf
  have hf := bq_t hf hc
  refine lv_iconst (v := 1) hx hb d_Fol_unfoldEnd_20 (by decide) ?_
  refine lv_goto (tgt := 25) hx hb d_Fol_unfoldEnd_21 (by decide) ?_
  exact j25 _ _ _ a2 x2 1 (lv_sub hl [4, 0] rfl) hP hS hf
end
section
def L_Arrs_fill_102_5 (nn : Nat) : Nat → Int32 → Int32 → Int32 → gU → Option (gU)
  | 0, _, _, _, _ => none
  | n + 1, l1, l2, l3, u => bq (l3 ≤ l2) (some u) (gd (ix l2 nn) (tk (st2 u 0 (tc l2) l1) fun u2 => tk (l2 + 1) fun x3 => (L_Arrs_fill_102_5 nn n) l1 x3 l3 u2))
theorem L_Arrs_fill_102_5_z (nn : Nat) (l1 : Int32) (l2 : Int32) (l3 : Int32) (u : gU) : L_Arrs_fill_102_5 nn 0 l1 l2 l3 u = none := rfl
theorem L_Arrs_fill_102_5_s (nn : Nat) (n : Nat) (l1 : Int32) (l2 : Int32) (l3 : Int32) (u : gU) : L_Arrs_fill_102_5 nn (n + 1) l1 l2 l3 u = bq (l3 ≤ l2) (some u) (gd (ix l2 nn) (tk (st2 u 0 (tc l2) l1) fun u2 => tk (l2 + 1) fun x3 => (L_Arrs_fill_102_5 nn n) l1 x3 l3 u2)) := rfl
def f_Arrs_fill_102 (nn : Nat) (a1 : Int32) (u : gU) : Option (gU) := tk (nI nn) fun x1 => L_Arrs_fill_102_5 nn 2000 a1 0 x1 u
set_option maxHeartbeats 4000000 in
set_option maxRecDepth 100000 in
theorem c_Arrs_fill_102 (l : Launch) (D : va_G) (cI : ClassId) (nn : Nat) (q0 : Nat) (hd : dj [q0]) (a1 : Int32) (u : gU) (v : gU) (hf : f_Arrs_fill_102 nn a1 u = some v) : Met l y_Arrs_fill_102 (.code y_Arrs_fill_102 b_Arrs_fill_102 4 none :: TS) ({ frames := 0, cells := 0, slots := 0, locals := 0 }) (va_Pc [.ref q0, .int a1] (fun U => va_P D cls (wArrN cI nn q0 u) U.heap ∧ va_K D cls [(cI, .int)] U)) (va_Qv (fun (_ : Unit) => True) (fun _ t => va_P D cls (wArrN cI nn q0 v) t.heap) (ad [q0])) 0 0 (ad [q0]) := by
  refine ct_of (by decide +kernel) (Nat.le_of_ble_eq_true rfl) ?_
  intro p e s m below meth c ls hx hb hml hr hlocks hown hw hP hK hl
  have hS : va_S (ad [q0]) s.heap s.heap [] := va_S.rf
  have hD : ∀ v, va_D (ad [q0]) (wArrN cI nn q0 v) := fun _ => dj_D rfl hd
  have hl : lv_has ls 4 [(0, .ref q0), (1, .int a1)] := hl
  have hP : va_P D cls (wArrN cI nn q0 u) s.heap := hP
  have lp5 : ∀ (n5 : Nat), ∀ (ls : Array Slot) (H : Heap) (locs : List Loc) (l1 : Int32) (l2 : Int32) (l3 : Int32) (u : gU), lv_has ls 4 [(0, .ref q0), (1, .int l1), (2, .int l2), (3, .int l3)] → va_P D cls (wArrN cI nn q0 u) H → va_S (ad [q0]) s.heap H locs → L_Arrs_fill_102_5 nn n5 l1 l2 l3 u = some v → W p l e ({ frames := 0, cells := 0, slots := 0, locals := 0 }) s m [.ref q0, .int a1].toArray below meth c H locs 0 0 (MQ below (va_Qv (fun (_ : Unit) => True) (fun _ t => va_P D cls (wArrN cI nn q0 v) t.heap) (ad [q0])) [.ref q0, .int a1].toArray s 0 0 (ad [q0])) (F0 m 5 ls []) := by
    intro n5
    induction n5 with
    | zero =>
      intro ls H locs l1 l2 l3 u hl hP hS hf
      rw [L_Arrs_fill_102_5_z] at hf
      cases hf
    | succ n5 ih5 =>
      intro ls H locs l1 l2 l3 u hl hP hS hf
      rw [L_Arrs_fill_102_5_s] at hf
      refine lv_iload_n hx hb d_Arrs_fill_102_5 rfl (lv_at hl 2 rfl) ?_
      refine lv_iload_n hx hb d_Arrs_fill_102_6 rfl (lv_at hl 3 rfl) ?_
      refine lv_icmp_ge (tgt := 20) hx hb d_Arrs_fill_102_7 (by decide) (fun hc => ?_) (fun hc => ?_)
      · have hf := bq_t hf hc
        exact rt_v (wArrN cI nn q0) hx hb hr hlocks hS hP hf d_Arrs_fill_102_20
      have hf := bq_n hf hc
      refine lv_aload_n hx hb d_Arrs_fill_102_10 rfl (lv_at hl 0 rfl) ?_
      refine lv_iload_n hx hb d_Arrs_fill_102_11 rfl (lv_at hl 2 rfl) ?_
      refine lv_iload_n hx hb d_Arrs_fill_102_12 rfl (lv_at hl 1 rfl) ?_
      obtain ⟨h1, hf⟩ := gd_o hf
      refine va_iast hx hb hK hP (hD _) hS 0 0 rfl rfl (ix_in h1) d_Arrs_fill_102_13 (fun H locs hP _ hS => ?_)
      obtain ⟨u2, e_u2, hf⟩ := tk_o hf
      have hP : va_P D cls (wArrN cI nn q0 u2) H := by rw [e_u2]; exact hP
      obtain ⟨x3, e_x3, hf⟩ := tk_o hf
      refine lv_iinc (v := x3) (lv' := [(2, .int x3), (0, .ref q0), (1, .int l1), (3, .int l3)]) hx hb d_Arrs_fill_102_14 hl (k := 2) rfl e_x3.symm (by decide) rfl (fun ls hl => ?_)
      refine lv_goto (tgt := 5) hx hb d_Arrs_fill_102_17 (by decide) ?_
      exact ih5 _ _ _ l1 x3 l3 u2 (lv_sub hl [1, 2, 0, 3] rfl) hP hS hf
  unfold f_Arrs_fill_102 at hf
  refine lv_iconst (v := 0) hx hb d_Arrs_fill_102_0 (by decide) ?_
  refine lv_istore_n (lv' := [(2, .int 0), (0, .ref q0), (1, .int a1)]) hx hb d_Arrs_fill_102_1 rfl hl (by decide) rfl (fun ls hl => ?_)
  refine lv_aload_n hx hb d_Arrs_fill_102_2 rfl (lv_at hl 1 rfl) ?_
  refine va_alen (v := nI nn) hx hb hK hP 0 0 rfl rfl rfl d_Arrs_fill_102_3 ?_
  refine lv_topi (fun x1 e_x1 => ?_)
  have hf := tk_e hf e_x1
  refine lv_istore_n (lv' := [(3, .int x1), (2, .int 0), (0, .ref q0), (1, .int a1)]) hx hb d_Arrs_fill_102_4 rfl hl (by decide) rfl (fun ls hl => ?_)
  exact lp5 2000 _ _ _ a1 0 x1 u (lv_sub hl [2, 3, 1, 0] rfl) hP hS hf
def f_Ctx_j (u : gU) : Option (Int32) := gd (ix (u 0 0) 32) (some (jv (tc (u 0 0))))
set_option maxHeartbeats 4000000 in
set_option maxRecDepth 100000 in
theorem c_Ctx_j (l : Launch) (D : va_G) (cI : ClassId) (tJ : Nat) (q0 : Nat) (q1 : Nat) (q2 : Nat) (q3 : Nat) (q4 : Nat) (q5 : Nat) (u : gU) (r : Int32) (hf : f_Ctx_j u = some r) : Met l y_Ctx_j (.code y_Ctx_j b_Ctx_j 1 (some .int) :: TS) ({ frames := 0, cells := 0, slots := 0, locals := 0 }) (va_Pc [.ref q0] (fun U => va_P D cls (wCtx cI q0 q1 q2 q3 q4 q5 u) U.heap ∧ va_K D cls [(cI, .int)] U ∧ Jt tJ (fun _ => False) U)) (va_Qi (fun x (_ : Unit) => x = r) (fun _ _ => True) (fun _ => False)) 0 0 (fun _ => False) := by
  refine ct_ofJ (by decide +kernel) (Nat.le_of_ble_eq_true rfl) ?_
  intro p e s m below meth c ls hx hb hml hr hlocks hown hw hP hK hJ hl
  have hS : va_S (fun _ => False) s.heap s.heap [] := va_S.rf
  have hl : lv_has ls 1 [(0, .ref q0)] := hl
  have hP : va_P D cls (wCtx cI q0 q1 q2 q3 q4 q5 u) s.heap := hP
  unfold f_Ctx_j at hf
  refine va_gets hx hb hJ.1 hS hown (hw _ m_37) (fun _ h9 => h9) d_Ctx_j_0 ?_
  refine lv_aload_n hx hb d_Ctx_j_3 rfl (lv_at hl 0 rfl) ?_
  refine va_get (D := D) (ci := 2) (v := .int (u 0 0)) (C := R_Ctx) (T := F_Ctx) (N := 6) hx hb hw in_Ctx hown hK hP 0 rfl rfl 5 (by decide) (hw _ m_38) (fun _ h9 => h9) rfl d_Ctx_j_4 ?_
  obtain ⟨h1, hf⟩ := gd_o hf
  refine va_ti hx hb hJ.2.1 hS (ix_in h1) (v := .int (jv (tc (u 0 0)))) rfl d_Ctx_j_7 ?_
  exact rt_roi hx hb hr hlocks hS hf d_Ctx_j_8
def f_Ctx_raiseRunIndex (u : gU) : Option (gU) := bq (31 ≤ (u 0 0)) (some u) (tk (st2 u 0 0 ((u 0 0) + 1)) fun u1 => some u1)
set_option maxHeartbeats 4000000 in
set_option maxRecDepth 100000 in
theorem c_Ctx_raiseRunIndex (l : Launch) (D : va_G) (cI : ClassId) (q0 : Nat) (q1 : Nat) (q2 : Nat) (q3 : Nat) (q4 : Nat) (q5 : Nat) (hd : dj [q0, q1, q2, q3, q4, q5]) (u : gU) (v : gU) (hf : f_Ctx_raiseRunIndex u = some v) : Met l y_Ctx_raiseRunIndex (.code y_Ctx_raiseRunIndex b_Ctx_raiseRunIndex 1 none :: TS) ({ frames := 0, cells := 0, slots := 0, locals := 0 }) (va_Pc [.ref q0] (fun U => va_P D cls (wCtx cI q0 q1 q2 q3 q4 q5 u) U.heap ∧ va_K D cls [(cI, .int)] U)) (va_Qv (fun (_ : Unit) => True) (fun _ t => va_P D cls (wCtx cI q0 q1 q2 q3 q4 q5 v) t.heap) (ad [q0, q1, q2, q3, q4, q5])) 0 0 (ad [q0, q1, q2, q3, q4, q5]) := by
  refine ct_of (by decide +kernel) (Nat.le_of_ble_eq_true rfl) ?_
  intro p e s m below meth c ls hx hb hml hr hlocks hown hw hP hK hl
  have hS : va_S (ad [q0, q1, q2, q3, q4, q5]) s.heap s.heap [] := va_S.rf
  have hD : ∀ v, va_D (ad [q0, q1, q2, q3, q4, q5]) (wCtx cI q0 q1 q2 q3 q4 q5 v) := fun _ => dj_D rfl hd
  have hl : lv_has ls 1 [(0, .ref q0)] := hl
  have hP : va_P D cls (wCtx cI q0 q1 q2 q3 q4 q5 u) s.heap := hP
  unfold f_Ctx_raiseRunIndex at hf
  refine lv_aload_n hx hb d_Ctx_raiseRunIndex_0 rfl (lv_at hl 0 rfl) ?_
  refine va_get (D := D) (ci := 2) (v := .int (u 0 0)) (C := R_Ctx) (T := F_Ctx) (N := 6) hx hb hw in_Ctx hown hK hP 0 rfl rfl 5 (by decide) (hw _ m_38) (fun _ h9 => h9) rfl d_Ctx_raiseRunIndex_1 ?_
  refine lv_bipush (v := 31) hx hb d_Ctx_raiseRunIndex_4 (by decide) ?_
  refine lv_icmp_ge (tgt := 19) hx hb d_Ctx_raiseRunIndex_6 (by decide) (fun hc => ?_) (fun hc => ?_)
  · have hf := bq_t hf hc
    exact rt_v (wCtx cI q0 q1 q2 q3 q4 q5) hx hb hr hlocks hS hP hf d_Ctx_raiseRunIndex_19
  have hf := bq_n hf hc
  refine lv_aload_n hx hb d_Ctx_raiseRunIndex_9 rfl (lv_at hl 0 rfl) ?_
  refine lv_dup hx hb d_Ctx_raiseRunIndex_10 rfl ?_
  refine va_get (D := D) (ci := 2) (v := .int (u 0 0)) (C := R_Ctx) (T := F_Ctx) (N := 6) hx hb hw in_Ctx hown hK hP 0 rfl rfl 5 (by decide) (hw _ m_38) (fun _ h9 => h9) rfl d_Ctx_raiseRunIndex_11 ?_
  refine lv_iconst (v := 1) hx hb d_Ctx_raiseRunIndex_14 (by decide) ?_
  refine lv_iadd hx hb d_Ctx_raiseRunIndex_15 ?_
  refine va_put (D := D) (ci := 2) (v := .int ((u 0 0) + 1)) (ty := .int) (C := R_Ctx) (T := F_Ctx) (N := 6) hx hb hw in_Ctx t_Ctx t_Ctx_ok n_Ctx hown hK hP (hD _) hS 0 rfl rfl 5 (by decide) (hw _ m_38) (fun _ h9 => h9) rfl (by decide +kernel) rfl rfl (Nat.le_of_ble_eq_true rfl) d_Ctx_raiseRunIndex_16 (fun H locs hP _ hS => ?_)
  obtain ⟨u1, e_u1, hf⟩ := tk_o hf
  have hP : va_P D cls (wCtx cI q0 q1 q2 q3 q4 q5 u1) H := by rw [e_u1]; exact hP
  exact rt_v (wCtx cI q0 q1 q2 q3 q4 q5) hx hb hr hlocks hS hP hf d_Ctx_raiseRunIndex_19
def f_Ctx_lowerRunIndex (u : gU) : Option (gU) := bq ((u 0 0) ≤ 0) (some u) (tk (st2 u 0 0 ((u 0 0) - 1)) fun u1 => some u1)
set_option maxHeartbeats 4000000 in
set_option maxRecDepth 100000 in
theorem c_Ctx_lowerRunIndex (l : Launch) (D : va_G) (cI : ClassId) (q0 : Nat) (q1 : Nat) (q2 : Nat) (q3 : Nat) (q4 : Nat) (q5 : Nat) (hd : dj [q0, q1, q2, q3, q4, q5]) (u : gU) (v : gU) (hf : f_Ctx_lowerRunIndex u = some v) : Met l y_Ctx_lowerRunIndex (.code y_Ctx_lowerRunIndex b_Ctx_lowerRunIndex 1 none :: TS) ({ frames := 0, cells := 0, slots := 0, locals := 0 }) (va_Pc [.ref q0] (fun U => va_P D cls (wCtx cI q0 q1 q2 q3 q4 q5 u) U.heap ∧ va_K D cls [(cI, .int)] U)) (va_Qv (fun (_ : Unit) => True) (fun _ t => va_P D cls (wCtx cI q0 q1 q2 q3 q4 q5 v) t.heap) (ad [q0, q1, q2, q3, q4, q5])) 0 0 (ad [q0, q1, q2, q3, q4, q5]) := by
  refine ct_of (by decide +kernel) (Nat.le_of_ble_eq_true rfl) ?_
  intro p e s m below meth c ls hx hb hml hr hlocks hown hw hP hK hl
  have hS : va_S (ad [q0, q1, q2, q3, q4, q5]) s.heap s.heap [] := va_S.rf
  have hD : ∀ v, va_D (ad [q0, q1, q2, q3, q4, q5]) (wCtx cI q0 q1 q2 q3 q4 q5 v) := fun _ => dj_D rfl hd
  have hl : lv_has ls 1 [(0, .ref q0)] := hl
  have hP : va_P D cls (wCtx cI q0 q1 q2 q3 q4 q5 u) s.heap := hP
  unfold f_Ctx_lowerRunIndex at hf
  refine lv_aload_n hx hb d_Ctx_lowerRunIndex_0 rfl (lv_at hl 0 rfl) ?_
  refine va_get (D := D) (ci := 2) (v := .int (u 0 0)) (C := R_Ctx) (T := F_Ctx) (N := 6) hx hb hw in_Ctx hown hK hP 0 rfl rfl 5 (by decide) (hw _ m_38) (fun _ h9 => h9) rfl d_Ctx_lowerRunIndex_1 ?_
  refine lv_if_le (tgt := 17) hx hb d_Ctx_lowerRunIndex_4 (by decide) (fun hc => ?_) (fun hc => ?_)
  · have hf := bq_t hf hc
    exact rt_v (wCtx cI q0 q1 q2 q3 q4 q5) hx hb hr hlocks hS hP hf d_Ctx_lowerRunIndex_17
  have hf := bq_n hf hc
  refine lv_aload_n hx hb d_Ctx_lowerRunIndex_7 rfl (lv_at hl 0 rfl) ?_
  refine lv_dup hx hb d_Ctx_lowerRunIndex_8 rfl ?_
  refine va_get (D := D) (ci := 2) (v := .int (u 0 0)) (C := R_Ctx) (T := F_Ctx) (N := 6) hx hb hw in_Ctx hown hK hP 0 rfl rfl 5 (by decide) (hw _ m_38) (fun _ h9 => h9) rfl d_Ctx_lowerRunIndex_9 ?_
  refine lv_iconst (v := 1) hx hb d_Ctx_lowerRunIndex_12 (by decide) ?_
  refine lv_isub hx hb d_Ctx_lowerRunIndex_13 ?_
  refine va_put (D := D) (ci := 2) (v := .int ((u 0 0) - 1)) (ty := .int) (C := R_Ctx) (T := F_Ctx) (N := 6) hx hb hw in_Ctx t_Ctx t_Ctx_ok n_Ctx hown hK hP (hD _) hS 0 rfl rfl 5 (by decide) (hw _ m_38) (fun _ h9 => h9) rfl (by decide +kernel) rfl rfl (Nat.le_of_ble_eq_true rfl) d_Ctx_lowerRunIndex_14 (fun H locs hP _ hS => ?_)
  obtain ⟨u1, e_u1, hf⟩ := tk_o hf
  have hP : va_P D cls (wCtx cI q0 q1 q2 q3 q4 q5 u1) H := by rw [e_u1]; exact hP
  exact rt_v (wCtx cI q0 q1 q2 q3 q4 q5) hx hb hr hlocks hS hP hf d_Ctx_lowerRunIndex_17
def L_Ctx_leastK_2 : Nat → Int32 → Int32 → Int32 → gU → Option (Int32)
  | 0, _, _, _, _ => none
  | n + 1, l1, l2, l3, u => bq (24 ≤ l3) (some l3) (gd (ix l1 367) (bq (l2 ≤ ((u 4 (tc l1)) <<< (l3 &&& 31))) (some l3) (tk (l3 + 1) fun x2 => (L_Ctx_leastK_2 n) l1 l2 x2 u)))
theorem L_Ctx_leastK_2_z (l1 : Int32) (l2 : Int32) (l3 : Int32) (u : gU) : L_Ctx_leastK_2 0 l1 l2 l3 u = none := rfl
theorem L_Ctx_leastK_2_s (n : Nat) (l1 : Int32) (l2 : Int32) (l3 : Int32) (u : gU) : L_Ctx_leastK_2 (n + 1) l1 l2 l3 u = bq (24 ≤ l3) (some l3) (gd (ix l1 367) (bq (l2 ≤ ((u 4 (tc l1)) <<< (l3 &&& 31))) (some l3) (tk (l3 + 1) fun x2 => (L_Ctx_leastK_2 n) l1 l2 x2 u))) := rfl
def f_Ctx_leastK (a1 : Int32) (a2 : Int32) (u : gU) : Option (Int32) := L_Ctx_leastK_2 40 a1 a2 0 u
set_option maxHeartbeats 4000000 in
set_option maxRecDepth 100000 in
theorem c_Ctx_leastK (l : Launch) (D : va_G) (cI : ClassId) (q0 : Nat) (q1 : Nat) (q2 : Nat) (q3 : Nat) (q4 : Nat) (q5 : Nat) (a1 : Int32) (a2 : Int32) (u : gU) (r : Int32) (hf : f_Ctx_leastK a1 a2 u = some r) : Met l y_Ctx_leastK (.code y_Ctx_leastK b_Ctx_leastK 4 (some .int) :: TS) ({ frames := 0, cells := 0, slots := 0, locals := 0 }) (va_Pc [.ref q0, .int a1, .int a2] (fun U => va_P D cls (wCtx cI q0 q1 q2 q3 q4 q5 u) U.heap ∧ va_K D cls [(cI, .int)] U)) (va_Qi (fun x (_ : Unit) => x = r) (fun _ _ => True) (fun _ => False)) 0 0 (fun _ => False) := by
  refine ct_of (by decide +kernel) (Nat.le_of_ble_eq_true rfl) ?_
  intro p e s m below meth c ls hx hb hml hr hlocks hown hw hP hK hl
  have hS : va_S (fun _ => False) s.heap s.heap [] := va_S.rf
  have hl : lv_has ls 4 [(0, .ref q0), (1, .int a1), (2, .int a2)] := hl
  have hP : va_P D cls (wCtx cI q0 q1 q2 q3 q4 q5 u) s.heap := hP
  have lp2 : ∀ (n2 : Nat), ∀ (ls : Array Slot) (H : Heap) (locs : List Loc) (l1 : Int32) (l2 : Int32) (l3 : Int32) (u : gU), lv_has ls 4 [(0, .ref q0), (1, .int l1), (2, .int l2), (3, .int l3)] → va_P D cls (wCtx cI q0 q1 q2 q3 q4 q5 u) H → va_S (fun _ => False) s.heap H locs → L_Ctx_leastK_2 n2 l1 l2 l3 u = some r → W p l e ({ frames := 0, cells := 0, slots := 0, locals := 0 }) s m [.ref q0, .int a1, .int a2].toArray below meth c H locs 0 0 (MQ below (va_Qi (fun x (_ : Unit) => x = r) (fun _ _ => True) (fun _ => False)) [.ref q0, .int a1, .int a2].toArray s 0 0 (fun _ => False)) (F0 m 2 ls []) := by
    intro n2
    induction n2 with
    | zero =>
      intro ls H locs l1 l2 l3 u hl hP hS hf
      rw [L_Ctx_leastK_2_z] at hf
      cases hf
    | succ n2 ih2 =>
      intro ls H locs l1 l2 l3 u hl hP hS hf
      rw [L_Ctx_leastK_2_s] at hf
      refine lv_iload_n hx hb d_Ctx_leastK_2 rfl (lv_at hl 3 rfl) ?_
      refine lv_bipush (v := 24) hx hb d_Ctx_leastK_3 (by decide) ?_
      refine lv_icmp_ge (tgt := 26) hx hb d_Ctx_leastK_5 (by decide) (fun hc => ?_) (fun hc => ?_)
      · have hf := bq_t hf hc
        refine lv_iload_n hx hb d_Ctx_leastK_26 rfl (lv_at hl 3 rfl) ?_
        exact rt_roi hx hb hr hlocks hS hf d_Ctx_leastK_27
      have hf := bq_n hf hc
      refine lv_aload_n hx hb d_Ctx_leastK_8 rfl (lv_at hl 0 rfl) ?_
      refine va_get (D := D) (ci := 2) (v := .ref q4) (C := R_Ctx) (T := F_Ctx) (N := 6) hx hb hw in_Ctx hown hK hP 0 rfl rfl 3 (by decide) (hw _ m_39) (fun _ h9 => h9) rfl d_Ctx_leastK_9 ?_
      refine lv_iload_n hx hb d_Ctx_leastK_12 rfl (lv_at hl 1 rfl) ?_
      obtain ⟨h1, hf⟩ := gd_o hf
      refine va_iald hx hb hK hP 4 0 rfl rfl (ix_in h1) d_Ctx_leastK_13 ?_
      refine lv_iload_n hx hb d_Ctx_leastK_14 rfl (lv_at hl 3 rfl) ?_
      refine lv_ishl hx hb d_Ctx_leastK_15 ?_
      refine lv_iload_n hx hb d_Ctx_leastK_16 rfl (lv_at hl 2 rfl) ?_
      refine lv_icmp_ge (tgt := 26) hx hb d_Ctx_leastK_17 (by decide) (fun hc => ?_) (fun hc => ?_)
      · have hf := bq_t hf hc
        refine lv_iload_n hx hb d_Ctx_leastK_26 rfl (lv_at hl 3 rfl) ?_
        exact rt_roi hx hb hr hlocks hS hf d_Ctx_leastK_27
      have hf := bq_n hf hc
      obtain ⟨x2, e_x2, hf⟩ := tk_o hf
      refine lv_iinc (v := x2) (lv' := [(3, .int x2), (0, .ref q0), (1, .int l1), (2, .int l2)]) hx hb d_Ctx_leastK_20 hl (k := 3) rfl e_x2.symm (by decide) rfl (fun ls hl => ?_)
      refine lv_goto (tgt := 2) hx hb d_Ctx_leastK_23 (by decide) ?_
      exact ih2 _ _ _ l1 l2 x2 u (lv_sub hl [1, 2, 3, 0] rfl) hP hS hf
  unfold f_Ctx_leastK at hf
  refine lv_iconst (v := 0) hx hb d_Ctx_leastK_0 (by decide) ?_
  refine lv_istore_n (lv' := [(3, .int 0), (0, .ref q0), (1, .int a1), (2, .int a2)]) hx hb d_Ctx_leastK_1 rfl hl (by decide) rfl (fun ls hl => ?_)
  exact lp2 40 _ _ _ a1 a2 0 u (lv_sub hl [1, 2, 3, 0] rfl) hP hS hf
def f_Ctx_kOfRegular (a1 : Int32) (u : gU) : Option (Int32) := gd (ix a1 367) (bd (f_Ctx_leastK a1 (u 1 (tc a1)) u) fun x2 => some x2)
set_option maxHeartbeats 4000000 in
set_option maxRecDepth 100000 in
theorem c_Ctx_kOfRegular (l : Launch) (D : va_G) (cI : ClassId) (q0 : Nat) (q1 : Nat) (q2 : Nat) (q3 : Nat) (q4 : Nat) (q5 : Nat) (a1 : Int32) (u : gU) (r : Int32) (hf : f_Ctx_kOfRegular a1 u = some r) : Met l y_Ctx_kOfRegular (.code y_Ctx_kOfRegular b_Ctx_kOfRegular 2 (some .int) :: TS) ({ frames := 1, cells := 0, slots := 0, locals := 23 }) (va_Pc [.ref q0, .int a1] (fun U => va_P D cls (wCtx cI q0 q1 q2 q3 q4 q5 u) U.heap ∧ va_K D cls [(cI, .int)] U)) (va_Qi (fun x (_ : Unit) => x = r) (fun _ _ => True) (fun _ => False)) 0 0 (fun _ => False) := by
  refine ct_of (by decide +kernel) (Nat.le_of_ble_eq_true rfl) ?_
  intro p e s m below meth c ls hx hb hml hr hlocks hown hw hP hK hl
  have hS : va_S (fun _ => False) s.heap s.heap [] := va_S.rf
  have hl : lv_has ls 2 [(0, .ref q0), (1, .int a1)] := hl
  have hP : va_P D cls (wCtx cI q0 q1 q2 q3 q4 q5 u) s.heap := hP
  unfold f_Ctx_kOfRegular at hf
  refine lv_aload_n hx hb d_Ctx_kOfRegular_0 rfl (lv_at hl 0 rfl) ?_
  refine lv_iload_n hx hb d_Ctx_kOfRegular_1 rfl (lv_at hl 1 rfl) ?_
  refine lv_aload_n hx hb d_Ctx_kOfRegular_2 rfl (lv_at hl 0 rfl) ?_
  refine va_get (D := D) (ci := 2) (v := .ref q1) (C := R_Ctx) (T := F_Ctx) (N := 6) hx hb hw in_Ctx hown hK hP 0 rfl rfl 0 (by decide) (hw _ m_40) (fun _ h9 => h9) rfl d_Ctx_kOfRegular_3 ?_
  refine lv_iload_n hx hb d_Ctx_kOfRegular_6 rfl (lv_at hl 1 rfl) ?_
  obtain ⟨h1, hf⟩ := gd_o hf
  refine va_iald hx hb hK hP 1 0 rfl rfl (ix_in h1) d_Ctx_kOfRegular_7 ?_
  have hC : [0, 1, 2, 3, 4, 5].map (fun i => (wCtx cI q0 q1 q2 q3 q4 q5 u)[i]?) = (wCtx cI q0 q1 q2 q3 q4 q5 u).map some := rfl
  obtain ⟨x2, hc, hf⟩ := bd_o hf
  refine ro_i (va_runV (As := [.int a1, .int (u 1 (tc a1))]) (rest := []) ⟨hx, hb, hml, hown, hw⟩ (c_Ctx_leastK l D cI q0 q1 q2 q3 q4 q5 a1 (u 1 (tc a1)) u x2 hc) (cwV 2 hw g_4 rfl rfl rfl (by decide +kernel) ⟨Nat.le_of_ble_eq_true rfl, Nat.le_of_ble_eq_true rfl⟩) (pre_V (P_sub hC hP) hK rfl rfl) rfl rfl hl.1 rfl (lv_room (Nat.le_of_ble_eq_true rfl)) d_Ctx_kOfRegular_8 ⟨Nat.le_of_ble_eq_true rfl, Nat.le_of_ble_eq_true rfl⟩) hS hP (fun H locs hP hS => ?_)
  exact rt_roi hx hb hr hlocks hS hf d_Ctx_kOfRegular_11
def f_Ctx_kOfEnd (a1 : Int32) (u : gU) : Option (Int32) := gd (ix a1 367) (gd (ix a1 367) (tk ((u 1 (tc a1)) + ((a1 - 365) * ((u 4 (tc a1)) / 2))) fun x3 => bd (f_Ctx_leastK a1 x3 u) fun x4 => some x4))
set_option maxHeartbeats 4000000 in
set_option maxRecDepth 100000 in
theorem c_Ctx_kOfEnd (l : Launch) (D : va_G) (cI : ClassId) (q0 : Nat) (q1 : Nat) (q2 : Nat) (q3 : Nat) (q4 : Nat) (q5 : Nat) (a1 : Int32) (u : gU) (r : Int32) (hf : f_Ctx_kOfEnd a1 u = some r) : Met l y_Ctx_kOfEnd (.code y_Ctx_kOfEnd b_Ctx_kOfEnd 2 (some .int) :: TS) ({ frames := 1, cells := 0, slots := 0, locals := 23 }) (va_Pc [.ref q0, .int a1] (fun U => va_P D cls (wCtx cI q0 q1 q2 q3 q4 q5 u) U.heap ∧ va_K D cls [(cI, .int)] U)) (va_Qi (fun x (_ : Unit) => x = r) (fun _ _ => True) (fun _ => False)) 0 0 (fun _ => False) := by
  refine ct_of (by decide +kernel) (Nat.le_of_ble_eq_true rfl) ?_
  intro p e s m below meth c ls hx hb hml hr hlocks hown hw hP hK hl
  have hS : va_S (fun _ => False) s.heap s.heap [] := va_S.rf
  have hl : lv_has ls 2 [(0, .ref q0), (1, .int a1)] := hl
  have hP : va_P D cls (wCtx cI q0 q1 q2 q3 q4 q5 u) s.heap := hP
  unfold f_Ctx_kOfEnd at hf
  refine lv_aload_n hx hb d_Ctx_kOfEnd_0 rfl (lv_at hl 0 rfl) ?_
  refine lv_iload_n hx hb d_Ctx_kOfEnd_1 rfl (lv_at hl 1 rfl) ?_
  refine lv_aload_n hx hb d_Ctx_kOfEnd_2 rfl (lv_at hl 0 rfl) ?_
  refine va_get (D := D) (ci := 2) (v := .ref q1) (C := R_Ctx) (T := F_Ctx) (N := 6) hx hb hw in_Ctx hown hK hP 0 rfl rfl 0 (by decide) (hw _ m_40) (fun _ h9 => h9) rfl d_Ctx_kOfEnd_3 ?_
  refine lv_iload_n hx hb d_Ctx_kOfEnd_6 rfl (lv_at hl 1 rfl) ?_
  obtain ⟨h1, hf⟩ := gd_o hf
  refine va_iald hx hb hK hP 1 0 rfl rfl (ix_in h1) d_Ctx_kOfEnd_7 ?_
  refine lv_iload_n hx hb d_Ctx_kOfEnd_8 rfl (lv_at hl 1 rfl) ?_
  refine lv_sipush (v := 365) hx hb d_Ctx_kOfEnd_9 (by decide) ?_
  refine lv_isub hx hb d_Ctx_kOfEnd_12 ?_
  refine lv_aload_n hx hb d_Ctx_kOfEnd_13 rfl (lv_at hl 0 rfl) ?_
  refine va_get (D := D) (ci := 2) (v := .ref q4) (C := R_Ctx) (T := F_Ctx) (N := 6) hx hb hw in_Ctx hown hK hP 0 rfl rfl 3 (by decide) (hw _ m_39) (fun _ h9 => h9) rfl d_Ctx_kOfEnd_14 ?_
  refine lv_iload_n hx hb d_Ctx_kOfEnd_17 rfl (lv_at hl 1 rfl) ?_
  obtain ⟨h2, hf⟩ := gd_o hf
  refine va_iald hx hb hK hP 4 0 rfl rfl (ix_in h2) d_Ctx_kOfEnd_18 ?_
  refine lv_iconst (v := 2) hx hb d_Ctx_kOfEnd_19 (by decide) ?_
  refine lv_idiv hx hb d_Ctx_kOfEnd_20 (by decide) ?_
  refine lv_imul hx hb d_Ctx_kOfEnd_21 ?_
  refine lv_iadd hx hb d_Ctx_kOfEnd_22 ?_
  refine lv_topi (fun x3 e_x3 => ?_)
  have hf := tk_e hf e_x3
  have hC : [0, 1, 2, 3, 4, 5].map (fun i => (wCtx cI q0 q1 q2 q3 q4 q5 u)[i]?) = (wCtx cI q0 q1 q2 q3 q4 q5 u).map some := rfl
  obtain ⟨x4, hc, hf⟩ := bd_o hf
  refine ro_i (va_runV (As := [.int a1, .int x3]) (rest := []) ⟨hx, hb, hml, hown, hw⟩ (c_Ctx_leastK l D cI q0 q1 q2 q3 q4 q5 a1 x3 u x4 hc) (cwV 2 hw g_4 rfl rfl rfl (by decide +kernel) ⟨Nat.le_of_ble_eq_true rfl, Nat.le_of_ble_eq_true rfl⟩) (pre_V (P_sub hC hP) hK rfl rfl) rfl rfl hl.1 rfl (lv_room (Nat.le_of_ble_eq_true rfl)) d_Ctx_kOfEnd_23 ⟨Nat.le_of_ble_eq_true rfl, Nat.le_of_ble_eq_true rfl⟩) hS hP (fun H locs hP hS => ?_)
  exact rt_roi hx hb hr hlocks hS hf d_Ctx_kOfEnd_26
def f_Ctx_leansDown (a1 : Int32) (u : gU) : Option (Int32) := gd (ix a1 367) (gd (ix a1 367) (bq ((-(u 4 (tc a1))) < (2 * (u 2 (tc a1)))) (some 0) (some 1)))
set_option maxHeartbeats 4000000 in
set_option maxRecDepth 100000 in
theorem c_Ctx_leansDown (l : Launch) (D : va_G) (cI : ClassId) (q0 : Nat) (q1 : Nat) (q2 : Nat) (q3 : Nat) (q4 : Nat) (q5 : Nat) (a1 : Int32) (u : gU) (r : Int32) (hf : f_Ctx_leansDown a1 u = some r) : Met l y_Ctx_leansDown (.code y_Ctx_leansDown b_Ctx_leansDown 2 (some .boolean) :: TS) ({ frames := 0, cells := 0, slots := 0, locals := 0 }) (va_Pc [.ref q0, .int a1] (fun U => va_P D cls (wCtx cI q0 q1 q2 q3 q4 q5 u) U.heap ∧ va_K D cls [(cI, .int)] U)) (va_Qi (fun x (_ : Unit) => x = r) (fun _ _ => True) (fun _ => False)) 0 0 (fun _ => False) := by
  refine ct_of (by decide +kernel) (Nat.le_of_ble_eq_true rfl) ?_
  intro p e s m below meth c ls hx hb hml hr hlocks hown hw hP hK hl
  have hS : va_S (fun _ => False) s.heap s.heap [] := va_S.rf
  have hl : lv_has ls 2 [(0, .ref q0), (1, .int a1)] := hl
  have hP : va_P D cls (wCtx cI q0 q1 q2 q3 q4 q5 u) s.heap := hP
  unfold f_Ctx_leansDown at hf
  refine lv_iconst (v := 2) hx hb d_Ctx_leansDown_0 (by decide) ?_
  refine lv_aload_n hx hb d_Ctx_leansDown_1 rfl (lv_at hl 0 rfl) ?_
  refine va_get (D := D) (ci := 2) (v := .ref q2) (C := R_Ctx) (T := F_Ctx) (N := 6) hx hb hw in_Ctx hown hK hP 0 rfl rfl 1 (by decide) (hw _ m_46) (fun _ h9 => h9) rfl d_Ctx_leansDown_2 ?_
  refine lv_iload_n hx hb d_Ctx_leansDown_5 rfl (lv_at hl 1 rfl) ?_
  obtain ⟨h1, hf⟩ := gd_o hf
  refine va_iald hx hb hK hP 2 0 rfl rfl (ix_in h1) d_Ctx_leansDown_6 ?_
  refine lv_imul hx hb d_Ctx_leansDown_7 ?_
  refine lv_aload_n hx hb d_Ctx_leansDown_8 rfl (lv_at hl 0 rfl) ?_
  refine va_get (D := D) (ci := 2) (v := .ref q4) (C := R_Ctx) (T := F_Ctx) (N := 6) hx hb hw in_Ctx hown hK hP 0 rfl rfl 3 (by decide) (hw _ m_39) (fun _ h9 => h9) rfl d_Ctx_leansDown_9 ?_
  refine lv_iload_n hx hb d_Ctx_leansDown_12 rfl (lv_at hl 1 rfl) ?_
  obtain ⟨h2, hf⟩ := gd_o hf
  refine va_iald hx hb hK hP 4 0 rfl rfl (ix_in h2) d_Ctx_leansDown_13 ?_
  refine lv_ineg hx hb d_Ctx_leansDown_14 ?_
  refine lv_icmp_gt (tgt := 22) hx hb d_Ctx_leansDown_15 (by decide) (fun hc => ?_) (fun hc => ?_)
  · have hf := bq_t hf hc
    refine lv_iconst (v := 0) hx hb d_Ctx_leansDown_22 (by decide) ?_
    exact rt_roz hx hb hr hlocks (Or.inl rfl) hS hf d_Ctx_leansDown_23
  have hf := bq_n hf hc
  refine lv_iconst (v := 1) hx hb d_Ctx_leansDown_18 (by decide) ?_
  refine lv_goto (tgt := 23) hx hb d_Ctx_leansDown_19 (by decide) ?_
  exact rt_roz hx hb hr hlocks (Or.inr rfl) hS hf d_Ctx_leansDown_23
def f_Ctx_isMostlyBelow (a1 : Int32) (u : gU) : Option (Int32) := gd (ix a1 367) (gd (ix a1 367) (bq ((2 * (u 5 (tc a1))) < (u 4 (tc a1))) (some 0) (some 1)))
set_option maxHeartbeats 4000000 in
set_option maxRecDepth 100000 in
theorem c_Ctx_isMostlyBelow (l : Launch) (D : va_G) (cI : ClassId) (q0 : Nat) (q1 : Nat) (q2 : Nat) (q3 : Nat) (q4 : Nat) (q5 : Nat) (a1 : Int32) (u : gU) (r : Int32) (hf : f_Ctx_isMostlyBelow a1 u = some r) : Met l y_Ctx_isMostlyBelow (.code y_Ctx_isMostlyBelow b_Ctx_isMostlyBelow 2 (some .boolean) :: TS) ({ frames := 0, cells := 0, slots := 0, locals := 0 }) (va_Pc [.ref q0, .int a1] (fun U => va_P D cls (wCtx cI q0 q1 q2 q3 q4 q5 u) U.heap ∧ va_K D cls [(cI, .int)] U)) (va_Qi (fun x (_ : Unit) => x = r) (fun _ _ => True) (fun _ => False)) 0 0 (fun _ => False) := by
  refine ct_of (by decide +kernel) (Nat.le_of_ble_eq_true rfl) ?_
  intro p e s m below meth c ls hx hb hml hr hlocks hown hw hP hK hl
  have hS : va_S (fun _ => False) s.heap s.heap [] := va_S.rf
  have hl : lv_has ls 2 [(0, .ref q0), (1, .int a1)] := hl
  have hP : va_P D cls (wCtx cI q0 q1 q2 q3 q4 q5 u) s.heap := hP
  unfold f_Ctx_isMostlyBelow at hf
  refine lv_iconst (v := 2) hx hb d_Ctx_isMostlyBelow_0 (by decide) ?_
  refine lv_aload_n hx hb d_Ctx_isMostlyBelow_1 rfl (lv_at hl 0 rfl) ?_
  refine va_get (D := D) (ci := 2) (v := .ref q5) (C := R_Ctx) (T := F_Ctx) (N := 6) hx hb hw in_Ctx hown hK hP 0 rfl rfl 4 (by decide) (hw _ m_47) (fun _ h9 => h9) rfl d_Ctx_isMostlyBelow_2 ?_
  refine lv_iload_n hx hb d_Ctx_isMostlyBelow_5 rfl (lv_at hl 1 rfl) ?_
  obtain ⟨h1, hf⟩ := gd_o hf
  refine va_iald hx hb hK hP 5 0 rfl rfl (ix_in h1) d_Ctx_isMostlyBelow_6 ?_
  refine lv_imul hx hb d_Ctx_isMostlyBelow_7 ?_
  refine lv_aload_n hx hb d_Ctx_isMostlyBelow_8 rfl (lv_at hl 0 rfl) ?_
  refine va_get (D := D) (ci := 2) (v := .ref q4) (C := R_Ctx) (T := F_Ctx) (N := 6) hx hb hw in_Ctx hown hK hP 0 rfl rfl 3 (by decide) (hw _ m_39) (fun _ h9 => h9) rfl d_Ctx_isMostlyBelow_9 ?_
  refine lv_iload_n hx hb d_Ctx_isMostlyBelow_12 rfl (lv_at hl 1 rfl) ?_
  obtain ⟨h2, hf⟩ := gd_o hf
  refine va_iald hx hb hK hP 4 0 rfl rfl (ix_in h2) d_Ctx_isMostlyBelow_13 ?_
  refine lv_icmp_lt (tgt := 21) hx hb d_Ctx_isMostlyBelow_14 (by decide) (fun hc => ?_) (fun hc => ?_)
  · have hf := bq_t hf hc
    refine lv_iconst (v := 0) hx hb d_Ctx_isMostlyBelow_21 (by decide) ?_
    exact rt_roz hx hb hr hlocks (Or.inl rfl) hS hf d_Ctx_isMostlyBelow_22
  have hf := bq_n hf hc
  refine lv_iconst (v := 1) hx hb d_Ctx_isMostlyBelow_17 (by decide) ?_
  refine lv_goto (tgt := 22) hx hb d_Ctx_isMostlyBelow_18 (by decide) ?_
  exact rt_roz hx hb hr hlocks (Or.inr rfl) hS hf d_Ctx_isMostlyBelow_22
def f_Ctx_correctDown (a1 : Int32) (u : gU) : Option (gU) := gd (ix a1 367) (gd (ix a1 367) (gd (ix a1 367) (tk (if ((u 2 (tc a1)) + (u 4 (tc a1))) < (1 - (u 4 (tc a1))) then (1 - (u 4 (tc a1))) else ((u 2 (tc a1)) + (u 4 (tc a1)))) fun x4 => gd (ix a1 367) (tk (st2 u 2 (tc a1) x4) fun u6 => gd (ix a1 367) (tk (if ((u6 3 (tc a1)) - 1) < (-128) then (-128) else ((u6 3 (tc a1)) - 1)) fun x8 => gd (ix a1 367) (tk (st2 u6 3 (tc a1) x8) fun u10 => some u10))))))
set_option maxHeartbeats 4000000 in
set_option maxRecDepth 100000 in
theorem c_Ctx_correctDown (l : Launch) (D : va_G) (cI : ClassId) (q0 : Nat) (q1 : Nat) (q2 : Nat) (q3 : Nat) (q4 : Nat) (q5 : Nat) (hd : dj [q0, q1, q2, q3, q4, q5]) (a1 : Int32) (u : gU) (v : gU) (hf : f_Ctx_correctDown a1 u = some v) : Met l y_Ctx_correctDown (.code y_Ctx_correctDown b_Ctx_correctDown 2 none :: TS) ({ frames := 1, cells := 0, slots := 0, locals := 24 }) (va_Pc [.ref q0, .int a1] (fun U => va_P D cls (wCtx cI q0 q1 q2 q3 q4 q5 u) U.heap ∧ va_K D cls [(cI, .int)] U)) (va_Qv (fun (_ : Unit) => True) (fun _ t => va_P D cls (wCtx cI q0 q1 q2 q3 q4 q5 v) t.heap) (ad [q0, q1, q2, q3, q4, q5])) 0 0 (ad [q0, q1, q2, q3, q4, q5]) := by
  refine ct_of (by decide +kernel) (Nat.le_of_ble_eq_true rfl) ?_
  intro p e s m below meth c ls hx hb hml hr hlocks hown hw hP hK hl
  have hS : va_S (ad [q0, q1, q2, q3, q4, q5]) s.heap s.heap [] := va_S.rf
  have hD : ∀ v, va_D (ad [q0, q1, q2, q3, q4, q5]) (wCtx cI q0 q1 q2 q3 q4 q5 v) := fun _ => dj_D rfl hd
  have hl : lv_has ls 2 [(0, .ref q0), (1, .int a1)] := hl
  have hP : va_P D cls (wCtx cI q0 q1 q2 q3 q4 q5 u) s.heap := hP
  unfold f_Ctx_correctDown at hf
  refine lv_aload_n hx hb d_Ctx_correctDown_0 rfl (lv_at hl 0 rfl) ?_
  refine va_get (D := D) (ci := 2) (v := .ref q2) (C := R_Ctx) (T := F_Ctx) (N := 6) hx hb hw in_Ctx hown hK hP 0 rfl rfl 1 (by decide) (hw _ m_46) (fun _ h9 => h9) rfl d_Ctx_correctDown_1 ?_
  refine lv_iload_n hx hb d_Ctx_correctDown_4 rfl (lv_at hl 1 rfl) ?_
  refine lv_aload_n hx hb d_Ctx_correctDown_5 rfl (lv_at hl 0 rfl) ?_
  refine va_get (D := D) (ci := 2) (v := .ref q2) (C := R_Ctx) (T := F_Ctx) (N := 6) hx hb hw in_Ctx hown hK hP 0 rfl rfl 1 (by decide) (hw _ m_46) (fun _ h9 => h9) rfl d_Ctx_correctDown_6 ?_
  refine lv_iload_n hx hb d_Ctx_correctDown_9 rfl (lv_at hl 1 rfl) ?_
  obtain ⟨h1, hf⟩ := gd_o hf
  refine va_iald hx hb hK hP 2 0 rfl rfl (ix_in h1) d_Ctx_correctDown_10 ?_
  refine lv_aload_n hx hb d_Ctx_correctDown_11 rfl (lv_at hl 0 rfl) ?_
  refine va_get (D := D) (ci := 2) (v := .ref q4) (C := R_Ctx) (T := F_Ctx) (N := 6) hx hb hw in_Ctx hown hK hP 0 rfl rfl 3 (by decide) (hw _ m_39) (fun _ h9 => h9) rfl d_Ctx_correctDown_12 ?_
  refine lv_iload_n hx hb d_Ctx_correctDown_15 rfl (lv_at hl 1 rfl) ?_
  obtain ⟨h2, hf⟩ := gd_o hf
  refine va_iald hx hb hK hP 4 0 rfl rfl (ix_in h2) d_Ctx_correctDown_16 ?_
  refine lv_iadd hx hb d_Ctx_correctDown_17 ?_
  refine lv_iconst (v := 1) hx hb d_Ctx_correctDown_18 (by decide) ?_
  refine lv_aload_n hx hb d_Ctx_correctDown_19 rfl (lv_at hl 0 rfl) ?_
  refine va_get (D := D) (ci := 2) (v := .ref q4) (C := R_Ctx) (T := F_Ctx) (N := 6) hx hb hw in_Ctx hown hK hP 0 rfl rfl 3 (by decide) (hw _ m_39) (fun _ h9 => h9) rfl d_Ctx_correctDown_20 ?_
  refine lv_iload_n hx hb d_Ctx_correctDown_23 rfl (lv_at hl 1 rfl) ?_
  obtain ⟨h3, hf⟩ := gd_o hf
  refine va_iald hx hb hK hP 4 0 rfl rfl (ix_in h3) d_Ctx_correctDown_24 ?_
  refine lv_isub hx hb d_Ctx_correctDown_25 ?_
  refine va_mmax hx hb (hml.trans hl.1.symm) hown (hw _ m_48) (hw _ m_11) (hw _ m_12) (hw _ m_13) (Nat.le_of_ble_eq_true rfl) (Nat.le_of_ble_eq_true rfl) (Nat.le_of_ble_eq_true rfl) (Nat.le_of_ble_eq_true rfl) d_Ctx_correctDown_26 ?_
  refine lv_topi (fun x4 e_x4 => ?_)
  have hf := tk_e hf e_x4
  obtain ⟨h5, hf⟩ := gd_o hf
  refine va_iast hx hb hK hP (hD _) hS 2 0 rfl rfl (ix_in h5) d_Ctx_correctDown_29 (fun H locs hP _ hS => ?_)
  obtain ⟨u6, e_u6, hf⟩ := tk_o hf
  have hP : va_P D cls (wCtx cI q0 q1 q2 q3 q4 q5 u6) H := by rw [e_u6]; exact hP
  refine lv_aload_n hx hb d_Ctx_correctDown_30 rfl (lv_at hl 0 rfl) ?_
  refine va_get (D := D) (ci := 2) (v := .ref q3) (C := R_Ctx) (T := F_Ctx) (N := 6) hx hb hw in_Ctx hown hK hP 0 rfl rfl 2 (by decide) (hw _ m_49) (fun _ h9 => h9) rfl d_Ctx_correctDown_31 ?_
  refine lv_iload_n hx hb d_Ctx_correctDown_34 rfl (lv_at hl 1 rfl) ?_
  refine lv_aload_n hx hb d_Ctx_correctDown_35 rfl (lv_at hl 0 rfl) ?_
  refine va_get (D := D) (ci := 2) (v := .ref q3) (C := R_Ctx) (T := F_Ctx) (N := 6) hx hb hw in_Ctx hown hK hP 0 rfl rfl 2 (by decide) (hw _ m_49) (fun _ h9 => h9) rfl d_Ctx_correctDown_36 ?_
  refine lv_iload_n hx hb d_Ctx_correctDown_39 rfl (lv_at hl 1 rfl) ?_
  obtain ⟨h7, hf⟩ := gd_o hf
  refine va_iald hx hb hK hP 3 0 rfl rfl (ix_in h7) d_Ctx_correctDown_40 ?_
  refine lv_iconst (v := 1) hx hb d_Ctx_correctDown_41 (by decide) ?_
  refine lv_isub hx hb d_Ctx_correctDown_42 ?_
  refine lv_bipush (v := (-128)) hx hb d_Ctx_correctDown_43 (by decide) ?_
  refine va_mmax hx hb (hml.trans hl.1.symm) hown (hw _ m_48) (hw _ m_11) (hw _ m_12) (hw _ m_13) (Nat.le_of_ble_eq_true rfl) (Nat.le_of_ble_eq_true rfl) (Nat.le_of_ble_eq_true rfl) (Nat.le_of_ble_eq_true rfl) d_Ctx_correctDown_45 ?_
  refine lv_topi (fun x8 e_x8 => ?_)
  have hf := tk_e hf e_x8
  obtain ⟨h9, hf⟩ := gd_o hf
  refine va_iast hx hb hK hP (hD _) hS 3 0 rfl rfl (ix_in h9) d_Ctx_correctDown_48 (fun H locs hP _ hS => ?_)
  obtain ⟨u10, e_u10, hf⟩ := tk_o hf
  have hP : va_P D cls (wCtx cI q0 q1 q2 q3 q4 q5 u10) H := by rw [e_u10]; exact hP
  exact rt_v (wCtx cI q0 q1 q2 q3 q4 q5) hx hb hr hlocks hS hP hf d_Ctx_correctDown_49
def f_Ctx_correctUp (a1 : Int32) (u : gU) : Option (gU) := gd (ix a1 367) (gd (ix a1 367) (tk (if 0 < ((u 2 (tc a1)) - (u 4 (tc a1))) then 0 else ((u 2 (tc a1)) - (u 4 (tc a1)))) fun x3 => gd (ix a1 367) (tk (st2 u 2 (tc a1) x3) fun u5 => gd (ix a1 367) (tk (if 127 < ((u5 3 (tc a1)) + 1) then 127 else ((u5 3 (tc a1)) + 1)) fun x7 => gd (ix a1 367) (tk (st2 u5 3 (tc a1) x7) fun u9 => some u9)))))
set_option maxHeartbeats 4000000 in
set_option maxRecDepth 100000 in
theorem c_Ctx_correctUp (l : Launch) (D : va_G) (cI : ClassId) (q0 : Nat) (q1 : Nat) (q2 : Nat) (q3 : Nat) (q4 : Nat) (q5 : Nat) (hd : dj [q0, q1, q2, q3, q4, q5]) (a1 : Int32) (u : gU) (v : gU) (hf : f_Ctx_correctUp a1 u = some v) : Met l y_Ctx_correctUp (.code y_Ctx_correctUp b_Ctx_correctUp 2 none :: TS) ({ frames := 1, cells := 0, slots := 0, locals := 24 }) (va_Pc [.ref q0, .int a1] (fun U => va_P D cls (wCtx cI q0 q1 q2 q3 q4 q5 u) U.heap ∧ va_K D cls [(cI, .int)] U)) (va_Qv (fun (_ : Unit) => True) (fun _ t => va_P D cls (wCtx cI q0 q1 q2 q3 q4 q5 v) t.heap) (ad [q0, q1, q2, q3, q4, q5])) 0 0 (ad [q0, q1, q2, q3, q4, q5]) := by
  refine ct_of (by decide +kernel) (Nat.le_of_ble_eq_true rfl) ?_
  intro p e s m below meth c ls hx hb hml hr hlocks hown hw hP hK hl
  have hS : va_S (ad [q0, q1, q2, q3, q4, q5]) s.heap s.heap [] := va_S.rf
  have hD : ∀ v, va_D (ad [q0, q1, q2, q3, q4, q5]) (wCtx cI q0 q1 q2 q3 q4 q5 v) := fun _ => dj_D rfl hd
  have hl : lv_has ls 2 [(0, .ref q0), (1, .int a1)] := hl
  have hP : va_P D cls (wCtx cI q0 q1 q2 q3 q4 q5 u) s.heap := hP
  unfold f_Ctx_correctUp at hf
  refine lv_aload_n hx hb d_Ctx_correctUp_0 rfl (lv_at hl 0 rfl) ?_
  refine va_get (D := D) (ci := 2) (v := .ref q2) (C := R_Ctx) (T := F_Ctx) (N := 6) hx hb hw in_Ctx hown hK hP 0 rfl rfl 1 (by decide) (hw _ m_46) (fun _ h9 => h9) rfl d_Ctx_correctUp_1 ?_
  refine lv_iload_n hx hb d_Ctx_correctUp_4 rfl (lv_at hl 1 rfl) ?_
  refine lv_aload_n hx hb d_Ctx_correctUp_5 rfl (lv_at hl 0 rfl) ?_
  refine va_get (D := D) (ci := 2) (v := .ref q2) (C := R_Ctx) (T := F_Ctx) (N := 6) hx hb hw in_Ctx hown hK hP 0 rfl rfl 1 (by decide) (hw _ m_46) (fun _ h9 => h9) rfl d_Ctx_correctUp_6 ?_
  refine lv_iload_n hx hb d_Ctx_correctUp_9 rfl (lv_at hl 1 rfl) ?_
  obtain ⟨h1, hf⟩ := gd_o hf
  refine va_iald hx hb hK hP 2 0 rfl rfl (ix_in h1) d_Ctx_correctUp_10 ?_
  refine lv_aload_n hx hb d_Ctx_correctUp_11 rfl (lv_at hl 0 rfl) ?_
  refine va_get (D := D) (ci := 2) (v := .ref q4) (C := R_Ctx) (T := F_Ctx) (N := 6) hx hb hw in_Ctx hown hK hP 0 rfl rfl 3 (by decide) (hw _ m_39) (fun _ h9 => h9) rfl d_Ctx_correctUp_12 ?_
  refine lv_iload_n hx hb d_Ctx_correctUp_15 rfl (lv_at hl 1 rfl) ?_
  obtain ⟨h2, hf⟩ := gd_o hf
  refine va_iald hx hb hK hP 4 0 rfl rfl (ix_in h2) d_Ctx_correctUp_16 ?_
  refine lv_isub hx hb d_Ctx_correctUp_17 ?_
  refine lv_iconst (v := 0) hx hb d_Ctx_correctUp_18 (by decide) ?_
  refine va_mmin hx hb (hml.trans hl.1.symm) hown (hw _ m_50) (hw _ m_32) (hw _ m_12) (hw _ m_33) (Nat.le_of_ble_eq_true rfl) (Nat.le_of_ble_eq_true rfl) (Nat.le_of_ble_eq_true rfl) (Nat.le_of_ble_eq_true rfl) d_Ctx_correctUp_19 ?_
  refine lv_topi (fun x3 e_x3 => ?_)
  have hf := tk_e hf e_x3
  obtain ⟨h4, hf⟩ := gd_o hf
  refine va_iast hx hb hK hP (hD _) hS 2 0 rfl rfl (ix_in h4) d_Ctx_correctUp_22 (fun H locs hP _ hS => ?_)
  obtain ⟨u5, e_u5, hf⟩ := tk_o hf
  have hP : va_P D cls (wCtx cI q0 q1 q2 q3 q4 q5 u5) H := by rw [e_u5]; exact hP
  refine lv_aload_n hx hb d_Ctx_correctUp_23 rfl (lv_at hl 0 rfl) ?_
  refine va_get (D := D) (ci := 2) (v := .ref q3) (C := R_Ctx) (T := F_Ctx) (N := 6) hx hb hw in_Ctx hown hK hP 0 rfl rfl 2 (by decide) (hw _ m_49) (fun _ h9 => h9) rfl d_Ctx_correctUp_24 ?_
  refine lv_iload_n hx hb d_Ctx_correctUp_27 rfl (lv_at hl 1 rfl) ?_
  refine lv_aload_n hx hb d_Ctx_correctUp_28 rfl (lv_at hl 0 rfl) ?_
  refine va_get (D := D) (ci := 2) (v := .ref q3) (C := R_Ctx) (T := F_Ctx) (N := 6) hx hb hw in_Ctx hown hK hP 0 rfl rfl 2 (by decide) (hw _ m_49) (fun _ h9 => h9) rfl d_Ctx_correctUp_29 ?_
  refine lv_iload_n hx hb d_Ctx_correctUp_32 rfl (lv_at hl 1 rfl) ?_
  obtain ⟨h6, hf⟩ := gd_o hf
  refine va_iald hx hb hK hP 3 0 rfl rfl (ix_in h6) d_Ctx_correctUp_33 ?_
  refine lv_iconst (v := 1) hx hb d_Ctx_correctUp_34 (by decide) ?_
  refine lv_iadd hx hb d_Ctx_correctUp_35 ?_
  refine lv_bipush (v := 127) hx hb d_Ctx_correctUp_36 (by decide) ?_
  refine va_mmin hx hb (hml.trans hl.1.symm) hown (hw _ m_50) (hw _ m_32) (hw _ m_12) (hw _ m_33) (Nat.le_of_ble_eq_true rfl) (Nat.le_of_ble_eq_true rfl) (Nat.le_of_ble_eq_true rfl) (Nat.le_of_ble_eq_true rfl) d_Ctx_correctUp_38 ?_
  refine lv_topi (fun x7 e_x7 => ?_)
  have hf := tk_e hf e_x7
  obtain ⟨h8, hf⟩ := gd_o hf
  refine va_iast hx hb hK hP (hD _) hS 3 0 rfl rfl (ix_in h8) d_Ctx_correctUp_41 (fun H locs hP _ hS => ?_)
  obtain ⟨u9, e_u9, hf⟩ := tk_o hf
  have hP : va_P D cls (wCtx cI q0 q1 q2 q3 q4 q5 u9) H := by rw [e_u9]; exact hP
  exact rt_v (wCtx cI q0 q1 q2 q3 q4 q5) hx hb hr hlocks hS hP hf d_Ctx_correctUp_42
def J_Ctx_learnRegular_66 (l1 : Int32) (u : gU) : Option (gU) := gd (ix l1 367) (gd (ix l1 367) (tk (st2 u 4 (tc l1) ((u 4 (tc l1)) + 1)) fun u3 => gd (ix l1 367) (gd (ix l1 367) (bq ((-(u3 4 (tc l1))) < (u3 2 (tc l1))) (gd (ix l1 367) (bq ((u3 2 (tc l1)) ≤ 0) (some u3) (bd (f_Ctx_correctUp l1 u3) fun w7 => tk (w7) fun u8 => some u8))) (bd (f_Ctx_correctDown l1 u3) fun w9 => tk (w9) fun u10 => some u10)))))
def f_Ctx_learnRegular (a1 : Int32) (a2 : Int32) (a3 : Int32) (u : gU) : Option (gU) := gd (ix a1 367) (gd (ix a1 367) (tk (st2 u 2 (tc a1) ((u 2 (tc a1)) + (a2 * a3))) fun u3 => gd (ix a1 367) (tk (if 0 ≤ a2 then a2 else 0 - a2) fun x5 => gd (ix a1 367) (tk (st2 u3 1 (tc a1) ((u3 1 (tc a1)) + x5)) fun u7 => gd (ix a1 367) (bq ((u7 4 (tc a1)) = 64) (gd (ix a1 367) (gd (ix a1 367) (tk (st2 u7 1 (tc a1) ((u7 1 (tc a1)) >>> (1 &&& 31))) fun u11 => gd (ix a1 367) (gd (ix a1 367) (tk (st2 u11 2 (tc a1) ((u11 2 (tc a1)) >>> (1 &&& 31))) fun u14 => gd (ix a1 367) (gd (ix a1 367) (tk (st2 u14 4 (tc a1) ((u14 4 (tc a1)) >>> (1 &&& 31))) fun u17 => J_Ctx_learnRegular_66 a1 u17))))))) (J_Ctx_learnRegular_66 a1 u7))))))
set_option maxHeartbeats 4000000 in
set_option maxRecDepth 100000 in
theorem c_Ctx_learnRegular (l : Launch) (D : va_G) (cI : ClassId) (q0 : Nat) (q1 : Nat) (q2 : Nat) (q3 : Nat) (q4 : Nat) (q5 : Nat) (hd : dj [q0, q1, q2, q3, q4, q5]) (a1 : Int32) (a2 : Int32) (a3 : Int32) (u : gU) (v : gU) (hf : f_Ctx_learnRegular a1 a2 a3 u = some v) : Met l y_Ctx_learnRegular (.code y_Ctx_learnRegular b_Ctx_learnRegular 4 none :: TS) ({ frames := 2, cells := 0, slots := 0, locals := 45 }) (va_Pc [.ref q0, .int a1, .int a2, .int a3] (fun U => va_P D cls (wCtx cI q0 q1 q2 q3 q4 q5 u) U.heap ∧ va_K D cls [(cI, .int)] U)) (va_Qv (fun (_ : Unit) => True) (fun _ t => va_P D cls (wCtx cI q0 q1 q2 q3 q4 q5 v) t.heap) (ad [q0, q1, q2, q3, q4, q5])) 0 0 (ad [q0, q1, q2, q3, q4, q5]) := by
  refine ct_of (by decide +kernel) (Nat.le_of_ble_eq_true rfl) ?_
  intro p e s m below meth c ls hx hb hml hr hlocks hown hw hP hK hl
  have hS : va_S (ad [q0, q1, q2, q3, q4, q5]) s.heap s.heap [] := va_S.rf
  have hD : ∀ v, va_D (ad [q0, q1, q2, q3, q4, q5]) (wCtx cI q0 q1 q2 q3 q4 q5 v) := fun _ => dj_D rfl hd
  have hl : lv_has ls 4 [(0, .ref q0), (1, .int a1), (2, .int a2), (3, .int a3)] := hl
  have hP : va_P D cls (wCtx cI q0 q1 q2 q3 q4 q5 u) s.heap := hP
  have j66 : ∀ (ls : Array Slot) (H : Heap) (locs : List Loc) (l1 : Int32) (u : gU), lv_has ls 4 [(0, .ref q0), (1, .int l1)] → va_P D cls (wCtx cI q0 q1 q2 q3 q4 q5 u) H → va_S (ad [q0, q1, q2, q3, q4, q5]) s.heap H locs → J_Ctx_learnRegular_66 l1 u = some v → W p l e ({ frames := 2, cells := 0, slots := 0, locals := 45 }) s m [.ref q0, .int a1, .int a2, .int a3].toArray below meth c H locs 0 0 (MQ below (va_Qv (fun (_ : Unit) => True) (fun _ t => va_P D cls (wCtx cI q0 q1 q2 q3 q4 q5 v) t.heap) (ad [q0, q1, q2, q3, q4, q5])) [.ref q0, .int a1, .int a2, .int a3].toArray s 0 0 (ad [q0, q1, q2, q3, q4, q5])) (F0 m 66 ls []) := by
    intro ls H locs l1 u hl hP hS hf
    unfold J_Ctx_learnRegular_66 at hf
    refine lv_aload_n hx hb d_Ctx_learnRegular_66 rfl (lv_at hl 0 rfl) ?_
    refine va_get (D := D) (ci := 2) (v := .ref q4) (C := R_Ctx) (T := F_Ctx) (N := 6) hx hb hw in_Ctx hown hK hP 0 rfl rfl 3 (by decide) (hw _ m_39) (fun _ h9 => h9) rfl d_Ctx_learnRegular_67 ?_
    refine lv_iload_n hx hb d_Ctx_learnRegular_70 rfl (lv_at hl 1 rfl) ?_
    refine lv_dup2_11 hx hb d_Ctx_learnRegular_71 rfl rfl ?_
    obtain ⟨h1, hf⟩ := gd_o hf
    refine va_iald hx hb hK hP 4 0 rfl rfl (ix_in h1) d_Ctx_learnRegular_72 ?_
    refine lv_iconst (v := 1) hx hb d_Ctx_learnRegular_73 (by decide) ?_
    refine lv_iadd hx hb d_Ctx_learnRegular_74 ?_
    obtain ⟨h2, hf⟩ := gd_o hf
    refine va_iast hx hb hK hP (hD _) hS 4 0 rfl rfl (ix_in h2) d_Ctx_learnRegular_75 (fun H locs hP _ hS => ?_)
    obtain ⟨u3, e_u3, hf⟩ := tk_o hf
    have hP : va_P D cls (wCtx cI q0 q1 q2 q3 q4 q5 u3) H := by rw [e_u3]; exact hP
    refine lv_aload_n hx hb d_Ctx_learnRegular_76 rfl (lv_at hl 0 rfl) ?_
    refine va_get (D := D) (ci := 2) (v := .ref q2) (C := R_Ctx) (T := F_Ctx) (N := 6) hx hb hw in_Ctx hown hK hP 0 rfl rfl 1 (by decide) (hw _ m_46) (fun _ h9 => h9) rfl d_Ctx_learnRegular_77 ?_
    refine lv_iload_n hx hb d_Ctx_learnRegular_80 rfl (lv_at hl 1 rfl) ?_
    obtain ⟨h4, hf⟩ := gd_o hf
    refine va_iald hx hb hK hP 2 0 rfl rfl (ix_in h4) d_Ctx_learnRegular_81 ?_
    refine lv_aload_n hx hb d_Ctx_learnRegular_82 rfl (lv_at hl 0 rfl) ?_
    refine va_get (D := D) (ci := 2) (v := .ref q4) (C := R_Ctx) (T := F_Ctx) (N := 6) hx hb hw in_Ctx hown hK hP 0 rfl rfl 3 (by decide) (hw _ m_39) (fun _ h9 => h9) rfl d_Ctx_learnRegular_83 ?_
    refine lv_iload_n hx hb d_Ctx_learnRegular_86 rfl (lv_at hl 1 rfl) ?_
    obtain ⟨h5, hf⟩ := gd_o hf
    refine va_iald hx hb hK hP 4 0 rfl rfl (ix_in h5) d_Ctx_learnRegular_87 ?_
    refine lv_ineg hx hb d_Ctx_learnRegular_88 ?_
    refine lv_icmp_gt (tgt := 100) hx hb d_Ctx_learnRegular_89 (by decide) (fun hc => ?_) (fun hc => ?_)
    · have hf := bq_t hf hc
      refine lv_aload_n hx hb d_Ctx_learnRegular_100 rfl (lv_at hl 0 rfl) ?_
      refine va_get (D := D) (ci := 2) (v := .ref q2) (C := R_Ctx) (T := F_Ctx) (N := 6) hx hb hw in_Ctx hown hK hP 0 rfl rfl 1 (by decide) (hw _ m_46) (fun _ h9 => h9) rfl d_Ctx_learnRegular_101 ?_
      refine lv_iload_n hx hb d_Ctx_learnRegular_104 rfl (lv_at hl 1 rfl) ?_
      obtain ⟨h6, hf⟩ := gd_o hf
      refine va_iald hx hb hK hP 2 0 rfl rfl (ix_in h6) d_Ctx_learnRegular_105 ?_
      refine lv_if_le (tgt := 114) hx hb d_Ctx_learnRegular_106 (by decide) (fun hc => ?_) (fun hc => ?_)
      · have hf := bq_t hf hc
        exact rt_v (wCtx cI q0 q1 q2 q3 q4 q5) hx hb hr hlocks hS hP hf d_Ctx_learnRegular_114
      have hf := bq_n hf hc
      refine lv_aload_n hx hb d_Ctx_learnRegular_109 rfl (lv_at hl 0 rfl) ?_
      refine lv_iload_n hx hb d_Ctx_learnRegular_110 rfl (lv_at hl 1 rfl) ?_
      have hC : [0, 1, 2, 3, 4, 5].map (fun i => (wCtx cI q0 q1 q2 q3 q4 q5 u3)[i]?) = (wCtx cI q0 q1 q2 q3 q4 q5 u3).map some := rfl
      obtain ⟨w7, hc, hf⟩ := bd_o hf
      refine rw_v (va_runV (As := [.int l1]) (rest := []) ⟨hx, hb, hml, hown, hw⟩ (c_Ctx_correctUp l D cI q0 q1 q2 q3 q4 q5 (dj_sub hd [0, 1, 2, 3, 4, 5] (by decide) rfl) l1 u3 w7 hc) (cwV 1 hw g_5 rfl rfl rfl (by decide +kernel) ⟨Nat.le_of_ble_eq_true rfl, Nat.le_of_ble_eq_true rfl⟩) (pre_V (P_sub hC hP) hK rfl rfl) rfl rfl hl.1 rfl (lv_room (Nat.le_of_ble_eq_true rfl)) d_Ctx_learnRegular_111 ⟨Nat.le_of_ble_eq_true rfl, Nat.le_of_ble_eq_true rfl⟩) hS hP (hD _) hC rfl rfl (fun H locs hP hS => ?_)
      obtain ⟨u8, e_u8, hf⟩ := tk_o hf
      have hP : va_P D cls (wCtx cI q0 q1 q2 q3 q4 q5 u8) H := by rw [e_u8]; exact hP
      exact rt_v (wCtx cI q0 q1 q2 q3 q4 q5) hx hb hr hlocks hS hP hf d_Ctx_learnRegular_114
    have hf := bq_n hf hc
    refine lv_aload_n hx hb d_Ctx_learnRegular_92 rfl (lv_at hl 0 rfl) ?_
    refine lv_iload_n hx hb d_Ctx_learnRegular_93 rfl (lv_at hl 1 rfl) ?_
    have hC : [0, 1, 2, 3, 4, 5].map (fun i => (wCtx cI q0 q1 q2 q3 q4 q5 u3)[i]?) = (wCtx cI q0 q1 q2 q3 q4 q5 u3).map some := rfl
    obtain ⟨w9, hc, hf⟩ := bd_o hf
    refine rw_v (va_runV (As := [.int l1]) (rest := []) ⟨hx, hb, hml, hown, hw⟩ (c_Ctx_correctDown l D cI q0 q1 q2 q3 q4 q5 (dj_sub hd [0, 1, 2, 3, 4, 5] (by decide) rfl) l1 u3 w9 hc) (cwV 1 hw g_6 rfl rfl rfl (by decide +kernel) ⟨Nat.le_of_ble_eq_true rfl, Nat.le_of_ble_eq_true rfl⟩) (pre_V (P_sub hC hP) hK rfl rfl) rfl rfl hl.1 rfl (lv_room (Nat.le_of_ble_eq_true rfl)) d_Ctx_learnRegular_94 ⟨Nat.le_of_ble_eq_true rfl, Nat.le_of_ble_eq_true rfl⟩) hS hP (hD _) hC rfl rfl (fun H locs hP hS => ?_)
    obtain ⟨u10, e_u10, hf⟩ := tk_o hf
    have hP : va_P D cls (wCtx cI q0 q1 q2 q3 q4 q5 u10) H := by rw [e_u10]; exact hP
    refine lv_goto (tgt := 114) hx hb d_Ctx_learnRegular_97 (by decide) ?_
    exact rt_v (wCtx cI q0 q1 q2 q3 q4 q5) hx hb hr hlocks hS hP hf d_Ctx_learnRegular_114
  unfold f_Ctx_learnRegular at hf
  refine lv_aload_n hx hb d_Ctx_learnRegular_0 rfl (lv_at hl 0 rfl) ?_
  refine va_get (D := D) (ci := 2) (v := .ref q2) (C := R_Ctx) (T := F_Ctx) (N := 6) hx hb hw in_Ctx hown hK hP 0 rfl rfl 1 (by decide) (hw _ m_46) (fun _ h9 => h9) rfl d_Ctx_learnRegular_1 ?_
  refine lv_iload_n hx hb d_Ctx_learnRegular_4 rfl (lv_at hl 1 rfl) ?_
  refine lv_dup2_11 hx hb d_Ctx_learnRegular_5 rfl rfl ?_
  obtain ⟨h1, hf⟩ := gd_o hf
  refine va_iald hx hb hK hP 2 0 rfl rfl (ix_in h1) d_Ctx_learnRegular_6 ?_
  refine lv_iload_n hx hb d_Ctx_learnRegular_7 rfl (lv_at hl 2 rfl) ?_
  refine lv_iload_n hx hb d_Ctx_learnRegular_8 rfl (lv_at hl 3 rfl) ?_
  refine lv_imul hx hb d_Ctx_learnRegular_9 ?_
  refine lv_iadd hx hb d_Ctx_learnRegular_10 ?_
  obtain ⟨h2, hf⟩ := gd_o hf
  refine va_iast hx hb hK hP (hD _) hS 2 0 rfl rfl (ix_in h2) d_Ctx_learnRegular_11 (fun H locs hP _ hS => ?_)
  obtain ⟨u3, e_u3, hf⟩ := tk_o hf
  have hP : va_P D cls (wCtx cI q0 q1 q2 q3 q4 q5 u3) H := by rw [e_u3]; exact hP
  refine lv_aload_n hx hb d_Ctx_learnRegular_12 rfl (lv_at hl 0 rfl) ?_
  refine va_get (D := D) (ci := 2) (v := .ref q1) (C := R_Ctx) (T := F_Ctx) (N := 6) hx hb hw in_Ctx hown hK hP 0 rfl rfl 0 (by decide) (hw _ m_40) (fun _ h9 => h9) rfl d_Ctx_learnRegular_13 ?_
  refine lv_iload_n hx hb d_Ctx_learnRegular_16 rfl (lv_at hl 1 rfl) ?_
  refine lv_dup2_11 hx hb d_Ctx_learnRegular_17 rfl rfl ?_
  obtain ⟨h4, hf⟩ := gd_o hf
  refine va_iald hx hb hK hP 1 0 rfl rfl (ix_in h4) d_Ctx_learnRegular_18 ?_
  refine lv_iload_n hx hb d_Ctx_learnRegular_19 rfl (lv_at hl 2 rfl) ?_
  refine va_mabs hx hb (hml.trans hl.1.symm) hown (hw _ m_59) (hw _ m_35) (hw _ m_12) (hw _ m_36) (Nat.le_of_ble_eq_true rfl) (Nat.le_of_ble_eq_true rfl) (Nat.le_of_ble_eq_true rfl) (Nat.le_of_ble_eq_true rfl) d_Ctx_learnRegular_20 ?_
  refine lv_topi (fun x5 e_x5 => ?_)
  have hf := tk_e hf e_x5
  refine lv_iadd hx hb d_Ctx_learnRegular_23 ?_
  obtain ⟨h6, hf⟩ := gd_o hf
  refine va_iast hx hb hK hP (hD _) hS 1 0 rfl rfl (ix_in h6) d_Ctx_learnRegular_24 (fun H locs hP _ hS => ?_)
  obtain ⟨u7, e_u7, hf⟩ := tk_o hf
  have hP : va_P D cls (wCtx cI q0 q1 q2 q3 q4 q5 u7) H := by rw [e_u7]; exact hP
  refine lv_aload_n hx hb d_Ctx_learnRegular_25 rfl (lv_at hl 0 rfl) ?_
  refine va_get (D := D) (ci := 2) (v := .ref q4) (C := R_Ctx) (T := F_Ctx) (N := 6) hx hb hw in_Ctx hown hK hP 0 rfl rfl 3 (by decide) (hw _ m_39) (fun _ h9 => h9) rfl d_Ctx_learnRegular_26 ?_
  refine lv_iload_n hx hb d_Ctx_learnRegular_29 rfl (lv_at hl 1 rfl) ?_
  obtain ⟨h8, hf⟩ := gd_o hf
  refine va_iald hx hb hK hP 4 0 rfl rfl (ix_in h8) d_Ctx_learnRegular_30 ?_
  refine lv_bipush (v := 64) hx hb d_Ctx_learnRegular_31 (by decide) ?_
  refine lv_icmp_ne (tgt := 66) hx hb d_Ctx_learnRegular_33 (by decide) (fun hc => ?_) (fun hc => ?_)
  · have hf := bq_n hf hc
    exact j66 _ _ _ a1 u7 (lv_sub hl [0, 1] rfl) hP hS hf
  have hf := bq_t hf hc
  refine lv_aload_n hx hb d_Ctx_learnRegular_36 rfl (lv_at hl 0 rfl) ?_
  refine va_get (D := D) (ci := 2) (v := .ref q1) (C := R_Ctx) (T := F_Ctx) (N := 6) hx hb hw in_Ctx hown hK hP 0 rfl rfl 0 (by decide) (hw _ m_40) (fun _ h9 => h9) rfl d_Ctx_learnRegular_37 ?_
  refine lv_iload_n hx hb d_Ctx_learnRegular_40 rfl (lv_at hl 1 rfl) ?_
  refine lv_dup2_11 hx hb d_Ctx_learnRegular_41 rfl rfl ?_
  obtain ⟨h9, hf⟩ := gd_o hf
  refine va_iald hx hb hK hP 1 0 rfl rfl (ix_in h9) d_Ctx_learnRegular_42 ?_
  refine lv_iconst (v := 1) hx hb d_Ctx_learnRegular_43 (by decide) ?_
  refine lv_ishr hx hb d_Ctx_learnRegular_44 ?_
  obtain ⟨h10, hf⟩ := gd_o hf
  refine va_iast hx hb hK hP (hD _) hS 1 0 rfl rfl (ix_in h10) d_Ctx_learnRegular_45 (fun H locs hP _ hS => ?_)
  obtain ⟨u11, e_u11, hf⟩ := tk_o hf
  have hP : va_P D cls (wCtx cI q0 q1 q2 q3 q4 q5 u11) H := by rw [e_u11]; exact hP
  refine lv_aload_n hx hb d_Ctx_learnRegular_46 rfl (lv_at hl 0 rfl) ?_
  refine va_get (D := D) (ci := 2) (v := .ref q2) (C := R_Ctx) (T := F_Ctx) (N := 6) hx hb hw in_Ctx hown hK hP 0 rfl rfl 1 (by decide) (hw _ m_46) (fun _ h9 => h9) rfl d_Ctx_learnRegular_47 ?_
  refine lv_iload_n hx hb d_Ctx_learnRegular_50 rfl (lv_at hl 1 rfl) ?_
  refine lv_dup2_11 hx hb d_Ctx_learnRegular_51 rfl rfl ?_
  obtain ⟨h12, hf⟩ := gd_o hf
  refine va_iald hx hb hK hP 2 0 rfl rfl (ix_in h12) d_Ctx_learnRegular_52 ?_
  refine lv_iconst (v := 1) hx hb d_Ctx_learnRegular_53 (by decide) ?_
  refine lv_ishr hx hb d_Ctx_learnRegular_54 ?_
  obtain ⟨h13, hf⟩ := gd_o hf
  refine va_iast hx hb hK hP (hD _) hS 2 0 rfl rfl (ix_in h13) d_Ctx_learnRegular_55 (fun H locs hP _ hS => ?_)
  obtain ⟨u14, e_u14, hf⟩ := tk_o hf
  have hP : va_P D cls (wCtx cI q0 q1 q2 q3 q4 q5 u14) H := by rw [e_u14]; exact hP
  refine lv_aload_n hx hb d_Ctx_learnRegular_56 rfl (lv_at hl 0 rfl) ?_
  refine va_get (D := D) (ci := 2) (v := .ref q4) (C := R_Ctx) (T := F_Ctx) (N := 6) hx hb hw in_Ctx hown hK hP 0 rfl rfl 3 (by decide) (hw _ m_39) (fun _ h9 => h9) rfl d_Ctx_learnRegular_57 ?_
  refine lv_iload_n hx hb d_Ctx_learnRegular_60 rfl (lv_at hl 1 rfl) ?_
  refine lv_dup2_11 hx hb d_Ctx_learnRegular_61 rfl rfl ?_
  obtain ⟨h15, hf⟩ := gd_o hf
  refine va_iald hx hb hK hP 4 0 rfl rfl (ix_in h15) d_Ctx_learnRegular_62 ?_
  refine lv_iconst (v := 1) hx hb d_Ctx_learnRegular_63 (by decide) ?_
  refine lv_ishr hx hb d_Ctx_learnRegular_64 ?_
  obtain ⟨h16, hf⟩ := gd_o hf
  refine va_iast hx hb hK hP (hD _) hS 4 0 rfl rfl (ix_in h16) d_Ctx_learnRegular_65 (fun H locs hP _ hS => ?_)
  obtain ⟨u17, e_u17, hf⟩ := tk_o hf
  have hP : va_P D cls (wCtx cI q0 q1 q2 q3 q4 q5 u17) H := by rw [e_u17]; exact hP
  exact j66 _ _ _ a1 u17 (lv_sub hl [0, 1] rfl) hP hS hf
def J_Ctx_learnEnd_75 (l1 : Int32) (u : gU) : Option (gU) := gd (ix l1 367) (gd (ix l1 367) (tk (st2 u 4 (tc l1) ((u 4 (tc l1)) + 1)) fun u3 => some u3))
def J_Ctx_learnEnd_14 (l1 : Int32) (l3 : Int32) (u : gU) : Option (gU) := gd (ix l1 367) (gd (ix l1 367) (tk (st2 u 1 (tc l1) ((u 1 (tc l1)) + (((l3 + 1) - (l1 - 365)) / 2))) fun u3 => gd (ix l1 367) (bq ((u3 4 (tc l1)) = 64) (gd (ix l1 367) (gd (ix l1 367) (tk (st2 u3 1 (tc l1) ((u3 1 (tc l1)) >>> (1 &&& 31))) fun u7 => gd (ix l1 367) (gd (ix l1 367) (tk (st2 u7 4 (tc l1) ((u7 4 (tc l1)) >>> (1 &&& 31))) fun u10 => gd (ix l1 367) (gd (ix l1 367) (tk (st2 u10 5 (tc l1) ((u10 5 (tc l1)) >>> (1 &&& 31))) fun u13 => J_Ctx_learnEnd_75 l1 u13))))))) (J_Ctx_learnEnd_75 l1 u3))))
def f_Ctx_learnEnd (a1 : Int32) (a2 : Int32) (a3 : Int32) (u : gU) : Option (gU) := bq (0 ≤ a2) (J_Ctx_learnEnd_14 a1 a3 u) (gd (ix a1 367) (gd (ix a1 367) (tk (st2 u 5 (tc a1) ((u 5 (tc a1)) + 1)) fun u3 => J_Ctx_learnEnd_14 a1 a3 u3)))
set_option maxHeartbeats 4000000 in
set_option maxRecDepth 100000 in
theorem c_Ctx_learnEnd (l : Launch) (D : va_G) (cI : ClassId) (q0 : Nat) (q1 : Nat) (q2 : Nat) (q3 : Nat) (q4 : Nat) (q5 : Nat) (hd : dj [q0, q1, q2, q3, q4, q5]) (a1 : Int32) (a2 : Int32) (a3 : Int32) (u : gU) (v : gU) (hf : f_Ctx_learnEnd a1 a2 a3 u = some v) : Met l y_Ctx_learnEnd (.code y_Ctx_learnEnd b_Ctx_learnEnd 4 none :: TS) ({ frames := 0, cells := 0, slots := 0, locals := 0 }) (va_Pc [.ref q0, .int a1, .int a2, .int a3] (fun U => va_P D cls (wCtx cI q0 q1 q2 q3 q4 q5 u) U.heap ∧ va_K D cls [(cI, .int)] U)) (va_Qv (fun (_ : Unit) => True) (fun _ t => va_P D cls (wCtx cI q0 q1 q2 q3 q4 q5 v) t.heap) (ad [q0, q1, q2, q3, q4, q5])) 0 0 (ad [q0, q1, q2, q3, q4, q5]) := by
  refine ct_of (by decide +kernel) (Nat.le_of_ble_eq_true rfl) ?_
  intro p e s m below meth c ls hx hb hml hr hlocks hown hw hP hK hl
  have hS : va_S (ad [q0, q1, q2, q3, q4, q5]) s.heap s.heap [] := va_S.rf
  have hD : ∀ v, va_D (ad [q0, q1, q2, q3, q4, q5]) (wCtx cI q0 q1 q2 q3 q4 q5 v) := fun _ => dj_D rfl hd
  have hl : lv_has ls 4 [(0, .ref q0), (1, .int a1), (2, .int a2), (3, .int a3)] := hl
  have hP : va_P D cls (wCtx cI q0 q1 q2 q3 q4 q5 u) s.heap := hP
  have j75 : ∀ (ls : Array Slot) (H : Heap) (locs : List Loc) (l1 : Int32) (u : gU), lv_has ls 4 [(0, .ref q0), (1, .int l1)] → va_P D cls (wCtx cI q0 q1 q2 q3 q4 q5 u) H → va_S (ad [q0, q1, q2, q3, q4, q5]) s.heap H locs → J_Ctx_learnEnd_75 l1 u = some v → W p l e ({ frames := 0, cells := 0, slots := 0, locals := 0 }) s m [.ref q0, .int a1, .int a2, .int a3].toArray below meth c H locs 0 0 (MQ below (va_Qv (fun (_ : Unit) => True) (fun _ t => va_P D cls (wCtx cI q0 q1 q2 q3 q4 q5 v) t.heap) (ad [q0, q1, q2, q3, q4, q5])) [.ref q0, .int a1, .int a2, .int a3].toArray s 0 0 (ad [q0, q1, q2, q3, q4, q5])) (F0 m 75 ls []) := by
    intro ls H locs l1 u hl hP hS hf
    unfold J_Ctx_learnEnd_75 at hf
    refine lv_aload_n hx hb d_Ctx_learnEnd_75 rfl (lv_at hl 0 rfl) ?_
    refine va_get (D := D) (ci := 2) (v := .ref q4) (C := R_Ctx) (T := F_Ctx) (N := 6) hx hb hw in_Ctx hown hK hP 0 rfl rfl 3 (by decide) (hw _ m_39) (fun _ h9 => h9) rfl d_Ctx_learnEnd_76 ?_
    refine lv_iload_n hx hb d_Ctx_learnEnd_79 rfl (lv_at hl 1 rfl) ?_
    refine lv_dup2_11 hx hb d_Ctx_learnEnd_80 rfl rfl ?_
    obtain ⟨h1, hf⟩ := gd_o hf
    refine va_iald hx hb hK hP 4 0 rfl rfl (ix_in h1) d_Ctx_learnEnd_81 ?_
    refine lv_iconst (v := 1) hx hb d_Ctx_learnEnd_82 (by decide) ?_
    refine lv_iadd hx hb d_Ctx_learnEnd_83 ?_
    obtain ⟨h2, hf⟩ := gd_o hf
    refine va_iast hx hb hK hP (hD _) hS 4 0 rfl rfl (ix_in h2) d_Ctx_learnEnd_84 (fun H locs hP _ hS => ?_)
    obtain ⟨u3, e_u3, hf⟩ := tk_o hf
    have hP : va_P D cls (wCtx cI q0 q1 q2 q3 q4 q5 u3) H := by rw [e_u3]; exact hP
    exact rt_v (wCtx cI q0 q1 q2 q3 q4 q5) hx hb hr hlocks hS hP hf d_Ctx_learnEnd_85
  have j14 : ∀ (ls : Array Slot) (H : Heap) (locs : List Loc) (l1 : Int32) (l3 : Int32) (u : gU), lv_has ls 4 [(0, .ref q0), (1, .int l1), (3, .int l3)] → va_P D cls (wCtx cI q0 q1 q2 q3 q4 q5 u) H → va_S (ad [q0, q1, q2, q3, q4, q5]) s.heap H locs → J_Ctx_learnEnd_14 l1 l3 u = some v → W p l e ({ frames := 0, cells := 0, slots := 0, locals := 0 }) s m [.ref q0, .int a1, .int a2, .int a3].toArray below meth c H locs 0 0 (MQ below (va_Qv (fun (_ : Unit) => True) (fun _ t => va_P D cls (wCtx cI q0 q1 q2 q3 q4 q5 v) t.heap) (ad [q0, q1, q2, q3, q4, q5])) [.ref q0, .int a1, .int a2, .int a3].toArray s 0 0 (ad [q0, q1, q2, q3, q4, q5])) (F0 m 14 ls []) := by
    intro ls H locs l1 l3 u hl hP hS hf
    unfold J_Ctx_learnEnd_14 at hf
    refine lv_aload_n hx hb d_Ctx_learnEnd_14 rfl (lv_at hl 0 rfl) ?_
    refine va_get (D := D) (ci := 2) (v := .ref q1) (C := R_Ctx) (T := F_Ctx) (N := 6) hx hb hw in_Ctx hown hK hP 0 rfl rfl 0 (by decide) (hw _ m_40) (fun _ h9 => h9) rfl d_Ctx_learnEnd_15 ?_
    refine lv_iload_n hx hb d_Ctx_learnEnd_18 rfl (lv_at hl 1 rfl) ?_
    refine lv_dup2_11 hx hb d_Ctx_learnEnd_19 rfl rfl ?_
    obtain ⟨h1, hf⟩ := gd_o hf
    refine va_iald hx hb hK hP 1 0 rfl rfl (ix_in h1) d_Ctx_learnEnd_20 ?_
    refine lv_iload_n hx hb d_Ctx_learnEnd_21 rfl (lv_at hl 2 rfl) ?_
    refine lv_iconst (v := 1) hx hb d_Ctx_learnEnd_22 (by decide) ?_
    refine lv_iadd hx hb d_Ctx_learnEnd_23 ?_
    refine lv_iload_n hx hb d_Ctx_learnEnd_24 rfl (lv_at hl 1 rfl) ?_
    refine lv_sipush (v := 365) hx hb d_Ctx_learnEnd_25 (by decide) ?_
    refine lv_isub hx hb d_Ctx_learnEnd_28 ?_
    refine lv_isub hx hb d_Ctx_learnEnd_29 ?_
    refine lv_iconst (v := 2) hx hb d_Ctx_learnEnd_30 (by decide) ?_
    refine lv_idiv hx hb d_Ctx_learnEnd_31 (by decide) ?_
    refine lv_iadd hx hb d_Ctx_learnEnd_32 ?_
    obtain ⟨h2, hf⟩ := gd_o hf
    refine va_iast hx hb hK hP (hD _) hS 1 0 rfl rfl (ix_in h2) d_Ctx_learnEnd_33 (fun H locs hP _ hS => ?_)
    obtain ⟨u3, e_u3, hf⟩ := tk_o hf
    have hP : va_P D cls (wCtx cI q0 q1 q2 q3 q4 q5 u3) H := by rw [e_u3]; exact hP
    refine lv_aload_n hx hb d_Ctx_learnEnd_34 rfl (lv_at hl 0 rfl) ?_
    refine va_get (D := D) (ci := 2) (v := .ref q4) (C := R_Ctx) (T := F_Ctx) (N := 6) hx hb hw in_Ctx hown hK hP 0 rfl rfl 3 (by decide) (hw _ m_39) (fun _ h9 => h9) rfl d_Ctx_learnEnd_35 ?_
    refine lv_iload_n hx hb d_Ctx_learnEnd_38 rfl (lv_at hl 1 rfl) ?_
    obtain ⟨h4, hf⟩ := gd_o hf
    refine va_iald hx hb hK hP 4 0 rfl rfl (ix_in h4) d_Ctx_learnEnd_39 ?_
    refine lv_bipush (v := 64) hx hb d_Ctx_learnEnd_40 (by decide) ?_
    refine lv_icmp_ne (tgt := 75) hx hb d_Ctx_learnEnd_42 (by decide) (fun hc => ?_) (fun hc => ?_)
    · have hf := bq_n hf hc
      exact j75 _ _ _ l1 u3 (lv_sub hl [0, 1] rfl) hP hS hf
    have hf := bq_t hf hc
    refine lv_aload_n hx hb d_Ctx_learnEnd_45 rfl (lv_at hl 0 rfl) ?_
    refine va_get (D := D) (ci := 2) (v := .ref q1) (C := R_Ctx) (T := F_Ctx) (N := 6) hx hb hw in_Ctx hown hK hP 0 rfl rfl 0 (by decide) (hw _ m_40) (fun _ h9 => h9) rfl d_Ctx_learnEnd_46 ?_
    refine lv_iload_n hx hb d_Ctx_learnEnd_49 rfl (lv_at hl 1 rfl) ?_
    refine lv_dup2_11 hx hb d_Ctx_learnEnd_50 rfl rfl ?_
    obtain ⟨h5, hf⟩ := gd_o hf
    refine va_iald hx hb hK hP 1 0 rfl rfl (ix_in h5) d_Ctx_learnEnd_51 ?_
    refine lv_iconst (v := 1) hx hb d_Ctx_learnEnd_52 (by decide) ?_
    refine lv_ishr hx hb d_Ctx_learnEnd_53 ?_
    obtain ⟨h6, hf⟩ := gd_o hf
    refine va_iast hx hb hK hP (hD _) hS 1 0 rfl rfl (ix_in h6) d_Ctx_learnEnd_54 (fun H locs hP _ hS => ?_)
    obtain ⟨u7, e_u7, hf⟩ := tk_o hf
    have hP : va_P D cls (wCtx cI q0 q1 q2 q3 q4 q5 u7) H := by rw [e_u7]; exact hP
    refine lv_aload_n hx hb d_Ctx_learnEnd_55 rfl (lv_at hl 0 rfl) ?_
    refine va_get (D := D) (ci := 2) (v := .ref q4) (C := R_Ctx) (T := F_Ctx) (N := 6) hx hb hw in_Ctx hown hK hP 0 rfl rfl 3 (by decide) (hw _ m_39) (fun _ h9 => h9) rfl d_Ctx_learnEnd_56 ?_
    refine lv_iload_n hx hb d_Ctx_learnEnd_59 rfl (lv_at hl 1 rfl) ?_
    refine lv_dup2_11 hx hb d_Ctx_learnEnd_60 rfl rfl ?_
    obtain ⟨h8, hf⟩ := gd_o hf
    refine va_iald hx hb hK hP 4 0 rfl rfl (ix_in h8) d_Ctx_learnEnd_61 ?_
    refine lv_iconst (v := 1) hx hb d_Ctx_learnEnd_62 (by decide) ?_
    refine lv_ishr hx hb d_Ctx_learnEnd_63 ?_
    obtain ⟨h9, hf⟩ := gd_o hf
    refine va_iast hx hb hK hP (hD _) hS 4 0 rfl rfl (ix_in h9) d_Ctx_learnEnd_64 (fun H locs hP _ hS => ?_)
    obtain ⟨u10, e_u10, hf⟩ := tk_o hf
    have hP : va_P D cls (wCtx cI q0 q1 q2 q3 q4 q5 u10) H := by rw [e_u10]; exact hP
    refine lv_aload_n hx hb d_Ctx_learnEnd_65 rfl (lv_at hl 0 rfl) ?_
    refine va_get (D := D) (ci := 2) (v := .ref q5) (C := R_Ctx) (T := F_Ctx) (N := 6) hx hb hw in_Ctx hown hK hP 0 rfl rfl 4 (by decide) (hw _ m_47) (fun _ h9 => h9) rfl d_Ctx_learnEnd_66 ?_
    refine lv_iload_n hx hb d_Ctx_learnEnd_69 rfl (lv_at hl 1 rfl) ?_
    refine lv_dup2_11 hx hb d_Ctx_learnEnd_70 rfl rfl ?_
    obtain ⟨h11, hf⟩ := gd_o hf
    refine va_iald hx hb hK hP 5 0 rfl rfl (ix_in h11) d_Ctx_learnEnd_71 ?_
    refine lv_iconst (v := 1) hx hb d_Ctx_learnEnd_72 (by decide) ?_
    refine lv_ishr hx hb d_Ctx_learnEnd_73 ?_
    obtain ⟨h12, hf⟩ := gd_o hf
    refine va_iast hx hb hK hP (hD _) hS 5 0 rfl rfl (ix_in h12) d_Ctx_learnEnd_74 (fun H locs hP _ hS => ?_)
    obtain ⟨u13, e_u13, hf⟩ := tk_o hf
    have hP : va_P D cls (wCtx cI q0 q1 q2 q3 q4 q5 u13) H := by rw [e_u13]; exact hP
    exact j75 _ _ _ l1 u13 (lv_sub hl [0, 1] rfl) hP hS hf
  unfold f_Ctx_learnEnd at hf
  refine lv_iload_n hx hb d_Ctx_learnEnd_0 rfl (lv_at hl 2 rfl) ?_
  refine lv_if_ge (tgt := 14) hx hb d_Ctx_learnEnd_1 (by decide) (fun hc => ?_) (fun hc => ?_)
  · have hf := bq_t hf hc
    exact j14 _ _ _ a1 a3 u (lv_sub hl [0, 1, 3] rfl) hP hS hf
  have hf := bq_n hf hc
  refine lv_aload_n hx hb d_Ctx_learnEnd_4 rfl (lv_at hl 0 rfl) ?_
  refine va_get (D := D) (ci := 2) (v := .ref q5) (C := R_Ctx) (T := F_Ctx) (N := 6) hx hb hw in_Ctx hown hK hP 0 rfl rfl 4 (by decide) (hw _ m_47) (fun _ h9 => h9) rfl d_Ctx_learnEnd_5 ?_
  refine lv_iload_n hx hb d_Ctx_learnEnd_8 rfl (lv_at hl 1 rfl) ?_
  refine lv_dup2_11 hx hb d_Ctx_learnEnd_9 rfl rfl ?_
  obtain ⟨h1, hf⟩ := gd_o hf
  refine va_iald hx hb hK hP 5 0 rfl rfl (ix_in h1) d_Ctx_learnEnd_10 ?_
  refine lv_iconst (v := 1) hx hb d_Ctx_learnEnd_11 (by decide) ?_
  refine lv_iadd hx hb d_Ctx_learnEnd_12 ?_
  obtain ⟨h2, hf⟩ := gd_o hf
  refine va_iast hx hb hK hP (hD _) hS 5 0 rfl rfl (ix_in h2) d_Ctx_learnEnd_13 (fun H locs hP _ hS => ?_)
  obtain ⟨u3, e_u3, hf⟩ := tk_o hf
  have hP : va_P D cls (wCtx cI q0 q1 q2 q3 q4 q5 u3) H := by rw [e_u3]; exact hP
  exact j14 _ _ _ a1 a3 u3 (lv_sub hl [0, 1, 3] rfl) hP hS hf
def f_Ctx_restart (a1 : Int32) (u : gU) : Option (gU) := tk (if 2 < ((a1 + 32) / 64) then ((a1 + 32) / 64) else 2) fun x1 => bd (f_Arrs_fill_102 367 x1 (sb [1] u)) fun w2 => tk (mg [1] 0 u w2) fun u3 => bd (f_Arrs_fill_102 367 0 (sb [2] u3)) fun w4 => tk (mg [2] 0 u3 w4) fun u5 => bd (f_Arrs_fill_102 367 0 (sb [3] u5)) fun w6 => tk (mg [3] 0 u5 w6) fun u7 => bd (f_Arrs_fill_102 367 1 (sb [4] u7)) fun w8 => tk (mg [4] 0 u7 w8) fun u9 => bd (f_Arrs_fill_102 367 0 (sb [5] u9)) fun w10 => tk (mg [5] 0 u9 w10) fun u11 => tk (st2 u11 0 0 0) fun u12 => some u12
set_option maxHeartbeats 4000000 in
set_option maxRecDepth 100000 in
theorem c_Ctx_restart (l : Launch) (D : va_G) (cI : ClassId) (q0 : Nat) (q1 : Nat) (q2 : Nat) (q3 : Nat) (q4 : Nat) (q5 : Nat) (hd : dj [q0, q1, q2, q3, q4, q5]) (a1 : Int32) (u : gU) (v : gU) (hf : f_Ctx_restart a1 u = some v) : Met l y_Ctx_restart (.code y_Ctx_restart b_Ctx_restart 2 none :: TS) ({ frames := 1, cells := 0, slots := 0, locals := 24 }) (va_Pc [.ref q0, .int a1] (fun U => va_P D cls (wCtx cI q0 q1 q2 q3 q4 q5 u) U.heap ∧ va_K D cls [(cI, .int)] U)) (va_Qv (fun (_ : Unit) => True) (fun _ t => va_P D cls (wCtx cI q0 q1 q2 q3 q4 q5 v) t.heap) (ad [q0, q1, q2, q3, q4, q5])) 0 0 (ad [q0, q1, q2, q3, q4, q5]) := by
  refine ct_of (by decide +kernel) (Nat.le_of_ble_eq_true rfl) ?_
  intro p e s m below meth c ls hx hb hml hr hlocks hown hw hP hK hl
  have hS : va_S (ad [q0, q1, q2, q3, q4, q5]) s.heap s.heap [] := va_S.rf
  have hD : ∀ v, va_D (ad [q0, q1, q2, q3, q4, q5]) (wCtx cI q0 q1 q2 q3 q4 q5 v) := fun _ => dj_D rfl hd
  have hl : lv_has ls 2 [(0, .ref q0), (1, .int a1)] := hl
  have hP : va_P D cls (wCtx cI q0 q1 q2 q3 q4 q5 u) s.heap := hP
  unfold f_Ctx_restart at hf
  refine lv_aload_n hx hb d_Ctx_restart_0 rfl (lv_at hl 0 rfl) ?_
  refine va_get (D := D) (ci := 2) (v := .ref q1) (C := R_Ctx) (T := F_Ctx) (N := 6) hx hb hw in_Ctx hown hK hP 0 rfl rfl 0 (by decide) (hw _ m_40) (fun _ h9 => h9) rfl d_Ctx_restart_1 ?_
  refine lv_iconst (v := 2) hx hb d_Ctx_restart_4 (by decide) ?_
  refine lv_iload_n hx hb d_Ctx_restart_5 rfl (lv_at hl 1 rfl) ?_
  refine lv_bipush (v := 32) hx hb d_Ctx_restart_6 (by decide) ?_
  refine lv_iadd hx hb d_Ctx_restart_8 ?_
  refine lv_bipush (v := 64) hx hb d_Ctx_restart_9 (by decide) ?_
  refine lv_idiv hx hb d_Ctx_restart_11 (by decide) ?_
  refine va_mmax hx hb (hml.trans hl.1.symm) hown (hw _ m_48) (hw _ m_11) (hw _ m_12) (hw _ m_13) (Nat.le_of_ble_eq_true rfl) (Nat.le_of_ble_eq_true rfl) (Nat.le_of_ble_eq_true rfl) (Nat.le_of_ble_eq_true rfl) d_Ctx_restart_12 ?_
  refine lv_topi (fun x1 e_x1 => ?_)
  have hf := tk_e hf e_x1
  have hC : [1].map (fun i => (wCtx cI q0 q1 q2 q3 q4 q5 u)[i]?) = (wArrN cI 367 q1 (sb [1] u)).map some := rfl
  obtain ⟨w2, hc, hf⟩ := bd_o hf
  refine rw_v (va_runS (As := [.ref q1, .int x1]) (rest := []) ⟨hx, hb, hml, hown, hw⟩ (c_Arrs_fill_102 l D cI 367 q1 (dj_sub hd [1] (by decide) rfl) x1 (sb [1] u) w2 hc) (va_cwS 2 hw g_7 rfl rfl rfl (by decide +kernel) ⟨Nat.le_of_ble_eq_true rfl, Nat.le_of_ble_eq_true rfl⟩) (pre_S (P_sub hC hP) hK) rfl rfl hl.1 rfl (lv_room (Nat.le_of_ble_eq_true rfl)) d_Ctx_restart_15 ⟨Nat.le_of_ble_eq_true rfl, Nat.le_of_ble_eq_true rfl⟩) hS hP (hD _) hC rfl rfl (fun H locs hP hS => ?_)
  obtain ⟨u3, e_u3, hf⟩ := tk_o hf
  have hP : va_P D cls (wCtx cI q0 q1 q2 q3 q4 q5 u3) H := by rw [e_u3]; exact hP
  refine lv_aload_n hx hb d_Ctx_restart_18 rfl (lv_at hl 0 rfl) ?_
  refine va_get (D := D) (ci := 2) (v := .ref q2) (C := R_Ctx) (T := F_Ctx) (N := 6) hx hb hw in_Ctx hown hK hP 0 rfl rfl 1 (by decide) (hw _ m_46) (fun _ h9 => h9) rfl d_Ctx_restart_19 ?_
  refine lv_iconst (v := 0) hx hb d_Ctx_restart_22 (by decide) ?_
  have hC : [2].map (fun i => (wCtx cI q0 q1 q2 q3 q4 q5 u3)[i]?) = (wArrN cI 367 q2 (sb [2] u3)).map some := rfl
  obtain ⟨w4, hc, hf⟩ := bd_o hf
  refine rw_v (va_runS (As := [.ref q2, .int 0]) (rest := []) ⟨hx, hb, hml, hown, hw⟩ (c_Arrs_fill_102 l D cI 367 q2 (dj_sub hd [2] (by decide) rfl) 0 (sb [2] u3) w4 hc) (va_cwS 2 hw g_7 rfl rfl rfl (by decide +kernel) ⟨Nat.le_of_ble_eq_true rfl, Nat.le_of_ble_eq_true rfl⟩) (pre_S (P_sub hC hP) hK) rfl rfl hl.1 rfl (lv_room (Nat.le_of_ble_eq_true rfl)) d_Ctx_restart_23 ⟨Nat.le_of_ble_eq_true rfl, Nat.le_of_ble_eq_true rfl⟩) hS hP (hD _) hC rfl rfl (fun H locs hP hS => ?_)
  obtain ⟨u5, e_u5, hf⟩ := tk_o hf
  have hP : va_P D cls (wCtx cI q0 q1 q2 q3 q4 q5 u5) H := by rw [e_u5]; exact hP
  refine lv_aload_n hx hb d_Ctx_restart_26 rfl (lv_at hl 0 rfl) ?_
  refine va_get (D := D) (ci := 2) (v := .ref q3) (C := R_Ctx) (T := F_Ctx) (N := 6) hx hb hw in_Ctx hown hK hP 0 rfl rfl 2 (by decide) (hw _ m_49) (fun _ h9 => h9) rfl d_Ctx_restart_27 ?_
  refine lv_iconst (v := 0) hx hb d_Ctx_restart_30 (by decide) ?_
  have hC : [3].map (fun i => (wCtx cI q0 q1 q2 q3 q4 q5 u5)[i]?) = (wArrN cI 367 q3 (sb [3] u5)).map some := rfl
  obtain ⟨w6, hc, hf⟩ := bd_o hf
  refine rw_v (va_runS (As := [.ref q3, .int 0]) (rest := []) ⟨hx, hb, hml, hown, hw⟩ (c_Arrs_fill_102 l D cI 367 q3 (dj_sub hd [3] (by decide) rfl) 0 (sb [3] u5) w6 hc) (va_cwS 2 hw g_7 rfl rfl rfl (by decide +kernel) ⟨Nat.le_of_ble_eq_true rfl, Nat.le_of_ble_eq_true rfl⟩) (pre_S (P_sub hC hP) hK) rfl rfl hl.1 rfl (lv_room (Nat.le_of_ble_eq_true rfl)) d_Ctx_restart_31 ⟨Nat.le_of_ble_eq_true rfl, Nat.le_of_ble_eq_true rfl⟩) hS hP (hD _) hC rfl rfl (fun H locs hP hS => ?_)
  obtain ⟨u7, e_u7, hf⟩ := tk_o hf
  have hP : va_P D cls (wCtx cI q0 q1 q2 q3 q4 q5 u7) H := by rw [e_u7]; exact hP
  refine lv_aload_n hx hb d_Ctx_restart_34 rfl (lv_at hl 0 rfl) ?_
  refine va_get (D := D) (ci := 2) (v := .ref q4) (C := R_Ctx) (T := F_Ctx) (N := 6) hx hb hw in_Ctx hown hK hP 0 rfl rfl 3 (by decide) (hw _ m_39) (fun _ h9 => h9) rfl d_Ctx_restart_35 ?_
  refine lv_iconst (v := 1) hx hb d_Ctx_restart_38 (by decide) ?_
  have hC : [4].map (fun i => (wCtx cI q0 q1 q2 q3 q4 q5 u7)[i]?) = (wArrN cI 367 q4 (sb [4] u7)).map some := rfl
  obtain ⟨w8, hc, hf⟩ := bd_o hf
  refine rw_v (va_runS (As := [.ref q4, .int 1]) (rest := []) ⟨hx, hb, hml, hown, hw⟩ (c_Arrs_fill_102 l D cI 367 q4 (dj_sub hd [4] (by decide) rfl) 1 (sb [4] u7) w8 hc) (va_cwS 2 hw g_7 rfl rfl rfl (by decide +kernel) ⟨Nat.le_of_ble_eq_true rfl, Nat.le_of_ble_eq_true rfl⟩) (pre_S (P_sub hC hP) hK) rfl rfl hl.1 rfl (lv_room (Nat.le_of_ble_eq_true rfl)) d_Ctx_restart_39 ⟨Nat.le_of_ble_eq_true rfl, Nat.le_of_ble_eq_true rfl⟩) hS hP (hD _) hC rfl rfl (fun H locs hP hS => ?_)
  obtain ⟨u9, e_u9, hf⟩ := tk_o hf
  have hP : va_P D cls (wCtx cI q0 q1 q2 q3 q4 q5 u9) H := by rw [e_u9]; exact hP
  refine lv_aload_n hx hb d_Ctx_restart_42 rfl (lv_at hl 0 rfl) ?_
  refine va_get (D := D) (ci := 2) (v := .ref q5) (C := R_Ctx) (T := F_Ctx) (N := 6) hx hb hw in_Ctx hown hK hP 0 rfl rfl 4 (by decide) (hw _ m_47) (fun _ h9 => h9) rfl d_Ctx_restart_43 ?_
  refine lv_iconst (v := 0) hx hb d_Ctx_restart_46 (by decide) ?_
  have hC : [5].map (fun i => (wCtx cI q0 q1 q2 q3 q4 q5 u9)[i]?) = (wArrN cI 367 q5 (sb [5] u9)).map some := rfl
  obtain ⟨w10, hc, hf⟩ := bd_o hf
  refine rw_v (va_runS (As := [.ref q5, .int 0]) (rest := []) ⟨hx, hb, hml, hown, hw⟩ (c_Arrs_fill_102 l D cI 367 q5 (dj_sub hd [5] (by decide) rfl) 0 (sb [5] u9) w10 hc) (va_cwS 2 hw g_7 rfl rfl rfl (by decide +kernel) ⟨Nat.le_of_ble_eq_true rfl, Nat.le_of_ble_eq_true rfl⟩) (pre_S (P_sub hC hP) hK) rfl rfl hl.1 rfl (lv_room (Nat.le_of_ble_eq_true rfl)) d_Ctx_restart_47 ⟨Nat.le_of_ble_eq_true rfl, Nat.le_of_ble_eq_true rfl⟩) hS hP (hD _) hC rfl rfl (fun H locs hP hS => ?_)
  obtain ⟨u11, e_u11, hf⟩ := tk_o hf
  have hP : va_P D cls (wCtx cI q0 q1 q2 q3 q4 q5 u11) H := by rw [e_u11]; exact hP
  refine lv_aload_n hx hb d_Ctx_restart_50 rfl (lv_at hl 0 rfl) ?_
  refine lv_iconst (v := 0) hx hb d_Ctx_restart_51 (by decide) ?_
  refine va_put (D := D) (ci := 2) (v := .int 0) (ty := .int) (C := R_Ctx) (T := F_Ctx) (N := 6) hx hb hw in_Ctx t_Ctx t_Ctx_ok n_Ctx hown hK hP (hD _) hS 0 rfl rfl 5 (by decide) (hw _ m_38) (fun _ h9 => h9) rfl (by decide +kernel) rfl rfl (Nat.le_of_ble_eq_true rfl) d_Ctx_restart_52 (fun H locs hP _ hS => ?_)
  obtain ⟨u12, e_u12, hf⟩ := tk_o hf
  have hP : va_P D cls (wCtx cI q0 q1 q2 q3 q4 q5 u12) H := by rw [e_u12]; exact hP
  exact rt_v (wCtx cI q0 q1 q2 q3 q4 q5) hx hb hr hlocks hS hP hf d_Ctx_restart_55
def f_Ctx_takeOver (u : gU) : Option (gU) := tk (st1 u 1 (va_cpy (u 7) (u 1) 0 0 (tc 367))) fun u1 => tk (st1 u1 2 (va_cpy (u1 8) (u1 2) 0 0 (tc 367))) fun u2 => tk (st1 u2 3 (va_cpy (u2 9) (u2 3) 0 0 (tc 367))) fun u3 => tk (st1 u3 4 (va_cpy (u3 10) (u3 4) 0 0 (tc 367))) fun u4 => tk (st1 u4 5 (va_cpy (u4 11) (u4 5) 0 0 (tc 367))) fun u5 => tk (st2 u5 0 0 (u5 6 0)) fun u6 => some u6
set_option maxHeartbeats 4000000 in
set_option maxRecDepth 100000 in
theorem c_Ctx_takeOver (l : Launch) (D : va_G) (cI : ClassId) (q0 : Nat) (q1 : Nat) (q2 : Nat) (q3 : Nat) (q4 : Nat) (q5 : Nat) (q6 : Nat) (q7 : Nat) (q8 : Nat) (q9 : Nat) (q10 : Nat) (q11 : Nat) (hd : dj [q0, q1, q2, q3, q4, q5, q6, q7, q8, q9, q10, q11]) (u : gU) (v : gU) (hf : f_Ctx_takeOver u = some v) : Met l y_Ctx_takeOver (.code y_Ctx_takeOver b_Ctx_takeOver 2 none :: TS) ({ frames := 1, cells := 0, slots := 0, locals := 40 }) (va_Pc [.ref q0, .ref q6] (fun U => va_P D cls (wCtxCtx cI q0 q1 q2 q3 q4 q5 q6 q7 q8 q9 q10 q11 u) U.heap ∧ va_K D cls [(cI, .int)] U)) (va_Qv (fun (_ : Unit) => True) (fun _ t => va_P D cls (wCtxCtx cI q0 q1 q2 q3 q4 q5 q6 q7 q8 q9 q10 q11 v) t.heap) (ad [q0, q1, q2, q3, q4, q5, q6, q7, q8, q9, q10, q11])) 0 0 (ad [q0, q1, q2, q3, q4, q5, q6, q7, q8, q9, q10, q11]) := by
  refine ct_of (by decide +kernel) (Nat.le_of_ble_eq_true rfl) ?_
  intro p e s m below meth c ls hx hb hml hr hlocks hown hw hP hK hl
  have hS : va_S (ad [q0, q1, q2, q3, q4, q5, q6, q7, q8, q9, q10, q11]) s.heap s.heap [] := va_S.rf
  have hD : ∀ v, va_D (ad [q0, q1, q2, q3, q4, q5, q6, q7, q8, q9, q10, q11]) (wCtxCtx cI q0 q1 q2 q3 q4 q5 q6 q7 q8 q9 q10 q11 v) := fun _ => dj_D rfl hd
  have hl : lv_has ls 2 [(0, .ref q0), (1, .ref q6)] := hl
  have hP : va_P D cls (wCtxCtx cI q0 q1 q2 q3 q4 q5 q6 q7 q8 q9 q10 q11 u) s.heap := hP
  unfold f_Ctx_takeOver at hf
  refine lv_aload_n hx hb d_Ctx_takeOver_0 rfl (lv_at hl 1 rfl) ?_
  refine va_get (D := D) (ci := 2) (v := .ref q7) (C := R_Ctx) (T := F_Ctx) (N := 6) hx hb hw in_Ctx hown hK hP 6 rfl rfl 0 (by decide) (hw _ m_40) (fun _ h9 => h9) rfl d_Ctx_takeOver_1 ?_
  refine lv_iconst (v := 0) hx hb d_Ctx_takeOver_4 (by decide) ?_
  refine lv_aload_n hx hb d_Ctx_takeOver_5 rfl (lv_at hl 0 rfl) ?_
  refine va_get (D := D) (ci := 2) (v := .ref q1) (C := R_Ctx) (T := F_Ctx) (N := 6) hx hb hw in_Ctx hown hK hP 0 rfl rfl 0 (by decide) (hw _ m_40) (fun _ h9 => h9) rfl d_Ctx_takeOver_6 ?_
  refine lv_iconst (v := 0) hx hb d_Ctx_takeOver_9 (by decide) ?_
  refine lv_sipush (v := 367) hx hb d_Ctx_takeOver_10 (by decide) ?_
  refine va_copyi (ty := .int) hx hb (hml.trans hl.1.symm) hown (hw _ m_64) (hw _ m_65) (hw _ m_66) (hw _ m_67) hK hP (hD _) hS 7 1 0 0 rfl rfl rfl rfl rfl (by decide) (by decide) (by decide) (by decide) (by decide) (fun _ _ => rfl) (Nat.le_of_ble_eq_true rfl) (by decide) d_Ctx_takeOver_13 (fun H locs hP _ hS => ?_)
  obtain ⟨u1, e_u1, hf⟩ := tk_o hf
  have hP : va_P D cls (wCtxCtx cI q0 q1 q2 q3 q4 q5 q6 q7 q8 q9 q10 q11 u1) H := by rw [e_u1]; exact hP
  refine lv_aload_n hx hb d_Ctx_takeOver_16 rfl (lv_at hl 1 rfl) ?_
  refine va_get (D := D) (ci := 2) (v := .ref q8) (C := R_Ctx) (T := F_Ctx) (N := 6) hx hb hw in_Ctx hown hK hP 6 rfl rfl 1 (by decide) (hw _ m_46) (fun _ h9 => h9) rfl d_Ctx_takeOver_17 ?_
  refine lv_iconst (v := 0) hx hb d_Ctx_takeOver_20 (by decide) ?_
  refine lv_aload_n hx hb d_Ctx_takeOver_21 rfl (lv_at hl 0 rfl) ?_
  refine va_get (D := D) (ci := 2) (v := .ref q2) (C := R_Ctx) (T := F_Ctx) (N := 6) hx hb hw in_Ctx hown hK hP 0 rfl rfl 1 (by decide) (hw _ m_46) (fun _ h9 => h9) rfl d_Ctx_takeOver_22 ?_
  refine lv_iconst (v := 0) hx hb d_Ctx_takeOver_25 (by decide) ?_
  refine lv_sipush (v := 367) hx hb d_Ctx_takeOver_26 (by decide) ?_
  refine va_copyi (ty := .int) hx hb (hml.trans hl.1.symm) hown (hw _ m_64) (hw _ m_65) (hw _ m_66) (hw _ m_67) hK hP (hD _) hS 8 2 0 0 rfl rfl rfl rfl rfl (by decide) (by decide) (by decide) (by decide) (by decide) (fun _ _ => rfl) (Nat.le_of_ble_eq_true rfl) (by decide) d_Ctx_takeOver_29 (fun H locs hP _ hS => ?_)
  obtain ⟨u2, e_u2, hf⟩ := tk_o hf
  have hP : va_P D cls (wCtxCtx cI q0 q1 q2 q3 q4 q5 q6 q7 q8 q9 q10 q11 u2) H := by rw [e_u2]; exact hP
  refine lv_aload_n hx hb d_Ctx_takeOver_32 rfl (lv_at hl 1 rfl) ?_
  refine va_get (D := D) (ci := 2) (v := .ref q9) (C := R_Ctx) (T := F_Ctx) (N := 6) hx hb hw in_Ctx hown hK hP 6 rfl rfl 2 (by decide) (hw _ m_49) (fun _ h9 => h9) rfl d_Ctx_takeOver_33 ?_
  refine lv_iconst (v := 0) hx hb d_Ctx_takeOver_36 (by decide) ?_
  refine lv_aload_n hx hb d_Ctx_takeOver_37 rfl (lv_at hl 0 rfl) ?_
  refine va_get (D := D) (ci := 2) (v := .ref q3) (C := R_Ctx) (T := F_Ctx) (N := 6) hx hb hw in_Ctx hown hK hP 0 rfl rfl 2 (by decide) (hw _ m_49) (fun _ h9 => h9) rfl d_Ctx_takeOver_38 ?_
  refine lv_iconst (v := 0) hx hb d_Ctx_takeOver_41 (by decide) ?_
  refine lv_sipush (v := 367) hx hb d_Ctx_takeOver_42 (by decide) ?_
  refine va_copyi (ty := .int) hx hb (hml.trans hl.1.symm) hown (hw _ m_64) (hw _ m_65) (hw _ m_66) (hw _ m_67) hK hP (hD _) hS 9 3 0 0 rfl rfl rfl rfl rfl (by decide) (by decide) (by decide) (by decide) (by decide) (fun _ _ => rfl) (Nat.le_of_ble_eq_true rfl) (by decide) d_Ctx_takeOver_45 (fun H locs hP _ hS => ?_)
  obtain ⟨u3, e_u3, hf⟩ := tk_o hf
  have hP : va_P D cls (wCtxCtx cI q0 q1 q2 q3 q4 q5 q6 q7 q8 q9 q10 q11 u3) H := by rw [e_u3]; exact hP
  refine lv_aload_n hx hb d_Ctx_takeOver_48 rfl (lv_at hl 1 rfl) ?_
  refine va_get (D := D) (ci := 2) (v := .ref q10) (C := R_Ctx) (T := F_Ctx) (N := 6) hx hb hw in_Ctx hown hK hP 6 rfl rfl 3 (by decide) (hw _ m_39) (fun _ h9 => h9) rfl d_Ctx_takeOver_49 ?_
  refine lv_iconst (v := 0) hx hb d_Ctx_takeOver_52 (by decide) ?_
  refine lv_aload_n hx hb d_Ctx_takeOver_53 rfl (lv_at hl 0 rfl) ?_
  refine va_get (D := D) (ci := 2) (v := .ref q4) (C := R_Ctx) (T := F_Ctx) (N := 6) hx hb hw in_Ctx hown hK hP 0 rfl rfl 3 (by decide) (hw _ m_39) (fun _ h9 => h9) rfl d_Ctx_takeOver_54 ?_
  refine lv_iconst (v := 0) hx hb d_Ctx_takeOver_57 (by decide) ?_
  refine lv_sipush (v := 367) hx hb d_Ctx_takeOver_58 (by decide) ?_
  refine va_copyi (ty := .int) hx hb (hml.trans hl.1.symm) hown (hw _ m_64) (hw _ m_65) (hw _ m_66) (hw _ m_67) hK hP (hD _) hS 10 4 0 0 rfl rfl rfl rfl rfl (by decide) (by decide) (by decide) (by decide) (by decide) (fun _ _ => rfl) (Nat.le_of_ble_eq_true rfl) (by decide) d_Ctx_takeOver_61 (fun H locs hP _ hS => ?_)
  obtain ⟨u4, e_u4, hf⟩ := tk_o hf
  have hP : va_P D cls (wCtxCtx cI q0 q1 q2 q3 q4 q5 q6 q7 q8 q9 q10 q11 u4) H := by rw [e_u4]; exact hP
  refine lv_aload_n hx hb d_Ctx_takeOver_64 rfl (lv_at hl 1 rfl) ?_
  refine va_get (D := D) (ci := 2) (v := .ref q11) (C := R_Ctx) (T := F_Ctx) (N := 6) hx hb hw in_Ctx hown hK hP 6 rfl rfl 4 (by decide) (hw _ m_47) (fun _ h9 => h9) rfl d_Ctx_takeOver_65 ?_
  refine lv_iconst (v := 0) hx hb d_Ctx_takeOver_68 (by decide) ?_
  refine lv_aload_n hx hb d_Ctx_takeOver_69 rfl (lv_at hl 0 rfl) ?_
  refine va_get (D := D) (ci := 2) (v := .ref q5) (C := R_Ctx) (T := F_Ctx) (N := 6) hx hb hw in_Ctx hown hK hP 0 rfl rfl 4 (by decide) (hw _ m_47) (fun _ h9 => h9) rfl d_Ctx_takeOver_70 ?_
  refine lv_iconst (v := 0) hx hb d_Ctx_takeOver_73 (by decide) ?_
  refine lv_sipush (v := 367) hx hb d_Ctx_takeOver_74 (by decide) ?_
  refine va_copyi (ty := .int) hx hb (hml.trans hl.1.symm) hown (hw _ m_64) (hw _ m_65) (hw _ m_66) (hw _ m_67) hK hP (hD _) hS 11 5 0 0 rfl rfl rfl rfl rfl (by decide) (by decide) (by decide) (by decide) (by decide) (fun _ _ => rfl) (Nat.le_of_ble_eq_true rfl) (by decide) d_Ctx_takeOver_77 (fun H locs hP _ hS => ?_)
  obtain ⟨u5, e_u5, hf⟩ := tk_o hf
  have hP : va_P D cls (wCtxCtx cI q0 q1 q2 q3 q4 q5 q6 q7 q8 q9 q10 q11 u5) H := by rw [e_u5]; exact hP
  refine lv_aload_n hx hb d_Ctx_takeOver_80 rfl (lv_at hl 0 rfl) ?_
  refine lv_aload_n hx hb d_Ctx_takeOver_81 rfl (lv_at hl 1 rfl) ?_
  refine va_get (D := D) (ci := 2) (v := .int (u5 6 0)) (C := R_Ctx) (T := F_Ctx) (N := 6) hx hb hw in_Ctx hown hK hP 6 rfl rfl 5 (by decide) (hw _ m_38) (fun _ h9 => h9) rfl d_Ctx_takeOver_82 ?_
  refine va_put (D := D) (ci := 2) (v := .int (u5 6 0)) (ty := .int) (C := R_Ctx) (T := F_Ctx) (N := 6) hx hb hw in_Ctx t_Ctx t_Ctx_ok n_Ctx hown hK hP (hD _) hS 0 rfl rfl 5 (by decide) (hw _ m_38) (fun _ h9 => h9) rfl (by decide +kernel) rfl rfl (Nat.le_of_ble_eq_true rfl) d_Ctx_takeOver_85 (fun H locs hP _ hS => ?_)
  obtain ⟨u6, e_u6, hf⟩ := tk_o hf
  have hP : va_P D cls (wCtxCtx cI q0 q1 q2 q3 q4 q5 q6 q7 q8 q9 q10 q11 u6) H := by rw [e_u6]; exact hP
  exact rt_v (wCtxCtx cI q0 q1 q2 q3 q4 q5 q6 q7 q8 q9 q10 q11) hx hb hr hlocks hS hP hf d_Ctx_takeOver_88
end
section
def f_Wri_restart (u : gU) : Option (gU) := tk (st2 u 0 0 0) fun u1 => tk (st2 u1 0 1 0) fun u2 => some u2
set_option maxHeartbeats 4000000 in
set_option maxRecDepth 100000 in
theorem c_Wri_restart (l : Launch) (D : va_G) (cI : ClassId) (q0 : Nat) (q1 : Nat) (hd : dj [q0, q1]) (u : gU) (v : gU) (hf : f_Wri_restart u = some v) : Met l y_Wri_restart (.code y_Wri_restart b_Wri_restart 1 none :: TS) ({ frames := 0, cells := 0, slots := 0, locals := 0 }) (va_Pc [.ref q0] (fun U => va_P D cls (wWri cI q0 q1 u) U.heap ∧ va_K D cls [(cI, .int)] U)) (va_Qv (fun (_ : Unit) => True) (fun _ t => va_P D cls (wWri cI q0 q1 v) t.heap) (ad [q0, q1])) 0 0 (ad [q0, q1]) := by
  refine ct_of (by decide +kernel) (Nat.le_of_ble_eq_true rfl) ?_
  intro p e s m below meth c ls hx hb hml hr hlocks hown hw hP hK hl
  have hS : va_S (ad [q0, q1]) s.heap s.heap [] := va_S.rf
  have hD : ∀ v, va_D (ad [q0, q1]) (wWri cI q0 q1 v) := fun _ => dj_D rfl hd
  have hl : lv_has ls 1 [(0, .ref q0)] := hl
  have hP : va_P D cls (wWri cI q0 q1 u) s.heap := hP
  unfold f_Wri_restart at hf
  refine lv_aload_n hx hb d_Wri_restart_0 rfl (lv_at hl 0 rfl) ?_
  refine lv_iconst (v := 0) hx hb d_Wri_restart_1 (by decide) ?_
  refine va_put (D := D) (ci := 5) (v := .int 0) (ty := .int) (C := R_Wri) (T := F_Wri) (N := 3) hx hb hw in_Wri t_Wri t_Wri_ok n_Wri hown hK hP (hD _) hS 0 rfl rfl 1 (by decide) (hw _ m_68) (fun _ h9 => h9) rfl (by decide +kernel) rfl rfl (Nat.le_of_ble_eq_true rfl) d_Wri_restart_2 (fun H locs hP _ hS => ?_)
  obtain ⟨u1, e_u1, hf⟩ := tk_o hf
  have hP : va_P D cls (wWri cI q0 q1 u1) H := by rw [e_u1]; exact hP
  refine lv_aload_n hx hb d_Wri_restart_5 rfl (lv_at hl 0 rfl) ?_
  refine lv_iconst (v := 0) hx hb d_Wri_restart_6 (by decide) ?_
  refine va_put (D := D) (ci := 5) (v := .int 0) (ty := .int) (C := R_Wri) (T := F_Wri) (N := 3) hx hb hw in_Wri t_Wri t_Wri_ok n_Wri hown hK hP (hD _) hS 0 rfl rfl 2 (by decide) (hw _ m_69) (fun _ h9 => h9) rfl (by decide +kernel) rfl rfl (Nat.le_of_ble_eq_true rfl) d_Wri_restart_7 (fun H locs hP _ hS => ?_)
  obtain ⟨u2, e_u2, hf⟩ := tk_o hf
  have hP : va_P D cls (wWri cI q0 q1 u2) H := by rw [e_u2]; exact hP
  exact rt_v (wWri cI q0 q1) hx hb hr hlocks hS hP hf d_Wri_restart_10
def f_Wri_writeByte (a1 : Int32) (u : gU) : Option (gU) := bq (512 ≤ (u 0 0)) (some u) (gd (ix (u 0 0) 512) (tk (st2 u 1 (tc (u 0 0)) a1) fun u2 => tk (st2 u2 0 0 ((u2 0 0) + 1)) fun u3 => some u3))
set_option maxHeartbeats 4000000 in
set_option maxRecDepth 100000 in
theorem c_Wri_writeByte (l : Launch) (D : va_G) (cI : ClassId) (q0 : Nat) (q1 : Nat) (hd : dj [q0, q1]) (a1 : Int32) (u : gU) (v : gU) (hf : f_Wri_writeByte a1 u = some v) : Met l y_Wri_writeByte (.code y_Wri_writeByte b_Wri_writeByte 2 none :: TS) ({ frames := 0, cells := 0, slots := 0, locals := 0 }) (va_Pc [.ref q0, .int a1] (fun U => va_P D cls (wWri cI q0 q1 u) U.heap ∧ va_K D cls [(cI, .int)] U)) (va_Qv (fun (_ : Unit) => True) (fun _ t => va_P D cls (wWri cI q0 q1 v) t.heap) (ad [q0, q1])) 0 0 (ad [q0, q1]) := by
  refine ct_of (by decide +kernel) (Nat.le_of_ble_eq_true rfl) ?_
  intro p e s m below meth c ls hx hb hml hr hlocks hown hw hP hK hl
  have hS : va_S (ad [q0, q1]) s.heap s.heap [] := va_S.rf
  have hD : ∀ v, va_D (ad [q0, q1]) (wWri cI q0 q1 v) := fun _ => dj_D rfl hd
  have hl : lv_has ls 2 [(0, .ref q0), (1, .int a1)] := hl
  have hP : va_P D cls (wWri cI q0 q1 u) s.heap := hP
  unfold f_Wri_writeByte at hf
  refine lv_aload_n hx hb d_Wri_writeByte_0 rfl (lv_at hl 0 rfl) ?_
  refine va_get (D := D) (ci := 5) (v := .int (u 0 0)) (C := R_Wri) (T := F_Wri) (N := 3) hx hb hw in_Wri hown hK hP 0 rfl rfl 1 (by decide) (hw _ m_68) (fun _ h9 => h9) rfl d_Wri_writeByte_1 ?_
  refine lv_sipush (v := 512) hx hb d_Wri_writeByte_4 (by decide) ?_
  refine lv_icmp_ge (tgt := 30) hx hb d_Wri_writeByte_7 (by decide) (fun hc => ?_) (fun hc => ?_)
  · have hf := bq_t hf hc
    exact rt_v (wWri cI q0 q1) hx hb hr hlocks hS hP hf d_Wri_writeByte_30
  have hf := bq_n hf hc
  refine lv_aload_n hx hb d_Wri_writeByte_10 rfl (lv_at hl 0 rfl) ?_
  refine va_get (D := D) (ci := 5) (v := .ref q1) (C := R_Wri) (T := F_Wri) (N := 3) hx hb hw in_Wri hown hK hP 0 rfl rfl 0 (by decide) (hw _ m_70) (fun _ h9 => h9) rfl d_Wri_writeByte_11 ?_
  refine lv_aload_n hx hb d_Wri_writeByte_14 rfl (lv_at hl 0 rfl) ?_
  refine va_get (D := D) (ci := 5) (v := .int (u 0 0)) (C := R_Wri) (T := F_Wri) (N := 3) hx hb hw in_Wri hown hK hP 0 rfl rfl 1 (by decide) (hw _ m_68) (fun _ h9 => h9) rfl d_Wri_writeByte_15 ?_
  refine lv_iload_n hx hb d_Wri_writeByte_18 rfl (lv_at hl 1 rfl) ?_
  obtain ⟨h1, hf⟩ := gd_o hf
  refine va_iast hx hb hK hP (hD _) hS 1 0 rfl rfl (ix_in h1) d_Wri_writeByte_19 (fun H locs hP _ hS => ?_)
  obtain ⟨u2, e_u2, hf⟩ := tk_o hf
  have hP : va_P D cls (wWri cI q0 q1 u2) H := by rw [e_u2]; exact hP
  refine lv_aload_n hx hb d_Wri_writeByte_20 rfl (lv_at hl 0 rfl) ?_
  refine lv_dup hx hb d_Wri_writeByte_21 rfl ?_
  refine va_get (D := D) (ci := 5) (v := .int (u2 0 0)) (C := R_Wri) (T := F_Wri) (N := 3) hx hb hw in_Wri hown hK hP 0 rfl rfl 1 (by decide) (hw _ m_68) (fun _ h9 => h9) rfl d_Wri_writeByte_22 ?_
  refine lv_iconst (v := 1) hx hb d_Wri_writeByte_25 (by decide) ?_
  refine lv_iadd hx hb d_Wri_writeByte_26 ?_
  refine va_put (D := D) (ci := 5) (v := .int ((u2 0 0) + 1)) (ty := .int) (C := R_Wri) (T := F_Wri) (N := 3) hx hb hw in_Wri t_Wri t_Wri_ok n_Wri hown hK hP (hD _) hS 0 rfl rfl 1 (by decide) (hw _ m_68) (fun _ h9 => h9) rfl (by decide +kernel) rfl rfl (Nat.le_of_ble_eq_true rfl) d_Wri_writeByte_27 (fun H locs hP _ hS => ?_)
  obtain ⟨u3, e_u3, hf⟩ := tk_o hf
  have hP : va_P D cls (wWri cI q0 q1 u3) H := by rw [e_u3]; exact hP
  exact rt_v (wWri cI q0 q1) hx hb hr hlocks hS hP hf d_Wri_writeByte_30
def f_Wri_endsWith255 (u : gU) : Option (Int32) := bq ((u 0 0) ≤ 0) (some 0) (gd (ix ((u 0 0) - 1) 512) (bq ((u 1 (tc ((u 0 0) - 1))) = 255) (some 1) (some 0)))
set_option maxHeartbeats 4000000 in
set_option maxRecDepth 100000 in
theorem c_Wri_endsWith255 (l : Launch) (D : va_G) (cI : ClassId) (q0 : Nat) (q1 : Nat) (u : gU) (r : Int32) (hf : f_Wri_endsWith255 u = some r) : Met l y_Wri_endsWith255 (.code y_Wri_endsWith255 b_Wri_endsWith255 1 (some .boolean) :: TS) ({ frames := 0, cells := 0, slots := 0, locals := 0 }) (va_Pc [.ref q0] (fun U => va_P D cls (wWri cI q0 q1 u) U.heap ∧ va_K D cls [(cI, .int)] U)) (va_Qi (fun x (_ : Unit) => x = r) (fun _ _ => True) (fun _ => False)) 0 0 (fun _ => False) := by
  refine ct_of (by decide +kernel) (Nat.le_of_ble_eq_true rfl) ?_
  intro p e s m below meth c ls hx hb hml hr hlocks hown hw hP hK hl
  have hS : va_S (fun _ => False) s.heap s.heap [] := va_S.rf
  have hl : lv_has ls 1 [(0, .ref q0)] := hl
  have hP : va_P D cls (wWri cI q0 q1 u) s.heap := hP
  unfold f_Wri_endsWith255 at hf
  refine lv_aload_n hx hb d_Wri_endsWith255_0 rfl (lv_at hl 0 rfl) ?_
  refine va_get (D := D) (ci := 5) (v := .int (u 0 0)) (C := R_Wri) (T := F_Wri) (N := 3) hx hb hw in_Wri hown hK hP 0 rfl rfl 1 (by decide) (hw _ m_68) (fun _ h9 => h9) rfl d_Wri_endsWith255_1 ?_
  refine lv_if_le (tgt := 28) hx hb d_Wri_endsWith255_4 (by decide) (fun hc => ?_) (fun hc => ?_)
  · have hf := bq_t hf hc
    refine lv_iconst (v := 0) hx hb d_Wri_endsWith255_28 (by decide) ?_
    exact rt_roz hx hb hr hlocks (Or.inl rfl) hS hf d_Wri_endsWith255_29
  have hf := bq_n hf hc
  refine lv_aload_n hx hb d_Wri_endsWith255_7 rfl (lv_at hl 0 rfl) ?_
  refine va_get (D := D) (ci := 5) (v := .ref q1) (C := R_Wri) (T := F_Wri) (N := 3) hx hb hw in_Wri hown hK hP 0 rfl rfl 0 (by decide) (hw _ m_70) (fun _ h9 => h9) rfl d_Wri_endsWith255_8 ?_
  refine lv_aload_n hx hb d_Wri_endsWith255_11 rfl (lv_at hl 0 rfl) ?_
  refine va_get (D := D) (ci := 5) (v := .int (u 0 0)) (C := R_Wri) (T := F_Wri) (N := 3) hx hb hw in_Wri hown hK hP 0 rfl rfl 1 (by decide) (hw _ m_68) (fun _ h9 => h9) rfl d_Wri_endsWith255_12 ?_
  refine lv_iconst (v := 1) hx hb d_Wri_endsWith255_15 (by decide) ?_
  refine lv_isub hx hb d_Wri_endsWith255_16 ?_
  obtain ⟨h1, hf⟩ := gd_o hf
  refine va_iald hx hb hK hP 1 0 rfl rfl (ix_in h1) d_Wri_endsWith255_17 ?_
  refine lv_sipush (v := 255) hx hb d_Wri_endsWith255_18 (by decide) ?_
  refine lv_icmp_ne (tgt := 28) hx hb d_Wri_endsWith255_21 (by decide) (fun hc => ?_) (fun hc => ?_)
  · have hf := bq_n hf hc
    refine lv_iconst (v := 0) hx hb d_Wri_endsWith255_28 (by decide) ?_
    exact rt_roz hx hb hr hlocks (Or.inl rfl) hS hf d_Wri_endsWith255_29
  have hf := bq_t hf hc
  refine lv_iconst (v := 1) hx hb d_Wri_endsWith255_24 (by decide) ?_
  refine lv_goto (tgt := 29) hx hb d_Wri_endsWith255_25 (by decide) ?_
  exact rt_roz hx hb hr hlocks (Or.inr rfl) hS hf d_Wri_endsWith255_29
def J_Wri_writeBits_38 (k4 : Int32 → Int32 → gU → Option (gU)) (l1 : Int32) (l3 : Int32) (u : gU) : Option (gU) := tk (st2 u 0 1 ((u 0 1) - 1)) fun u1 => gd (ix ((u1 0 0) - 1) 512) (tk (((l1 >>> (l3 &&& 31)) &&& 1) <<< ((u1 0 1) &&& 31)) fun x3 => gd (ix ((u1 0 0) - 1) 512) (tk (st2 u1 1 (tc ((u1 0 0) - 1)) ((u1 1 (tc ((u1 0 0) - 1))) ||| x3)) fun u5 => tk (l3 + (-1)) fun x6 => k4 l1 x6 u5))
def J_Wri_writeBits_30 (k4 : Int32 → Int32 → gU → Option (gU)) (l1 : Int32) (l3 : Int32) (s1 : Int32) (u : gU) : Option (gU) := tk (st2 u 0 1 s1) fun u1 => bd (f_Wri_writeByte 0 u1) fun w2 => tk (w2) fun u3 => J_Wri_writeBits_38 k4 l1 l3 u3
def L_Wri_writeBits_4 : Nat → Int32 → Int32 → gU → Option (gU)
  | 0, _, _, _ => none
  | n + 1, l1, l3, u => bq (l3 < 0) (some u) (bq ((u 0 1) = 0) (bd (f_Wri_endsWith255 u) fun x1 => bq (x1 = 0) (J_Wri_writeBits_30 (L_Wri_writeBits_4 n) l1 l3 8 u) (J_Wri_writeBits_30 (L_Wri_writeBits_4 n) l1 l3 7 u)) (J_Wri_writeBits_38 (L_Wri_writeBits_4 n) l1 l3 u))
theorem L_Wri_writeBits_4_z (l1 : Int32) (l3 : Int32) (u : gU) : L_Wri_writeBits_4 0 l1 l3 u = none := rfl
theorem L_Wri_writeBits_4_s (n : Nat) (l1 : Int32) (l3 : Int32) (u : gU) : L_Wri_writeBits_4 (n + 1) l1 l3 u = bq (l3 < 0) (some u) (bq ((u 0 1) = 0) (bd (f_Wri_endsWith255 u) fun x1 => bq (x1 = 0) (J_Wri_writeBits_30 (L_Wri_writeBits_4 n) l1 l3 8 u) (J_Wri_writeBits_30 (L_Wri_writeBits_4 n) l1 l3 7 u)) (J_Wri_writeBits_38 (L_Wri_writeBits_4 n) l1 l3 u)) := rfl
def f_Wri_writeBits (a1 : Int32) (a2 : Int32) (u : gU) : Option (gU) := tk (a2 - 1) fun x1 => L_Wri_writeBits_4 100 a1 x1 u
set_option maxHeartbeats 4000000 in
set_option maxRecDepth 100000 in
theorem c_Wri_writeBits (l : Launch) (D : va_G) (cI : ClassId) (q0 : Nat) (q1 : Nat) (hd : dj [q0, q1]) (a1 : Int32) (a2 : Int32) (u : gU) (v : gU) (hf : f_Wri_writeBits a1 a2 u = some v) : Met l y_Wri_writeBits (.code y_Wri_writeBits b_Wri_writeBits 4 none :: TS) ({ frames := 1, cells := 0, slots := 0, locals := 21 }) (va_Pc [.ref q0, .int a1, .int a2] (fun U => va_P D cls (wWri cI q0 q1 u) U.heap ∧ va_K D cls [(cI, .int)] U)) (va_Qv (fun (_ : Unit) => True) (fun _ t => va_P D cls (wWri cI q0 q1 v) t.heap) (ad [q0, q1])) 0 0 (ad [q0, q1]) := by
  refine ct_of (by decide +kernel) (Nat.le_of_ble_eq_true rfl) ?_
  intro p e s m below meth c ls hx hb hml hr hlocks hown hw hP hK hl
  have hS : va_S (ad [q0, q1]) s.heap s.heap [] := va_S.rf
  have hD : ∀ v, va_D (ad [q0, q1]) (wWri cI q0 q1 v) := fun _ => dj_D rfl hd
  have hl : lv_has ls 4 [(0, .ref q0), (1, .int a1), (2, .int a2)] := hl
  have hP : va_P D cls (wWri cI q0 q1 u) s.heap := hP
  have lp4 : ∀ (n4 : Nat), ∀ (ls : Array Slot) (H : Heap) (locs : List Loc) (l1 : Int32) (l3 : Int32) (u : gU), lv_has ls 4 [(0, .ref q0), (1, .int l1), (3, .int l3)] → va_P D cls (wWri cI q0 q1 u) H → va_S (ad [q0, q1]) s.heap H locs → L_Wri_writeBits_4 n4 l1 l3 u = some v → W p l e ({ frames := 1, cells := 0, slots := 0, locals := 21 }) s m [.ref q0, .int a1, .int a2].toArray below meth c H locs 0 0 (MQ below (va_Qv (fun (_ : Unit) => True) (fun _ t => va_P D cls (wWri cI q0 q1 v) t.heap) (ad [q0, q1])) [.ref q0, .int a1, .int a2].toArray s 0 0 (ad [q0, q1])) (F0 m 4 ls []) := by
    intro n4
    induction n4 with
    | zero =>
      intro ls H locs l1 l3 u hl hP hS hf
      rw [L_Wri_writeBits_4_z] at hf
      cases hf
    | succ n4 ih4 =>
      have j38 : ∀ (ls : Array Slot) (H : Heap) (locs : List Loc) (l1 : Int32) (l3 : Int32) (u : gU), lv_has ls 4 [(0, .ref q0), (1, .int l1), (3, .int l3)] → va_P D cls (wWri cI q0 q1 u) H → va_S (ad [q0, q1]) s.heap H locs → J_Wri_writeBits_38 (L_Wri_writeBits_4 n4) l1 l3 u = some v → W p l e ({ frames := 1, cells := 0, slots := 0, locals := 21 }) s m [.ref q0, .int a1, .int a2].toArray below meth c H locs 0 0 (MQ below (va_Qv (fun (_ : Unit) => True) (fun _ t => va_P D cls (wWri cI q0 q1 v) t.heap) (ad [q0, q1])) [.ref q0, .int a1, .int a2].toArray s 0 0 (ad [q0, q1])) (F0 m 38 ls []) := by
        intro ls H locs l1 l3 u hl hP hS hf
        unfold J_Wri_writeBits_38 at hf
        refine lv_aload_n hx hb d_Wri_writeBits_38 rfl (lv_at hl 0 rfl) ?_
        refine lv_dup hx hb d_Wri_writeBits_39 rfl ?_
        refine va_get (D := D) (ci := 5) (v := .int (u 0 1)) (C := R_Wri) (T := F_Wri) (N := 3) hx hb hw in_Wri hown hK hP 0 rfl rfl 2 (by decide) (hw _ m_69) (fun _ h9 => h9) rfl d_Wri_writeBits_40 ?_
        refine lv_iconst (v := 1) hx hb d_Wri_writeBits_43 (by decide) ?_
        refine lv_isub hx hb d_Wri_writeBits_44 ?_
        refine va_put (D := D) (ci := 5) (v := .int ((u 0 1) - 1)) (ty := .int) (C := R_Wri) (T := F_Wri) (N := 3) hx hb hw in_Wri t_Wri t_Wri_ok n_Wri hown hK hP (hD _) hS 0 rfl rfl 2 (by decide) (hw _ m_69) (fun _ h9 => h9) rfl (by decide +kernel) rfl rfl (Nat.le_of_ble_eq_true rfl) d_Wri_writeBits_45 (fun H locs hP _ hS => ?_)
        obtain ⟨u1, e_u1, hf⟩ := tk_o hf
        have hP : va_P D cls (wWri cI q0 q1 u1) H := by rw [e_u1]; exact hP
        refine lv_aload_n hx hb d_Wri_writeBits_48 rfl (lv_at hl 0 rfl) ?_
        refine va_get (D := D) (ci := 5) (v := .ref q1) (C := R_Wri) (T := F_Wri) (N := 3) hx hb hw in_Wri hown hK hP 0 rfl rfl 0 (by decide) (hw _ m_70) (fun _ h9 => h9) rfl d_Wri_writeBits_49 ?_
        refine lv_aload_n hx hb d_Wri_writeBits_52 rfl (lv_at hl 0 rfl) ?_
        refine va_get (D := D) (ci := 5) (v := .int (u1 0 0)) (C := R_Wri) (T := F_Wri) (N := 3) hx hb hw in_Wri hown hK hP 0 rfl rfl 1 (by decide) (hw _ m_68) (fun _ h9 => h9) rfl d_Wri_writeBits_53 ?_
        refine lv_iconst (v := 1) hx hb d_Wri_writeBits_56 (by decide) ?_
        refine lv_isub hx hb d_Wri_writeBits_57 ?_
        refine lv_dup2_11 hx hb d_Wri_writeBits_58 rfl rfl ?_
        obtain ⟨h2, hf⟩ := gd_o hf
        refine va_iald hx hb hK hP 1 0 rfl rfl (ix_in h2) d_Wri_writeBits_59 ?_
        refine lv_iload_n hx hb d_Wri_writeBits_60 rfl (lv_at hl 1 rfl) ?_
        refine lv_iload_n hx hb d_Wri_writeBits_61 rfl (lv_at hl 2 rfl) ?_
        refine lv_ishr hx hb d_Wri_writeBits_62 ?_
        refine lv_iconst (v := 1) hx hb d_Wri_writeBits_63 (by decide) ?_
        refine lv_iand hx hb d_Wri_writeBits_64 ?_
        refine lv_aload_n hx hb d_Wri_writeBits_65 rfl (lv_at hl 0 rfl) ?_
        refine va_get (D := D) (ci := 5) (v := .int (u1 0 1)) (C := R_Wri) (T := F_Wri) (N := 3) hx hb hw in_Wri hown hK hP 0 rfl rfl 2 (by decide) (hw _ m_69) (fun _ h9 => h9) rfl d_Wri_writeBits_66 ?_
        refine lv_ishl hx hb d_Wri_writeBits_69 ?_
        refine lv_topi (fun x3 e_x3 => ?_)
        have hf := tk_e hf e_x3
        refine lv_ior hx hb d_Wri_writeBits_70 ?_
        obtain ⟨h4, hf⟩ := gd_o hf
        refine va_iast hx hb hK hP (hD _) hS 1 0 rfl rfl (ix_in h4) d_Wri_writeBits_71 (fun H locs hP _ hS => ?_)
        obtain ⟨u5, e_u5, hf⟩ := tk_o hf
        have hP : va_P D cls (wWri cI q0 q1 u5) H := by rw [e_u5]; exact hP
        obtain ⟨x6, e_x6, hf⟩ := tk_o hf
        refine lv_iinc (v := x6) (lv' := [(3, .int x6), (0, .ref q0), (1, .int l1)]) hx hb d_Wri_writeBits_72 hl (k := 2) rfl e_x6.symm (by decide) rfl (fun ls hl => ?_)
        refine lv_goto (tgt := 4) hx hb d_Wri_writeBits_75 (by decide) ?_
        exact ih4 _ _ _ l1 x6 u5 (lv_sub hl [1, 2, 0] rfl) hP hS hf
      have j30 : ∀ (ls : Array Slot) (H : Heap) (locs : List Loc) (l1 : Int32) (l3 : Int32) (s1 : Int32) (u : gU), lv_has ls 4 [(0, .ref q0), (1, .int l1), (3, .int l3)] → va_P D cls (wWri cI q0 q1 u) H → va_S (ad [q0, q1]) s.heap H locs → J_Wri_writeBits_30 (L_Wri_writeBits_4 n4) l1 l3 s1 u = some v → W p l e ({ frames := 1, cells := 0, slots := 0, locals := 21 }) s m [.ref q0, .int a1, .int a2].toArray below meth c H locs 0 0 (MQ below (va_Qv (fun (_ : Unit) => True) (fun _ t => va_P D cls (wWri cI q0 q1 v) t.heap) (ad [q0, q1])) [.ref q0, .int a1, .int a2].toArray s 0 0 (ad [q0, q1])) (F0 m 30 ls [.int s1, .ref q0]) := by
        intro ls H locs l1 l3 s1 u hl hP hS hf
        unfold J_Wri_writeBits_30 at hf
        refine va_put (D := D) (ci := 5) (v := .int s1) (ty := .int) (C := R_Wri) (T := F_Wri) (N := 3) hx hb hw in_Wri t_Wri t_Wri_ok n_Wri hown hK hP (hD _) hS 0 rfl rfl 2 (by decide) (hw _ m_69) (fun _ h9 => h9) rfl (by decide +kernel) rfl rfl (Nat.le_of_ble_eq_true rfl) d_Wri_writeBits_30 (fun H locs hP _ hS => ?_)
        obtain ⟨u1, e_u1, hf⟩ := tk_o hf
        have hP : va_P D cls (wWri cI q0 q1 u1) H := by rw [e_u1]; exact hP
        refine lv_aload_n hx hb d_Wri_writeBits_33 rfl (lv_at hl 0 rfl) ?_
        refine lv_iconst (v := 0) hx hb d_Wri_writeBits_34 (by decide) ?_
        have hC : [0, 1].map (fun i => (wWri cI q0 q1 u1)[i]?) = (wWri cI q0 q1 u1).map some := rfl
        obtain ⟨w2, hc, hf⟩ := bd_o hf
        refine rw_v (va_runV (As := [.int 0]) (rest := []) ⟨hx, hb, hml, hown, hw⟩ (c_Wri_writeByte l D cI q0 q1 (dj_sub hd [0, 1] (by decide) rfl) 0 u1 w2 hc) (cwV 1 hw g_8 rfl rfl rfl (by decide +kernel) ⟨Nat.le_of_ble_eq_true rfl, Nat.le_of_ble_eq_true rfl⟩) (pre_V (P_sub hC hP) hK rfl rfl) rfl rfl hl.1 rfl (lv_room (Nat.le_of_ble_eq_true rfl)) d_Wri_writeBits_35 ⟨Nat.le_of_ble_eq_true rfl, Nat.le_of_ble_eq_true rfl⟩) hS hP (hD _) hC rfl rfl (fun H locs hP hS => ?_)
        obtain ⟨u3, e_u3, hf⟩ := tk_o hf
        have hP : va_P D cls (wWri cI q0 q1 u3) H := by rw [e_u3]; exact hP
        exact j38 _ _ _ l1 l3 u3 (lv_sub hl [0, 1, 2] rfl) hP hS hf
      intro ls H locs l1 l3 u hl hP hS hf
      rw [L_Wri_writeBits_4_s] at hf
      refine lv_iload_n hx hb d_Wri_writeBits_4 rfl (lv_at hl 2 rfl) ?_
      refine lv_if_lt (tgt := 78) hx hb d_Wri_writeBits_5 (by decide) (fun hc => ?_) (fun hc => ?_)
      · have hf := bq_t hf hc
        exact rt_v (wWri cI q0 q1) hx hb hr hlocks hS hP hf d_Wri_writeBits_78
      have hf := bq_n hf hc
      refine lv_aload_n hx hb d_Wri_writeBits_8 rfl (lv_at hl 0 rfl) ?_
      refine va_get (D := D) (ci := 5) (v := .int (u 0 1)) (C := R_Wri) (T := F_Wri) (N := 3) hx hb hw in_Wri hown hK hP 0 rfl rfl 2 (by decide) (hw _ m_69) (fun _ h9 => h9) rfl d_Wri_writeBits_9 ?_
      refine lv_if_ne (tgt := 38) hx hb d_Wri_writeBits_12 (by decide) (fun hc => ?_) (fun hc => ?_)
      · have hf := bq_n hf hc
        exact j38 _ _ _ l1 l3 u (lv_sub hl [0, 1, 2] rfl) hP hS hf
      have hf := bq_t hf hc
      refine lv_aload_n hx hb d_Wri_writeBits_15 rfl (lv_at hl 0 rfl) ?_
      refine lv_aload_n hx hb d_Wri_writeBits_16 rfl (lv_at hl 0 rfl) ?_
      have hC : [0, 1].map (fun i => (wWri cI q0 q1 u)[i]?) = (wWri cI q0 q1 u).map some := rfl
      obtain ⟨x1, hc, hf⟩ := bd_o hf
      refine ro_i (va_runV (As := []) (rest := [.ref q0]) ⟨hx, hb, hml, hown, hw⟩ (c_Wri_endsWith255 l D cI q0 q1 u x1 hc) (cwV 0 hw g_9 rfl rfl rfl (by decide +kernel) ⟨Nat.le_of_ble_eq_true rfl, Nat.le_of_ble_eq_true rfl⟩) (pre_V (P_sub hC hP) hK rfl rfl) rfl rfl hl.1 rfl (lv_room (Nat.le_of_ble_eq_true rfl)) d_Wri_writeBits_17 ⟨Nat.le_of_ble_eq_true rfl, Nat.le_of_ble_eq_true rfl⟩) hS hP (fun H locs hP hS => ?_)
      refine lv_if_eq (tgt := 28) hx hb d_Wri_writeBits_20 (by decide) (fun hc => ?_) (fun hc => ?_)
      · have hf := bq_t hf hc
        refine lv_bipush (v := 8) hx hb d_Wri_writeBits_28 (by decide) ?_
        exact j30 _ _ _ l1 l3 8 u (lv_sub hl [0, 1, 2] rfl) hP hS hf
      have hf := bq_n hf hc
      refine lv_bipush (v := 7) hx hb d_Wri_writeBits_23 (by decide) ?_
      refine lv_goto (tgt := 30) hx hb d_Wri_writeBits_25 (by decide) ?_
      exact j30 _ _ _ l1 l3 7 u (lv_sub hl [0, 1, 2] rfl) hP hS hf
  unfold f_Wri_writeBits at hf
  refine lv_iload_n hx hb d_Wri_writeBits_0 rfl (lv_at hl 2 rfl) ?_
  refine lv_iconst (v := 1) hx hb d_Wri_writeBits_1 (by decide) ?_
  refine lv_isub hx hb d_Wri_writeBits_2 ?_
  refine lv_topi (fun x1 e_x1 => ?_)
  have hf := tk_e hf e_x1
  refine lv_istore_n (lv' := [(3, .int x1), (0, .ref q0), (1, .int a1), (2, .int a2)]) hx hb d_Wri_writeBits_3 rfl hl (by decide) rfl (fun ls hl => ?_)
  exact lp4 100 _ _ _ a1 x1 u (lv_sub hl [1, 2, 0] rfl) hP hS hf
def f_Wri_writeNumber (a1 : Int32) (a2 : Int32) (a3 : Int32) (a4 : Int32) (u : gU) : Option (gU) := tk ((a3 - a4) - 1) fun x1 => bq (x1 ≤ (a1 >>> (a2 &&& 31))) (bd (f_Wri_writeBits 1 (x1 + 1) u) fun w2 => tk (w2) fun u3 => bd (f_Wri_writeBits (a1 - 1) a4 u3) fun w4 => tk (w4) fun u5 => some u5) (bd (f_Wri_writeBits 1 ((a1 >>> (a2 &&& 31)) + 1) u) fun w6 => tk (w6) fun u7 => bd (f_Wri_writeBits a1 a2 u7) fun w8 => tk (w8) fun u9 => some u9)
set_option maxHeartbeats 4000000 in
set_option maxRecDepth 100000 in
theorem c_Wri_writeNumber (l : Launch) (D : va_G) (cI : ClassId) (q0 : Nat) (q1 : Nat) (hd : dj [q0, q1]) (a1 : Int32) (a2 : Int32) (a3 : Int32) (a4 : Int32) (u : gU) (v : gU) (hf : f_Wri_writeNumber a1 a2 a3 a4 u = some v) : Met l y_Wri_writeNumber (.code y_Wri_writeNumber b_Wri_writeNumber 6 none :: TS) ({ frames := 2, cells := 0, slots := 0, locals := 44 }) (va_Pc [.ref q0, .int a1, .int a2, .int a3, .int a4] (fun U => va_P D cls (wWri cI q0 q1 u) U.heap ∧ va_K D cls [(cI, .int)] U)) (va_Qv (fun (_ : Unit) => True) (fun _ t => va_P D cls (wWri cI q0 q1 v) t.heap) (ad [q0, q1])) 0 0 (ad [q0, q1]) := by
  refine ct_of (by decide +kernel) (Nat.le_of_ble_eq_true rfl) ?_
  intro p e s m below meth c ls hx hb hml hr hlocks hown hw hP hK hl
  have hS : va_S (ad [q0, q1]) s.heap s.heap [] := va_S.rf
  have hD : ∀ v, va_D (ad [q0, q1]) (wWri cI q0 q1 v) := fun _ => dj_D rfl hd
  have hl : lv_has ls 6 [(0, .ref q0), (1, .int a1), (2, .int a2), (3, .int a3), (4, .int a4)] := hl
  have hP : va_P D cls (wWri cI q0 q1 u) s.heap := hP
  unfold f_Wri_writeNumber at hf
  refine lv_iload_n hx hb d_Wri_writeNumber_0 rfl (lv_at hl 3 rfl) ?_
  refine lv_iload hx hb d_Wri_writeNumber_1 (lv_at hl 4 rfl) ?_
  refine lv_isub hx hb d_Wri_writeNumber_3 ?_
  refine lv_iconst (v := 1) hx hb d_Wri_writeNumber_4 (by decide) ?_
  refine lv_isub hx hb d_Wri_writeNumber_5 ?_
  refine lv_topi (fun x1 e_x1 => ?_)
  have hf := tk_e hf e_x1
  refine lv_istore (lv' := [(5, .int x1), (0, .ref q0), (1, .int a1), (2, .int a2), (3, .int a3), (4, .int a4)]) hx hb d_Wri_writeNumber_6 hl (by decide) rfl (fun ls hl => ?_)
  refine lv_iload_n hx hb d_Wri_writeNumber_8 rfl (lv_at hl 2 rfl) ?_
  refine lv_iload_n hx hb d_Wri_writeNumber_9 rfl (lv_at hl 3 rfl) ?_
  refine lv_ishr hx hb d_Wri_writeNumber_10 ?_
  refine lv_iload hx hb d_Wri_writeNumber_11 (lv_at hl 0 rfl) ?_
  refine lv_icmp_ge (tgt := 35) hx hb d_Wri_writeNumber_13 (by decide) (fun hc => ?_) (fun hc => ?_)
  · have hf := bq_t hf hc
    refine lv_aload_n hx hb d_Wri_writeNumber_35 rfl (lv_at hl 1 rfl) ?_
    refine lv_iconst (v := 1) hx hb d_Wri_writeNumber_36 (by decide) ?_
    refine lv_iload hx hb d_Wri_writeNumber_37 (lv_at hl 0 rfl) ?_
    refine lv_iconst (v := 1) hx hb d_Wri_writeNumber_39 (by decide) ?_
    refine lv_iadd hx hb d_Wri_writeNumber_40 ?_
    have hC : [0, 1].map (fun i => (wWri cI q0 q1 u)[i]?) = (wWri cI q0 q1 u).map some := rfl
    obtain ⟨w2, hc, hf⟩ := bd_o hf
    refine rw_v (va_runV (As := [.int 1, .int (x1 + 1)]) (rest := []) ⟨hx, hb, hml, hown, hw⟩ (c_Wri_writeBits l D cI q0 q1 (dj_sub hd [0, 1] (by decide) rfl) 1 (x1 + 1) u w2 hc) (cwV 2 hw g_10 rfl rfl rfl (by decide +kernel) ⟨Nat.le_of_ble_eq_true rfl, Nat.le_of_ble_eq_true rfl⟩) (pre_V (P_sub hC hP) hK rfl rfl) rfl rfl hl.1 rfl (lv_room (Nat.le_of_ble_eq_true rfl)) d_Wri_writeNumber_41 ⟨Nat.le_of_ble_eq_true rfl, Nat.le_of_ble_eq_true rfl⟩) hS hP (hD _) hC rfl rfl (fun H locs hP hS => ?_)
    obtain ⟨u3, e_u3, hf⟩ := tk_o hf
    have hP : va_P D cls (wWri cI q0 q1 u3) H := by rw [e_u3]; exact hP
    refine lv_aload_n hx hb d_Wri_writeNumber_44 rfl (lv_at hl 1 rfl) ?_
    refine lv_iload_n hx hb d_Wri_writeNumber_45 rfl (lv_at hl 2 rfl) ?_
    refine lv_iconst (v := 1) hx hb d_Wri_writeNumber_46 (by decide) ?_
    refine lv_isub hx hb d_Wri_writeNumber_47 ?_
    refine lv_iload hx hb d_Wri_writeNumber_48 (lv_at hl 5 rfl) ?_
    have hC : [0, 1].map (fun i => (wWri cI q0 q1 u3)[i]?) = (wWri cI q0 q1 u3).map some := rfl
    obtain ⟨w4, hc, hf⟩ := bd_o hf
    refine rw_v (va_runV (As := [.int (a1 - 1), .int a4]) (rest := []) ⟨hx, hb, hml, hown, hw⟩ (c_Wri_writeBits l D cI q0 q1 (dj_sub hd [0, 1] (by decide) rfl) (a1 - 1) a4 u3 w4 hc) (cwV 2 hw g_10 rfl rfl rfl (by decide +kernel) ⟨Nat.le_of_ble_eq_true rfl, Nat.le_of_ble_eq_true rfl⟩) (pre_V (P_sub hC hP) hK rfl rfl) rfl rfl hl.1 rfl (lv_room (Nat.le_of_ble_eq_true rfl)) d_Wri_writeNumber_50 ⟨Nat.le_of_ble_eq_true rfl, Nat.le_of_ble_eq_true rfl⟩) hS hP (hD _) hC rfl rfl (fun H locs hP hS => ?_)
    obtain ⟨u5, e_u5, hf⟩ := tk_o hf
    have hP : va_P D cls (wWri cI q0 q1 u5) H := by rw [e_u5]; exact hP
    exact rt_v (wWri cI q0 q1) hx hb hr hlocks hS hP hf d_Wri_writeNumber_53
  have hf := bq_n hf hc
  refine lv_aload_n hx hb d_Wri_writeNumber_16 rfl (lv_at hl 1 rfl) ?_
  refine lv_iconst (v := 1) hx hb d_Wri_writeNumber_17 (by decide) ?_
  refine lv_iload_n hx hb d_Wri_writeNumber_18 rfl (lv_at hl 2 rfl) ?_
  refine lv_iload_n hx hb d_Wri_writeNumber_19 rfl (lv_at hl 3 rfl) ?_
  refine lv_ishr hx hb d_Wri_writeNumber_20 ?_
  refine lv_iconst (v := 1) hx hb d_Wri_writeNumber_21 (by decide) ?_
  refine lv_iadd hx hb d_Wri_writeNumber_22 ?_
  have hC : [0, 1].map (fun i => (wWri cI q0 q1 u)[i]?) = (wWri cI q0 q1 u).map some := rfl
  obtain ⟨w6, hc, hf⟩ := bd_o hf
  refine rw_v (va_runV (As := [.int 1, .int ((a1 >>> (a2 &&& 31)) + 1)]) (rest := []) ⟨hx, hb, hml, hown, hw⟩ (c_Wri_writeBits l D cI q0 q1 (dj_sub hd [0, 1] (by decide) rfl) 1 ((a1 >>> (a2 &&& 31)) + 1) u w6 hc) (cwV 2 hw g_10 rfl rfl rfl (by decide +kernel) ⟨Nat.le_of_ble_eq_true rfl, Nat.le_of_ble_eq_true rfl⟩) (pre_V (P_sub hC hP) hK rfl rfl) rfl rfl hl.1 rfl (lv_room (Nat.le_of_ble_eq_true rfl)) d_Wri_writeNumber_23 ⟨Nat.le_of_ble_eq_true rfl, Nat.le_of_ble_eq_true rfl⟩) hS hP (hD _) hC rfl rfl (fun H locs hP hS => ?_)
  obtain ⟨u7, e_u7, hf⟩ := tk_o hf
  have hP : va_P D cls (wWri cI q0 q1 u7) H := by rw [e_u7]; exact hP
  refine lv_aload_n hx hb d_Wri_writeNumber_26 rfl (lv_at hl 1 rfl) ?_
  refine lv_iload_n hx hb d_Wri_writeNumber_27 rfl (lv_at hl 2 rfl) ?_
  refine lv_iload_n hx hb d_Wri_writeNumber_28 rfl (lv_at hl 3 rfl) ?_
  have hC : [0, 1].map (fun i => (wWri cI q0 q1 u7)[i]?) = (wWri cI q0 q1 u7).map some := rfl
  obtain ⟨w8, hc, hf⟩ := bd_o hf
  refine rw_v (va_runV (As := [.int a1, .int a2]) (rest := []) ⟨hx, hb, hml, hown, hw⟩ (c_Wri_writeBits l D cI q0 q1 (dj_sub hd [0, 1] (by decide) rfl) a1 a2 u7 w8 hc) (cwV 2 hw g_10 rfl rfl rfl (by decide +kernel) ⟨Nat.le_of_ble_eq_true rfl, Nat.le_of_ble_eq_true rfl⟩) (pre_V (P_sub hC hP) hK rfl rfl) rfl rfl hl.1 rfl (lv_room (Nat.le_of_ble_eq_true rfl)) d_Wri_writeNumber_29 ⟨Nat.le_of_ble_eq_true rfl, Nat.le_of_ble_eq_true rfl⟩) hS hP (hD _) hC rfl rfl (fun H locs hP hS => ?_)
  obtain ⟨u9, e_u9, hf⟩ := tk_o hf
  have hP : va_P D cls (wWri cI q0 q1 u9) H := by rw [e_u9]; exact hP
  refine lv_goto (tgt := 53) hx hb d_Wri_writeNumber_32 (by decide) ?_
  exact rt_v (wWri cI q0 q1) hx hb hr hlocks hS hP hf d_Wri_writeNumber_53
def J_Wri_writeEnd_12 (u : gU) : Option (gU) := bd (f_Wri_writeByte 255 u) fun w1 => tk (w1) fun u2 => bd (f_Wri_writeByte 217 u2) fun w3 => tk (w3) fun u4 => some u4
def f_Wri_writeEnd (u : gU) : Option (gU) := bd (f_Wri_endsWith255 u) fun x1 => bq (x1 = 0) (J_Wri_writeEnd_12  u) (bd (f_Wri_writeByte 0 u) fun w2 => tk (w2) fun u3 => J_Wri_writeEnd_12  u3)
set_option maxHeartbeats 4000000 in
set_option maxRecDepth 100000 in
theorem c_Wri_writeEnd (l : Launch) (D : va_G) (cI : ClassId) (q0 : Nat) (q1 : Nat) (hd : dj [q0, q1]) (u : gU) (v : gU) (hf : f_Wri_writeEnd u = some v) : Met l y_Wri_writeEnd (.code y_Wri_writeEnd b_Wri_writeEnd 1 none :: TS) ({ frames := 1, cells := 0, slots := 0, locals := 21 }) (va_Pc [.ref q0] (fun U => va_P D cls (wWri cI q0 q1 u) U.heap ∧ va_K D cls [(cI, .int)] U)) (va_Qv (fun (_ : Unit) => True) (fun _ t => va_P D cls (wWri cI q0 q1 v) t.heap) (ad [q0, q1])) 0 0 (ad [q0, q1]) := by
  refine ct_of (by decide +kernel) (Nat.le_of_ble_eq_true rfl) ?_
  intro p e s m below meth c ls hx hb hml hr hlocks hown hw hP hK hl
  have hS : va_S (ad [q0, q1]) s.heap s.heap [] := va_S.rf
  have hD : ∀ v, va_D (ad [q0, q1]) (wWri cI q0 q1 v) := fun _ => dj_D rfl hd
  have hl : lv_has ls 1 [(0, .ref q0)] := hl
  have hP : va_P D cls (wWri cI q0 q1 u) s.heap := hP
  have j12 : ∀ (ls : Array Slot) (H : Heap) (locs : List Loc) (u : gU), lv_has ls 1 [(0, .ref q0)] → va_P D cls (wWri cI q0 q1 u) H → va_S (ad [q0, q1]) s.heap H locs → J_Wri_writeEnd_12 u = some v → W p l e ({ frames := 1, cells := 0, slots := 0, locals := 21 }) s m [.ref q0].toArray below meth c H locs 0 0 (MQ below (va_Qv (fun (_ : Unit) => True) (fun _ t => va_P D cls (wWri cI q0 q1 v) t.heap) (ad [q0, q1])) [.ref q0].toArray s 0 0 (ad [q0, q1])) (F0 m 12 ls []) := by
    intro ls H locs u hl hP hS hf
    unfold J_Wri_writeEnd_12 at hf
    refine lv_aload_n hx hb d_Wri_writeEnd_12 rfl (lv_at hl 0 rfl) ?_
    refine lv_sipush (v := 255) hx hb d_Wri_writeEnd_13 (by decide) ?_
    have hC : [0, 1].map (fun i => (wWri cI q0 q1 u)[i]?) = (wWri cI q0 q1 u).map some := rfl
    obtain ⟨w1, hc, hf⟩ := bd_o hf
    refine rw_v (va_runV (As := [.int 255]) (rest := []) ⟨hx, hb, hml, hown, hw⟩ (c_Wri_writeByte l D cI q0 q1 (dj_sub hd [0, 1] (by decide) rfl) 255 u w1 hc) (cwV 1 hw g_8 rfl rfl rfl (by decide +kernel) ⟨Nat.le_of_ble_eq_true rfl, Nat.le_of_ble_eq_true rfl⟩) (pre_V (P_sub hC hP) hK rfl rfl) rfl rfl hl.1 rfl (lv_room (Nat.le_of_ble_eq_true rfl)) d_Wri_writeEnd_16 ⟨Nat.le_of_ble_eq_true rfl, Nat.le_of_ble_eq_true rfl⟩) hS hP (hD _) hC rfl rfl (fun H locs hP hS => ?_)
    obtain ⟨u2, e_u2, hf⟩ := tk_o hf
    have hP : va_P D cls (wWri cI q0 q1 u2) H := by rw [e_u2]; exact hP
    refine lv_aload_n hx hb d_Wri_writeEnd_19 rfl (lv_at hl 0 rfl) ?_
    refine lv_sipush (v := 217) hx hb d_Wri_writeEnd_20 (by decide) ?_
    have hC : [0, 1].map (fun i => (wWri cI q0 q1 u2)[i]?) = (wWri cI q0 q1 u2).map some := rfl
    obtain ⟨w3, hc, hf⟩ := bd_o hf
    refine rw_v (va_runV (As := [.int 217]) (rest := []) ⟨hx, hb, hml, hown, hw⟩ (c_Wri_writeByte l D cI q0 q1 (dj_sub hd [0, 1] (by decide) rfl) 217 u2 w3 hc) (cwV 1 hw g_8 rfl rfl rfl (by decide +kernel) ⟨Nat.le_of_ble_eq_true rfl, Nat.le_of_ble_eq_true rfl⟩) (pre_V (P_sub hC hP) hK rfl rfl) rfl rfl hl.1 rfl (lv_room (Nat.le_of_ble_eq_true rfl)) d_Wri_writeEnd_23 ⟨Nat.le_of_ble_eq_true rfl, Nat.le_of_ble_eq_true rfl⟩) hS hP (hD _) hC rfl rfl (fun H locs hP hS => ?_)
    obtain ⟨u4, e_u4, hf⟩ := tk_o hf
    have hP : va_P D cls (wWri cI q0 q1 u4) H := by rw [e_u4]; exact hP
    exact rt_v (wWri cI q0 q1) hx hb hr hlocks hS hP hf d_Wri_writeEnd_26
  unfold f_Wri_writeEnd at hf
  refine lv_aload_n hx hb d_Wri_writeEnd_0 rfl (lv_at hl 0 rfl) ?_
  have hC : [0, 1].map (fun i => (wWri cI q0 q1 u)[i]?) = (wWri cI q0 q1 u).map some := rfl
  obtain ⟨x1, hc, hf⟩ := bd_o hf
  refine ro_i (va_runV (As := []) (rest := []) ⟨hx, hb, hml, hown, hw⟩ (c_Wri_endsWith255 l D cI q0 q1 u x1 hc) (cwV 0 hw g_9 rfl rfl rfl (by decide +kernel) ⟨Nat.le_of_ble_eq_true rfl, Nat.le_of_ble_eq_true rfl⟩) (pre_V (P_sub hC hP) hK rfl rfl) rfl rfl hl.1 rfl (lv_room (Nat.le_of_ble_eq_true rfl)) d_Wri_writeEnd_1 ⟨Nat.le_of_ble_eq_true rfl, Nat.le_of_ble_eq_true rfl⟩) hS hP (fun H locs hP hS => ?_)
  refine lv_if_eq (tgt := 12) hx hb d_Wri_writeEnd_4 (by decide) (fun hc => ?_) (fun hc => ?_)
  · have hf := bq_t hf hc
    exact j12 _ _ _  u (lv_sub hl [0] rfl) hP hS hf
  have hf := bq_n hf hc
  refine lv_aload_n hx hb d_Wri_writeEnd_7 rfl (lv_at hl 0 rfl) ?_
  refine lv_iconst (v := 0) hx hb d_Wri_writeEnd_8 (by decide) ?_
  have hC : [0, 1].map (fun i => (wWri cI q0 q1 u)[i]?) = (wWri cI q0 q1 u).map some := rfl
  obtain ⟨w2, hc, hf⟩ := bd_o hf
  refine rw_v (va_runV (As := [.int 0]) (rest := []) ⟨hx, hb, hml, hown, hw⟩ (c_Wri_writeByte l D cI q0 q1 (dj_sub hd [0, 1] (by decide) rfl) 0 u w2 hc) (cwV 1 hw g_8 rfl rfl rfl (by decide +kernel) ⟨Nat.le_of_ble_eq_true rfl, Nat.le_of_ble_eq_true rfl⟩) (pre_V (P_sub hC hP) hK rfl rfl) rfl rfl hl.1 rfl (lv_room (Nat.le_of_ble_eq_true rfl)) d_Wri_writeEnd_9 ⟨Nat.le_of_ble_eq_true rfl, Nat.le_of_ble_eq_true rfl⟩) hS hP (hD _) hC rfl rfl (fun H locs hP hS => ?_)
  obtain ⟨u3, e_u3, hf⟩ := tk_o hf
  have hP : va_P D cls (wWri cI q0 q1 u3) H := by rw [e_u3]; exact hP
  exact j12 _ _ _  u3 (lv_sub hl [0] rfl) hP hS hf
end
section
def f_Pas_rebuiltOrNothing_C (a1 : Int32) (a2 : Int32) (u : gU) : Option (Int32) := bq (0 ≤ a2) (bd (f_Pic_place a1 a2) fun x1 => gd (ix x1 64) (some (u 8 (tc x1)))) (some 0)
set_option maxHeartbeats 4000000 in
set_option maxRecDepth 100000 in
theorem c_Pas_rebuiltOrNothing_C (l : Launch) (D : va_G) (cI : ClassId) (q0 : Nat) (q1 : Nat) (q2 : Nat) (q3 : Nat) (q4 : Nat) (q5 : Nat) (q6 : Nat) (q7 : Nat) (q8 : Nat) (q9 : Nat) (q10 : Nat) (q11 : Nat) (a1 : Int32) (a2 : Int32) (u : gU) (r : Int32) (hf : f_Pas_rebuiltOrNothing_C a1 a2 u = some r) : Met l y_Pas_rebuiltOrNothing (.code y_Pas_rebuiltOrNothing b_Pas_rebuiltOrNothing 3 (some .int) :: TS) ({ frames := 1, cells := 0, slots := 0, locals := 21 }) (va_Pc [.ref q0, .int a1, .int a2] (fun U => va_P D cls (wCod cI q0 q1 q2 q3 q4 q5 q6 q7 q8 q9 q10 q11 u) U.heap ∧ va_K D cls [(cI, .int)] U)) (va_Qi (fun x (_ : Unit) => x = r) (fun _ _ => True) (fun _ => False)) 0 0 (fun _ => False) := by
  refine ct_of (by decide +kernel) (Nat.le_of_ble_eq_true rfl) ?_
  intro p e s m below meth c ls hx hb hml hr hlocks hown hw hP hK hl
  have hS : va_S (fun _ => False) s.heap s.heap [] := va_S.rf
  have hl : lv_has ls 3 [(0, .ref q0), (1, .int a1), (2, .int a2)] := hl
  have hP : va_P D cls (wCod cI q0 q1 q2 q3 q4 q5 q6 q7 q8 q9 q10 q11 u) s.heap := hP
  unfold f_Pas_rebuiltOrNothing_C at hf
  refine lv_iload_n hx hb d_Pas_rebuiltOrNothing_0 rfl (lv_at hl 2 rfl) ?_
  refine lv_if_ge (tgt := 8) hx hb d_Pas_rebuiltOrNothing_1 (by decide) (fun hc => ?_) (fun hc => ?_)
  · have hf := bq_t hf hc
    refine lv_aload_n hx hb d_Pas_rebuiltOrNothing_8 rfl (lv_at hl 0 rfl) ?_
    refine va_get (D := D) (ci := 3) (v := .ref q8) (C := R_Cod) (T := F_Cod) (N := 11) hx hb hw in_Cod hown hK hP 0 rfl rfl 2 (by decide) (hw _ m_84) (fun _ h9 => h9) rfl d_Pas_rebuiltOrNothing_9 ?_
    refine lv_iload_n hx hb d_Pas_rebuiltOrNothing_12 rfl (lv_at hl 1 rfl) ?_
    refine lv_iload_n hx hb d_Pas_rebuiltOrNothing_13 rfl (lv_at hl 2 rfl) ?_
    have hC : ([] : List Nat).map (fun i => (wCod cI q0 q1 q2 q3 q4 q5 q6 q7 q8 q9 q10 q11 u)[i]?) = ([] : va_W).map some := rfl
    obtain ⟨x1, hc, hf⟩ := bd_o hf
    refine ro_i (va_runS (As := [.int a1, .int a2]) (rest := [.ref q8]) ⟨hx, hb, hml, hown, hw⟩ (c_Pic_place l D cI a1 a2 x1 hc) (va_cwS 2 hw g_11 rfl rfl rfl (by decide +kernel) ⟨Nat.le_of_ble_eq_true rfl, Nat.le_of_ble_eq_true rfl⟩) (pre_S (P_sub hC hP) hK) rfl rfl hl.1 rfl (lv_room (Nat.le_of_ble_eq_true rfl)) d_Pas_rebuiltOrNothing_14 ⟨Nat.le_of_ble_eq_true rfl, Nat.le_of_ble_eq_true rfl⟩) hS hP (fun H locs hP hS => ?_)
    obtain ⟨h2, hf⟩ := gd_o hf
    refine va_iald hx hb hK hP 8 0 rfl rfl (ix_in h2) d_Pas_rebuiltOrNothing_17 ?_
    exact rt_roi hx hb hr hlocks hS hf d_Pas_rebuiltOrNothing_18
  have hf := bq_n hf hc
  refine lv_iconst (v := 0) hx hb d_Pas_rebuiltOrNothing_4 (by decide) ?_
  refine lv_goto (tgt := 18) hx hb d_Pas_rebuiltOrNothing_5 (by decide) ?_
  exact rt_roi hx hb hr hlocks hS hf d_Pas_rebuiltOrNothing_18
def J_Pas_lookAround_C_95 (s1 : Int32) (u : gU) : Option (gU) := tk (st2 u 0 3 s1) fun u1 => some u1
def J_Pas_lookAround_C_61 (l1 : Int32) (l2 : Int32) (s1 : Int32) (u : gU) : Option (gU) := tk (st2 u 0 2 s1) fun u1 => bq (((u1 1 0) - 1) ≤ l1) (J_Pas_lookAround_C_95 (u1 0 1) u1) (bd (f_Pas_rebuiltOrNothing_C (l1 + 1) (l2 - 1) u1) fun x2 => J_Pas_lookAround_C_95 x2 u1)
def J_Pas_lookAround_C_32 (l1 : Int32) (l2 : Int32) (s1 : Int32) (u : gU) : Option (gU) := tk (st2 u 0 0 s1) fun u1 => bq (l1 ≤ 0) (bd (f_Pas_rebuiltOrNothing_C l1 (l2 - 2) u1) fun x2 => J_Pas_lookAround_C_61 l1 l2 x2 u1) (bd (f_Pas_rebuiltOrNothing_C (l1 - 1) (l2 - 1) u1) fun x3 => J_Pas_lookAround_C_61 l1 l2 x3 u1)
def f_Pas_lookAround_C (a1 : Int32) (a2 : Int32) (u : gU) : Option (gU) := bd (f_Pas_rebuiltOrNothing_C a1 (a2 - 1) u) fun x1 => tk (st2 u 0 1 x1) fun u2 => bq (a1 ≤ 0) (J_Pas_lookAround_C_32 a1 a2 (u2 0 1) u2) (bd (f_Pas_rebuiltOrNothing_C (a1 - 1) a2 u2) fun x3 => J_Pas_lookAround_C_32 a1 a2 x3 u2)
set_option maxHeartbeats 4000000 in
set_option maxRecDepth 100000 in
theorem c_Pas_lookAround_C (l : Launch) (D : va_G) (cI : ClassId) (q0 : Nat) (q1 : Nat) (q2 : Nat) (q3 : Nat) (q4 : Nat) (q5 : Nat) (q6 : Nat) (q7 : Nat) (q8 : Nat) (q9 : Nat) (q10 : Nat) (q11 : Nat) (hd : dj [q0, q1, q2, q3, q4, q5, q6, q7, q8, q9, q10, q11]) (a1 : Int32) (a2 : Int32) (u : gU) (v : gU) (hf : f_Pas_lookAround_C a1 a2 u = some v) : Met l y_Pas_lookAround (.code y_Pas_lookAround b_Pas_lookAround 3 none :: TS) ({ frames := 2, cells := 0, slots := 0, locals := 43 }) (va_Pc [.ref q0, .int a1, .int a2] (fun U => va_P D cls (wCod cI q0 q1 q2 q3 q4 q5 q6 q7 q8 q9 q10 q11 u) U.heap ∧ va_K D cls [(cI, .int)] U)) (va_Qv (fun (_ : Unit) => True) (fun _ t => va_P D cls (wCod cI q0 q1 q2 q3 q4 q5 q6 q7 q8 q9 q10 q11 v) t.heap) (ad [q0, q1, q2, q3, q4, q5, q6, q7, q8, q9, q10, q11])) 0 0 (ad [q0, q1, q2, q3, q4, q5, q6, q7, q8, q9, q10, q11]) := by
  refine ct_of (by decide +kernel) (Nat.le_of_ble_eq_true rfl) ?_
  intro p e s m below meth c ls hx hb hml hr hlocks hown hw hP hK hl
  have hS : va_S (ad [q0, q1, q2, q3, q4, q5, q6, q7, q8, q9, q10, q11]) s.heap s.heap [] := va_S.rf
  have hD : ∀ v, va_D (ad [q0, q1, q2, q3, q4, q5, q6, q7, q8, q9, q10, q11]) (wCod cI q0 q1 q2 q3 q4 q5 q6 q7 q8 q9 q10 q11 v) := fun _ => dj_D rfl hd
  have hl : lv_has ls 3 [(0, .ref q0), (1, .int a1), (2, .int a2)] := hl
  have hP : va_P D cls (wCod cI q0 q1 q2 q3 q4 q5 q6 q7 q8 q9 q10 q11 u) s.heap := hP
  have j95 : ∀ (ls : Array Slot) (H : Heap) (locs : List Loc) (s1 : Int32) (u : gU), lv_has ls 3 [] → va_P D cls (wCod cI q0 q1 q2 q3 q4 q5 q6 q7 q8 q9 q10 q11 u) H → va_S (ad [q0, q1, q2, q3, q4, q5, q6, q7, q8, q9, q10, q11]) s.heap H locs → J_Pas_lookAround_C_95 s1 u = some v → W p l e ({ frames := 2, cells := 0, slots := 0, locals := 43 }) s m [.ref q0, .int a1, .int a2].toArray below meth c H locs 0 0 (MQ below (va_Qv (fun (_ : Unit) => True) (fun _ t => va_P D cls (wCod cI q0 q1 q2 q3 q4 q5 q6 q7 q8 q9 q10 q11 v) t.heap) (ad [q0, q1, q2, q3, q4, q5, q6, q7, q8, q9, q10, q11])) [.ref q0, .int a1, .int a2].toArray s 0 0 (ad [q0, q1, q2, q3, q4, q5, q6, q7, q8, q9, q10, q11])) (F0 m 95 ls [.int s1, .ref q0]) := by
    intro ls H locs s1 u hl hP hS hf
    unfold J_Pas_lookAround_C_95 at hf
    refine va_put (D := D) (ci := 3) (v := .int s1) (ty := .int) (C := R_Cod) (T := F_Cod) (N := 11) hx hb hw in_Cod t_Cod t_Cod_ok n_Cod hown hK hP (hD _) hS 0 rfl rfl 6 (by decide) (hw _ m_88) (fun _ h9 => h9) rfl (by decide +kernel) rfl rfl (Nat.le_of_ble_eq_true rfl) d_Pas_lookAround_95 (fun H locs hP _ hS => ?_)
    obtain ⟨u1, e_u1, hf⟩ := tk_o hf
    have hP : va_P D cls (wCod cI q0 q1 q2 q3 q4 q5 q6 q7 q8 q9 q10 q11 u1) H := by rw [e_u1]; exact hP
    exact rt_v (wCod cI q0 q1 q2 q3 q4 q5 q6 q7 q8 q9 q10 q11) hx hb hr hlocks hS hP hf d_Pas_lookAround_98
  have j61 : ∀ (ls : Array Slot) (H : Heap) (locs : List Loc) (l1 : Int32) (l2 : Int32) (s1 : Int32) (u : gU), lv_has ls 3 [(0, .ref q0), (1, .int l1), (2, .int l2)] → va_P D cls (wCod cI q0 q1 q2 q3 q4 q5 q6 q7 q8 q9 q10 q11 u) H → va_S (ad [q0, q1, q2, q3, q4, q5, q6, q7, q8, q9, q10, q11]) s.heap H locs → J_Pas_lookAround_C_61 l1 l2 s1 u = some v → W p l e ({ frames := 2, cells := 0, slots := 0, locals := 43 }) s m [.ref q0, .int a1, .int a2].toArray below meth c H locs 0 0 (MQ below (va_Qv (fun (_ : Unit) => True) (fun _ t => va_P D cls (wCod cI q0 q1 q2 q3 q4 q5 q6 q7 q8 q9 q10 q11 v) t.heap) (ad [q0, q1, q2, q3, q4, q5, q6, q7, q8, q9, q10, q11])) [.ref q0, .int a1, .int a2].toArray s 0 0 (ad [q0, q1, q2, q3, q4, q5, q6, q7, q8, q9, q10, q11])) (F0 m 61 ls [.int s1, .ref q0]) := by
    intro ls H locs l1 l2 s1 u hl hP hS hf
    unfold J_Pas_lookAround_C_61 at hf
    refine va_put (D := D) (ci := 3) (v := .int s1) (ty := .int) (C := R_Cod) (T := F_Cod) (N := 11) hx hb hw in_Cod t_Cod t_Cod_ok n_Cod hown hK hP (hD _) hS 0 rfl rfl 5 (by decide) (hw _ m_89) (fun _ h9 => h9) rfl (by decide +kernel) rfl rfl (Nat.le_of_ble_eq_true rfl) d_Pas_lookAround_61 (fun H locs hP _ hS => ?_)
    obtain ⟨u1, e_u1, hf⟩ := tk_o hf
    have hP : va_P D cls (wCod cI q0 q1 q2 q3 q4 q5 q6 q7 q8 q9 q10 q11 u1) H := by rw [e_u1]; exact hP
    refine lv_aload_n hx hb d_Pas_lookAround_64 rfl (lv_at hl 0 rfl) ?_
    refine lv_iload_n hx hb d_Pas_lookAround_65 rfl (lv_at hl 1 rfl) ?_
    refine lv_aload_n hx hb d_Pas_lookAround_66 rfl (lv_at hl 0 rfl) ?_
    refine va_get (D := D) (ci := 3) (v := .ref q1) (C := R_Cod) (T := F_Cod) (N := 11) hx hb hw in_Cod hown hK hP 0 rfl rfl 0 (by decide) (hw _ m_90) (fun _ h9 => h9) rfl d_Pas_lookAround_67 ?_
    refine va_get (D := D) (ci := 1) (v := .int (u1 1 0)) (C := R_Pic) (T := F_Pic) (N := 11) hx hb hw in_Pic hown hK hP 1 rfl rfl 0 (by decide) (hw _ m_91) (fun _ h9 => h9) rfl d_Pas_lookAround_70 ?_
    refine lv_iconst (v := 1) hx hb d_Pas_lookAround_73 (by decide) ?_
    refine lv_isub hx hb d_Pas_lookAround_74 ?_
    refine lv_icmp_ge (tgt := 91) hx hb d_Pas_lookAround_75 (by decide) (fun hc => ?_) (fun hc => ?_)
    · have hf := bq_t hf hc
      refine lv_aload_n hx hb d_Pas_lookAround_91 rfl (lv_at hl 0 rfl) ?_
      refine va_get (D := D) (ci := 3) (v := .int (u1 0 1)) (C := R_Cod) (T := F_Cod) (N := 11) hx hb hw in_Cod hown hK hP 0 rfl rfl 4 (by decide) (hw _ m_92) (fun _ h9 => h9) rfl d_Pas_lookAround_92 ?_
      exact j95 _ _ _ (u1 0 1) u1 (lv_sub hl [] rfl) hP hS hf
    have hf := bq_n hf hc
    refine lv_aload_n hx hb d_Pas_lookAround_78 rfl (lv_at hl 0 rfl) ?_
    refine lv_iload_n hx hb d_Pas_lookAround_79 rfl (lv_at hl 1 rfl) ?_
    refine lv_iconst (v := 1) hx hb d_Pas_lookAround_80 (by decide) ?_
    refine lv_iadd hx hb d_Pas_lookAround_81 ?_
    refine lv_iload_n hx hb d_Pas_lookAround_82 rfl (lv_at hl 2 rfl) ?_
    refine lv_iconst (v := 1) hx hb d_Pas_lookAround_83 (by decide) ?_
    refine lv_isub hx hb d_Pas_lookAround_84 ?_
    have hC : [0, 1, 2, 3, 4, 5, 6, 7, 8, 9, 10, 11].map (fun i => (wCod cI q0 q1 q2 q3 q4 q5 q6 q7 q8 q9 q10 q11 u1)[i]?) = (wCod cI q0 q1 q2 q3 q4 q5 q6 q7 q8 q9 q10 q11 u1).map some := rfl
    obtain ⟨x2, hc, hf⟩ := bd_o hf
    refine ro_i (va_runU (As := [.int (l1 + 1), .int (l2 - 1)]) (rest := [.ref q0]) ⟨hx, hb, hml, hown, hw⟩ (c_Pas_rebuiltOrNothing_C l D cI q0 q1 q2 q3 q4 q5 q6 q7 q8 q9 q10 q11 (l1 + 1) (l2 - 1) u1 x2 hc) (va_cwU 2 hw g_12 rfl rfl rfl rfl (by decide +kernel) ⟨Nat.le_of_ble_eq_true rfl, Nat.le_of_ble_eq_true rfl⟩) (pre_V (P_sub hC hP) hK rfl rfl) rfl rfl hl.1 rfl (lv_room (Nat.le_of_ble_eq_true rfl)) d_Pas_lookAround_85 ⟨Nat.le_of_ble_eq_true rfl, Nat.le_of_ble_eq_true rfl⟩) hS hP (fun H locs hP hS => ?_)
    refine lv_goto (tgt := 95) hx hb d_Pas_lookAround_88 (by decide) ?_
    exact j95 _ _ _ x2 u1 (lv_sub hl [] rfl) hP hS hf
  have j32 : ∀ (ls : Array Slot) (H : Heap) (locs : List Loc) (l1 : Int32) (l2 : Int32) (s1 : Int32) (u : gU), lv_has ls 3 [(0, .ref q0), (1, .int l1), (2, .int l2)] → va_P D cls (wCod cI q0 q1 q2 q3 q4 q5 q6 q7 q8 q9 q10 q11 u) H → va_S (ad [q0, q1, q2, q3, q4, q5, q6, q7, q8, q9, q10, q11]) s.heap H locs → J_Pas_lookAround_C_32 l1 l2 s1 u = some v → W p l e ({ frames := 2, cells := 0, slots := 0, locals := 43 }) s m [.ref q0, .int a1, .int a2].toArray below meth c H locs 0 0 (MQ below (va_Qv (fun (_ : Unit) => True) (fun _ t => va_P D cls (wCod cI q0 q1 q2 q3 q4 q5 q6 q7 q8 q9 q10 q11 v) t.heap) (ad [q0, q1, q2, q3, q4, q5, q6, q7, q8, q9, q10, q11])) [.ref q0, .int a1, .int a2].toArray s 0 0 (ad [q0, q1, q2, q3, q4, q5, q6, q7, q8, q9, q10, q11])) (F0 m 32 ls [.int s1, .ref q0]) := by
    intro ls H locs l1 l2 s1 u hl hP hS hf
    unfold J_Pas_lookAround_C_32 at hf
    refine va_put (D := D) (ci := 3) (v := .int s1) (ty := .int) (C := R_Cod) (T := F_Cod) (N := 11) hx hb hw in_Cod t_Cod t_Cod_ok n_Cod hown hK hP (hD _) hS 0 rfl rfl 3 (by decide) (hw _ m_99) (fun _ h9 => h9) rfl (by decide +kernel) rfl rfl (Nat.le_of_ble_eq_true rfl) d_Pas_lookAround_32 (fun H locs hP _ hS => ?_)
    obtain ⟨u1, e_u1, hf⟩ := tk_o hf
    have hP : va_P D cls (wCod cI q0 q1 q2 q3 q4 q5 q6 q7 q8 q9 q10 q11 u1) H := by rw [e_u1]; exact hP
    refine lv_aload_n hx hb d_Pas_lookAround_35 rfl (lv_at hl 0 rfl) ?_
    refine lv_iload_n hx hb d_Pas_lookAround_36 rfl (lv_at hl 1 rfl) ?_
    refine lv_if_le (tgt := 53) hx hb d_Pas_lookAround_37 (by decide) (fun hc => ?_) (fun hc => ?_)
    · have hf := bq_t hf hc
      refine lv_aload_n hx hb d_Pas_lookAround_53 rfl (lv_at hl 0 rfl) ?_
      refine lv_iload_n hx hb d_Pas_lookAround_54 rfl (lv_at hl 1 rfl) ?_
      refine lv_iload_n hx hb d_Pas_lookAround_55 rfl (lv_at hl 2 rfl) ?_
      refine lv_iconst (v := 2) hx hb d_Pas_lookAround_56 (by decide) ?_
      refine lv_isub hx hb d_Pas_lookAround_57 ?_
      have hC : [0, 1, 2, 3, 4, 5, 6, 7, 8, 9, 10, 11].map (fun i => (wCod cI q0 q1 q2 q3 q4 q5 q6 q7 q8 q9 q10 q11 u1)[i]?) = (wCod cI q0 q1 q2 q3 q4 q5 q6 q7 q8 q9 q10 q11 u1).map some := rfl
      obtain ⟨x2, hc, hf⟩ := bd_o hf
      refine ro_i (va_runU (As := [.int l1, .int (l2 - 2)]) (rest := [.ref q0]) ⟨hx, hb, hml, hown, hw⟩ (c_Pas_rebuiltOrNothing_C l D cI q0 q1 q2 q3 q4 q5 q6 q7 q8 q9 q10 q11 l1 (l2 - 2) u1 x2 hc) (va_cwU 2 hw g_12 rfl rfl rfl rfl (by decide +kernel) ⟨Nat.le_of_ble_eq_true rfl, Nat.le_of_ble_eq_true rfl⟩) (pre_V (P_sub hC hP) hK rfl rfl) rfl rfl hl.1 rfl (lv_room (Nat.le_of_ble_eq_true rfl)) d_Pas_lookAround_58 ⟨Nat.le_of_ble_eq_true rfl, Nat.le_of_ble_eq_true rfl⟩) hS hP (fun H locs hP hS => ?_)
      exact j61 _ _ _ l1 l2 x2 u1 (lv_sub hl [0, 1, 2] rfl) hP hS hf
    have hf := bq_n hf hc
    refine lv_aload_n hx hb d_Pas_lookAround_40 rfl (lv_at hl 0 rfl) ?_
    refine lv_iload_n hx hb d_Pas_lookAround_41 rfl (lv_at hl 1 rfl) ?_
    refine lv_iconst (v := 1) hx hb d_Pas_lookAround_42 (by decide) ?_
    refine lv_isub hx hb d_Pas_lookAround_43 ?_
    refine lv_iload_n hx hb d_Pas_lookAround_44 rfl (lv_at hl 2 rfl) ?_
    refine lv_iconst (v := 1) hx hb d_Pas_lookAround_45 (by decide) ?_
    refine lv_isub hx hb d_Pas_lookAround_46 ?_
    have hC : [0, 1, 2, 3, 4, 5, 6, 7, 8, 9, 10, 11].map (fun i => (wCod cI q0 q1 q2 q3 q4 q5 q6 q7 q8 q9 q10 q11 u1)[i]?) = (wCod cI q0 q1 q2 q3 q4 q5 q6 q7 q8 q9 q10 q11 u1).map some := rfl
    obtain ⟨x3, hc, hf⟩ := bd_o hf
    refine ro_i (va_runU (As := [.int (l1 - 1), .int (l2 - 1)]) (rest := [.ref q0]) ⟨hx, hb, hml, hown, hw⟩ (c_Pas_rebuiltOrNothing_C l D cI q0 q1 q2 q3 q4 q5 q6 q7 q8 q9 q10 q11 (l1 - 1) (l2 - 1) u1 x3 hc) (va_cwU 2 hw g_12 rfl rfl rfl rfl (by decide +kernel) ⟨Nat.le_of_ble_eq_true rfl, Nat.le_of_ble_eq_true rfl⟩) (pre_V (P_sub hC hP) hK rfl rfl) rfl rfl hl.1 rfl (lv_room (Nat.le_of_ble_eq_true rfl)) d_Pas_lookAround_47 ⟨Nat.le_of_ble_eq_true rfl, Nat.le_of_ble_eq_true rfl⟩) hS hP (fun H locs hP hS => ?_)
    refine lv_goto (tgt := 61) hx hb d_Pas_lookAround_50 (by decide) ?_
    exact j61 _ _ _ l1 l2 x3 u1 (lv_sub hl [0, 1, 2] rfl) hP hS hf
  unfold f_Pas_lookAround_C at hf
  refine lv_aload_n hx hb d_Pas_lookAround_0 rfl (lv_at hl 0 rfl) ?_
  refine lv_aload_n hx hb d_Pas_lookAround_1 rfl (lv_at hl 0 rfl) ?_
  refine lv_iload_n hx hb d_Pas_lookAround_2 rfl (lv_at hl 1 rfl) ?_
  refine lv_iload_n hx hb d_Pas_lookAround_3 rfl (lv_at hl 2 rfl) ?_
  refine lv_iconst (v := 1) hx hb d_Pas_lookAround_4 (by decide) ?_
  refine lv_isub hx hb d_Pas_lookAround_5 ?_
  have hC : [0, 1, 2, 3, 4, 5, 6, 7, 8, 9, 10, 11].map (fun i => (wCod cI q0 q1 q2 q3 q4 q5 q6 q7 q8 q9 q10 q11 u)[i]?) = (wCod cI q0 q1 q2 q3 q4 q5 q6 q7 q8 q9 q10 q11 u).map some := rfl
  obtain ⟨x1, hc, hf⟩ := bd_o hf
  refine ro_i (va_runU (As := [.int a1, .int (a2 - 1)]) (rest := [.ref q0]) ⟨hx, hb, hml, hown, hw⟩ (c_Pas_rebuiltOrNothing_C l D cI q0 q1 q2 q3 q4 q5 q6 q7 q8 q9 q10 q11 a1 (a2 - 1) u x1 hc) (va_cwU 2 hw g_12 rfl rfl rfl rfl (by decide +kernel) ⟨Nat.le_of_ble_eq_true rfl, Nat.le_of_ble_eq_true rfl⟩) (pre_V (P_sub hC hP) hK rfl rfl) rfl rfl hl.1 rfl (lv_room (Nat.le_of_ble_eq_true rfl)) d_Pas_lookAround_6 ⟨Nat.le_of_ble_eq_true rfl, Nat.le_of_ble_eq_true rfl⟩) hS hP (fun H locs hP hS => ?_)
  refine va_put (D := D) (ci := 3) (v := .int x1) (ty := .int) (C := R_Cod) (T := F_Cod) (N := 11) hx hb hw in_Cod t_Cod t_Cod_ok n_Cod hown hK hP (hD _) hS 0 rfl rfl 4 (by decide) (hw _ m_92) (fun _ h9 => h9) rfl (by decide +kernel) rfl rfl (Nat.le_of_ble_eq_true rfl) d_Pas_lookAround_9 (fun H locs hP _ hS => ?_)
  obtain ⟨u2, e_u2, hf⟩ := tk_o hf
  have hP : va_P D cls (wCod cI q0 q1 q2 q3 q4 q5 q6 q7 q8 q9 q10 q11 u2) H := by rw [e_u2]; exact hP
  refine lv_aload_n hx hb d_Pas_lookAround_12 rfl (lv_at hl 0 rfl) ?_
  refine lv_iload_n hx hb d_Pas_lookAround_13 rfl (lv_at hl 1 rfl) ?_
  refine lv_if_le (tgt := 28) hx hb d_Pas_lookAround_14 (by decide) (fun hc => ?_) (fun hc => ?_)
  · have hf := bq_t hf hc
    refine lv_aload_n hx hb d_Pas_lookAround_28 rfl (lv_at hl 0 rfl) ?_
    refine va_get (D := D) (ci := 3) (v := .int (u2 0 1)) (C := R_Cod) (T := F_Cod) (N := 11) hx hb hw in_Cod hown hK hP 0 rfl rfl 4 (by decide) (hw _ m_92) (fun _ h9 => h9) rfl d_Pas_lookAround_29 ?_
    exact j32 _ _ _ a1 a2 (u2 0 1) u2 (lv_sub hl [0, 1, 2] rfl) hP hS hf
  have hf := bq_n hf hc
  refine lv_aload_n hx hb d_Pas_lookAround_17 rfl (lv_at hl 0 rfl) ?_
  refine lv_iload_n hx hb d_Pas_lookAround_18 rfl (lv_at hl 1 rfl) ?_
  refine lv_iconst (v := 1) hx hb d_Pas_lookAround_19 (by decide) ?_
  refine lv_isub hx hb d_Pas_lookAround_20 ?_
  refine lv_iload_n hx hb d_Pas_lookAround_21 rfl (lv_at hl 2 rfl) ?_
  have hC : [0, 1, 2, 3, 4, 5, 6, 7, 8, 9, 10, 11].map (fun i => (wCod cI q0 q1 q2 q3 q4 q5 q6 q7 q8 q9 q10 q11 u2)[i]?) = (wCod cI q0 q1 q2 q3 q4 q5 q6 q7 q8 q9 q10 q11 u2).map some := rfl
  obtain ⟨x3, hc, hf⟩ := bd_o hf
  refine ro_i (va_runU (As := [.int (a1 - 1), .int a2]) (rest := [.ref q0]) ⟨hx, hb, hml, hown, hw⟩ (c_Pas_rebuiltOrNothing_C l D cI q0 q1 q2 q3 q4 q5 q6 q7 q8 q9 q10 q11 (a1 - 1) a2 u2 x3 hc) (va_cwU 2 hw g_12 rfl rfl rfl rfl (by decide +kernel) ⟨Nat.le_of_ble_eq_true rfl, Nat.le_of_ble_eq_true rfl⟩) (pre_V (P_sub hC hP) hK rfl rfl) rfl rfl hl.1 rfl (lv_room (Nat.le_of_ble_eq_true rfl)) d_Pas_lookAround_22 ⟨Nat.le_of_ble_eq_true rfl, Nat.le_of_ble_eq_true rfl⟩) hS hP (fun H locs hP hS => ?_)
  refine lv_goto (tgt := 32) hx hb d_Pas_lookAround_25 (by decide) ?_
  exact j32 _ _ _ a1 a2 x3 u2 (lv_sub hl [0, 1, 2] rfl) hP hS hf
def f_Pas_isEven_C (u : gU) : Option (Int32) := bd (f_Pic_isNear ((u 0 1) - (u 0 3)) (sb [1] u)) fun x1 => bq (x1 = 0) (some 0) (bd (f_Pic_isNear ((u 0 2) - (u 0 1)) (sb [1] u)) fun x2 => bq (x2 = 0) (some 0) (bd (f_Pic_isNear ((u 0 0) - (u 0 2)) (sb [1] u)) fun x3 => bq (x3 = 0) (some 0) (some 1)))
set_option maxHeartbeats 4000000 in
set_option maxRecDepth 100000 in
theorem c_Pas_isEven_C (l : Launch) (D : va_G) (cI : ClassId) (q0 : Nat) (q1 : Nat) (q2 : Nat) (q3 : Nat) (q4 : Nat) (q5 : Nat) (q6 : Nat) (q7 : Nat) (q8 : Nat) (q9 : Nat) (q10 : Nat) (q11 : Nat) (u : gU) (r : Int32) (hf : f_Pas_isEven_C u = some r) : Met l y_Pas_isEven (.code y_Pas_isEven b_Pas_isEven 1 (some .boolean) :: TS) ({ frames := 1, cells := 0, slots := 0, locals := 21 }) (va_Pc [.ref q0] (fun U => va_P D cls (wCod cI q0 q1 q2 q3 q4 q5 q6 q7 q8 q9 q10 q11 u) U.heap ∧ va_K D cls [(cI, .int)] U)) (va_Qi (fun x (_ : Unit) => x = r) (fun _ _ => True) (fun _ => False)) 0 0 (fun _ => False) := by
  refine ct_of (by decide +kernel) (Nat.le_of_ble_eq_true rfl) ?_
  intro p e s m below meth c ls hx hb hml hr hlocks hown hw hP hK hl
  have hS : va_S (fun _ => False) s.heap s.heap [] := va_S.rf
  have hl : lv_has ls 1 [(0, .ref q0)] := hl
  have hP : va_P D cls (wCod cI q0 q1 q2 q3 q4 q5 q6 q7 q8 q9 q10 q11 u) s.heap := hP
  unfold f_Pas_isEven_C at hf
  refine lv_aload_n hx hb d_Pas_isEven_0 rfl (lv_at hl 0 rfl) ?_
  refine va_get (D := D) (ci := 3) (v := .ref q1) (C := R_Cod) (T := F_Cod) (N := 11) hx hb hw in_Cod hown hK hP 0 rfl rfl 0 (by decide) (hw _ m_90) (fun _ h9 => h9) rfl d_Pas_isEven_1 ?_
  refine lv_aload_n hx hb d_Pas_isEven_4 rfl (lv_at hl 0 rfl) ?_
  refine va_get (D := D) (ci := 3) (v := .int (u 0 1)) (C := R_Cod) (T := F_Cod) (N := 11) hx hb hw in_Cod hown hK hP 0 rfl rfl 4 (by decide) (hw _ m_92) (fun _ h9 => h9) rfl d_Pas_isEven_5 ?_
  refine lv_aload_n hx hb d_Pas_isEven_8 rfl (lv_at hl 0 rfl) ?_
  refine va_get (D := D) (ci := 3) (v := .int (u 0 3)) (C := R_Cod) (T := F_Cod) (N := 11) hx hb hw in_Cod hown hK hP 0 rfl rfl 6 (by decide) (hw _ m_88) (fun _ h9 => h9) rfl d_Pas_isEven_9 ?_
  refine lv_isub hx hb d_Pas_isEven_12 ?_
  have hC : [1].map (fun i => (wCod cI q0 q1 q2 q3 q4 q5 q6 q7 q8 q9 q10 q11 u)[i]?) = (wPic cI q1 (sb [1] u)).map some := rfl
  obtain ⟨x1, hc, hf⟩ := bd_o hf
  refine ro_i (va_runV (As := [.int ((u 0 1) - (u 0 3))]) (rest := []) ⟨hx, hb, hml, hown, hw⟩ (c_Pic_isNear l D cI q1 ((u 0 1) - (u 0 3)) (sb [1] u) x1 hc) (cwV 1 hw g_13 rfl rfl rfl (by decide +kernel) ⟨Nat.le_of_ble_eq_true rfl, Nat.le_of_ble_eq_true rfl⟩) (pre_V (P_sub hC hP) hK rfl rfl) rfl rfl hl.1 rfl (lv_room (Nat.le_of_ble_eq_true rfl)) d_Pas_isEven_13 ⟨Nat.le_of_ble_eq_true rfl, Nat.le_of_ble_eq_true rfl⟩) hS hP (fun H locs hP hS => ?_)
  refine lv_if_eq (tgt := 61) hx hb d_Pas_isEven_16 (by decide) (fun hc => ?_) (fun hc => ?_)
  · have hf := bq_t hf hc
    refine lv_iconst (v := 0) hx hb d_Pas_isEven_61 (by decide) ?_
    exact rt_roz hx hb hr hlocks (Or.inl rfl) hS hf d_Pas_isEven_62
  have hf := bq_n hf hc
  refine lv_aload_n hx hb d_Pas_isEven_19 rfl (lv_at hl 0 rfl) ?_
  refine va_get (D := D) (ci := 3) (v := .ref q1) (C := R_Cod) (T := F_Cod) (N := 11) hx hb hw in_Cod hown hK hP 0 rfl rfl 0 (by decide) (hw _ m_90) (fun _ h9 => h9) rfl d_Pas_isEven_20 ?_
  refine lv_aload_n hx hb d_Pas_isEven_23 rfl (lv_at hl 0 rfl) ?_
  refine va_get (D := D) (ci := 3) (v := .int (u 0 2)) (C := R_Cod) (T := F_Cod) (N := 11) hx hb hw in_Cod hown hK hP 0 rfl rfl 5 (by decide) (hw _ m_89) (fun _ h9 => h9) rfl d_Pas_isEven_24 ?_
  refine lv_aload_n hx hb d_Pas_isEven_27 rfl (lv_at hl 0 rfl) ?_
  refine va_get (D := D) (ci := 3) (v := .int (u 0 1)) (C := R_Cod) (T := F_Cod) (N := 11) hx hb hw in_Cod hown hK hP 0 rfl rfl 4 (by decide) (hw _ m_92) (fun _ h9 => h9) rfl d_Pas_isEven_28 ?_
  refine lv_isub hx hb d_Pas_isEven_31 ?_
  have hC : [1].map (fun i => (wCod cI q0 q1 q2 q3 q4 q5 q6 q7 q8 q9 q10 q11 u)[i]?) = (wPic cI q1 (sb [1] u)).map some := rfl
  obtain ⟨x2, hc, hf⟩ := bd_o hf
  refine ro_i (va_runV (As := [.int ((u 0 2) - (u 0 1))]) (rest := []) ⟨hx, hb, hml, hown, hw⟩ (c_Pic_isNear l D cI q1 ((u 0 2) - (u 0 1)) (sb [1] u) x2 hc) (cwV 1 hw g_13 rfl rfl rfl (by decide +kernel) ⟨Nat.le_of_ble_eq_true rfl, Nat.le_of_ble_eq_true rfl⟩) (pre_V (P_sub hC hP) hK rfl rfl) rfl rfl hl.1 rfl (lv_room (Nat.le_of_ble_eq_true rfl)) d_Pas_isEven_32 ⟨Nat.le_of_ble_eq_true rfl, Nat.le_of_ble_eq_true rfl⟩) hS hP (fun H locs hP hS => ?_)
  refine lv_if_eq (tgt := 61) hx hb d_Pas_isEven_35 (by decide) (fun hc => ?_) (fun hc => ?_)
  · have hf := bq_t hf hc
    refine lv_iconst (v := 0) hx hb d_Pas_isEven_61 (by decide) ?_
    exact rt_roz hx hb hr hlocks (Or.inl rfl) hS hf d_Pas_isEven_62
  have hf := bq_n hf hc
  refine lv_aload_n hx hb d_Pas_isEven_38 rfl (lv_at hl 0 rfl) ?_
  refine va_get (D := D) (ci := 3) (v := .ref q1) (C := R_Cod) (T := F_Cod) (N := 11) hx hb hw in_Cod hown hK hP 0 rfl rfl 0 (by decide) (hw _ m_90) (fun _ h9 => h9) rfl d_Pas_isEven_39 ?_
  refine lv_aload_n hx hb d_Pas_isEven_42 rfl (lv_at hl 0 rfl) ?_
  refine va_get (D := D) (ci := 3) (v := .int (u 0 0)) (C := R_Cod) (T := F_Cod) (N := 11) hx hb hw in_Cod hown hK hP 0 rfl rfl 3 (by decide) (hw _ m_99) (fun _ h9 => h9) rfl d_Pas_isEven_43 ?_
  refine lv_aload_n hx hb d_Pas_isEven_46 rfl (lv_at hl 0 rfl) ?_
  refine va_get (D := D) (ci := 3) (v := .int (u 0 2)) (C := R_Cod) (T := F_Cod) (N := 11) hx hb hw in_Cod hown hK hP 0 rfl rfl 5 (by decide) (hw _ m_89) (fun _ h9 => h9) rfl d_Pas_isEven_47 ?_
  refine lv_isub hx hb d_Pas_isEven_50 ?_
  have hC : [1].map (fun i => (wCod cI q0 q1 q2 q3 q4 q5 q6 q7 q8 q9 q10 q11 u)[i]?) = (wPic cI q1 (sb [1] u)).map some := rfl
  obtain ⟨x3, hc, hf⟩ := bd_o hf
  refine ro_i (va_runV (As := [.int ((u 0 0) - (u 0 2))]) (rest := []) ⟨hx, hb, hml, hown, hw⟩ (c_Pic_isNear l D cI q1 ((u 0 0) - (u 0 2)) (sb [1] u) x3 hc) (cwV 1 hw g_13 rfl rfl rfl (by decide +kernel) ⟨Nat.le_of_ble_eq_true rfl, Nat.le_of_ble_eq_true rfl⟩) (pre_V (P_sub hC hP) hK rfl rfl) rfl rfl hl.1 rfl (lv_room (Nat.le_of_ble_eq_true rfl)) d_Pas_isEven_51 ⟨Nat.le_of_ble_eq_true rfl, Nat.le_of_ble_eq_true rfl⟩) hS hP (fun H locs hP hS => ?_)
  refine lv_if_eq (tgt := 61) hx hb d_Pas_isEven_54 (by decide) (fun hc => ?_) (fun hc => ?_)
  · have hf := bq_t hf hc
    refine lv_iconst (v := 0) hx hb d_Pas_isEven_61 (by decide) ?_
    exact rt_roz hx hb hr hlocks (Or.inl rfl) hS hf d_Pas_isEven_62
  have hf := bq_n hf hc
  refine lv_iconst (v := 1) hx hb d_Pas_isEven_57 (by decide) ?_
  refine lv_goto (tgt := 62) hx hb d_Pas_isEven_58 (by decide) ?_
  exact rt_roz hx hb hr hlocks (Or.inr rfl) hS hf d_Pas_isEven_62
def f_Pas_signedContext_C (u : gU) : Option (Int32) := bd (f_Pic_level ((u 0 3) - (u 0 1)) (sb [1] u)) fun x1 => bd (f_Pic_level ((u 0 1) - (u 0 2)) (sb [1] u)) fun x2 => bd (f_Pic_level ((u 0 2) - (u 0 0)) (sb [1] u)) fun x3 => some (((81 * x1) + (9 * x2)) + x3)
set_option maxHeartbeats 4000000 in
set_option maxRecDepth 100000 in
theorem c_Pas_signedContext_C (l : Launch) (D : va_G) (cI : ClassId) (q0 : Nat) (q1 : Nat) (q2 : Nat) (q3 : Nat) (q4 : Nat) (q5 : Nat) (q6 : Nat) (q7 : Nat) (q8 : Nat) (q9 : Nat) (q10 : Nat) (q11 : Nat) (u : gU) (r : Int32) (hf : f_Pas_signedContext_C u = some r) : Met l y_Pas_signedContext (.code y_Pas_signedContext b_Pas_signedContext 1 (some .int) :: TS) ({ frames := 1, cells := 0, slots := 0, locals := 21 }) (va_Pc [.ref q0] (fun U => va_P D cls (wCod cI q0 q1 q2 q3 q4 q5 q6 q7 q8 q9 q10 q11 u) U.heap ∧ va_K D cls [(cI, .int)] U)) (va_Qi (fun x (_ : Unit) => x = r) (fun _ _ => True) (fun _ => False)) 0 0 (fun _ => False) := by
  refine ct_of (by decide +kernel) (Nat.le_of_ble_eq_true rfl) ?_
  intro p e s m below meth c ls hx hb hml hr hlocks hown hw hP hK hl
  have hS : va_S (fun _ => False) s.heap s.heap [] := va_S.rf
  have hl : lv_has ls 1 [(0, .ref q0)] := hl
  have hP : va_P D cls (wCod cI q0 q1 q2 q3 q4 q5 q6 q7 q8 q9 q10 q11 u) s.heap := hP
  unfold f_Pas_signedContext_C at hf
  refine lv_bipush (v := 81) hx hb d_Pas_signedContext_0 (by decide) ?_
  refine lv_aload_n hx hb d_Pas_signedContext_2 rfl (lv_at hl 0 rfl) ?_
  refine va_get (D := D) (ci := 3) (v := .ref q1) (C := R_Cod) (T := F_Cod) (N := 11) hx hb hw in_Cod hown hK hP 0 rfl rfl 0 (by decide) (hw _ m_90) (fun _ h9 => h9) rfl d_Pas_signedContext_3 ?_
  refine lv_aload_n hx hb d_Pas_signedContext_6 rfl (lv_at hl 0 rfl) ?_
  refine va_get (D := D) (ci := 3) (v := .int (u 0 3)) (C := R_Cod) (T := F_Cod) (N := 11) hx hb hw in_Cod hown hK hP 0 rfl rfl 6 (by decide) (hw _ m_88) (fun _ h9 => h9) rfl d_Pas_signedContext_7 ?_
  refine lv_aload_n hx hb d_Pas_signedContext_10 rfl (lv_at hl 0 rfl) ?_
  refine va_get (D := D) (ci := 3) (v := .int (u 0 1)) (C := R_Cod) (T := F_Cod) (N := 11) hx hb hw in_Cod hown hK hP 0 rfl rfl 4 (by decide) (hw _ m_92) (fun _ h9 => h9) rfl d_Pas_signedContext_11 ?_
  refine lv_isub hx hb d_Pas_signedContext_14 ?_
  have hC : [1].map (fun i => (wCod cI q0 q1 q2 q3 q4 q5 q6 q7 q8 q9 q10 q11 u)[i]?) = (wPic cI q1 (sb [1] u)).map some := rfl
  obtain ⟨x1, hc, hf⟩ := bd_o hf
  refine ro_i (va_runV (As := [.int ((u 0 3) - (u 0 1))]) (rest := [.int 81]) ⟨hx, hb, hml, hown, hw⟩ (c_Pic_level l D cI q1 ((u 0 3) - (u 0 1)) (sb [1] u) x1 hc) (cwV 1 hw g_14 rfl rfl rfl (by decide +kernel) ⟨Nat.le_of_ble_eq_true rfl, Nat.le_of_ble_eq_true rfl⟩) (pre_V (P_sub hC hP) hK rfl rfl) rfl rfl hl.1 rfl (lv_room (Nat.le_of_ble_eq_true rfl)) d_Pas_signedContext_15 ⟨Nat.le_of_ble_eq_true rfl, Nat.le_of_ble_eq_true rfl⟩) hS hP (fun H locs hP hS => ?_)
  refine lv_imul hx hb d_Pas_signedContext_18 ?_
  refine lv_bipush (v := 9) hx hb d_Pas_signedContext_19 (by decide) ?_
  refine lv_aload_n hx hb d_Pas_signedContext_21 rfl (lv_at hl 0 rfl) ?_
  refine va_get (D := D) (ci := 3) (v := .ref q1) (C := R_Cod) (T := F_Cod) (N := 11) hx hb hw in_Cod hown hK hP 0 rfl rfl 0 (by decide) (hw _ m_90) (fun _ h9 => h9) rfl d_Pas_signedContext_22 ?_
  refine lv_aload_n hx hb d_Pas_signedContext_25 rfl (lv_at hl 0 rfl) ?_
  refine va_get (D := D) (ci := 3) (v := .int (u 0 1)) (C := R_Cod) (T := F_Cod) (N := 11) hx hb hw in_Cod hown hK hP 0 rfl rfl 4 (by decide) (hw _ m_92) (fun _ h9 => h9) rfl d_Pas_signedContext_26 ?_
  refine lv_aload_n hx hb d_Pas_signedContext_29 rfl (lv_at hl 0 rfl) ?_
  refine va_get (D := D) (ci := 3) (v := .int (u 0 2)) (C := R_Cod) (T := F_Cod) (N := 11) hx hb hw in_Cod hown hK hP 0 rfl rfl 5 (by decide) (hw _ m_89) (fun _ h9 => h9) rfl d_Pas_signedContext_30 ?_
  refine lv_isub hx hb d_Pas_signedContext_33 ?_
  have hC : [1].map (fun i => (wCod cI q0 q1 q2 q3 q4 q5 q6 q7 q8 q9 q10 q11 u)[i]?) = (wPic cI q1 (sb [1] u)).map some := rfl
  obtain ⟨x2, hc, hf⟩ := bd_o hf
  refine ro_i (va_runV (As := [.int ((u 0 1) - (u 0 2))]) (rest := [.int 9, .int (81 * x1)]) ⟨hx, hb, hml, hown, hw⟩ (c_Pic_level l D cI q1 ((u 0 1) - (u 0 2)) (sb [1] u) x2 hc) (cwV 1 hw g_14 rfl rfl rfl (by decide +kernel) ⟨Nat.le_of_ble_eq_true rfl, Nat.le_of_ble_eq_true rfl⟩) (pre_V (P_sub hC hP) hK rfl rfl) rfl rfl hl.1 rfl (lv_room (Nat.le_of_ble_eq_true rfl)) d_Pas_signedContext_34 ⟨Nat.le_of_ble_eq_true rfl, Nat.le_of_ble_eq_true rfl⟩) hS hP (fun H locs hP hS => ?_)
  refine lv_imul hx hb d_Pas_signedContext_37 ?_
  refine lv_iadd hx hb d_Pas_signedContext_38 ?_
  refine lv_aload_n hx hb d_Pas_signedContext_39 rfl (lv_at hl 0 rfl) ?_
  refine va_get (D := D) (ci := 3) (v := .ref q1) (C := R_Cod) (T := F_Cod) (N := 11) hx hb hw in_Cod hown hK hP 0 rfl rfl 0 (by decide) (hw _ m_90) (fun _ h9 => h9) rfl d_Pas_signedContext_40 ?_
  refine lv_aload_n hx hb d_Pas_signedContext_43 rfl (lv_at hl 0 rfl) ?_
  refine va_get (D := D) (ci := 3) (v := .int (u 0 2)) (C := R_Cod) (T := F_Cod) (N := 11) hx hb hw in_Cod hown hK hP 0 rfl rfl 5 (by decide) (hw _ m_89) (fun _ h9 => h9) rfl d_Pas_signedContext_44 ?_
  refine lv_aload_n hx hb d_Pas_signedContext_47 rfl (lv_at hl 0 rfl) ?_
  refine va_get (D := D) (ci := 3) (v := .int (u 0 0)) (C := R_Cod) (T := F_Cod) (N := 11) hx hb hw in_Cod hown hK hP 0 rfl rfl 3 (by decide) (hw _ m_99) (fun _ h9 => h9) rfl d_Pas_signedContext_48 ?_
  refine lv_isub hx hb d_Pas_signedContext_51 ?_
  have hC : [1].map (fun i => (wCod cI q0 q1 q2 q3 q4 q5 q6 q7 q8 q9 q10 q11 u)[i]?) = (wPic cI q1 (sb [1] u)).map some := rfl
  obtain ⟨x3, hc, hf⟩ := bd_o hf
  refine ro_i (va_runV (As := [.int ((u 0 2) - (u 0 0))]) (rest := [.int ((81 * x1) + (9 * x2))]) ⟨hx, hb, hml, hown, hw⟩ (c_Pic_level l D cI q1 ((u 0 2) - (u 0 0)) (sb [1] u) x3 hc) (cwV 1 hw g_14 rfl rfl rfl (by decide +kernel) ⟨Nat.le_of_ble_eq_true rfl, Nat.le_of_ble_eq_true rfl⟩) (pre_V (P_sub hC hP) hK rfl rfl) rfl rfl hl.1 rfl (lv_room (Nat.le_of_ble_eq_true rfl)) d_Pas_signedContext_52 ⟨Nat.le_of_ble_eq_true rfl, Nat.le_of_ble_eq_true rfl⟩) hS hP (fun H locs hP hS => ?_)
  refine lv_iadd hx hb d_Pas_signedContext_55 ?_
  exact rt_roi hx hb hr hlocks hS hf d_Pas_signedContext_56
def f_Pas_foretoldByNeighbours_C (u : gU) : Option (Int32) := tk (if (u 0 1) < (u 0 0) then (u 0 1) else (u 0 0)) fun x1 => tk (if (u 0 0) < (u 0 1) then (u 0 1) else (u 0 0)) fun x2 => bq ((u 0 2) < x2) (bq (x1 < (u 0 2)) (some (((u 0 0) + (u 0 1)) - (u 0 2))) (some x2)) (some x1)
set_option maxHeartbeats 4000000 in
set_option maxRecDepth 100000 in
theorem c_Pas_foretoldByNeighbours_C (l : Launch) (D : va_G) (cI : ClassId) (q0 : Nat) (q1 : Nat) (q2 : Nat) (q3 : Nat) (q4 : Nat) (q5 : Nat) (q6 : Nat) (q7 : Nat) (q8 : Nat) (q9 : Nat) (q10 : Nat) (q11 : Nat) (u : gU) (r : Int32) (hf : f_Pas_foretoldByNeighbours_C u = some r) : Met l y_Pas_foretoldByNeighbours (.code y_Pas_foretoldByNeighbours b_Pas_foretoldByNeighbours 3 (some .int) :: TS) ({ frames := 1, cells := 0, slots := 0, locals := 24 }) (va_Pc [.ref q0] (fun U => va_P D cls (wCod cI q0 q1 q2 q3 q4 q5 q6 q7 q8 q9 q10 q11 u) U.heap ∧ va_K D cls [(cI, .int)] U)) (va_Qi (fun x (_ : Unit) => x = r) (fun _ _ => True) (fun _ => False)) 0 0 (fun _ => False) := by
  refine ct_of (by decide +kernel) (Nat.le_of_ble_eq_true rfl) ?_
  intro p e s m below meth c ls hx hb hml hr hlocks hown hw hP hK hl
  have hS : va_S (fun _ => False) s.heap s.heap [] := va_S.rf
  have hl : lv_has ls 3 [(0, .ref q0)] := hl
  have hP : va_P D cls (wCod cI q0 q1 q2 q3 q4 q5 q6 q7 q8 q9 q10 q11 u) s.heap := hP
  unfold f_Pas_foretoldByNeighbours_C at hf
  refine lv_aload_n hx hb d_Pas_foretoldByNeighbours_0 rfl (lv_at hl 0 rfl) ?_
  refine va_get (D := D) (ci := 3) (v := .int (u 0 0)) (C := R_Cod) (T := F_Cod) (N := 11) hx hb hw in_Cod hown hK hP 0 rfl rfl 3 (by decide) (hw _ m_99) (fun _ h9 => h9) rfl d_Pas_foretoldByNeighbours_1 ?_
  refine lv_aload_n hx hb d_Pas_foretoldByNeighbours_4 rfl (lv_at hl 0 rfl) ?_
  refine va_get (D := D) (ci := 3) (v := .int (u 0 1)) (C := R_Cod) (T := F_Cod) (N := 11) hx hb hw in_Cod hown hK hP 0 rfl rfl 4 (by decide) (hw _ m_92) (fun _ h9 => h9) rfl d_Pas_foretoldByNeighbours_5 ?_
  refine va_mmin hx hb (hml.trans hl.1.symm) hown (hw _ m_108) (hw _ m_32) (hw _ m_12) (hw _ m_33) (Nat.le_of_ble_eq_true rfl) (Nat.le_of_ble_eq_true rfl) (Nat.le_of_ble_eq_true rfl) (Nat.le_of_ble_eq_true rfl) d_Pas_foretoldByNeighbours_8 ?_
  refine lv_topi (fun x1 e_x1 => ?_)
  have hf := tk_e hf e_x1
  refine lv_istore_n (lv' := [(1, .int x1), (0, .ref q0)]) hx hb d_Pas_foretoldByNeighbours_11 rfl hl (by decide) rfl (fun ls hl => ?_)
  refine lv_aload_n hx hb d_Pas_foretoldByNeighbours_12 rfl (lv_at hl 1 rfl) ?_
  refine va_get (D := D) (ci := 3) (v := .int (u 0 0)) (C := R_Cod) (T := F_Cod) (N := 11) hx hb hw in_Cod hown hK hP 0 rfl rfl 3 (by decide) (hw _ m_99) (fun _ h9 => h9) rfl d_Pas_foretoldByNeighbours_13 ?_
  refine lv_aload_n hx hb d_Pas_foretoldByNeighbours_16 rfl (lv_at hl 1 rfl) ?_
  refine va_get (D := D) (ci := 3) (v := .int (u 0 1)) (C := R_Cod) (T := F_Cod) (N := 11) hx hb hw in_Cod hown hK hP 0 rfl rfl 4 (by decide) (hw _ m_92) (fun _ h9 => h9) rfl d_Pas_foretoldByNeighbours_17 ?_
  refine va_mmax hx hb (hml.trans hl.1.symm) hown (hw _ m_109) (hw _ m_11) (hw _ m_12) (hw _ m_13) (Nat.le_of_ble_eq_true rfl) (Nat.le_of_ble_eq_true rfl) (Nat.le_of_ble_eq_true rfl) (Nat.le_of_ble_eq_true rfl) d_Pas_foretoldByNeighbours_20 ?_
  refine lv_topi (fun x2 e_x2 => ?_)
  have hf := tk_e hf e_x2
  refine lv_istore_n (lv' := [(2, .int x2), (1, .int x1), (0, .ref q0)]) hx hb d_Pas_foretoldByNeighbours_23 rfl hl (by decide) rfl (fun ls hl => ?_)
  refine lv_aload_n hx hb d_Pas_foretoldByNeighbours_24 rfl (lv_at hl 2 rfl) ?_
  refine va_get (D := D) (ci := 3) (v := .int (u 0 2)) (C := R_Cod) (T := F_Cod) (N := 11) hx hb hw in_Cod hown hK hP 0 rfl rfl 5 (by decide) (hw _ m_89) (fun _ h9 => h9) rfl d_Pas_foretoldByNeighbours_25 ?_
  refine lv_iload_n hx hb d_Pas_foretoldByNeighbours_28 rfl (lv_at hl 0 rfl) ?_
  refine lv_icmp_lt (tgt := 34) hx hb d_Pas_foretoldByNeighbours_29 (by decide) (fun hc => ?_) (fun hc => ?_)
  · have hf := bq_t hf hc
    refine lv_aload_n hx hb d_Pas_foretoldByNeighbours_34 rfl (lv_at hl 2 rfl) ?_
    refine va_get (D := D) (ci := 3) (v := .int (u 0 2)) (C := R_Cod) (T := F_Cod) (N := 11) hx hb hw in_Cod hown hK hP 0 rfl rfl 5 (by decide) (hw _ m_89) (fun _ h9 => h9) rfl d_Pas_foretoldByNeighbours_35 ?_
    refine lv_iload_n hx hb d_Pas_foretoldByNeighbours_38 rfl (lv_at hl 1 rfl) ?_
    refine lv_icmp_gt (tgt := 46) hx hb d_Pas_foretoldByNeighbours_39 (by decide) (fun hc => ?_) (fun hc => ?_)
    · have hf := bq_t hf hc
      refine lv_aload_n hx hb d_Pas_foretoldByNeighbours_46 rfl (lv_at hl 2 rfl) ?_
      refine va_get (D := D) (ci := 3) (v := .int (u 0 0)) (C := R_Cod) (T := F_Cod) (N := 11) hx hb hw in_Cod hown hK hP 0 rfl rfl 3 (by decide) (hw _ m_99) (fun _ h9 => h9) rfl d_Pas_foretoldByNeighbours_47 ?_
      refine lv_aload_n hx hb d_Pas_foretoldByNeighbours_50 rfl (lv_at hl 2 rfl) ?_
      refine va_get (D := D) (ci := 3) (v := .int (u 0 1)) (C := R_Cod) (T := F_Cod) (N := 11) hx hb hw in_Cod hown hK hP 0 rfl rfl 4 (by decide) (hw _ m_92) (fun _ h9 => h9) rfl d_Pas_foretoldByNeighbours_51 ?_
      refine lv_iadd hx hb d_Pas_foretoldByNeighbours_54 ?_
      refine lv_aload_n hx hb d_Pas_foretoldByNeighbours_55 rfl (lv_at hl 2 rfl) ?_
      refine va_get (D := D) (ci := 3) (v := .int (u 0 2)) (C := R_Cod) (T := F_Cod) (N := 11) hx hb hw in_Cod hown hK hP 0 rfl rfl 5 (by decide) (hw _ m_89) (fun _ h9 => h9) rfl d_Pas_foretoldByNeighbours_56 ?_
      refine lv_isub hx hb d_Pas_foretoldByNeighbours_59 ?_
      exact rt_roi hx hb hr hlocks hS hf d_Pas_foretoldByNeighbours_60
    have hf := bq_n hf hc
    refine lv_iload_n hx hb d_Pas_foretoldByNeighbours_42 rfl (lv_at hl 0 rfl) ?_
    refine lv_goto (tgt := 60) hx hb d_Pas_foretoldByNeighbours_43 (by decide) ?_
    exact rt_roi hx hb hr hlocks hS hf d_Pas_foretoldByNeighbours_60
  have hf := bq_n hf hc
  refine lv_iload_n hx hb d_Pas_foretoldByNeighbours_32 rfl (lv_at hl 1 rfl) ?_
  exact rt_roi hx hb hr hlocks hS hf d_Pas_foretoldByNeighbours_33
def f_Pas_limitOfEnd_C (u : gU) : Option (Int32) := bd (f_Ctx_j (sb [2, 3, 4, 5, 6, 7] u)) fun x1 => some (((u 1 7) - x1) - 1)
set_option maxHeartbeats 4000000 in
set_option maxRecDepth 100000 in
theorem c_Pas_limitOfEnd_C (l : Launch) (D : va_G) (cI : ClassId) (tJ : Nat) (q0 : Nat) (q1 : Nat) (q2 : Nat) (q3 : Nat) (q4 : Nat) (q5 : Nat) (q6 : Nat) (q7 : Nat) (q8 : Nat) (q9 : Nat) (q10 : Nat) (q11 : Nat) (u : gU) (r : Int32) (hf : f_Pas_limitOfEnd_C u = some r) : Met l y_Pas_limitOfEnd (.code y_Pas_limitOfEnd b_Pas_limitOfEnd 1 (some .int) :: TS) ({ frames := 1, cells := 0, slots := 0, locals := 20 }) (va_Pc [.ref q0] (fun U => va_P D cls (wCod cI q0 q1 q2 q3 q4 q5 q6 q7 q8 q9 q10 q11 u) U.heap ∧ va_K D cls [(cI, .int)] U ∧ Jt tJ (fun _ => False) U)) (va_Qi (fun x (_ : Unit) => x = r) (fun _ _ => True) (fun _ => False)) 0 0 (fun _ => False) := by
  refine ct_ofJ (by decide +kernel) (Nat.le_of_ble_eq_true rfl) ?_
  intro p e s m below meth c ls hx hb hml hr hlocks hown hw hP hK hJ hl
  have hS : va_S (fun _ => False) s.heap s.heap [] := va_S.rf
  have hl : lv_has ls 1 [(0, .ref q0)] := hl
  have hP : va_P D cls (wCod cI q0 q1 q2 q3 q4 q5 q6 q7 q8 q9 q10 q11 u) s.heap := hP
  unfold f_Pas_limitOfEnd_C at hf
  refine lv_aload_n hx hb d_Pas_limitOfEnd_0 rfl (lv_at hl 0 rfl) ?_
  refine va_get (D := D) (ci := 3) (v := .ref q1) (C := R_Cod) (T := F_Cod) (N := 11) hx hb hw in_Cod hown hK hP 0 rfl rfl 0 (by decide) (hw _ m_90) (fun _ h9 => h9) rfl d_Pas_limitOfEnd_1 ?_
  refine va_get (D := D) (ci := 1) (v := .int (u 1 7)) (C := R_Pic) (T := F_Pic) (N := 11) hx hb hw in_Pic hown hK hP 1 rfl rfl 7 (by decide) (hw _ m_110) (fun _ h9 => h9) rfl d_Pas_limitOfEnd_4 ?_
  refine lv_aload_n hx hb d_Pas_limitOfEnd_7 rfl (lv_at hl 0 rfl) ?_
  refine va_get (D := D) (ci := 3) (v := .ref q2) (C := R_Cod) (T := F_Cod) (N := 11) hx hb hw in_Cod hown hK hP 0 rfl rfl 1 (by decide) (hw _ m_111) (fun _ h9 => h9) rfl d_Pas_limitOfEnd_8 ?_
  have hC : [2, 3, 4, 5, 6, 7].map (fun i => (wCod cI q0 q1 q2 q3 q4 q5 q6 q7 q8 q9 q10 q11 u)[i]?) = (wCtx cI q2 q3 q4 q5 q6 q7 (sb [2, 3, 4, 5, 6, 7] u)).map some := rfl
  obtain ⟨x1, hc, hf⟩ := bd_o hf
  refine ro_i (va_runV (As := []) (rest := [.int (u 1 7)]) ⟨hx, hb, hml, hown, hw⟩ (c_Ctx_j l D cI tJ q2 q3 q4 q5 q6 q7 (sb [2, 3, 4, 5, 6, 7] u) x1 hc) (cwV 0 hw g_15 rfl rfl rfl (by decide +kernel) ⟨Nat.le_of_ble_eq_true rfl, Nat.le_of_ble_eq_true rfl⟩) (pre_VJ (P_sub hC hP) hK rfl rfl (Jt_call hJ hS (fun _ h => h.elim))) rfl rfl hl.1 rfl (lv_room (Nat.le_of_ble_eq_true rfl)) d_Pas_limitOfEnd_11 ⟨Nat.le_of_ble_eq_true rfl, Nat.le_of_ble_eq_true rfl⟩) hS hP (fun H locs hP hS => ?_)
  refine lv_isub hx hb d_Pas_limitOfEnd_14 ?_
  refine lv_iconst (v := 1) hx hb d_Pas_limitOfEnd_15 (by decide) ?_
  refine lv_isub hx hb d_Pas_limitOfEnd_16 ?_
  exact rt_roi hx hb hr hlocks hS hf d_Pas_limitOfEnd_17
def f_Cod_takeError (a1 : Int32) (u : gU) : Option (Int32 × gU) := gd (ix a1 64) (bd (f_Pic_divided ((u 0 4) * ((u 9 (tc a1)) - (u 0 5))) (sb [1] u)) fun x2 => bd (f_Pic_bounded ((u 0 5) + (((u 0 4) * x2) * (u 1 4))) (sb [1] u)) fun x3 => gd (ix a1 64) (tk (st2 u 8 (tc a1) x3) fun u5 => bd (f_Pic_reduced x2 (sb [1] u5)) fun x6 => some (x6, u5)))
set_option maxHeartbeats 4000000 in
set_option maxRecDepth 100000 in
theorem c_Cod_takeError (l : Launch) (D : va_G) (cI : ClassId) (q0 : Nat) (q1 : Nat) (q2 : Nat) (q3 : Nat) (q4 : Nat) (q5 : Nat) (q6 : Nat) (q7 : Nat) (q8 : Nat) (q9 : Nat) (q10 : Nat) (q11 : Nat) (hd : dj [q0, q1, q2, q3, q4, q5, q6, q7, q8, q9, q10, q11]) (a1 : Int32) (u : gU) (r : Int32) (v : gU) (hf : f_Cod_takeError a1 u = some (r, v)) : Met l y_Cod_takeError (.code y_Cod_takeError b_Cod_takeError 3 (some .int) :: TS) ({ frames := 2, cells := 0, slots := 0, locals := 45 }) (va_Pc [.ref q0, .int a1] (fun U => va_P D cls (wCod cI q0 q1 q2 q3 q4 q5 q6 q7 q8 q9 q10 q11 u) U.heap ∧ va_K D cls [(cI, .int)] U)) (va_Qi (fun x (_ : Unit) => x = r) (fun _ t => va_P D cls (wCod cI q0 q1 q2 q3 q4 q5 q6 q7 q8 q9 q10 q11 v) t.heap) (ad [q0, q1, q2, q3, q4, q5, q6, q7, q8, q9, q10, q11])) 0 0 (ad [q0, q1, q2, q3, q4, q5, q6, q7, q8, q9, q10, q11]) := by
  refine ct_of (by decide +kernel) (Nat.le_of_ble_eq_true rfl) ?_
  intro p e s m below meth c ls hx hb hml hr hlocks hown hw hP hK hl
  have hS : va_S (ad [q0, q1, q2, q3, q4, q5, q6, q7, q8, q9, q10, q11]) s.heap s.heap [] := va_S.rf
  have hD : ∀ v, va_D (ad [q0, q1, q2, q3, q4, q5, q6, q7, q8, q9, q10, q11]) (wCod cI q0 q1 q2 q3 q4 q5 q6 q7 q8 q9 q10 q11 v) := fun _ => dj_D rfl hd
  have hl : lv_has ls 3 [(0, .ref q0), (1, .int a1)] := hl
  have hP : va_P D cls (wCod cI q0 q1 q2 q3 q4 q5 q6 q7 q8 q9 q10 q11 u) s.heap := hP
  unfold f_Cod_takeError at hf
  refine lv_aload_n hx hb d_Cod_takeError_0 rfl (lv_at hl 0 rfl) ?_
  refine va_get (D := D) (ci := 3) (v := .ref q1) (C := R_Cod) (T := F_Cod) (N := 11) hx hb hw in_Cod hown hK hP 0 rfl rfl 0 (by decide) (hw _ m_116) (fun x9 h9 => u_same (hw _ m_117) x9 h9) rfl d_Cod_takeError_1 ?_
  refine lv_aload_n hx hb d_Cod_takeError_4 rfl (lv_at hl 0 rfl) ?_
  refine va_get (D := D) (ci := 3) (v := .int (u 0 4)) (C := R_Cod) (T := F_Cod) (N := 11) hx hb hw in_Cod hown hK hP 0 rfl rfl 7 (by decide) (hw _ m_118) (fun x9 h9 => u_same (hw _ m_119) x9 h9) rfl d_Cod_takeError_5 ?_
  refine lv_aload_n hx hb d_Cod_takeError_8 rfl (lv_at hl 0 rfl) ?_
  refine va_get (D := D) (ci := 3) (v := .ref q9) (C := R_Cod) (T := F_Cod) (N := 11) hx hb hw in_Cod hown hK hP 0 rfl rfl 9 (by decide) (hw _ m_120) (fun _ h9 => h9) rfl d_Cod_takeError_9 ?_
  refine lv_iload_n hx hb d_Cod_takeError_12 rfl (lv_at hl 1 rfl) ?_
  obtain ⟨h1, hf⟩ := gd_o hf
  refine va_iald hx hb hK hP 9 0 rfl rfl (ix_in h1) d_Cod_takeError_13 ?_
  refine lv_aload_n hx hb d_Cod_takeError_14 rfl (lv_at hl 0 rfl) ?_
  refine va_get (D := D) (ci := 3) (v := .int (u 0 5)) (C := R_Cod) (T := F_Cod) (N := 11) hx hb hw in_Cod hown hK hP 0 rfl rfl 8 (by decide) (hw _ m_121) (fun x9 h9 => u_same (hw _ m_122) x9 h9) rfl d_Cod_takeError_15 ?_
  refine lv_isub hx hb d_Cod_takeError_18 ?_
  refine lv_imul hx hb d_Cod_takeError_19 ?_
  have hC : [1].map (fun i => (wCod cI q0 q1 q2 q3 q4 q5 q6 q7 q8 q9 q10 q11 u)[i]?) = (wPic cI q1 (sb [1] u)).map some := rfl
  obtain ⟨x2, hc, hf⟩ := bd_o hf
  refine ro_i (va_runV (As := [.int ((u 0 4) * ((u 9 (tc a1)) - (u 0 5)))]) (rest := []) ⟨hx, hb, hml, hown, hw⟩ (c_Pic_divided l D cI q1 ((u 0 4) * ((u 9 (tc a1)) - (u 0 5))) (sb [1] u) x2 hc) (cwV 1 hw g_16 rfl rfl rfl (by decide +kernel) ⟨Nat.le_of_ble_eq_true rfl, Nat.le_of_ble_eq_true rfl⟩) (pre_V (P_sub hC hP) hK rfl rfl) rfl rfl hl.1 rfl (lv_room (Nat.le_of_ble_eq_true rfl)) d_Cod_takeError_20 ⟨Nat.le_of_ble_eq_true rfl, Nat.le_of_ble_eq_true rfl⟩) hS hP (fun H locs hP hS => ?_)
  refine lv_istore_n (lv' := [(2, .int x2), (0, .ref q0), (1, .int a1)]) hx hb d_Cod_takeError_23 rfl hl (by decide) rfl (fun ls hl => ?_)
  refine lv_aload_n hx hb d_Cod_takeError_24 rfl (lv_at hl 1 rfl) ?_
  refine va_get (D := D) (ci := 3) (v := .ref q8) (C := R_Cod) (T := F_Cod) (N := 11) hx hb hw in_Cod hown hK hP 0 rfl rfl 2 (by decide) (hw _ m_127) (fun x9 h9 => u_same (hw _ m_128) x9 h9) rfl d_Cod_takeError_25 ?_
  refine lv_iload_n hx hb d_Cod_takeError_28 rfl (lv_at hl 2 rfl) ?_
  refine lv_aload_n hx hb d_Cod_takeError_29 rfl (lv_at hl 1 rfl) ?_
  refine va_get (D := D) (ci := 3) (v := .ref q1) (C := R_Cod) (T := F_Cod) (N := 11) hx hb hw in_Cod hown hK hP 0 rfl rfl 0 (by decide) (hw _ m_116) (fun x9 h9 => u_same (hw _ m_117) x9 h9) rfl d_Cod_takeError_30 ?_
  refine lv_aload_n hx hb d_Cod_takeError_33 rfl (lv_at hl 1 rfl) ?_
  refine va_get (D := D) (ci := 3) (v := .int (u 0 5)) (C := R_Cod) (T := F_Cod) (N := 11) hx hb hw in_Cod hown hK hP 0 rfl rfl 8 (by decide) (hw _ m_121) (fun x9 h9 => u_same (hw _ m_122) x9 h9) rfl d_Cod_takeError_34 ?_
  refine lv_aload_n hx hb d_Cod_takeError_37 rfl (lv_at hl 1 rfl) ?_
  refine va_get (D := D) (ci := 3) (v := .int (u 0 4)) (C := R_Cod) (T := F_Cod) (N := 11) hx hb hw in_Cod hown hK hP 0 rfl rfl 7 (by decide) (hw _ m_118) (fun x9 h9 => u_same (hw _ m_119) x9 h9) rfl d_Cod_takeError_38 ?_
  refine lv_iload_n hx hb d_Cod_takeError_41 rfl (lv_at hl 0 rfl) ?_
  refine lv_imul hx hb d_Cod_takeError_42 ?_
  refine lv_aload_n hx hb d_Cod_takeError_43 rfl (lv_at hl 1 rfl) ?_
  refine va_get (D := D) (ci := 3) (v := .ref q1) (C := R_Cod) (T := F_Cod) (N := 11) hx hb hw in_Cod hown hK hP 0 rfl rfl 0 (by decide) (hw _ m_116) (fun x9 h9 => u_same (hw _ m_117) x9 h9) rfl d_Cod_takeError_44 ?_
  refine va_get (D := D) (ci := 1) (v := .int (u 1 4)) (C := R_Pic) (T := F_Pic) (N := 11) hx hb hw in_Pic hown hK hP 1 rfl rfl 4 (by decide) (hw _ m_129) (fun _ h9 => h9) rfl d_Cod_takeError_47 ?_
  refine lv_imul hx hb d_Cod_takeError_50 ?_
  refine lv_iadd hx hb d_Cod_takeError_51 ?_
  have hC : [1].map (fun i => (wCod cI q0 q1 q2 q3 q4 q5 q6 q7 q8 q9 q10 q11 u)[i]?) = (wPic cI q1 (sb [1] u)).map some := rfl
  obtain ⟨x3, hc, hf⟩ := bd_o hf
  refine ro_i (va_runV (As := [.int ((u 0 5) + (((u 0 4) * x2) * (u 1 4)))]) (rest := [.int a1, .ref q8]) ⟨hx, hb, hml, hown, hw⟩ (c_Pic_bounded l D cI q1 ((u 0 5) + (((u 0 4) * x2) * (u 1 4))) (sb [1] u) x3 hc) (cwV 1 hw g_17 rfl rfl rfl (by decide +kernel) ⟨Nat.le_of_ble_eq_true rfl, Nat.le_of_ble_eq_true rfl⟩) (pre_V (P_sub hC hP) hK rfl rfl) rfl rfl hl.1 rfl (lv_room (Nat.le_of_ble_eq_true rfl)) d_Cod_takeError_52 ⟨Nat.le_of_ble_eq_true rfl, Nat.le_of_ble_eq_true rfl⟩) hS hP (fun H locs hP hS => ?_)
  obtain ⟨h4, hf⟩ := gd_o hf
  refine va_iast hx hb hK hP (hD _) hS 8 0 rfl rfl (ix_in h4) d_Cod_takeError_55 (fun H locs hP _ hS => ?_)
  obtain ⟨u5, e_u5, hf⟩ := tk_o hf
  have hP : va_P D cls (wCod cI q0 q1 q2 q3 q4 q5 q6 q7 q8 q9 q10 q11 u5) H := by rw [e_u5]; exact hP
  refine lv_aload_n hx hb d_Cod_takeError_56 rfl (lv_at hl 1 rfl) ?_
  refine va_get (D := D) (ci := 3) (v := .ref q1) (C := R_Cod) (T := F_Cod) (N := 11) hx hb hw in_Cod hown hK hP 0 rfl rfl 0 (by decide) (hw _ m_116) (fun x9 h9 => u_same (hw _ m_117) x9 h9) rfl d_Cod_takeError_57 ?_
  refine lv_iload_n hx hb d_Cod_takeError_60 rfl (lv_at hl 0 rfl) ?_
  have hC : [1].map (fun i => (wCod cI q0 q1 q2 q3 q4 q5 q6 q7 q8 q9 q10 q11 u5)[i]?) = (wPic cI q1 (sb [1] u5)).map some := rfl
  obtain ⟨x6, hc, hf⟩ := bd_o hf
  refine ro_i (va_runV (As := [.int x2]) (rest := []) ⟨hx, hb, hml, hown, hw⟩ (c_Pic_reduced l D cI q1 x2 (sb [1] u5) x6 hc) (cwV 1 hw g_18 rfl rfl rfl (by decide +kernel) ⟨Nat.le_of_ble_eq_true rfl, Nat.le_of_ble_eq_true rfl⟩) (pre_V (P_sub hC hP) hK rfl rfl) rfl rfl hl.1 rfl (lv_room (Nat.le_of_ble_eq_true rfl)) d_Cod_takeError_61 ⟨Nat.le_of_ble_eq_true rfl, Nat.le_of_ble_eq_true rfl⟩) hS hP (fun H locs hP hS => ?_)
  exact rt_i (wCod cI q0 q1 q2 q3 q4 q5 q6 q7 q8 q9 q10 q11) hx hb hr hlocks hS hP hf d_Cod_takeError_64
def L_Cod_carryRun_39 : Nat → Int32 → Int32 → Int32 → gU → Option (Int32 × gU)
  | 0, _, _, _, _ => none
  | n + 1, l2, l3, l4, u => bd (f_Ctx_j (sb [2, 3, 4, 5, 6, 7] u)) fun x1 => bq (l4 < (1 <<< (x1 &&& 31))) (bq (l2 ≤ l3) (bq (l4 ≤ 0) (some (l3, u)) (bd (f_Wri_writeBits 1 1 (sb [10, 11] u)) fun w2 => tk (mg [10, 11] 0 u w2) fun u3 => some (l3, u3))) (bd (f_Wri_writeBits 0 1 (sb [10, 11] u)) fun w4 => tk (mg [10, 11] 0 u w4) fun u5 => bd (f_Ctx_j (sb [2, 3, 4, 5, 6, 7] u5)) fun x6 => bd (f_Wri_writeBits l4 x6 (sb [10, 11] u5)) fun w7 => tk (mg [10, 11] 0 u5 w7) fun u8 => some (l3, u8))) (bd (f_Wri_writeBits 1 1 (sb [10, 11] u)) fun w9 => tk (mg [10, 11] 0 u w9) fun u10 => bd (f_Ctx_j (sb [2, 3, 4, 5, 6, 7] u10)) fun x11 => tk (l4 - (1 <<< (x11 &&& 31))) fun x12 => bd (f_Ctx_raiseRunIndex (sb [2, 3, 4, 5, 6, 7] u10)) fun w13 => tk (mg [2, 3, 4, 5, 6, 7] 0 u10 w13) fun u14 => (L_Cod_carryRun_39 n) l2 l3 x12 u14)
theorem L_Cod_carryRun_39_z (l2 : Int32) (l3 : Int32) (l4 : Int32) (u : gU) : L_Cod_carryRun_39 0 l2 l3 l4 u = none := rfl
theorem L_Cod_carryRun_39_s (n : Nat) (l2 : Int32) (l3 : Int32) (l4 : Int32) (u : gU) : L_Cod_carryRun_39 (n + 1) l2 l3 l4 u = bd (f_Ctx_j (sb [2, 3, 4, 5, 6, 7] u)) fun x1 => bq (l4 < (1 <<< (x1 &&& 31))) (bq (l2 ≤ l3) (bq (l4 ≤ 0) (some (l3, u)) (bd (f_Wri_writeBits 1 1 (sb [10, 11] u)) fun w2 => tk (mg [10, 11] 0 u w2) fun u3 => some (l3, u3))) (bd (f_Wri_writeBits 0 1 (sb [10, 11] u)) fun w4 => tk (mg [10, 11] 0 u w4) fun u5 => bd (f_Ctx_j (sb [2, 3, 4, 5, 6, 7] u5)) fun x6 => bd (f_Wri_writeBits l4 x6 (sb [10, 11] u5)) fun w7 => tk (mg [10, 11] 0 u5 w7) fun u8 => some (l3, u8))) (bd (f_Wri_writeBits 1 1 (sb [10, 11] u)) fun w9 => tk (mg [10, 11] 0 u w9) fun u10 => bd (f_Ctx_j (sb [2, 3, 4, 5, 6, 7] u10)) fun x11 => tk (l4 - (1 <<< (x11 &&& 31))) fun x12 => bd (f_Ctx_raiseRunIndex (sb [2, 3, 4, 5, 6, 7] u10)) fun w13 => tk (mg [2, 3, 4, 5, 6, 7] 0 u10 w13) fun u14 => (L_Cod_carryRun_39 n) l2 l3 x12 u14) := rfl
def L_Cod_carryRun_2 : Nat → Int32 → Int32 → Int32 → gU → Option (Int32 × gU)
  | 0, _, _, _, _ => none
  | n + 1, l1, l2, l3, u => bq (l2 ≤ l3) (L_Cod_carryRun_39 100 l2 l3 l3 u) (gd (ix (l1 + l3) 64) (bd (f_Pic_isNear ((u 9 (tc (l1 + l3))) - (u 0 0)) (sb [1] u)) fun x2 => bq (x2 = 0) (L_Cod_carryRun_39 100 l2 l3 l3 u) (tk (l3 + 1) fun x3 => (L_Cod_carryRun_2 n) l1 l2 x3 u)))
theorem L_Cod_carryRun_2_z (l1 : Int32) (l2 : Int32) (l3 : Int32) (u : gU) : L_Cod_carryRun_2 0 l1 l2 l3 u = none := rfl
theorem L_Cod_carryRun_2_s (n : Nat) (l1 : Int32) (l2 : Int32) (l3 : Int32) (u : gU) : L_Cod_carryRun_2 (n + 1) l1 l2 l3 u = bq (l2 ≤ l3) (L_Cod_carryRun_39 100 l2 l3 l3 u) (gd (ix (l1 + l3) 64) (bd (f_Pic_isNear ((u 9 (tc (l1 + l3))) - (u 0 0)) (sb [1] u)) fun x2 => bq (x2 = 0) (L_Cod_carryRun_39 100 l2 l3 l3 u) (tk (l3 + 1) fun x3 => (L_Cod_carryRun_2 n) l1 l2 x3 u))) := rfl
def f_Cod_carryRun (a1 : Int32) (a2 : Int32) (u : gU) : Option (Int32 × gU) := L_Cod_carryRun_2 100 a1 a2 0 u
set_option maxHeartbeats 4000000 in
set_option maxRecDepth 100000 in
theorem c_Cod_carryRun (l : Launch) (D : va_G) (cI : ClassId) (tJ : Nat) (q0 : Nat) (q1 : Nat) (q2 : Nat) (q3 : Nat) (q4 : Nat) (q5 : Nat) (q6 : Nat) (q7 : Nat) (q8 : Nat) (q9 : Nat) (q10 : Nat) (q11 : Nat) (hd : dj [q0, q1, q2, q3, q4, q5, q6, q7, q8, q9, q10, q11]) (a1 : Int32) (a2 : Int32) (u : gU) (r : Int32) (v : gU) (hf : f_Cod_carryRun a1 a2 u = some (r, v)) : Met l y_Cod_carryRun (.code y_Cod_carryRun b_Cod_carryRun 5 (some .int) :: TS) ({ frames := 2, cells := 0, slots := 0, locals := 44 }) (va_Pc [.ref q0, .int a1, .int a2] (fun U => va_P D cls (wCod cI q0 q1 q2 q3 q4 q5 q6 q7 q8 q9 q10 q11 u) U.heap ∧ va_K D cls [(cI, .int)] U ∧ Jt tJ (ad [q0, q1, q2, q3, q4, q5, q6, q7, q8, q9, q10, q11]) U)) (va_Qi (fun x (_ : Unit) => x = r) (fun _ t => va_P D cls (wCod cI q0 q1 q2 q3 q4 q5 q6 q7 q8 q9 q10 q11 v) t.heap) (ad [q0, q1, q2, q3, q4, q5, q6, q7, q8, q9, q10, q11])) 0 0 (ad [q0, q1, q2, q3, q4, q5, q6, q7, q8, q9, q10, q11]) := by
  refine ct_ofJ (by decide +kernel) (Nat.le_of_ble_eq_true rfl) ?_
  intro p e s m below meth c ls hx hb hml hr hlocks hown hw hP hK hJ hl
  have hS : va_S (ad [q0, q1, q2, q3, q4, q5, q6, q7, q8, q9, q10, q11]) s.heap s.heap [] := va_S.rf
  have hD : ∀ v, va_D (ad [q0, q1, q2, q3, q4, q5, q6, q7, q8, q9, q10, q11]) (wCod cI q0 q1 q2 q3 q4 q5 q6 q7 q8 q9 q10 q11 v) := fun _ => dj_D rfl hd
  have hl : lv_has ls 5 [(0, .ref q0), (1, .int a1), (2, .int a2)] := hl
  have hP : va_P D cls (wCod cI q0 q1 q2 q3 q4 q5 q6 q7 q8 q9 q10 q11 u) s.heap := hP
  have lp39 : ∀ (n39 : Nat), ∀ (ls : Array Slot) (H : Heap) (locs : List Loc) (l2 : Int32) (l3 : Int32) (l4 : Int32) (u : gU), lv_has ls 5 [(0, .ref q0), (2, .int l2), (3, .int l3), (4, .int l4)] → va_P D cls (wCod cI q0 q1 q2 q3 q4 q5 q6 q7 q8 q9 q10 q11 u) H → va_S (ad [q0, q1, q2, q3, q4, q5, q6, q7, q8, q9, q10, q11]) s.heap H locs → L_Cod_carryRun_39 n39 l2 l3 l4 u = some (r, v) → W p l e ({ frames := 2, cells := 0, slots := 0, locals := 44 }) s m [.ref q0, .int a1, .int a2].toArray below meth c H locs 0 0 (MQ below (va_Qi (fun x (_ : Unit) => x = r) (fun _ t => va_P D cls (wCod cI q0 q1 q2 q3 q4 q5 q6 q7 q8 q9 q10 q11 v) t.heap) (ad [q0, q1, q2, q3, q4, q5, q6, q7, q8, q9, q10, q11])) [.ref q0, .int a1, .int a2].toArray s 0 0 (ad [q0, q1, q2, q3, q4, q5, q6, q7, q8, q9, q10, q11])) (F0 m 39 ls []) := by
    intro n39
    induction n39 with
    | zero =>
      intro ls H locs l2 l3 l4 u hl hP hS hf
      rw [L_Cod_carryRun_39_z] at hf
      cases hf
    | succ n39 ih39 =>
      intro ls H locs l2 l3 l4 u hl hP hS hf
      rw [L_Cod_carryRun_39_s] at hf
      refine lv_iload hx hb d_Cod_carryRun_39 (lv_at hl 3 rfl) ?_
      refine lv_iconst (v := 1) hx hb d_Cod_carryRun_41 (by decide) ?_
      refine lv_aload_n hx hb d_Cod_carryRun_42 rfl (lv_at hl 0 rfl) ?_
      refine va_get (D := D) (ci := 3) (v := .ref q2) (C := R_Cod) (T := F_Cod) (N := 11) hx hb hw in_Cod hown hK hP 0 rfl rfl 1 (by decide) (hw _ m_138) (fun x9 h9 => u_same (hw _ m_139) x9 h9) rfl d_Cod_carryRun_43 ?_
      have hC : [2, 3, 4, 5, 6, 7].map (fun i => (wCod cI q0 q1 q2 q3 q4 q5 q6 q7 q8 q9 q10 q11 u)[i]?) = (wCtx cI q2 q3 q4 q5 q6 q7 (sb [2, 3, 4, 5, 6, 7] u)).map some := rfl
      obtain ⟨x1, hc, hf⟩ := bd_o hf
      refine ro_i (va_runV (As := []) (rest := [.int 1, .int l4]) ⟨hx, hb, hml, hown, hw⟩ (c_Ctx_j l D cI tJ q2 q3 q4 q5 q6 q7 (sb [2, 3, 4, 5, 6, 7] u) x1 hc) (cwV 0 hw g_19 rfl rfl rfl (by decide +kernel) ⟨Nat.le_of_ble_eq_true rfl, Nat.le_of_ble_eq_true rfl⟩) (pre_VJ (P_sub hC hP) hK rfl rfl (Jt_call hJ hS (fun _ h => h.elim))) rfl rfl hl.1 rfl (lv_room (Nat.le_of_ble_eq_true rfl)) d_Cod_carryRun_46 ⟨Nat.le_of_ble_eq_true rfl, Nat.le_of_ble_eq_true rfl⟩) hS hP (fun H locs hP hS => ?_)
      refine lv_ishl hx hb d_Cod_carryRun_49 ?_
      refine lv_icmp_lt (tgt := 86) hx hb d_Cod_carryRun_50 (by decide) (fun hc => ?_) (fun hc => ?_)
      · have hf := bq_t hf hc
        refine lv_iload_n hx hb d_Cod_carryRun_86 rfl (lv_at hl 2 rfl) ?_
        refine lv_iload_n hx hb d_Cod_carryRun_87 rfl (lv_at hl 1 rfl) ?_
        refine lv_icmp_ge (tgt := 119) hx hb d_Cod_carryRun_88 (by decide) (fun hc => ?_) (fun hc => ?_)
        · have hf := bq_t hf hc
          refine lv_iload hx hb d_Cod_carryRun_119 (lv_at hl 3 rfl) ?_
          refine lv_if_le (tgt := 133) hx hb d_Cod_carryRun_121 (by decide) (fun hc => ?_) (fun hc => ?_)
          · have hf := bq_t hf hc
            refine lv_iload_n hx hb d_Cod_carryRun_133 rfl (lv_at hl 2 rfl) ?_
            exact rt_i (wCod cI q0 q1 q2 q3 q4 q5 q6 q7 q8 q9 q10 q11) hx hb hr hlocks hS hP hf d_Cod_carryRun_134
          have hf := bq_n hf hc
          refine lv_aload_n hx hb d_Cod_carryRun_124 rfl (lv_at hl 0 rfl) ?_
          refine va_get (D := D) (ci := 3) (v := .ref q10) (C := R_Cod) (T := F_Cod) (N := 11) hx hb hw in_Cod hown hK hP 0 rfl rfl 10 (by decide) (hw _ m_141) (fun _ h9 => h9) rfl d_Cod_carryRun_125 ?_
          refine lv_iconst (v := 1) hx hb d_Cod_carryRun_128 (by decide) ?_
          refine lv_iconst (v := 1) hx hb d_Cod_carryRun_129 (by decide) ?_
          have hC : [10, 11].map (fun i => (wCod cI q0 q1 q2 q3 q4 q5 q6 q7 q8 q9 q10 q11 u)[i]?) = (wWri cI q10 q11 (sb [10, 11] u)).map some := rfl
          obtain ⟨w2, hc, hf⟩ := bd_o hf
          refine rw_v (va_runV (As := [.int 1, .int 1]) (rest := []) ⟨hx, hb, hml, hown, hw⟩ (c_Wri_writeBits l D cI q10 q11 (dj_sub hd [10, 11] (by decide) rfl) 1 1 (sb [10, 11] u) w2 hc) (cwV 2 hw g_20 rfl rfl rfl (by decide +kernel) ⟨Nat.le_of_ble_eq_true rfl, Nat.le_of_ble_eq_true rfl⟩) (pre_V (P_sub hC hP) hK rfl rfl) rfl rfl hl.1 rfl (lv_room (Nat.le_of_ble_eq_true rfl)) d_Cod_carryRun_130 ⟨Nat.le_of_ble_eq_true rfl, Nat.le_of_ble_eq_true rfl⟩) hS hP (hD _) hC rfl rfl (fun H locs hP hS => ?_)
          obtain ⟨u3, e_u3, hf⟩ := tk_o hf
          have hP : va_P D cls (wCod cI q0 q1 q2 q3 q4 q5 q6 q7 q8 q9 q10 q11 u3) H := by rw [e_u3]; exact hP
          refine lv_iload_n hx hb d_Cod_carryRun_133 rfl (lv_at hl 2 rfl) ?_
          exact rt_i (wCod cI q0 q1 q2 q3 q4 q5 q6 q7 q8 q9 q10 q11) hx hb hr hlocks hS hP hf d_Cod_carryRun_134
        have hf := bq_n hf hc
        refine lv_aload_n hx hb d_Cod_carryRun_91 rfl (lv_at hl 0 rfl) ?_
        refine va_get (D := D) (ci := 3) (v := .ref q10) (C := R_Cod) (T := F_Cod) (N := 11) hx hb hw in_Cod hown hK hP 0 rfl rfl 10 (by decide) (hw _ m_141) (fun _ h9 => h9) rfl d_Cod_carryRun_92 ?_
        refine lv_iconst (v := 0) hx hb d_Cod_carryRun_95 (by decide) ?_
        refine lv_iconst (v := 1) hx hb d_Cod_carryRun_96 (by decide) ?_
        have hC : [10, 11].map (fun i => (wCod cI q0 q1 q2 q3 q4 q5 q6 q7 q8 q9 q10 q11 u)[i]?) = (wWri cI q10 q11 (sb [10, 11] u)).map some := rfl
        obtain ⟨w4, hc, hf⟩ := bd_o hf
        refine rw_v (va_runV (As := [.int 0, .int 1]) (rest := []) ⟨hx, hb, hml, hown, hw⟩ (c_Wri_writeBits l D cI q10 q11 (dj_sub hd [10, 11] (by decide) rfl) 0 1 (sb [10, 11] u) w4 hc) (cwV 2 hw g_20 rfl rfl rfl (by decide +kernel) ⟨Nat.le_of_ble_eq_true rfl, Nat.le_of_ble_eq_true rfl⟩) (pre_V (P_sub hC hP) hK rfl rfl) rfl rfl hl.1 rfl (lv_room (Nat.le_of_ble_eq_true rfl)) d_Cod_carryRun_97 ⟨Nat.le_of_ble_eq_true rfl, Nat.le_of_ble_eq_true rfl⟩) hS hP (hD _) hC rfl rfl (fun H locs hP hS => ?_)
        obtain ⟨u5, e_u5, hf⟩ := tk_o hf
        have hP : va_P D cls (wCod cI q0 q1 q2 q3 q4 q5 q6 q7 q8 q9 q10 q11 u5) H := by rw [e_u5]; exact hP
        refine lv_aload_n hx hb d_Cod_carryRun_100 rfl (lv_at hl 0 rfl) ?_
        refine va_get (D := D) (ci := 3) (v := .ref q10) (C := R_Cod) (T := F_Cod) (N := 11) hx hb hw in_Cod hown hK hP 0 rfl rfl 10 (by decide) (hw _ m_141) (fun _ h9 => h9) rfl d_Cod_carryRun_101 ?_
        refine lv_iload hx hb d_Cod_carryRun_104 (lv_at hl 3 rfl) ?_
        refine lv_aload_n hx hb d_Cod_carryRun_106 rfl (lv_at hl 0 rfl) ?_
        refine va_get (D := D) (ci := 3) (v := .ref q2) (C := R_Cod) (T := F_Cod) (N := 11) hx hb hw in_Cod hown hK hP 0 rfl rfl 1 (by decide) (hw _ m_138) (fun x9 h9 => u_same (hw _ m_139) x9 h9) rfl d_Cod_carryRun_107 ?_
        have hC : [2, 3, 4, 5, 6, 7].map (fun i => (wCod cI q0 q1 q2 q3 q4 q5 q6 q7 q8 q9 q10 q11 u5)[i]?) = (wCtx cI q2 q3 q4 q5 q6 q7 (sb [2, 3, 4, 5, 6, 7] u5)).map some := rfl
        obtain ⟨x6, hc, hf⟩ := bd_o hf
        refine ro_i (va_runV (As := []) (rest := [.int l4, .ref q10]) ⟨hx, hb, hml, hown, hw⟩ (c_Ctx_j l D cI tJ q2 q3 q4 q5 q6 q7 (sb [2, 3, 4, 5, 6, 7] u5) x6 hc) (cwV 0 hw g_19 rfl rfl rfl (by decide +kernel) ⟨Nat.le_of_ble_eq_true rfl, Nat.le_of_ble_eq_true rfl⟩) (pre_VJ (P_sub hC hP) hK rfl rfl (Jt_call hJ hS (fun _ h => h.elim))) rfl rfl hl.1 rfl (lv_room (Nat.le_of_ble_eq_true rfl)) d_Cod_carryRun_110 ⟨Nat.le_of_ble_eq_true rfl, Nat.le_of_ble_eq_true rfl⟩) hS hP (fun H locs hP hS => ?_)
        have hC : [10, 11].map (fun i => (wCod cI q0 q1 q2 q3 q4 q5 q6 q7 q8 q9 q10 q11 u5)[i]?) = (wWri cI q10 q11 (sb [10, 11] u5)).map some := rfl
        obtain ⟨w7, hc, hf⟩ := bd_o hf
        refine rw_v (va_runV (As := [.int l4, .int x6]) (rest := []) ⟨hx, hb, hml, hown, hw⟩ (c_Wri_writeBits l D cI q10 q11 (dj_sub hd [10, 11] (by decide) rfl) l4 x6 (sb [10, 11] u5) w7 hc) (cwV 2 hw g_20 rfl rfl rfl (by decide +kernel) ⟨Nat.le_of_ble_eq_true rfl, Nat.le_of_ble_eq_true rfl⟩) (pre_V (P_sub hC hP) hK rfl rfl) rfl rfl hl.1 rfl (lv_room (Nat.le_of_ble_eq_true rfl)) d_Cod_carryRun_113 ⟨Nat.le_of_ble_eq_true rfl, Nat.le_of_ble_eq_true rfl⟩) hS hP (hD _) hC rfl rfl (fun H locs hP hS => ?_)
        obtain ⟨u8, e_u8, hf⟩ := tk_o hf
        have hP : va_P D cls (wCod cI q0 q1 q2 q3 q4 q5 q6 q7 q8 q9 q10 q11 u8) H := by rw [e_u8]; exact hP
        refine lv_goto (tgt := 133) hx hb d_Cod_carryRun_116 (by decide) ?_
        refine lv_iload_n hx hb d_Cod_carryRun_133 rfl (lv_at hl 2 rfl) ?_
        exact rt_i (wCod cI q0 q1 q2 q3 q4 q5 q6 q7 q8 q9 q10 q11) hx hb hr hlocks hS hP hf d_Cod_carryRun_134
      have hf := bq_n hf hc
      refine lv_aload_n hx hb d_Cod_carryRun_53 rfl (lv_at hl 0 rfl) ?_
      refine va_get (D := D) (ci := 3) (v := .ref q10) (C := R_Cod) (T := F_Cod) (N := 11) hx hb hw in_Cod hown hK hP 0 rfl rfl 10 (by decide) (hw _ m_141) (fun _ h9 => h9) rfl d_Cod_carryRun_54 ?_
      refine lv_iconst (v := 1) hx hb d_Cod_carryRun_57 (by decide) ?_
      refine lv_iconst (v := 1) hx hb d_Cod_carryRun_58 (by decide) ?_
      have hC : [10, 11].map (fun i => (wCod cI q0 q1 q2 q3 q4 q5 q6 q7 q8 q9 q10 q11 u)[i]?) = (wWri cI q10 q11 (sb [10, 11] u)).map some := rfl
      obtain ⟨w9, hc, hf⟩ := bd_o hf
      refine rw_v (va_runV (As := [.int 1, .int 1]) (rest := []) ⟨hx, hb, hml, hown, hw⟩ (c_Wri_writeBits l D cI q10 q11 (dj_sub hd [10, 11] (by decide) rfl) 1 1 (sb [10, 11] u) w9 hc) (cwV 2 hw g_20 rfl rfl rfl (by decide +kernel) ⟨Nat.le_of_ble_eq_true rfl, Nat.le_of_ble_eq_true rfl⟩) (pre_V (P_sub hC hP) hK rfl rfl) rfl rfl hl.1 rfl (lv_room (Nat.le_of_ble_eq_true rfl)) d_Cod_carryRun_59 ⟨Nat.le_of_ble_eq_true rfl, Nat.le_of_ble_eq_true rfl⟩) hS hP (hD _) hC rfl rfl (fun H locs hP hS => ?_)
      obtain ⟨u10, e_u10, hf⟩ := tk_o hf
      have hP : va_P D cls (wCod cI q0 q1 q2 q3 q4 q5 q6 q7 q8 q9 q10 q11 u10) H := by rw [e_u10]; exact hP
      refine lv_iload hx hb d_Cod_carryRun_62 (lv_at hl 3 rfl) ?_
      refine lv_iconst (v := 1) hx hb d_Cod_carryRun_64 (by decide) ?_
      refine lv_aload_n hx hb d_Cod_carryRun_65 rfl (lv_at hl 0 rfl) ?_
      refine va_get (D := D) (ci := 3) (v := .ref q2) (C := R_Cod) (T := F_Cod) (N := 11) hx hb hw in_Cod hown hK hP 0 rfl rfl 1 (by decide) (hw _ m_138) (fun x9 h9 => u_same (hw _ m_139) x9 h9) rfl d_Cod_carryRun_66 ?_
      have hC : [2, 3, 4, 5, 6, 7].map (fun i => (wCod cI q0 q1 q2 q3 q4 q5 q6 q7 q8 q9 q10 q11 u10)[i]?) = (wCtx cI q2 q3 q4 q5 q6 q7 (sb [2, 3, 4, 5, 6, 7] u10)).map some := rfl
      obtain ⟨x11, hc, hf⟩ := bd_o hf
      refine ro_i (va_runV (As := []) (rest := [.int 1, .int l4]) ⟨hx, hb, hml, hown, hw⟩ (c_Ctx_j l D cI tJ q2 q3 q4 q5 q6 q7 (sb [2, 3, 4, 5, 6, 7] u10) x11 hc) (cwV 0 hw g_19 rfl rfl rfl (by decide +kernel) ⟨Nat.le_of_ble_eq_true rfl, Nat.le_of_ble_eq_true rfl⟩) (pre_VJ (P_sub hC hP) hK rfl rfl (Jt_call hJ hS (fun _ h => h.elim))) rfl rfl hl.1 rfl (lv_room (Nat.le_of_ble_eq_true rfl)) d_Cod_carryRun_69 ⟨Nat.le_of_ble_eq_true rfl, Nat.le_of_ble_eq_true rfl⟩) hS hP (fun H locs hP hS => ?_)
      refine lv_ishl hx hb d_Cod_carryRun_72 ?_
      refine lv_isub hx hb d_Cod_carryRun_73 ?_
      refine lv_topi (fun x12 e_x12 => ?_)
      have hf := tk_e hf e_x12
      refine lv_istore (lv' := [(4, .int x12), (0, .ref q0), (2, .int l2), (3, .int l3)]) hx hb d_Cod_carryRun_74 hl (by decide) rfl (fun ls hl => ?_)
      refine lv_aload_n hx hb d_Cod_carryRun_76 rfl (lv_at hl 1 rfl) ?_
      refine va_get (D := D) (ci := 3) (v := .ref q2) (C := R_Cod) (T := F_Cod) (N := 11) hx hb hw in_Cod hown hK hP 0 rfl rfl 1 (by decide) (hw _ m_138) (fun x9 h9 => u_same (hw _ m_139) x9 h9) rfl d_Cod_carryRun_77 ?_
      have hC : [2, 3, 4, 5, 6, 7].map (fun i => (wCod cI q0 q1 q2 q3 q4 q5 q6 q7 q8 q9 q10 q11 u10)[i]?) = (wCtx cI q2 q3 q4 q5 q6 q7 (sb [2, 3, 4, 5, 6, 7] u10)).map some := rfl
      obtain ⟨w13, hc, hf⟩ := bd_o hf
      refine rw_v (va_runV (As := []) (rest := []) ⟨hx, hb, hml, hown, hw⟩ (c_Ctx_raiseRunIndex l D cI q2 q3 q4 q5 q6 q7 (dj_sub hd [2, 3, 4, 5, 6, 7] (by decide) rfl) (sb [2, 3, 4, 5, 6, 7] u10) w13 hc) (cwV 0 hw g_21 rfl rfl rfl (by decide +kernel) ⟨Nat.le_of_ble_eq_true rfl, Nat.le_of_ble_eq_true rfl⟩) (pre_V (P_sub hC hP) hK rfl rfl) rfl rfl hl.1 rfl (lv_room (Nat.le_of_ble_eq_true rfl)) d_Cod_carryRun_80 ⟨Nat.le_of_ble_eq_true rfl, Nat.le_of_ble_eq_true rfl⟩) hS hP (hD _) hC rfl rfl (fun H locs hP hS => ?_)
      obtain ⟨u14, e_u14, hf⟩ := tk_o hf
      have hP : va_P D cls (wCod cI q0 q1 q2 q3 q4 q5 q6 q7 q8 q9 q10 q11 u14) H := by rw [e_u14]; exact hP
      refine lv_goto (tgt := 39) hx hb d_Cod_carryRun_83 (by decide) ?_
      exact ih39 _ _ _ l2 l3 x12 u14 (lv_sub hl [1, 2, 3, 0] rfl) hP hS hf
  have lp2 : ∀ (n2 : Nat), ∀ (ls : Array Slot) (H : Heap) (locs : List Loc) (l1 : Int32) (l2 : Int32) (l3 : Int32) (u : gU), lv_has ls 5 [(0, .ref q0), (1, .int l1), (2, .int l2), (3, .int l3)] → va_P D cls (wCod cI q0 q1 q2 q3 q4 q5 q6 q7 q8 q9 q10 q11 u) H → va_S (ad [q0, q1, q2, q3, q4, q5, q6, q7, q8, q9, q10, q11]) s.heap H locs → L_Cod_carryRun_2 n2 l1 l2 l3 u = some (r, v) → W p l e ({ frames := 2, cells := 0, slots := 0, locals := 44 }) s m [.ref q0, .int a1, .int a2].toArray below meth c H locs 0 0 (MQ below (va_Qi (fun x (_ : Unit) => x = r) (fun _ t => va_P D cls (wCod cI q0 q1 q2 q3 q4 q5 q6 q7 q8 q9 q10 q11 v) t.heap) (ad [q0, q1, q2, q3, q4, q5, q6, q7, q8, q9, q10, q11])) [.ref q0, .int a1, .int a2].toArray s 0 0 (ad [q0, q1, q2, q3, q4, q5, q6, q7, q8, q9, q10, q11])) (F0 m 2 ls []) := by
    intro n2
    induction n2 with
    | zero =>
      intro ls H locs l1 l2 l3 u hl hP hS hf
      rw [L_Cod_carryRun_2_z] at hf
      cases hf
    | succ n2 ih2 =>
      intro ls H locs l1 l2 l3 u hl hP hS hf
      rw [L_Cod_carryRun_2_s] at hf
      refine lv_iload_n hx hb d_Cod_carryRun_2 rfl (lv_at hl 3 rfl) ?_
      refine lv_iload_n hx hb d_Cod_carryRun_3 rfl (lv_at hl 2 rfl) ?_
      refine lv_icmp_ge (tgt := 36) hx hb d_Cod_carryRun_4 (by decide) (fun hc => ?_) (fun hc => ?_)
      · have hf := bq_t hf hc
        refine lv_iload_n hx hb d_Cod_carryRun_36 rfl (lv_at hl 3 rfl) ?_
        refine lv_istore (lv' := [(4, .int l3), (0, .ref q0), (1, .int l1), (2, .int l2), (3, .int l3)]) hx hb d_Cod_carryRun_37 hl (by decide) rfl (fun ls hl => ?_)
        exact lp39 100 _ _ _ l2 l3 l3 u (lv_sub hl [1, 3, 4, 0] rfl) hP hS hf
      have hf := bq_n hf hc
      refine lv_aload_n hx hb d_Cod_carryRun_7 rfl (lv_at hl 0 rfl) ?_
      refine va_get (D := D) (ci := 3) (v := .ref q1) (C := R_Cod) (T := F_Cod) (N := 11) hx hb hw in_Cod hown hK hP 0 rfl rfl 0 (by decide) (hw _ m_116) (fun x9 h9 => u_same (hw _ m_117) x9 h9) rfl d_Cod_carryRun_8 ?_
      refine lv_aload_n hx hb d_Cod_carryRun_11 rfl (lv_at hl 0 rfl) ?_
      refine va_get (D := D) (ci := 3) (v := .ref q9) (C := R_Cod) (T := F_Cod) (N := 11) hx hb hw in_Cod hown hK hP 0 rfl rfl 9 (by decide) (hw _ m_120) (fun _ h9 => h9) rfl d_Cod_carryRun_12 ?_
      refine lv_iload_n hx hb d_Cod_carryRun_15 rfl (lv_at hl 1 rfl) ?_
      refine lv_iload_n hx hb d_Cod_carryRun_16 rfl (lv_at hl 3 rfl) ?_
      refine lv_iadd hx hb d_Cod_carryRun_17 ?_
      obtain ⟨h1, hf⟩ := gd_o hf
      refine va_iald hx hb hK hP 9 0 rfl rfl (ix_in h1) d_Cod_carryRun_18 ?_
      refine lv_aload_n hx hb d_Cod_carryRun_19 rfl (lv_at hl 0 rfl) ?_
      refine va_get (D := D) (ci := 3) (v := .int (u 0 0)) (C := R_Cod) (T := F_Cod) (N := 11) hx hb hw in_Cod hown hK hP 0 rfl rfl 3 (by decide) (hw _ m_147) (fun x9 h9 => u_same (hw _ m_148) x9 h9) rfl d_Cod_carryRun_20 ?_
      refine lv_isub hx hb d_Cod_carryRun_23 ?_
      have hC : [1].map (fun i => (wCod cI q0 q1 q2 q3 q4 q5 q6 q7 q8 q9 q10 q11 u)[i]?) = (wPic cI q1 (sb [1] u)).map some := rfl
      obtain ⟨x2, hc, hf⟩ := bd_o hf
      refine ro_i (va_runV (As := [.int ((u 9 (tc (l1 + l3))) - (u 0 0))]) (rest := []) ⟨hx, hb, hml, hown, hw⟩ (c_Pic_isNear l D cI q1 ((u 9 (tc (l1 + l3))) - (u 0 0)) (sb [1] u) x2 hc) (cwV 1 hw g_22 rfl rfl rfl (by decide +kernel) ⟨Nat.le_of_ble_eq_true rfl, Nat.le_of_ble_eq_true rfl⟩) (pre_V (P_sub hC hP) hK rfl rfl) rfl rfl hl.1 rfl (lv_room (Nat.le_of_ble_eq_true rfl)) d_Cod_carryRun_24 ⟨Nat.le_of_ble_eq_true rfl, Nat.le_of_ble_eq_true rfl⟩) hS hP (fun H locs hP hS => ?_)
      refine lv_if_eq (tgt := 36) hx hb d_Cod_carryRun_27 (by decide) (fun hc => ?_) (fun hc => ?_)
      · have hf := bq_t hf hc
        refine lv_iload_n hx hb d_Cod_carryRun_36 rfl (lv_at hl 3 rfl) ?_
        refine lv_istore (lv' := [(4, .int l3), (0, .ref q0), (1, .int l1), (2, .int l2), (3, .int l3)]) hx hb d_Cod_carryRun_37 hl (by decide) rfl (fun ls hl => ?_)
        exact lp39 100 _ _ _ l2 l3 l3 u (lv_sub hl [1, 3, 4, 0] rfl) hP hS hf
      have hf := bq_n hf hc
      obtain ⟨x3, e_x3, hf⟩ := tk_o hf
      refine lv_iinc (v := x3) (lv' := [(3, .int x3), (0, .ref q0), (1, .int l1), (2, .int l2)]) hx hb d_Cod_carryRun_30 hl (k := 3) rfl e_x3.symm (by decide) rfl (fun ls hl => ?_)
      refine lv_goto (tgt := 2) hx hb d_Cod_carryRun_33 (by decide) ?_
      exact ih2 _ _ _ l1 l2 x3 u (lv_sub hl [1, 2, 3, 0] rfl) hP hS hf
  unfold f_Cod_carryRun at hf
  refine lv_iconst (v := 0) hx hb d_Cod_carryRun_0 (by decide) ?_
  refine lv_istore_n (lv' := [(3, .int 0), (0, .ref q0), (1, .int a1), (2, .int a2)]) hx hb d_Cod_carryRun_1 rfl hl (by decide) rfl (fun ls hl => ?_)
  exact lp2 100 _ _ _ a1 a2 0 u (lv_sub hl [1, 2, 3, 0] rfl) hP hS hf
def f_Cod_carryRegular (a1 : Int32) (a2 : Int32) (a3 : Int32) (u : gU) : Option (Int32 × gU) := bd (f_Cod_takeError a1 u) fun w1 => tk (w1.2) fun u2 => bd (f_Fol_foldRegular w1.1 a3) fun x3 => bd (f_Wri_writeNumber x3 a2 (u2 1 7) (u2 1 6) (sb [10, 11] u2)) fun w4 => tk (mg [10, 11] 0 u2 w4) fun u5 => some (w1.1, u5)
set_option maxHeartbeats 4000000 in
set_option maxRecDepth 100000 in
theorem c_Cod_carryRegular (l : Launch) (D : va_G) (cI : ClassId) (q0 : Nat) (q1 : Nat) (q2 : Nat) (q3 : Nat) (q4 : Nat) (q5 : Nat) (q6 : Nat) (q7 : Nat) (q8 : Nat) (q9 : Nat) (q10 : Nat) (q11 : Nat) (hd : dj [q0, q1, q2, q3, q4, q5, q6, q7, q8, q9, q10, q11]) (a1 : Int32) (a2 : Int32) (a3 : Int32) (u : gU) (r : Int32) (v : gU) (hf : f_Cod_carryRegular a1 a2 a3 u = some (r, v)) : Met l y_Cod_carryRegular (.code y_Cod_carryRegular b_Cod_carryRegular 5 (some .int) :: TS) ({ frames := 3, cells := 0, slots := 0, locals := 69 }) (va_Pc [.ref q0, .int a1, .int a2, .int a3] (fun U => va_P D cls (wCod cI q0 q1 q2 q3 q4 q5 q6 q7 q8 q9 q10 q11 u) U.heap ∧ va_K D cls [(cI, .int)] U)) (va_Qi (fun x (_ : Unit) => x = r) (fun _ t => va_P D cls (wCod cI q0 q1 q2 q3 q4 q5 q6 q7 q8 q9 q10 q11 v) t.heap) (ad [q0, q1, q2, q3, q4, q5, q6, q7, q8, q9, q10, q11])) 0 0 (ad [q0, q1, q2, q3, q4, q5, q6, q7, q8, q9, q10, q11]) := by
  refine ct_of (by decide +kernel) (Nat.le_of_ble_eq_true rfl) ?_
  intro p e s m below meth c ls hx hb hml hr hlocks hown hw hP hK hl
  have hS : va_S (ad [q0, q1, q2, q3, q4, q5, q6, q7, q8, q9, q10, q11]) s.heap s.heap [] := va_S.rf
  have hD : ∀ v, va_D (ad [q0, q1, q2, q3, q4, q5, q6, q7, q8, q9, q10, q11]) (wCod cI q0 q1 q2 q3 q4 q5 q6 q7 q8 q9 q10 q11 v) := fun _ => dj_D rfl hd
  have hl : lv_has ls 5 [(0, .ref q0), (1, .int a1), (2, .int a2), (3, .int a3)] := hl
  have hP : va_P D cls (wCod cI q0 q1 q2 q3 q4 q5 q6 q7 q8 q9 q10 q11 u) s.heap := hP
  unfold f_Cod_carryRegular at hf
  refine lv_aload_n hx hb d_Cod_carryRegular_0 rfl (lv_at hl 0 rfl) ?_
  refine lv_iload_n hx hb d_Cod_carryRegular_1 rfl (lv_at hl 1 rfl) ?_
  have hC : [0, 1, 2, 3, 4, 5, 6, 7, 8, 9, 10, 11].map (fun i => (wCod cI q0 q1 q2 q3 q4 q5 q6 q7 q8 q9 q10 q11 u)[i]?) = (wCod cI q0 q1 q2 q3 q4 q5 q6 q7 q8 q9 q10 q11 u).map some := rfl
  obtain ⟨w1, hc, hf⟩ := bd_o hf
  refine rw_i (va_runV (As := [.int a1]) (rest := []) ⟨hx, hb, hml, hown, hw⟩ (c_Cod_takeError l D cI q0 q1 q2 q3 q4 q5 q6 q7 q8 q9 q10 q11 (dj_sub hd [0, 1, 2, 3, 4, 5, 6, 7, 8, 9, 10, 11] (by decide) rfl) a1 u w1.1 w1.2 hc) (cwV 1 hw g_23 rfl rfl rfl (by decide +kernel) ⟨Nat.le_of_ble_eq_true rfl, Nat.le_of_ble_eq_true rfl⟩) (pre_V (P_sub hC hP) hK rfl rfl) rfl rfl hl.1 rfl (lv_room (Nat.le_of_ble_eq_true rfl)) d_Cod_carryRegular_2 ⟨Nat.le_of_ble_eq_true rfl, Nat.le_of_ble_eq_true rfl⟩) hS hP (hD _) hC rfl rfl (fun H locs hP hS => ?_)
  obtain ⟨u2, e_u2, hf⟩ := tk_o hf
  have hP : va_P D cls (wCod cI q0 q1 q2 q3 q4 q5 q6 q7 q8 q9 q10 q11 u2) H := by rw [e_u2]; exact hP
  refine lv_istore (lv' := [(4, .int w1.1), (0, .ref q0), (1, .int a1), (2, .int a2), (3, .int a3)]) hx hb d_Cod_carryRegular_5 hl (by decide) rfl (fun ls hl => ?_)
  refine lv_aload_n hx hb d_Cod_carryRegular_7 rfl (lv_at hl 1 rfl) ?_
  refine va_get (D := D) (ci := 3) (v := .ref q10) (C := R_Cod) (T := F_Cod) (N := 11) hx hb hw in_Cod hown hK hP 0 rfl rfl 10 (by decide) (hw _ m_141) (fun _ h9 => h9) rfl d_Cod_carryRegular_8 ?_
  refine lv_iload hx hb d_Cod_carryRegular_11 (lv_at hl 0 rfl) ?_
  refine lv_iload_n hx hb d_Cod_carryRegular_13 rfl (lv_at hl 4 rfl) ?_
  have hC : ([] : List Nat).map (fun i => (wCod cI q0 q1 q2 q3 q4 q5 q6 q7 q8 q9 q10 q11 u2)[i]?) = ([] : va_W).map some := rfl
  obtain ⟨x3, hc, hf⟩ := bd_o hf
  refine ro_i (va_runS (As := [.int w1.1, .int a3]) (rest := [.ref q10]) ⟨hx, hb, hml, hown, hw⟩ (c_Fol_foldRegular l D cI w1.1 a3 x3 hc) (va_cwS 2 hw g_24 rfl rfl rfl (by decide +kernel) ⟨Nat.le_of_ble_eq_true rfl, Nat.le_of_ble_eq_true rfl⟩) (pre_S (P_sub hC hP) hK) rfl rfl hl.1 rfl (lv_room (Nat.le_of_ble_eq_true rfl)) d_Cod_carryRegular_14 ⟨Nat.le_of_ble_eq_true rfl, Nat.le_of_ble_eq_true rfl⟩) hS hP (fun H locs hP hS => ?_)
  refine lv_iload_n hx hb d_Cod_carryRegular_17 rfl (lv_at hl 3 rfl) ?_
  refine lv_aload_n hx hb d_Cod_carryRegular_18 rfl (lv_at hl 1 rfl) ?_
  refine va_get (D := D) (ci := 3) (v := .ref q1) (C := R_Cod) (T := F_Cod) (N := 11) hx hb hw in_Cod hown hK hP 0 rfl rfl 0 (by decide) (hw _ m_116) (fun x9 h9 => u_same (hw _ m_117) x9 h9) rfl d_Cod_carryRegular_19 ?_
  refine va_get (D := D) (ci := 1) (v := .int (u2 1 7)) (C := R_Pic) (T := F_Pic) (N := 11) hx hb hw in_Pic hown hK hP 1 rfl rfl 7 (by decide) (hw _ m_159) (fun _ h9 => h9) rfl d_Cod_carryRegular_22 ?_
  refine lv_aload_n hx hb d_Cod_carryRegular_25 rfl (lv_at hl 1 rfl) ?_
  refine va_get (D := D) (ci := 3) (v := .ref q1) (C := R_Cod) (T := F_Cod) (N := 11) hx hb hw in_Cod hown hK hP 0 rfl rfl 0 (by decide) (hw _ m_116) (fun x9 h9 => u_same (hw _ m_117) x9 h9) rfl d_Cod_carryRegular_26 ?_
  refine va_get (D := D) (ci := 1) (v := .int (u2 1 6)) (C := R_Pic) (T := F_Pic) (N := 11) hx hb hw in_Pic hown hK hP 1 rfl rfl 6 (by decide) (hw _ m_160) (fun _ h9 => h9) rfl d_Cod_carryRegular_29 ?_
  have hC : [10, 11].map (fun i => (wCod cI q0 q1 q2 q3 q4 q5 q6 q7 q8 q9 q10 q11 u2)[i]?) = (wWri cI q10 q11 (sb [10, 11] u2)).map some := rfl
  obtain ⟨w4, hc, hf⟩ := bd_o hf
  refine rw_v (va_runV (As := [.int x3, .int a2, .int (u2 1 7), .int (u2 1 6)]) (rest := []) ⟨hx, hb, hml, hown, hw⟩ (c_Wri_writeNumber l D cI q10 q11 (dj_sub hd [10, 11] (by decide) rfl) x3 a2 (u2 1 7) (u2 1 6) (sb [10, 11] u2) w4 hc) (cwV 4 hw g_25 rfl rfl rfl (by decide +kernel) ⟨Nat.le_of_ble_eq_true rfl, Nat.le_of_ble_eq_true rfl⟩) (pre_V (P_sub hC hP) hK rfl rfl) rfl rfl hl.1 rfl (lv_room (Nat.le_of_ble_eq_true rfl)) d_Cod_carryRegular_32 ⟨Nat.le_of_ble_eq_true rfl, Nat.le_of_ble_eq_true rfl⟩) hS hP (hD _) hC rfl rfl (fun H locs hP hS => ?_)
  obtain ⟨u5, e_u5, hf⟩ := tk_o hf
  have hP : va_P D cls (wCod cI q0 q1 q2 q3 q4 q5 q6 q7 q8 q9 q10 q11 u5) H := by rw [e_u5]; exact hP
  refine lv_iload hx hb d_Cod_carryRegular_35 (lv_at hl 0 rfl) ?_
  exact rt_i (wCod cI q0 q1 q2 q3 q4 q5 q6 q7 q8 q9 q10 q11) hx hb hr hlocks hS hP hf d_Cod_carryRegular_37
def f_Cod_carryEnd (a1 : Int32) (a2 : Int32) (a3 : Int32) (a4 : Int32) (u : gU) : Option (Int32 × gU) := bd (f_Cod_takeError a1 u) fun w1 => tk (w1.2) fun u2 => bd (f_Fol_foldEnd w1.1 a2 a4) fun x3 => bd (f_Pas_limitOfEnd_C u2) fun x4 => bd (f_Wri_writeNumber x3 a3 x4 (u2 1 6) (sb [10, 11] u2)) fun w5 => tk (mg [10, 11] 0 u2 w5) fun u6 => some (w1.1, u6)
set_option maxHeartbeats 4000000 in
set_option maxRecDepth 100000 in
theorem c_Cod_carryEnd (l : Launch) (D : va_G) (cI : ClassId) (tJ : Nat) (q0 : Nat) (q1 : Nat) (q2 : Nat) (q3 : Nat) (q4 : Nat) (q5 : Nat) (q6 : Nat) (q7 : Nat) (q8 : Nat) (q9 : Nat) (q10 : Nat) (q11 : Nat) (hd : dj [q0, q1, q2, q3, q4, q5, q6, q7, q8, q9, q10, q11]) (a1 : Int32) (a2 : Int32) (a3 : Int32) (a4 : Int32) (u : gU) (r : Int32) (v : gU) (hf : f_Cod_carryEnd a1 a2 a3 a4 u = some (r, v)) : Met l y_Cod_carryEnd (.code y_Cod_carryEnd b_Cod_carryEnd 6 (some .int) :: TS) ({ frames := 3, cells := 0, slots := 0, locals := 69 }) (va_Pc [.ref q0, .int a1, .int a2, .int a3, .int a4] (fun U => va_P D cls (wCod cI q0 q1 q2 q3 q4 q5 q6 q7 q8 q9 q10 q11 u) U.heap ∧ va_K D cls [(cI, .int)] U ∧ Jt tJ (ad [q0, q1, q2, q3, q4, q5, q6, q7, q8, q9, q10, q11]) U)) (va_Qi (fun x (_ : Unit) => x = r) (fun _ t => va_P D cls (wCod cI q0 q1 q2 q3 q4 q5 q6 q7 q8 q9 q10 q11 v) t.heap) (ad [q0, q1, q2, q3, q4, q5, q6, q7, q8, q9, q10, q11])) 0 0 (ad [q0, q1, q2, q3, q4, q5, q6, q7, q8, q9, q10, q11]) := by
  refine ct_ofJ (by decide +kernel) (Nat.le_of_ble_eq_true rfl) ?_
  intro p e s m below meth c ls hx hb hml hr hlocks hown hw hP hK hJ hl
  have hS : va_S (ad [q0, q1, q2, q3, q4, q5, q6, q7, q8, q9, q10, q11]) s.heap s.heap [] := va_S.rf
  have hD : ∀ v, va_D (ad [q0, q1, q2, q3, q4, q5, q6, q7, q8, q9, q10, q11]) (wCod cI q0 q1 q2 q3 q4 q5 q6 q7 q8 q9 q10 q11 v) := fun _ => dj_D rfl hd
  have hl : lv_has ls 6 [(0, .ref q0), (1, .int a1), (2, .int a2), (3, .int a3), (4, .int a4)] := hl
  have hP : va_P D cls (wCod cI q0 q1 q2 q3 q4 q5 q6 q7 q8 q9 q10 q11 u) s.heap := hP
  unfold f_Cod_carryEnd at hf
  refine lv_aload_n hx hb d_Cod_carryEnd_0 rfl (lv_at hl 0 rfl) ?_
  refine lv_iload_n hx hb d_Cod_carryEnd_1 rfl (lv_at hl 1 rfl) ?_
  have hC : [0, 1, 2, 3, 4, 5, 6, 7, 8, 9, 10, 11].map (fun i => (wCod cI q0 q1 q2 q3 q4 q5 q6 q7 q8 q9 q10 q11 u)[i]?) = (wCod cI q0 q1 q2 q3 q4 q5 q6 q7 q8 q9 q10 q11 u).map some := rfl
  obtain ⟨w1, hc, hf⟩ := bd_o hf
  refine rw_i (va_runV (As := [.int a1]) (rest := []) ⟨hx, hb, hml, hown, hw⟩ (c_Cod_takeError l D cI q0 q1 q2 q3 q4 q5 q6 q7 q8 q9 q10 q11 (dj_sub hd [0, 1, 2, 3, 4, 5, 6, 7, 8, 9, 10, 11] (by decide) rfl) a1 u w1.1 w1.2 hc) (cwV 1 hw g_23 rfl rfl rfl (by decide +kernel) ⟨Nat.le_of_ble_eq_true rfl, Nat.le_of_ble_eq_true rfl⟩) (pre_V (P_sub hC hP) hK rfl rfl) rfl rfl hl.1 rfl (lv_room (Nat.le_of_ble_eq_true rfl)) d_Cod_carryEnd_2 ⟨Nat.le_of_ble_eq_true rfl, Nat.le_of_ble_eq_true rfl⟩) hS hP (hD _) hC rfl rfl (fun H locs hP hS => ?_)
  obtain ⟨u2, e_u2, hf⟩ := tk_o hf
  have hP : va_P D cls (wCod cI q0 q1 q2 q3 q4 q5 q6 q7 q8 q9 q10 q11 u2) H := by rw [e_u2]; exact hP
  refine lv_istore (lv' := [(5, .int w1.1), (0, .ref q0), (1, .int a1), (2, .int a2), (3, .int a3), (4, .int a4)]) hx hb d_Cod_carryEnd_5 hl (by decide) rfl (fun ls hl => ?_)
  refine lv_aload_n hx hb d_Cod_carryEnd_7 rfl (lv_at hl 1 rfl) ?_
  refine va_get (D := D) (ci := 3) (v := .ref q10) (C := R_Cod) (T := F_Cod) (N := 11) hx hb hw in_Cod hown hK hP 0 rfl rfl 10 (by decide) (hw _ m_141) (fun _ h9 => h9) rfl d_Cod_carryEnd_8 ?_
  refine lv_iload hx hb d_Cod_carryEnd_11 (lv_at hl 0 rfl) ?_
  refine lv_iload_n hx hb d_Cod_carryEnd_13 rfl (lv_at hl 3 rfl) ?_
  refine lv_iload hx hb d_Cod_carryEnd_14 (lv_at hl 5 rfl) ?_
  have hC : ([] : List Nat).map (fun i => (wCod cI q0 q1 q2 q3 q4 q5 q6 q7 q8 q9 q10 q11 u2)[i]?) = ([] : va_W).map some := rfl
  obtain ⟨x3, hc, hf⟩ := bd_o hf
  refine ro_i (va_runS (As := [.int w1.1, .int a2, .int a4]) (rest := [.ref q10]) ⟨hx, hb, hml, hown, hw⟩ (c_Fol_foldEnd l D cI w1.1 a2 a4 x3 hc) (va_cwS 3 hw g_26 rfl rfl rfl (by decide +kernel) ⟨Nat.le_of_ble_eq_true rfl, Nat.le_of_ble_eq_true rfl⟩) (pre_S (P_sub hC hP) hK) rfl rfl hl.1 rfl (lv_room (Nat.le_of_ble_eq_true rfl)) d_Cod_carryEnd_16 ⟨Nat.le_of_ble_eq_true rfl, Nat.le_of_ble_eq_true rfl⟩) hS hP (fun H locs hP hS => ?_)
  refine lv_iload_n hx hb d_Cod_carryEnd_19 rfl (lv_at hl 4 rfl) ?_
  refine lv_aload_n hx hb d_Cod_carryEnd_20 rfl (lv_at hl 1 rfl) ?_
  have hC : [0, 1, 2, 3, 4, 5, 6, 7, 8, 9, 10, 11].map (fun i => (wCod cI q0 q1 q2 q3 q4 q5 q6 q7 q8 q9 q10 q11 u2)[i]?) = (wCod cI q0 q1 q2 q3 q4 q5 q6 q7 q8 q9 q10 q11 u2).map some := rfl
  obtain ⟨x4, hc, hf⟩ := bd_o hf
  refine ro_i (va_runU (As := []) (rest := [.int a3, .int x3, .ref q10]) ⟨hx, hb, hml, hown, hw⟩ (c_Pas_limitOfEnd_C l D cI tJ q0 q1 q2 q3 q4 q5 q6 q7 q8 q9 q10 q11 u2 x4 hc) (va_cwU 0 hw g_27 rfl rfl rfl rfl (by decide +kernel) ⟨Nat.le_of_ble_eq_true rfl, Nat.le_of_ble_eq_true rfl⟩) (pre_VJ (P_sub hC hP) hK rfl rfl (Jt_call hJ hS (fun _ h => h.elim))) rfl rfl hl.1 rfl (lv_room (Nat.le_of_ble_eq_true rfl)) d_Cod_carryEnd_21 ⟨Nat.le_of_ble_eq_true rfl, Nat.le_of_ble_eq_true rfl⟩) hS hP (fun H locs hP hS => ?_)
  refine lv_aload_n hx hb d_Cod_carryEnd_24 rfl (lv_at hl 1 rfl) ?_
  refine va_get (D := D) (ci := 3) (v := .ref q1) (C := R_Cod) (T := F_Cod) (N := 11) hx hb hw in_Cod hown hK hP 0 rfl rfl 0 (by decide) (hw _ m_116) (fun x9 h9 => u_same (hw _ m_117) x9 h9) rfl d_Cod_carryEnd_25 ?_
  refine va_get (D := D) (ci := 1) (v := .int (u2 1 6)) (C := R_Pic) (T := F_Pic) (N := 11) hx hb hw in_Pic hown hK hP 1 rfl rfl 6 (by decide) (hw _ m_160) (fun _ h9 => h9) rfl d_Cod_carryEnd_28 ?_
  have hC : [10, 11].map (fun i => (wCod cI q0 q1 q2 q3 q4 q5 q6 q7 q8 q9 q10 q11 u2)[i]?) = (wWri cI q10 q11 (sb [10, 11] u2)).map some := rfl
  obtain ⟨w5, hc, hf⟩ := bd_o hf
  refine rw_v (va_runV (As := [.int x3, .int a3, .int x4, .int (u2 1 6)]) (rest := []) ⟨hx, hb, hml, hown, hw⟩ (c_Wri_writeNumber l D cI q10 q11 (dj_sub hd [10, 11] (by decide) rfl) x3 a3 x4 (u2 1 6) (sb [10, 11] u2) w5 hc) (cwV 4 hw g_25 rfl rfl rfl (by decide +kernel) ⟨Nat.le_of_ble_eq_true rfl, Nat.le_of_ble_eq_true rfl⟩) (pre_V (P_sub hC hP) hK rfl rfl) rfl rfl hl.1 rfl (lv_room (Nat.le_of_ble_eq_true rfl)) d_Cod_carryEnd_31 ⟨Nat.le_of_ble_eq_true rfl, Nat.le_of_ble_eq_true rfl⟩) hS hP (hD _) hC rfl rfl (fun H locs hP hS => ?_)
  obtain ⟨u6, e_u6, hf⟩ := tk_o hf
  have hP : va_P D cls (wCod cI q0 q1 q2 q3 q4 q5 q6 q7 q8 q9 q10 q11 u6) H := by rw [e_u6]; exact hP
  refine lv_iload hx hb d_Cod_carryEnd_34 (lv_at hl 0 rfl) ?_
  exact rt_i (wCod cI q0 q1 q2 q3 q4 q5 q6 q7 q8 q9 q10 q11) hx hb hr hlocks hS hP hf d_Cod_carryEnd_36
def J_Pas_overRegular_C_94 (l1 : Int32) (l3 : Int32) (l4 : Int32) (s0 : Int32) (u : gU) : Option (gU) := bd (f_Cod_carryRegular l1 l4 s0 u) fun w1 => tk (w1.2) fun u2 => bd (f_Ctx_learnRegular l3 w1.1 (u2 1 4) (sb [2, 3, 4, 5, 6, 7] u2)) fun w3 => tk (mg [2, 3, 4, 5, 6, 7] 0 u2 w3) fun u4 => some u4
def J_Pas_overRegular_C_93 (l1 : Int32) (l3 : Int32) (l4 : Int32) (u : gU) : Option (gU) := J_Pas_overRegular_C_94 l1 l3 l4 0 u
def J_Pas_overRegular_C_15 (l1 : Int32) (l2 : Int32) (s1 : Int32) (u : gU) : Option (gU) := tk (st2 u 0 4 s1) fun u1 => tk (if 0 ≤ l2 then l2 else 0 - l2) fun x2 => bd (f_Pas_foretoldByNeighbours_C u1) fun x3 => gd (ix x2 367) (bd (f_Pic_bounded (x3 + ((u1 0 4) * (u1 5 (tc x2)))) (sb [1] u1)) fun x5 => tk (st2 u1 0 5 x5) fun u6 => bd (f_Ctx_kOfRegular x2 (sb [2, 3, 4, 5, 6, 7] u6)) fun x7 => bq ((u6 1 3) = 0) (bq (x7 = 0) (bd (f_Ctx_leansDown x2 (sb [2, 3, 4, 5, 6, 7] u6)) fun x8 => bq (x8 = 0) (J_Pas_overRegular_C_93 l1 x2 x7 u6) (J_Pas_overRegular_C_94 l1 x2 x7 1 u6)) (J_Pas_overRegular_C_93 l1 x2 x7 u6)) (J_Pas_overRegular_C_93 l1 x2 x7 u6))
def f_Pas_overRegular_C (a1 : Int32) (u : gU) : Option (gU) := bd (f_Pas_signedContext_C u) fun x1 => bq (0 ≤ x1) (J_Pas_overRegular_C_15 a1 x1 1 u) (J_Pas_overRegular_C_15 a1 x1 (-1) u)
set_option maxHeartbeats 4000000 in
set_option maxRecDepth 100000 in
theorem c_Pas_overRegular_C (l : Launch) (D : va_G) (cI : ClassId) (tJ : Nat) (q0 : Nat) (q1 : Nat) (q2 : Nat) (q3 : Nat) (q4 : Nat) (q5 : Nat) (q6 : Nat) (q7 : Nat) (q8 : Nat) (q9 : Nat) (q10 : Nat) (q11 : Nat) (hd : dj [q0, q1, q2, q3, q4, q5, q6, q7, q8, q9, q10, q11]) (a1 : Int32) (u : gU) (v : gU) (hf : f_Pas_overRegular_C a1 u = some v) : Met l y_Pas_overRegular (.code y_Pas_overRegular b_Pas_overRegular 7 none :: TS) ({ frames := 4, cells := 0, slots := 0, locals := 93 }) (va_Pc [.ref q0, .int a1] (fun U => va_P D cls (wCod cI q0 q1 q2 q3 q4 q5 q6 q7 q8 q9 q10 q11 u) U.heap ∧ va_K D cls [(cI, .int)] U ∧ Jt tJ (ad [q0, q1, q2, q3, q4, q5, q6, q7, q8, q9, q10, q11]) U)) (va_Qv (fun (_ : Unit) => True) (fun _ t => va_P D cls (wCod cI q0 q1 q2 q3 q4 q5 q6 q7 q8 q9 q10 q11 v) t.heap) (ad [q0, q1, q2, q3, q4, q5, q6, q7, q8, q9, q10, q11])) 0 0 (ad [q0, q1, q2, q3, q4, q5, q6, q7, q8, q9, q10, q11]) := by
  refine ct_ofJ (by decide +kernel) (Nat.le_of_ble_eq_true rfl) ?_
  intro p e s m below meth c ls hx hb hml hr hlocks hown hw hP hK hJ hl
  have hS : va_S (ad [q0, q1, q2, q3, q4, q5, q6, q7, q8, q9, q10, q11]) s.heap s.heap [] := va_S.rf
  have hD : ∀ v, va_D (ad [q0, q1, q2, q3, q4, q5, q6, q7, q8, q9, q10, q11]) (wCod cI q0 q1 q2 q3 q4 q5 q6 q7 q8 q9 q10 q11 v) := fun _ => dj_D rfl hd
  have hl : lv_has ls 7 [(0, .ref q0), (1, .int a1)] := hl
  have hP : va_P D cls (wCod cI q0 q1 q2 q3 q4 q5 q6 q7 q8 q9 q10 q11 u) s.heap := hP
  have j94 : ∀ (ls : Array Slot) (H : Heap) (locs : List Loc) (l1 : Int32) (l3 : Int32) (l4 : Int32) (s0 : Int32) (u : gU), lv_has ls 7 [(0, .ref q0), (1, .int l1), (3, .int l3), (4, .int l4)] → va_P D cls (wCod cI q0 q1 q2 q3 q4 q5 q6 q7 q8 q9 q10 q11 u) H → va_S (ad [q0, q1, q2, q3, q4, q5, q6, q7, q8, q9, q10, q11]) s.heap H locs → J_Pas_overRegular_C_94 l1 l3 l4 s0 u = some v → W p l e ({ frames := 4, cells := 0, slots := 0, locals := 93 }) s m [.ref q0, .int a1].toArray below meth c H locs 0 0 (MQ below (va_Qv (fun (_ : Unit) => True) (fun _ t => va_P D cls (wCod cI q0 q1 q2 q3 q4 q5 q6 q7 q8 q9 q10 q11 v) t.heap) (ad [q0, q1, q2, q3, q4, q5, q6, q7, q8, q9, q10, q11])) [.ref q0, .int a1].toArray s 0 0 (ad [q0, q1, q2, q3, q4, q5, q6, q7, q8, q9, q10, q11])) (F0 m 94 ls [.int s0]) := by
    intro ls H locs l1 l3 l4 s0 u hl hP hS hf
    unfold J_Pas_overRegular_C_94 at hf
    refine lv_istore (lv' := [(5, .int s0), (0, .ref q0), (1, .int l1), (3, .int l3), (4, .int l4)]) hx hb d_Pas_overRegular_94 hl (by decide) rfl (fun ls hl => ?_)
    refine lv_aload_n hx hb d_Pas_overRegular_96 rfl (lv_at hl 1 rfl) ?_
    refine lv_iload_n hx hb d_Pas_overRegular_97 rfl (lv_at hl 2 rfl) ?_
    refine lv_iload hx hb d_Pas_overRegular_98 (lv_at hl 4 rfl) ?_
    refine lv_iload hx hb d_Pas_overRegular_100 (lv_at hl 0 rfl) ?_
    have hC : [0, 1, 2, 3, 4, 5, 6, 7, 8, 9, 10, 11].map (fun i => (wCod cI q0 q1 q2 q3 q4 q5 q6 q7 q8 q9 q10 q11 u)[i]?) = (wCod cI q0 q1 q2 q3 q4 q5 q6 q7 q8 q9 q10 q11 u).map some := rfl
    obtain ⟨w1, hc, hf⟩ := bd_o hf
    refine rw_i (va_runU (As := [.int l1, .int l4, .int s0]) (rest := []) ⟨hx, hb, hml, hown, hw⟩ (c_Cod_carryRegular l D cI q0 q1 q2 q3 q4 q5 q6 q7 q8 q9 q10 q11 (dj_sub hd [0, 1, 2, 3, 4, 5, 6, 7, 8, 9, 10, 11] (by decide) rfl) l1 l4 s0 u w1.1 w1.2 hc) (va_cwA 3 hw g_28 rfl rfl rfl hJ.2.2.2.1 (by decide +kernel) ⟨Nat.le_of_ble_eq_true rfl, Nat.le_of_ble_eq_true rfl⟩) (pre_V (P_sub hC hP) hK rfl rfl) rfl rfl hl.1 rfl (lv_room (Nat.le_of_ble_eq_true rfl)) d_Pas_overRegular_102 ⟨Nat.le_of_ble_eq_true rfl, Nat.le_of_ble_eq_true rfl⟩) hS hP (hD _) hC rfl rfl (fun H locs hP hS => ?_)
    obtain ⟨u2, e_u2, hf⟩ := tk_o hf
    have hP : va_P D cls (wCod cI q0 q1 q2 q3 q4 q5 q6 q7 q8 q9 q10 q11 u2) H := by rw [e_u2]; exact hP
    refine lv_istore (lv' := [(6, .int w1.1), (5, .int s0), (0, .ref q0), (1, .int l1), (3, .int l3), (4, .int l4)]) hx hb d_Pas_overRegular_105 hl (by decide) rfl (fun ls hl => ?_)
    refine lv_aload_n hx hb d_Pas_overRegular_107 rfl (lv_at hl 2 rfl) ?_
    refine va_get (D := D) (ci := 3) (v := .ref q2) (C := R_Cod) (T := F_Cod) (N := 11) hx hb hw in_Cod hown hK hP 0 rfl rfl 1 (by decide) (hw _ m_111) (fun _ h9 => h9) rfl d_Pas_overRegular_108 ?_
    refine lv_iload_n hx hb d_Pas_overRegular_111 rfl (lv_at hl 4 rfl) ?_
    refine lv_iload hx hb d_Pas_overRegular_112 (lv_at hl 0 rfl) ?_
    refine lv_aload_n hx hb d_Pas_overRegular_114 rfl (lv_at hl 2 rfl) ?_
    refine va_get (D := D) (ci := 3) (v := .ref q1) (C := R_Cod) (T := F_Cod) (N := 11) hx hb hw in_Cod hown hK hP 0 rfl rfl 0 (by decide) (hw _ m_90) (fun _ h9 => h9) rfl d_Pas_overRegular_115 ?_
    refine va_get (D := D) (ci := 1) (v := .int (u2 1 4)) (C := R_Pic) (T := F_Pic) (N := 11) hx hb hw in_Pic hown hK hP 1 rfl rfl 4 (by decide) (hw _ m_178) (fun _ h9 => h9) rfl d_Pas_overRegular_118 ?_
    have hC : [2, 3, 4, 5, 6, 7].map (fun i => (wCod cI q0 q1 q2 q3 q4 q5 q6 q7 q8 q9 q10 q11 u2)[i]?) = (wCtx cI q2 q3 q4 q5 q6 q7 (sb [2, 3, 4, 5, 6, 7] u2)).map some := rfl
    obtain ⟨w3, hc, hf⟩ := bd_o hf
    refine rw_v (va_runV (As := [.int l3, .int w1.1, .int (u2 1 4)]) (rest := []) ⟨hx, hb, hml, hown, hw⟩ (c_Ctx_learnRegular l D cI q2 q3 q4 q5 q6 q7 (dj_sub hd [2, 3, 4, 5, 6, 7] (by decide) rfl) l3 w1.1 (u2 1 4) (sb [2, 3, 4, 5, 6, 7] u2) w3 hc) (cwV 3 hw g_29 rfl rfl rfl (by decide +kernel) ⟨Nat.le_of_ble_eq_true rfl, Nat.le_of_ble_eq_true rfl⟩) (pre_V (P_sub hC hP) hK rfl rfl) rfl rfl hl.1 rfl (lv_room (Nat.le_of_ble_eq_true rfl)) d_Pas_overRegular_121 ⟨Nat.le_of_ble_eq_true rfl, Nat.le_of_ble_eq_true rfl⟩) hS hP (hD _) hC rfl rfl (fun H locs hP hS => ?_)
    obtain ⟨u4, e_u4, hf⟩ := tk_o hf
    have hP : va_P D cls (wCod cI q0 q1 q2 q3 q4 q5 q6 q7 q8 q9 q10 q11 u4) H := by rw [e_u4]; exact hP
    exact rt_v (wCod cI q0 q1 q2 q3 q4 q5 q6 q7 q8 q9 q10 q11) hx hb hr hlocks hS hP hf d_Pas_overRegular_124
  have j93 : ∀ (ls : Array Slot) (H : Heap) (locs : List Loc) (l1 : Int32) (l3 : Int32) (l4 : Int32) (u : gU), lv_has ls 7 [(0, .ref q0), (1, .int l1), (3, .int l3), (4, .int l4)] → va_P D cls (wCod cI q0 q1 q2 q3 q4 q5 q6 q7 q8 q9 q10 q11 u) H → va_S (ad [q0, q1, q2, q3, q4, q5, q6, q7, q8, q9, q10, q11]) s.heap H locs → J_Pas_overRegular_C_93 l1 l3 l4 u = some v → W p l e ({ frames := 4, cells := 0, slots := 0, locals := 93 }) s m [.ref q0, .int a1].toArray below meth c H locs 0 0 (MQ below (va_Qv (fun (_ : Unit) => True) (fun _ t => va_P D cls (wCod cI q0 q1 q2 q3 q4 q5 q6 q7 q8 q9 q10 q11 v) t.heap) (ad [q0, q1, q2, q3, q4, q5, q6, q7, q8, q9, q10, q11])) [.ref q0, .int a1].toArray s 0 0 (ad [q0, q1, q2, q3, q4, q5, q6, q7, q8, q9, q10, q11])) (F0 m 93 ls []) := by
    intro ls H locs l1 l3 l4 u hl hP hS hf
    unfold J_Pas_overRegular_C_93 at hf
    refine lv_iconst (v := 0) hx hb d_Pas_overRegular_93 (by decide) ?_
    exact j94 _ _ _ l1 l3 l4 0 u (lv_sub hl [0, 1, 2, 3] rfl) hP hS hf
  have j15 : ∀ (ls : Array Slot) (H : Heap) (locs : List Loc) (l1 : Int32) (l2 : Int32) (s1 : Int32) (u : gU), lv_has ls 7 [(0, .ref q0), (1, .int l1), (2, .int l2)] → va_P D cls (wCod cI q0 q1 q2 q3 q4 q5 q6 q7 q8 q9 q10 q11 u) H → va_S (ad [q0, q1, q2, q3, q4, q5, q6, q7, q8, q9, q10, q11]) s.heap H locs → J_Pas_overRegular_C_15 l1 l2 s1 u = some v → W p l e ({ frames := 4, cells := 0, slots := 0, locals := 93 }) s m [.ref q0, .int a1].toArray below meth c H locs 0 0 (MQ below (va_Qv (fun (_ : Unit) => True) (fun _ t => va_P D cls (wCod cI q0 q1 q2 q3 q4 q5 q6 q7 q8 q9 q10 q11 v) t.heap) (ad [q0, q1, q2, q3, q4, q5, q6, q7, q8, q9, q10, q11])) [.ref q0, .int a1].toArray s 0 0 (ad [q0, q1, q2, q3, q4, q5, q6, q7, q8, q9, q10, q11])) (F0 m 15 ls [.int s1, .ref q0]) := by
    intro ls H locs l1 l2 s1 u hl hP hS hf
    unfold J_Pas_overRegular_C_15 at hf
    refine va_put (D := D) (ci := 3) (v := .int s1) (ty := .int) (C := R_Cod) (T := F_Cod) (N := 11) hx hb hw in_Cod t_Cod t_Cod_ok n_Cod hown hK hP (hD _) hS 0 rfl rfl 7 (by decide) (hw _ m_183) (fun _ h9 => h9) rfl (by decide +kernel) rfl rfl (Nat.le_of_ble_eq_true rfl) d_Pas_overRegular_15 (fun H locs hP _ hS => ?_)
    obtain ⟨u1, e_u1, hf⟩ := tk_o hf
    have hP : va_P D cls (wCod cI q0 q1 q2 q3 q4 q5 q6 q7 q8 q9 q10 q11 u1) H := by rw [e_u1]; exact hP
    refine lv_iload_n hx hb d_Pas_overRegular_18 rfl (lv_at hl 2 rfl) ?_
    refine va_mabs hx hb (hml.trans hl.1.symm) hown (hw _ m_184) (hw _ m_35) (hw _ m_12) (hw _ m_36) (Nat.le_of_ble_eq_true rfl) (Nat.le_of_ble_eq_true rfl) (Nat.le_of_ble_eq_true rfl) (Nat.le_of_ble_eq_true rfl) d_Pas_overRegular_19 ?_
    refine lv_topi (fun x2 e_x2 => ?_)
    have hf := tk_e hf e_x2
    refine lv_istore_n (lv' := [(3, .int x2), (0, .ref q0), (1, .int l1), (2, .int l2)]) hx hb d_Pas_overRegular_22 rfl hl (by decide) rfl (fun ls hl => ?_)
    refine lv_aload_n hx hb d_Pas_overRegular_23 rfl (lv_at hl 1 rfl) ?_
    refine lv_aload_n hx hb d_Pas_overRegular_24 rfl (lv_at hl 1 rfl) ?_
    refine va_get (D := D) (ci := 3) (v := .ref q1) (C := R_Cod) (T := F_Cod) (N := 11) hx hb hw in_Cod hown hK hP 0 rfl rfl 0 (by decide) (hw _ m_90) (fun _ h9 => h9) rfl d_Pas_overRegular_25 ?_
    refine lv_aload_n hx hb d_Pas_overRegular_28 rfl (lv_at hl 1 rfl) ?_
    have hC : [0, 1, 2, 3, 4, 5, 6, 7, 8, 9, 10, 11].map (fun i => (wCod cI q0 q1 q2 q3 q4 q5 q6 q7 q8 q9 q10 q11 u1)[i]?) = (wCod cI q0 q1 q2 q3 q4 q5 q6 q7 q8 q9 q10 q11 u1).map some := rfl
    obtain ⟨x3, hc, hf⟩ := bd_o hf
    refine ro_i (va_runU (As := []) (rest := [.ref q1, .ref q0]) ⟨hx, hb, hml, hown, hw⟩ (c_Pas_foretoldByNeighbours_C l D cI q0 q1 q2 q3 q4 q5 q6 q7 q8 q9 q10 q11 u1 x3 hc) (va_cwU 0 hw g_30 rfl rfl rfl rfl (by decide +kernel) ⟨Nat.le_of_ble_eq_true rfl, Nat.le_of_ble_eq_true rfl⟩) (pre_V (P_sub hC hP) hK rfl rfl) rfl rfl hl.1 rfl (lv_room (Nat.le_of_ble_eq_true rfl)) d_Pas_overRegular_29 ⟨Nat.le_of_ble_eq_true rfl, Nat.le_of_ble_eq_true rfl⟩) hS hP (fun H locs hP hS => ?_)
    refine lv_aload_n hx hb d_Pas_overRegular_32 rfl (lv_at hl 1 rfl) ?_
    refine va_get (D := D) (ci := 3) (v := .int (u1 0 4)) (C := R_Cod) (T := F_Cod) (N := 11) hx hb hw in_Cod hown hK hP 0 rfl rfl 7 (by decide) (hw _ m_183) (fun _ h9 => h9) rfl d_Pas_overRegular_33 ?_
    refine lv_aload_n hx hb d_Pas_overRegular_36 rfl (lv_at hl 1 rfl) ?_
    refine va_get (D := D) (ci := 3) (v := .ref q2) (C := R_Cod) (T := F_Cod) (N := 11) hx hb hw in_Cod hown hK hP 0 rfl rfl 1 (by decide) (hw _ m_111) (fun _ h9 => h9) rfl d_Pas_overRegular_37 ?_
    refine va_get (D := D) (ci := 2) (v := .ref q5) (C := R_Ctx) (T := F_Ctx) (N := 6) hx hb hw in_Ctx hown hK hP 2 rfl rfl 2 (by decide) (hw _ m_190) (fun _ h9 => h9) rfl d_Pas_overRegular_40 ?_
    refine lv_iload_n hx hb d_Pas_overRegular_43 rfl (lv_at hl 0 rfl) ?_
    obtain ⟨h4, hf⟩ := gd_o hf
    refine va_iald hx hb hK hP 5 0 rfl rfl (ix_in h4) d_Pas_overRegular_44 ?_
    refine lv_imul hx hb d_Pas_overRegular_45 ?_
    refine lv_iadd hx hb d_Pas_overRegular_46 ?_
    have hC : [1].map (fun i => (wCod cI q0 q1 q2 q3 q4 q5 q6 q7 q8 q9 q10 q11 u1)[i]?) = (wPic cI q1 (sb [1] u1)).map some := rfl
    obtain ⟨x5, hc, hf⟩ := bd_o hf
    refine ro_i (va_runV (As := [.int (x3 + ((u1 0 4) * (u1 5 (tc x2))))]) (rest := [.ref q0]) ⟨hx, hb, hml, hown, hw⟩ (c_Pic_bounded l D cI q1 (x3 + ((u1 0 4) * (u1 5 (tc x2)))) (sb [1] u1) x5 hc) (cwV 1 hw g_31 rfl rfl rfl (by decide +kernel) ⟨Nat.le_of_ble_eq_true rfl, Nat.le_of_ble_eq_true rfl⟩) (pre_V (P_sub hC hP) hK rfl rfl) rfl rfl hl.1 rfl (lv_room (Nat.le_of_ble_eq_true rfl)) d_Pas_overRegular_47 ⟨Nat.le_of_ble_eq_true rfl, Nat.le_of_ble_eq_true rfl⟩) hS hP (fun H locs hP hS => ?_)
    refine va_put (D := D) (ci := 3) (v := .int x5) (ty := .int) (C := R_Cod) (T := F_Cod) (N := 11) hx hb hw in_Cod t_Cod t_Cod_ok n_Cod hown hK hP (hD _) hS 0 rfl rfl 8 (by decide) (hw _ m_192) (fun _ h9 => h9) rfl (by decide +kernel) rfl rfl (Nat.le_of_ble_eq_true rfl) d_Pas_overRegular_50 (fun H locs hP _ hS => ?_)
    obtain ⟨u6, e_u6, hf⟩ := tk_o hf
    have hP : va_P D cls (wCod cI q0 q1 q2 q3 q4 q5 q6 q7 q8 q9 q10 q11 u6) H := by rw [e_u6]; exact hP
    refine lv_aload_n hx hb d_Pas_overRegular_53 rfl (lv_at hl 1 rfl) ?_
    refine va_get (D := D) (ci := 3) (v := .ref q2) (C := R_Cod) (T := F_Cod) (N := 11) hx hb hw in_Cod hown hK hP 0 rfl rfl 1 (by decide) (hw _ m_111) (fun _ h9 => h9) rfl d_Pas_overRegular_54 ?_
    refine lv_iload_n hx hb d_Pas_overRegular_57 rfl (lv_at hl 0 rfl) ?_
    have hC : [2, 3, 4, 5, 6, 7].map (fun i => (wCod cI q0 q1 q2 q3 q4 q5 q6 q7 q8 q9 q10 q11 u6)[i]?) = (wCtx cI q2 q3 q4 q5 q6 q7 (sb [2, 3, 4, 5, 6, 7] u6)).map some := rfl
    obtain ⟨x7, hc, hf⟩ := bd_o hf
    refine ro_i (va_runV (As := [.int x2]) (rest := []) ⟨hx, hb, hml, hown, hw⟩ (c_Ctx_kOfRegular l D cI q2 q3 q4 q5 q6 q7 x2 (sb [2, 3, 4, 5, 6, 7] u6) x7 hc) (cwV 1 hw g_32 rfl rfl rfl (by decide +kernel) ⟨Nat.le_of_ble_eq_true rfl, Nat.le_of_ble_eq_true rfl⟩) (pre_V (P_sub hC hP) hK rfl rfl) rfl rfl hl.1 rfl (lv_room (Nat.le_of_ble_eq_true rfl)) d_Pas_overRegular_58 ⟨Nat.le_of_ble_eq_true rfl, Nat.le_of_ble_eq_true rfl⟩) hS hP (fun H locs hP hS => ?_)
    refine lv_istore (lv' := [(4, .int x7), (3, .int x2), (0, .ref q0), (1, .int l1), (2, .int l2)]) hx hb d_Pas_overRegular_61 hl (by decide) rfl (fun ls hl => ?_)
    refine lv_aload_n hx hb d_Pas_overRegular_63 rfl (lv_at hl 2 rfl) ?_
    refine va_get (D := D) (ci := 3) (v := .ref q1) (C := R_Cod) (T := F_Cod) (N := 11) hx hb hw in_Cod hown hK hP 0 rfl rfl 0 (by decide) (hw _ m_90) (fun _ h9 => h9) rfl d_Pas_overRegular_64 ?_
    refine va_get (D := D) (ci := 1) (v := .int (u6 1 3)) (C := R_Pic) (T := F_Pic) (N := 11) hx hb hw in_Pic hown hK hP 1 rfl rfl 3 (by decide) (hw _ m_197) (fun _ h9 => h9) rfl d_Pas_overRegular_67 ?_
    refine lv_if_ne (tgt := 93) hx hb d_Pas_overRegular_70 (by decide) (fun hc => ?_) (fun hc => ?_)
    · have hf := bq_n hf hc
      exact j93 _ _ _ l1 x2 x7 u6 (lv_sub hl [2, 3, 1, 0] rfl) hP hS hf
    have hf := bq_t hf hc
    refine lv_iload hx hb d_Pas_overRegular_73 (lv_at hl 0 rfl) ?_
    refine lv_if_ne (tgt := 93) hx hb d_Pas_overRegular_75 (by decide) (fun hc => ?_) (fun hc => ?_)
    · have hf := bq_n hf hc
      exact j93 _ _ _ l1 x2 x7 u6 (lv_sub hl [2, 3, 1, 0] rfl) hP hS hf
    have hf := bq_t hf hc
    refine lv_aload_n hx hb d_Pas_overRegular_78 rfl (lv_at hl 2 rfl) ?_
    refine va_get (D := D) (ci := 3) (v := .ref q2) (C := R_Cod) (T := F_Cod) (N := 11) hx hb hw in_Cod hown hK hP 0 rfl rfl 1 (by decide) (hw _ m_111) (fun _ h9 => h9) rfl d_Pas_overRegular_79 ?_
    refine lv_iload_n hx hb d_Pas_overRegular_82 rfl (lv_at hl 1 rfl) ?_
    have hC : [2, 3, 4, 5, 6, 7].map (fun i => (wCod cI q0 q1 q2 q3 q4 q5 q6 q7 q8 q9 q10 q11 u6)[i]?) = (wCtx cI q2 q3 q4 q5 q6 q7 (sb [2, 3, 4, 5, 6, 7] u6)).map some := rfl
    obtain ⟨x8, hc, hf⟩ := bd_o hf
    refine ro_i (va_runV (As := [.int x2]) (rest := []) ⟨hx, hb, hml, hown, hw⟩ (c_Ctx_leansDown l D cI q2 q3 q4 q5 q6 q7 x2 (sb [2, 3, 4, 5, 6, 7] u6) x8 hc) (cwV 1 hw g_33 rfl rfl rfl (by decide +kernel) ⟨Nat.le_of_ble_eq_true rfl, Nat.le_of_ble_eq_true rfl⟩) (pre_V (P_sub hC hP) hK rfl rfl) rfl rfl hl.1 rfl (lv_room (Nat.le_of_ble_eq_true rfl)) d_Pas_overRegular_83 ⟨Nat.le_of_ble_eq_true rfl, Nat.le_of_ble_eq_true rfl⟩) hS hP (fun H locs hP hS => ?_)
    refine lv_if_eq (tgt := 93) hx hb d_Pas_overRegular_86 (by decide) (fun hc => ?_) (fun hc => ?_)
    · have hf := bq_t hf hc
      exact j93 _ _ _ l1 x2 x7 u6 (lv_sub hl [2, 3, 1, 0] rfl) hP hS hf
    have hf := bq_n hf hc
    refine lv_iconst (v := 1) hx hb d_Pas_overRegular_89 (by decide) ?_
    refine lv_goto (tgt := 94) hx hb d_Pas_overRegular_90 (by decide) ?_
    exact j94 _ _ _ l1 x2 x7 1 u6 (lv_sub hl [2, 3, 1, 0] rfl) hP hS hf
  unfold f_Pas_overRegular_C at hf
  refine lv_aload_n hx hb d_Pas_overRegular_0 rfl (lv_at hl 0 rfl) ?_
  have hC : [0, 1, 2, 3, 4, 5, 6, 7, 8, 9, 10, 11].map (fun i => (wCod cI q0 q1 q2 q3 q4 q5 q6 q7 q8 q9 q10 q11 u)[i]?) = (wCod cI q0 q1 q2 q3 q4 q5 q6 q7 q8 q9 q10 q11 u).map some := rfl
  obtain ⟨x1, hc, hf⟩ := bd_o hf
  refine ro_i (va_runU (As := []) (rest := []) ⟨hx, hb, hml, hown, hw⟩ (c_Pas_signedContext_C l D cI q0 q1 q2 q3 q4 q5 q6 q7 q8 q9 q10 q11 u x1 hc) (va_cwU 0 hw g_34 rfl rfl rfl rfl (by decide +kernel) ⟨Nat.le_of_ble_eq_true rfl, Nat.le_of_ble_eq_true rfl⟩) (pre_V (P_sub hC hP) hK rfl rfl) rfl rfl hl.1 rfl (lv_room (Nat.le_of_ble_eq_true rfl)) d_Pas_overRegular_1 ⟨Nat.le_of_ble_eq_true rfl, Nat.le_of_ble_eq_true rfl⟩) hS hP (fun H locs hP hS => ?_)
  refine lv_istore_n (lv' := [(2, .int x1), (0, .ref q0), (1, .int a1)]) hx hb d_Pas_overRegular_4 rfl hl (by decide) rfl (fun ls hl => ?_)
  refine lv_aload_n hx hb d_Pas_overRegular_5 rfl (lv_at hl 1 rfl) ?_
  refine lv_iload_n hx hb d_Pas_overRegular_6 rfl (lv_at hl 0 rfl) ?_
  refine lv_if_ge (tgt := 14) hx hb d_Pas_overRegular_7 (by decide) (fun hc => ?_) (fun hc => ?_)
  · have hf := bq_t hf hc
    refine lv_iconst (v := 1) hx hb d_Pas_overRegular_14 (by decide) ?_
    exact j15 _ _ _ a1 x1 1 u (lv_sub hl [1, 2, 0] rfl) hP hS hf
  have hf := bq_n hf hc
  refine lv_iconst (v := (-1)) hx hb d_Pas_overRegular_10 (by decide) ?_
  refine lv_goto (tgt := 15) hx hb d_Pas_overRegular_11 (by decide) ?_
  exact j15 _ _ _ a1 x1 (-1) u (lv_sub hl [1, 2, 0] rfl) hP hS hf
def J_Pas_overEnd_C_106 (l1 : Int32) (l2 : Int32) (l3 : Int32) (l4 : Int32) (s0 : Int32) (u : gU) : Option (gU) := bd (f_Cod_carryEnd l1 l2 l4 s0 u) fun w1 => tk (w1.2) fun u2 => bd (f_Fol_foldEnd w1.1 l2 s0) fun x3 => bd (f_Ctx_learnEnd l3 w1.1 x3 (sb [2, 3, 4, 5, 6, 7] u2)) fun w4 => tk (mg [2, 3, 4, 5, 6, 7] 0 u2 w4) fun u5 => bd (f_Ctx_lowerRunIndex (sb [2, 3, 4, 5, 6, 7] u5)) fun w6 => tk (mg [2, 3, 4, 5, 6, 7] 0 u5 w6) fun u7 => some u7
def J_Pas_overEnd_C_101 (l1 : Int32) (l2 : Int32) (l3 : Int32) (l4 : Int32) (u : gU) : Option (gU) := J_Pas_overEnd_C_106 l1 l2 l3 l4 1 u
def J_Pas_overEnd_C_66 (l1 : Int32) (l2 : Int32) (s1 : Int32) (u : gU) : Option (gU) := tk (st2 u 0 4 s1) fun u1 => tk (365 + l2) fun x2 => bd (f_Ctx_kOfEnd x2 (sb [2, 3, 4, 5, 6, 7] u1)) fun x3 => bq (x3 = 0) (bd (f_Ctx_isMostlyBelow x2 (sb [2, 3, 4, 5, 6, 7] u1)) fun x4 => bq (x4 = 0) (J_Pas_overEnd_C_106 l1 l2 x2 x3 0 u1) (J_Pas_overEnd_C_101 l1 l2 x2 x3 u1)) (J_Pas_overEnd_C_101 l1 l2 x2 x3 u1)
def J_Pas_overEnd_C_65 (l1 : Int32) (l2 : Int32) (u : gU) : Option (gU) := J_Pas_overEnd_C_66 l1 l2 1 u
def J_Pas_overEnd_C_42 (l1 : Int32) (l2 : Int32) (s1 : Int32) (u : gU) : Option (gU) := tk (st2 u 0 5 s1) fun u1 => bq (l2 = 0) (bq ((u1 0 0) ≤ (u1 0 1)) (J_Pas_overEnd_C_65 l1 l2 u1) (J_Pas_overEnd_C_66 l1 l2 (-1) u1)) (J_Pas_overEnd_C_65 l1 l2 u1)
def J_Pas_overEnd_C_24 (l1 : Int32) (s0 : Int32) (u : gU) : Option (gU) := bq (s0 = 1) (J_Pas_overEnd_C_42 l1 s0 (u 0 0) u) (J_Pas_overEnd_C_42 l1 s0 (u 0 1) u)
def f_Pas_overEnd_C (a1 : Int32) (u : gU) : Option (gU) := bd (f_Pic_isNear ((u 0 0) - (u 0 1)) (sb [1] u)) fun x1 => bq (x1 = 0) (J_Pas_overEnd_C_24 a1 0 u) (J_Pas_overEnd_C_24 a1 1 u)
set_option maxHeartbeats 4000000 in
set_option maxRecDepth 100000 in
theorem c_Pas_overEnd_C (l : Launch) (D : va_G) (cI : ClassId) (tJ : Nat) (q0 : Nat) (q1 : Nat) (q2 : Nat) (q3 : Nat) (q4 : Nat) (q5 : Nat) (q6 : Nat) (q7 : Nat) (q8 : Nat) (q9 : Nat) (q10 : Nat) (q11 : Nat) (hd : dj [q0, q1, q2, q3, q4, q5, q6, q7, q8, q9, q10, q11]) (a1 : Int32) (u : gU) (v : gU) (hf : f_Pas_overEnd_C a1 u = some v) : Met l y_Pas_overEnd (.code y_Pas_overEnd b_Pas_overEnd 7 none :: TS) ({ frames := 4, cells := 0, slots := 0, locals := 94 }) (va_Pc [.ref q0, .int a1] (fun U => va_P D cls (wCod cI q0 q1 q2 q3 q4 q5 q6 q7 q8 q9 q10 q11 u) U.heap ∧ va_K D cls [(cI, .int)] U ∧ Jt tJ (ad [q0, q1, q2, q3, q4, q5, q6, q7, q8, q9, q10, q11]) U)) (va_Qv (fun (_ : Unit) => True) (fun _ t => va_P D cls (wCod cI q0 q1 q2 q3 q4 q5 q6 q7 q8 q9 q10 q11 v) t.heap) (ad [q0, q1, q2, q3, q4, q5, q6, q7, q8, q9, q10, q11])) 0 0 (ad [q0, q1, q2, q3, q4, q5, q6, q7, q8, q9, q10, q11]) := by
  refine ct_ofJ (by decide +kernel) (Nat.le_of_ble_eq_true rfl) ?_
  intro p e s m below meth c ls hx hb hml hr hlocks hown hw hP hK hJ hl
  have hS : va_S (ad [q0, q1, q2, q3, q4, q5, q6, q7, q8, q9, q10, q11]) s.heap s.heap [] := va_S.rf
  have hD : ∀ v, va_D (ad [q0, q1, q2, q3, q4, q5, q6, q7, q8, q9, q10, q11]) (wCod cI q0 q1 q2 q3 q4 q5 q6 q7 q8 q9 q10 q11 v) := fun _ => dj_D rfl hd
  have hl : lv_has ls 7 [(0, .ref q0), (1, .int a1)] := hl
  have hP : va_P D cls (wCod cI q0 q1 q2 q3 q4 q5 q6 q7 q8 q9 q10 q11 u) s.heap := hP
  have j106 : ∀ (ls : Array Slot) (H : Heap) (locs : List Loc) (l1 : Int32) (l2 : Int32) (l3 : Int32) (l4 : Int32) (s0 : Int32) (u : gU), lv_has ls 7 [(0, .ref q0), (1, .int l1), (2, .int l2), (3, .int l3), (4, .int l4)] → va_P D cls (wCod cI q0 q1 q2 q3 q4 q5 q6 q7 q8 q9 q10 q11 u) H → va_S (ad [q0, q1, q2, q3, q4, q5, q6, q7, q8, q9, q10, q11]) s.heap H locs → J_Pas_overEnd_C_106 l1 l2 l3 l4 s0 u = some v → W p l e ({ frames := 4, cells := 0, slots := 0, locals := 94 }) s m [.ref q0, .int a1].toArray below meth c H locs 0 0 (MQ below (va_Qv (fun (_ : Unit) => True) (fun _ t => va_P D cls (wCod cI q0 q1 q2 q3 q4 q5 q6 q7 q8 q9 q10 q11 v) t.heap) (ad [q0, q1, q2, q3, q4, q5, q6, q7, q8, q9, q10, q11])) [.ref q0, .int a1].toArray s 0 0 (ad [q0, q1, q2, q3, q4, q5, q6, q7, q8, q9, q10, q11])) (F0 m 106 ls [.int s0]) := by
    intro ls H locs l1 l2 l3 l4 s0 u hl hP hS hf
    unfold J_Pas_overEnd_C_106 at hf
    refine lv_istore (lv' := [(5, .int s0), (0, .ref q0), (1, .int l1), (2, .int l2), (3, .int l3), (4, .int l4)]) hx hb d_Pas_overEnd_106 hl (by decide) rfl (fun ls hl => ?_)
    refine lv_aload_n hx hb d_Pas_overEnd_108 rfl (lv_at hl 1 rfl) ?_
    refine lv_iload_n hx hb d_Pas_overEnd_109 rfl (lv_at hl 2 rfl) ?_
    refine lv_iload_n hx hb d_Pas_overEnd_110 rfl (lv_at hl 3 rfl) ?_
    refine lv_iload hx hb d_Pas_overEnd_111 (lv_at hl 5 rfl) ?_
    refine lv_iload hx hb d_Pas_overEnd_113 (lv_at hl 0 rfl) ?_
    have hC : [0, 1, 2, 3, 4, 5, 6, 7, 8, 9, 10, 11].map (fun i => (wCod cI q0 q1 q2 q3 q4 q5 q6 q7 q8 q9 q10 q11 u)[i]?) = (wCod cI q0 q1 q2 q3 q4 q5 q6 q7 q8 q9 q10 q11 u).map some := rfl
    obtain ⟨w1, hc, hf⟩ := bd_o hf
    refine rw_i (va_runU (As := [.int l1, .int l2, .int l4, .int s0]) (rest := []) ⟨hx, hb, hml, hown, hw⟩ (c_Cod_carryEnd l D cI tJ q0 q1 q2 q3 q4 q5 q6 q7 q8 q9 q10 q11 (dj_sub hd [0, 1, 2, 3, 4, 5, 6, 7, 8, 9, 10, 11] (by decide) rfl) l1 l2 l4 s0 u w1.1 w1.2 hc) (va_cwA 4 hw g_35 rfl rfl rfl hJ.2.2.2.2 (by decide +kernel) ⟨Nat.le_of_ble_eq_true rfl, Nat.le_of_ble_eq_true rfl⟩) (pre_VJ (P_sub hC hP) hK rfl rfl (Jt_call hJ hS (ad_sub [0, 1, 2, 3, 4, 5, 6, 7, 8, 9, 10, 11] rfl))) rfl rfl hl.1 rfl (lv_room (Nat.le_of_ble_eq_true rfl)) d_Pas_overEnd_115 ⟨Nat.le_of_ble_eq_true rfl, Nat.le_of_ble_eq_true rfl⟩) hS hP (hD _) hC rfl rfl (fun H locs hP hS => ?_)
    obtain ⟨u2, e_u2, hf⟩ := tk_o hf
    have hP : va_P D cls (wCod cI q0 q1 q2 q3 q4 q5 q6 q7 q8 q9 q10 q11 u2) H := by rw [e_u2]; exact hP
    refine lv_istore (lv' := [(6, .int w1.1), (5, .int s0), (0, .ref q0), (1, .int l1), (2, .int l2), (3, .int l3), (4, .int l4)]) hx hb d_Pas_overEnd_118 hl (by decide) rfl (fun ls hl => ?_)
    refine lv_aload_n hx hb d_Pas_overEnd_120 rfl (lv_at hl 2 rfl) ?_
    refine va_get (D := D) (ci := 3) (v := .ref q2) (C := R_Cod) (T := F_Cod) (N := 11) hx hb hw in_Cod hown hK hP 0 rfl rfl 1 (by decide) (hw _ m_111) (fun _ h9 => h9) rfl d_Pas_overEnd_121 ?_
    refine lv_iload_n hx hb d_Pas_overEnd_124 rfl (lv_at hl 5 rfl) ?_
    refine lv_iload hx hb d_Pas_overEnd_125 (lv_at hl 0 rfl) ?_
    refine lv_iload hx hb d_Pas_overEnd_127 (lv_at hl 0 rfl) ?_
    refine lv_iload_n hx hb d_Pas_overEnd_129 rfl (lv_at hl 4 rfl) ?_
    refine lv_iload hx hb d_Pas_overEnd_130 (lv_at hl 1 rfl) ?_
    have hC : ([] : List Nat).map (fun i => (wCod cI q0 q1 q2 q3 q4 q5 q6 q7 q8 q9 q10 q11 u2)[i]?) = ([] : va_W).map some := rfl
    obtain ⟨x3, hc, hf⟩ := bd_o hf
    refine ro_i (va_runS (As := [.int w1.1, .int l2, .int s0]) (rest := [.int w1.1, .int l3, .ref q2]) ⟨hx, hb, hml, hown, hw⟩ (c_Fol_foldEnd l D cI w1.1 l2 s0 x3 hc) (va_cwS 3 hw g_36 rfl rfl rfl (by decide +kernel) ⟨Nat.le_of_ble_eq_true rfl, Nat.le_of_ble_eq_true rfl⟩) (pre_S (P_sub hC hP) hK) rfl rfl hl.1 rfl (lv_room (Nat.le_of_ble_eq_true rfl)) d_Pas_overEnd_132 ⟨Nat.le_of_ble_eq_true rfl, Nat.le_of_ble_eq_true rfl⟩) hS hP (fun H locs hP hS => ?_)
    have hC : [2, 3, 4, 5, 6, 7].map (fun i => (wCod cI q0 q1 q2 q3 q4 q5 q6 q7 q8 q9 q10 q11 u2)[i]?) = (wCtx cI q2 q3 q4 q5 q6 q7 (sb [2, 3, 4, 5, 6, 7] u2)).map some := rfl
    obtain ⟨w4, hc, hf⟩ := bd_o hf
    refine rw_v (va_runV (As := [.int l3, .int w1.1, .int x3]) (rest := []) ⟨hx, hb, hml, hown, hw⟩ (c_Ctx_learnEnd l D cI q2 q3 q4 q5 q6 q7 (dj_sub hd [2, 3, 4, 5, 6, 7] (by decide) rfl) l3 w1.1 x3 (sb [2, 3, 4, 5, 6, 7] u2) w4 hc) (cwV 3 hw g_37 rfl rfl rfl (by decide +kernel) ⟨Nat.le_of_ble_eq_true rfl, Nat.le_of_ble_eq_true rfl⟩) (pre_V (P_sub hC hP) hK rfl rfl) rfl rfl hl.1 rfl (lv_room (Nat.le_of_ble_eq_true rfl)) d_Pas_overEnd_135 ⟨Nat.le_of_ble_eq_true rfl, Nat.le_of_ble_eq_true rfl⟩) hS hP (hD _) hC rfl rfl (fun H locs hP hS => ?_)
    obtain ⟨u5, e_u5, hf⟩ := tk_o hf
    have hP : va_P D cls (wCod cI q0 q1 q2 q3 q4 q5 q6 q7 q8 q9 q10 q11 u5) H := by rw [e_u5]; exact hP
    refine lv_aload_n hx hb d_Pas_overEnd_138 rfl (lv_at hl 2 rfl) ?_
    refine va_get (D := D) (ci := 3) (v := .ref q2) (C := R_Cod) (T := F_Cod) (N := 11) hx hb hw in_Cod hown hK hP 0 rfl rfl 1 (by decide) (hw _ m_111) (fun _ h9 => h9) rfl d_Pas_overEnd_139 ?_
    have hC : [2, 3, 4, 5, 6, 7].map (fun i => (wCod cI q0 q1 q2 q3 q4 q5 q6 q7 q8 q9 q10 q11 u5)[i]?) = (wCtx cI q2 q3 q4 q5 q6 q7 (sb [2, 3, 4, 5, 6, 7] u5)).map some := rfl
    obtain ⟨w6, hc, hf⟩ := bd_o hf
    refine rw_v (va_runV (As := []) (rest := []) ⟨hx, hb, hml, hown, hw⟩ (c_Ctx_lowerRunIndex l D cI q2 q3 q4 q5 q6 q7 (dj_sub hd [2, 3, 4, 5, 6, 7] (by decide) rfl) (sb [2, 3, 4, 5, 6, 7] u5) w6 hc) (cwV 0 hw g_38 rfl rfl rfl (by decide +kernel) ⟨Nat.le_of_ble_eq_true rfl, Nat.le_of_ble_eq_true rfl⟩) (pre_V (P_sub hC hP) hK rfl rfl) rfl rfl hl.1 rfl (lv_room (Nat.le_of_ble_eq_true rfl)) d_Pas_overEnd_142 ⟨Nat.le_of_ble_eq_true rfl, Nat.le_of_ble_eq_true rfl⟩) hS hP (hD _) hC rfl rfl (fun H locs hP hS => ?_)
    obtain ⟨u7, e_u7, hf⟩ := tk_o hf
    have hP : va_P D cls (wCod cI q0 q1 q2 q3 q4 q5 q6 q7 q8 q9 q10 q11 u7) H := by rw [e_u7]; exact hP
    exact rt_v (wCod cI q0 q1 q2 q3 q4 q5 q6 q7 q8 q9 q10 q11) hx hb hr hlocks hS hP hf d_Pas_overEnd_145
  have j101 : ∀ (ls : Array Slot) (H : Heap) (locs : List Loc) (l1 : Int32) (l2 : Int32) (l3 : Int32) (l4 : Int32) (u : gU), lv_has ls 7 [(0, .ref q0), (1, .int l1), (2, .int l2), (3, .int l3), (4, .int l4)] → va_P D cls (wCod cI q0 q1 q2 q3 q4 q5 q6 q7 q8 q9 q10 q11 u) H → va_S (ad [q0, q1, q2, q3, q4, q5, q6, q7, q8, q9, q10, q11]) s.heap H locs → J_Pas_overEnd_C_101 l1 l2 l3 l4 u = some v → W p l e ({ frames := 4, cells := 0, slots := 0, locals := 94 }) s m [.ref q0, .int a1].toArray below meth c H locs 0 0 (MQ below (va_Qv (fun (_ : Unit) => True) (fun _ t => va_P D cls (wCod cI q0 q1 q2 q3 q4 q5 q6 q7 q8 q9 q10 q11 v) t.heap) (ad [q0, q1, q2, q3, q4, q5, q6, q7, q8, q9, q10, q11])) [.ref q0, .int a1].toArray s 0 0 (ad [q0, q1, q2, q3, q4, q5, q6, q7, q8, q9, q10, q11])) (F0 m 101 ls []) := by
    intro ls H locs l1 l2 l3 l4 u hl hP hS hf
    unfold J_Pas_overEnd_C_101 at hf
    refine lv_iconst (v := 1) hx hb d_Pas_overEnd_101 (by decide) ?_
    refine lv_goto (tgt := 106) hx hb d_Pas_overEnd_102 (by decide) ?_
    exact j106 _ _ _ l1 l2 l3 l4 1 u (lv_sub hl [0, 1, 2, 3, 4] rfl) hP hS hf
  have j66 : ∀ (ls : Array Slot) (H : Heap) (locs : List Loc) (l1 : Int32) (l2 : Int32) (s1 : Int32) (u : gU), lv_has ls 7 [(0, .ref q0), (1, .int l1), (2, .int l2)] → va_P D cls (wCod cI q0 q1 q2 q3 q4 q5 q6 q7 q8 q9 q10 q11 u) H → va_S (ad [q0, q1, q2, q3, q4, q5, q6, q7, q8, q9, q10, q11]) s.heap H locs → J_Pas_overEnd_C_66 l1 l2 s1 u = some v → W p l e ({ frames := 4, cells := 0, slots := 0, locals := 94 }) s m [.ref q0, .int a1].toArray below meth c H locs 0 0 (MQ below (va_Qv (fun (_ : Unit) => True) (fun _ t => va_P D cls (wCod cI q0 q1 q2 q3 q4 q5 q6 q7 q8 q9 q10 q11 v) t.heap) (ad [q0, q1, q2, q3, q4, q5, q6, q7, q8, q9, q10, q11])) [.ref q0, .int a1].toArray s 0 0 (ad [q0, q1, q2, q3, q4, q5, q6, q7, q8, q9, q10, q11])) (F0 m 66 ls [.int s1, .ref q0]) := by
    intro ls H locs l1 l2 s1 u hl hP hS hf
    unfold J_Pas_overEnd_C_66 at hf
    refine va_put (D := D) (ci := 3) (v := .int s1) (ty := .int) (C := R_Cod) (T := F_Cod) (N := 11) hx hb hw in_Cod t_Cod t_Cod_ok n_Cod hown hK hP (hD _) hS 0 rfl rfl 7 (by decide) (hw _ m_183) (fun _ h9 => h9) rfl (by decide +kernel) rfl rfl (Nat.le_of_ble_eq_true rfl) d_Pas_overEnd_66 (fun H locs hP _ hS => ?_)
    obtain ⟨u1, e_u1, hf⟩ := tk_o hf
    have hP : va_P D cls (wCod cI q0 q1 q2 q3 q4 q5 q6 q7 q8 q9 q10 q11 u1) H := by rw [e_u1]; exact hP
    refine lv_sipush (v := 365) hx hb d_Pas_overEnd_69 (by decide) ?_
    refine lv_iload_n hx hb d_Pas_overEnd_72 rfl (lv_at hl 2 rfl) ?_
    refine lv_iadd hx hb d_Pas_overEnd_73 ?_
    refine lv_topi (fun x2 e_x2 => ?_)
    have hf := tk_e hf e_x2
    refine lv_istore_n (lv' := [(3, .int x2), (0, .ref q0), (1, .int l1), (2, .int l2)]) hx hb d_Pas_overEnd_74 rfl hl (by decide) rfl (fun ls hl => ?_)
    refine lv_aload_n hx hb d_Pas_overEnd_75 rfl (lv_at hl 1 rfl) ?_
    refine va_get (D := D) (ci := 3) (v := .ref q2) (C := R_Cod) (T := F_Cod) (N := 11) hx hb hw in_Cod hown hK hP 0 rfl rfl 1 (by decide) (hw _ m_111) (fun _ h9 => h9) rfl d_Pas_overEnd_76 ?_
    refine lv_iload_n hx hb d_Pas_overEnd_79 rfl (lv_at hl 0 rfl) ?_
    have hC : [2, 3, 4, 5, 6, 7].map (fun i => (wCod cI q0 q1 q2 q3 q4 q5 q6 q7 q8 q9 q10 q11 u1)[i]?) = (wCtx cI q2 q3 q4 q5 q6 q7 (sb [2, 3, 4, 5, 6, 7] u1)).map some := rfl
    obtain ⟨x3, hc, hf⟩ := bd_o hf
    refine ro_i (va_runV (As := [.int x2]) (rest := []) ⟨hx, hb, hml, hown, hw⟩ (c_Ctx_kOfEnd l D cI q2 q3 q4 q5 q6 q7 x2 (sb [2, 3, 4, 5, 6, 7] u1) x3 hc) (cwV 1 hw g_39 rfl rfl rfl (by decide +kernel) ⟨Nat.le_of_ble_eq_true rfl, Nat.le_of_ble_eq_true rfl⟩) (pre_V (P_sub hC hP) hK rfl rfl) rfl rfl hl.1 rfl (lv_room (Nat.le_of_ble_eq_true rfl)) d_Pas_overEnd_80 ⟨Nat.le_of_ble_eq_true rfl, Nat.le_of_ble_eq_true rfl⟩) hS hP (fun H locs hP hS => ?_)
    refine lv_istore (lv' := [(4, .int x3), (3, .int x2), (0, .ref q0), (1, .int l1), (2, .int l2)]) hx hb d_Pas_overEnd_83 hl (by decide) rfl (fun ls hl => ?_)
    refine lv_iload hx hb d_Pas_overEnd_85 (lv_at hl 0 rfl) ?_
    refine lv_if_ne (tgt := 101) hx hb d_Pas_overEnd_87 (by decide) (fun hc => ?_) (fun hc => ?_)
    · have hf := bq_n hf hc
      exact j101 _ _ _ l1 l2 x2 x3 u1 (lv_sub hl [2, 3, 4, 1, 0] rfl) hP hS hf
    have hf := bq_t hf hc
    refine lv_aload_n hx hb d_Pas_overEnd_90 rfl (lv_at hl 2 rfl) ?_
    refine va_get (D := D) (ci := 3) (v := .ref q2) (C := R_Cod) (T := F_Cod) (N := 11) hx hb hw in_Cod hown hK hP 0 rfl rfl 1 (by decide) (hw _ m_111) (fun _ h9 => h9) rfl d_Pas_overEnd_91 ?_
    refine lv_iload_n hx hb d_Pas_overEnd_94 rfl (lv_at hl 1 rfl) ?_
    have hC : [2, 3, 4, 5, 6, 7].map (fun i => (wCod cI q0 q1 q2 q3 q4 q5 q6 q7 q8 q9 q10 q11 u1)[i]?) = (wCtx cI q2 q3 q4 q5 q6 q7 (sb [2, 3, 4, 5, 6, 7] u1)).map some := rfl
    obtain ⟨x4, hc, hf⟩ := bd_o hf
    refine ro_i (va_runV (As := [.int x2]) (rest := []) ⟨hx, hb, hml, hown, hw⟩ (c_Ctx_isMostlyBelow l D cI q2 q3 q4 q5 q6 q7 x2 (sb [2, 3, 4, 5, 6, 7] u1) x4 hc) (cwV 1 hw g_40 rfl rfl rfl (by decide +kernel) ⟨Nat.le_of_ble_eq_true rfl, Nat.le_of_ble_eq_true rfl⟩) (pre_V (P_sub hC hP) hK rfl rfl) rfl rfl hl.1 rfl (lv_room (Nat.le_of_ble_eq_true rfl)) d_Pas_overEnd_95 ⟨Nat.le_of_ble_eq_true rfl, Nat.le_of_ble_eq_true rfl⟩) hS hP (fun H locs hP hS => ?_)
    refine lv_if_eq (tgt := 105) hx hb d_Pas_overEnd_98 (by decide) (fun hc => ?_) (fun hc => ?_)
    · have hf := bq_t hf hc
      refine lv_iconst (v := 0) hx hb d_Pas_overEnd_105 (by decide) ?_
      exact j106 _ _ _ l1 l2 x2 x3 0 u1 (lv_sub hl [2, 3, 4, 1, 0] rfl) hP hS hf
    have hf := bq_n hf hc
    exact j101 _ _ _ l1 l2 x2 x3 u1 (lv_sub hl [2, 3, 4, 1, 0] rfl) hP hS hf
  have j65 : ∀ (ls : Array Slot) (H : Heap) (locs : List Loc) (l1 : Int32) (l2 : Int32) (u : gU), lv_has ls 7 [(0, .ref q0), (1, .int l1), (2, .int l2)] → va_P D cls (wCod cI q0 q1 q2 q3 q4 q5 q6 q7 q8 q9 q10 q11 u) H → va_S (ad [q0, q1, q2, q3, q4, q5, q6, q7, q8, q9, q10, q11]) s.heap H locs → J_Pas_overEnd_C_65 l1 l2 u = some v → W p l e ({ frames := 4, cells := 0, slots := 0, locals := 94 }) s m [.ref q0, .int a1].toArray below meth c H locs 0 0 (MQ below (va_Qv (fun (_ : Unit) => True) (fun _ t => va_P D cls (wCod cI q0 q1 q2 q3 q4 q5 q6 q7 q8 q9 q10 q11 v) t.heap) (ad [q0, q1, q2, q3, q4, q5, q6, q7, q8, q9, q10, q11])) [.ref q0, .int a1].toArray s 0 0 (ad [q0, q1, q2, q3, q4, q5, q6, q7, q8, q9, q10, q11])) (F0 m 65 ls [.ref q0]) := by
    intro ls H locs l1 l2 u hl hP hS hf
    unfold J_Pas_overEnd_C_65 at hf
    refine lv_iconst (v := 1) hx hb d_Pas_overEnd_65 (by decide) ?_
    exact j66 _ _ _ l1 l2 1 u (lv_sub hl [0, 1, 2] rfl) hP hS hf
  have j42 : ∀ (ls : Array Slot) (H : Heap) (locs : List Loc) (l1 : Int32) (l2 : Int32) (s1 : Int32) (u : gU), lv_has ls 7 [(0, .ref q0), (1, .int l1), (2, .int l2)] → va_P D cls (wCod cI q0 q1 q2 q3 q4 q5 q6 q7 q8 q9 q10 q11 u) H → va_S (ad [q0, q1, q2, q3, q4, q5, q6, q7, q8, q9, q10, q11]) s.heap H locs → J_Pas_overEnd_C_42 l1 l2 s1 u = some v → W p l e ({ frames := 4, cells := 0, slots := 0, locals := 94 }) s m [.ref q0, .int a1].toArray below meth c H locs 0 0 (MQ below (va_Qv (fun (_ : Unit) => True) (fun _ t => va_P D cls (wCod cI q0 q1 q2 q3 q4 q5 q6 q7 q8 q9 q10 q11 v) t.heap) (ad [q0, q1, q2, q3, q4, q5, q6, q7, q8, q9, q10, q11])) [.ref q0, .int a1].toArray s 0 0 (ad [q0, q1, q2, q3, q4, q5, q6, q7, q8, q9, q10, q11])) (F0 m 42 ls [.int s1, .ref q0]) := by
    intro ls H locs l1 l2 s1 u hl hP hS hf
    unfold J_Pas_overEnd_C_42 at hf
    refine va_put (D := D) (ci := 3) (v := .int s1) (ty := .int) (C := R_Cod) (T := F_Cod) (N := 11) hx hb hw in_Cod t_Cod t_Cod_ok n_Cod hown hK hP (hD _) hS 0 rfl rfl 8 (by decide) (hw _ m_192) (fun _ h9 => h9) rfl (by decide +kernel) rfl rfl (Nat.le_of_ble_eq_true rfl) d_Pas_overEnd_42 (fun H locs hP _ hS => ?_)
    obtain ⟨u1, e_u1, hf⟩ := tk_o hf
    have hP : va_P D cls (wCod cI q0 q1 q2 q3 q4 q5 q6 q7 q8 q9 q10 q11 u1) H := by rw [e_u1]; exact hP
    refine lv_aload_n hx hb d_Pas_overEnd_45 rfl (lv_at hl 0 rfl) ?_
    refine lv_iload_n hx hb d_Pas_overEnd_46 rfl (lv_at hl 2 rfl) ?_
    refine lv_if_ne (tgt := 65) hx hb d_Pas_overEnd_47 (by decide) (fun hc => ?_) (fun hc => ?_)
    · have hf := bq_n hf hc
      exact j65 _ _ _ l1 l2 u1 (lv_sub hl [0, 1, 2] rfl) hP hS hf
    have hf := bq_t hf hc
    refine lv_aload_n hx hb d_Pas_overEnd_50 rfl (lv_at hl 0 rfl) ?_
    refine va_get (D := D) (ci := 3) (v := .int (u1 0 0)) (C := R_Cod) (T := F_Cod) (N := 11) hx hb hw in_Cod hown hK hP 0 rfl rfl 3 (by decide) (hw _ m_99) (fun _ h9 => h9) rfl d_Pas_overEnd_51 ?_
    refine lv_aload_n hx hb d_Pas_overEnd_54 rfl (lv_at hl 0 rfl) ?_
    refine va_get (D := D) (ci := 3) (v := .int (u1 0 1)) (C := R_Cod) (T := F_Cod) (N := 11) hx hb hw in_Cod hown hK hP 0 rfl rfl 4 (by decide) (hw _ m_92) (fun _ h9 => h9) rfl d_Pas_overEnd_55 ?_
    refine lv_icmp_le (tgt := 65) hx hb d_Pas_overEnd_58 (by decide) (fun hc => ?_) (fun hc => ?_)
    · have hf := bq_t hf hc
      exact j65 _ _ _ l1 l2 u1 (lv_sub hl [0, 1, 2] rfl) hP hS hf
    have hf := bq_n hf hc
    refine lv_iconst (v := (-1)) hx hb d_Pas_overEnd_61 (by decide) ?_
    refine lv_goto (tgt := 66) hx hb d_Pas_overEnd_62 (by decide) ?_
    exact j66 _ _ _ l1 l2 (-1) u1 (lv_sub hl [0, 1, 2] rfl) hP hS hf
  have j24 : ∀ (ls : Array Slot) (H : Heap) (locs : List Loc) (l1 : Int32) (s0 : Int32) (u : gU), lv_has ls 7 [(0, .ref q0), (1, .int l1)] → va_P D cls (wCod cI q0 q1 q2 q3 q4 q5 q6 q7 q8 q9 q10 q11 u) H → va_S (ad [q0, q1, q2, q3, q4, q5, q6, q7, q8, q9, q10, q11]) s.heap H locs → J_Pas_overEnd_C_24 l1 s0 u = some v → W p l e ({ frames := 4, cells := 0, slots := 0, locals := 94 }) s m [.ref q0, .int a1].toArray below meth c H locs 0 0 (MQ below (va_Qv (fun (_ : Unit) => True) (fun _ t => va_P D cls (wCod cI q0 q1 q2 q3 q4 q5 q6 q7 q8 q9 q10 q11 v) t.heap) (ad [q0, q1, q2, q3, q4, q5, q6, q7, q8, q9, q10, q11])) [.ref q0, .int a1].toArray s 0 0 (ad [q0, q1, q2, q3, q4, q5, q6, q7, q8, q9, q10, q11])) (F0 m 24 ls [.int s0]) := by
    intro ls H locs l1 s0 u hl hP hS hf
    unfold J_Pas_overEnd_C_24 at hf
    refine lv_istore_n (lv' := [(2, .int s0), (0, .ref q0), (1, .int l1)]) hx hb d_Pas_overEnd_24 rfl hl (by decide) rfl (fun ls hl => ?_)
    refine lv_aload_n hx hb d_Pas_overEnd_25 rfl (lv_at hl 1 rfl) ?_
    refine lv_iload_n hx hb d_Pas_overEnd_26 rfl (lv_at hl 0 rfl) ?_
    refine lv_iconst (v := 1) hx hb d_Pas_overEnd_27 (by decide) ?_
    refine lv_icmp_ne (tgt := 38) hx hb d_Pas_overEnd_28 (by decide) (fun hc => ?_) (fun hc => ?_)
    · have hf := bq_n hf hc
      refine lv_aload_n hx hb d_Pas_overEnd_38 rfl (lv_at hl 1 rfl) ?_
      refine va_get (D := D) (ci := 3) (v := .int (u 0 1)) (C := R_Cod) (T := F_Cod) (N := 11) hx hb hw in_Cod hown hK hP 0 rfl rfl 4 (by decide) (hw _ m_92) (fun _ h9 => h9) rfl d_Pas_overEnd_39 ?_
      exact j42 _ _ _ l1 s0 (u 0 1) u (lv_sub hl [1, 2, 0] rfl) hP hS hf
    have hf := bq_t hf hc
    refine lv_aload_n hx hb d_Pas_overEnd_31 rfl (lv_at hl 1 rfl) ?_
    refine va_get (D := D) (ci := 3) (v := .int (u 0 0)) (C := R_Cod) (T := F_Cod) (N := 11) hx hb hw in_Cod hown hK hP 0 rfl rfl 3 (by decide) (hw _ m_99) (fun _ h9 => h9) rfl d_Pas_overEnd_32 ?_
    refine lv_goto (tgt := 42) hx hb d_Pas_overEnd_35 (by decide) ?_
    exact j42 _ _ _ l1 s0 (u 0 0) u (lv_sub hl [1, 2, 0] rfl) hP hS hf
  unfold f_Pas_overEnd_C at hf
  refine lv_aload_n hx hb d_Pas_overEnd_0 rfl (lv_at hl 0 rfl) ?_
  refine va_get (D := D) (ci := 3) (v := .ref q1) (C := R_Cod) (T := F_Cod) (N := 11) hx hb hw in_Cod hown hK hP 0 rfl rfl 0 (by decide) (hw _ m_90) (fun _ h9 => h9) rfl d_Pas_overEnd_1 ?_
  refine lv_aload_n hx hb d_Pas_overEnd_4 rfl (lv_at hl 0 rfl) ?_
  refine va_get (D := D) (ci := 3) (v := .int (u 0 0)) (C := R_Cod) (T := F_Cod) (N := 11) hx hb hw in_Cod hown hK hP 0 rfl rfl 3 (by decide) (hw _ m_99) (fun _ h9 => h9) rfl d_Pas_overEnd_5 ?_
  refine lv_aload_n hx hb d_Pas_overEnd_8 rfl (lv_at hl 0 rfl) ?_
  refine va_get (D := D) (ci := 3) (v := .int (u 0 1)) (C := R_Cod) (T := F_Cod) (N := 11) hx hb hw in_Cod hown hK hP 0 rfl rfl 4 (by decide) (hw _ m_92) (fun _ h9 => h9) rfl d_Pas_overEnd_9 ?_
  refine lv_isub hx hb d_Pas_overEnd_12 ?_
  have hC : [1].map (fun i => (wCod cI q0 q1 q2 q3 q4 q5 q6 q7 q8 q9 q10 q11 u)[i]?) = (wPic cI q1 (sb [1] u)).map some := rfl
  obtain ⟨x1, hc, hf⟩ := bd_o hf
  refine ro_i (va_runV (As := [.int ((u 0 0) - (u 0 1))]) (rest := []) ⟨hx, hb, hml, hown, hw⟩ (c_Pic_isNear l D cI q1 ((u 0 0) - (u 0 1)) (sb [1] u) x1 hc) (cwV 1 hw g_13 rfl rfl rfl (by decide +kernel) ⟨Nat.le_of_ble_eq_true rfl, Nat.le_of_ble_eq_true rfl⟩) (pre_V (P_sub hC hP) hK rfl rfl) rfl rfl hl.1 rfl (lv_room (Nat.le_of_ble_eq_true rfl)) d_Pas_overEnd_13 ⟨Nat.le_of_ble_eq_true rfl, Nat.le_of_ble_eq_true rfl⟩) hS hP (fun H locs hP hS => ?_)
  refine lv_if_eq (tgt := 23) hx hb d_Pas_overEnd_16 (by decide) (fun hc => ?_) (fun hc => ?_)
  · have hf := bq_t hf hc
    refine lv_iconst (v := 0) hx hb d_Pas_overEnd_23 (by decide) ?_
    exact j24 _ _ _ a1 0 u (lv_sub hl [0, 1] rfl) hP hS hf
  have hf := bq_n hf hc
  refine lv_iconst (v := 1) hx hb d_Pas_overEnd_19 (by decide) ?_
  refine lv_goto (tgt := 24) hx hb d_Pas_overEnd_20 (by decide) ?_
  exact j24 _ _ _ a1 1 u (lv_sub hl [0, 1] rfl) hP hS hf
def J_Pas_overAll_C_91 (k16 : Int32 → gU → Option (gU)) (k34 : Int32 → Int32 → Int32 → Int32 → gU → Option (gU)) (l1 : Int32) (l2 : Int32) (l3 : Int32) (l4 : Int32) (l5 : Int32) (u : gU) : Option (gU) := bq (l2 = 0) (bd (f_Pas_overRegular_C l5 u) fun w8 => tk (w8) fun u9 => tk (l4 + 1) fun x10 => k34 l1 l2 l3 x10 u9) (bq (l3 ≤ 0) (bd (f_Pas_overEnd_C l5 u) fun w1 => tk (w1) fun u2 => tk (l4 + 1) fun x3 => k34 l1 0 l3 x3 u2) (tk (l3 + (-1)) fun x4 => gd (ix l5 64) (tk (st2 u 8 (tc l5) (u 0 0)) fun u6 => tk (l4 + 1) fun x7 => k34 l1 l2 x4 x7 u6)))
def L_Pas_overAll_C_34 (k16 : Int32 → gU → Option (gU)) : Nat → Int32 → Int32 → Int32 → Int32 → gU → Option (gU)
  | 0, _, _, _, _, _ => none
  | n + 1, l1, l2, l3, l4, u => bq ((u 1 0) ≤ l4) (tk (l1 + 1) fun x1 => k16 x1 u) (bd (f_Pic_place l4 l1) fun x2 => bd (f_Pas_lookAround_C l4 l1 u) fun w3 => tk (w3) fun u4 => bq (l2 = 0) (bd (f_Pas_isEven_C u4) fun x5 => bq (x5 = 0) (J_Pas_overAll_C_91 k16 (L_Pas_overAll_C_34 k16 n) l1 l2 l3 l4 x2 u4) (bd (f_Cod_carryRun x2 ((u4 1 0) - l4) u4) fun w6 => tk (w6.2) fun u7 => J_Pas_overAll_C_91 k16 (L_Pas_overAll_C_34 k16 n) l1 1 w6.1 l4 x2 u7)) (J_Pas_overAll_C_91 k16 (L_Pas_overAll_C_34 k16 n) l1 l2 l3 l4 x2 u4))
theorem L_Pas_overAll_C_34_z (k16 : Int32 → gU → Option (gU)) (l1 : Int32) (l2 : Int32) (l3 : Int32) (l4 : Int32) (u : gU) : L_Pas_overAll_C_34 k16 0 l1 l2 l3 l4 u = none := rfl
theorem L_Pas_overAll_C_34_s (k16 : Int32 → gU → Option (gU)) (n : Nat) (l1 : Int32) (l2 : Int32) (l3 : Int32) (l4 : Int32) (u : gU) : L_Pas_overAll_C_34 k16 (n + 1) l1 l2 l3 l4 u = bq ((u 1 0) ≤ l4) (tk (l1 + 1) fun x1 => k16 x1 u) (bd (f_Pic_place l4 l1) fun x2 => bd (f_Pas_lookAround_C l4 l1 u) fun w3 => tk (w3) fun u4 => bq (l2 = 0) (bd (f_Pas_isEven_C u4) fun x5 => bq (x5 = 0) (J_Pas_overAll_C_91 k16 (L_Pas_overAll_C_34 k16 n) l1 l2 l3 l4 x2 u4) (bd (f_Cod_carryRun x2 ((u4 1 0) - l4) u4) fun w6 => tk (w6.2) fun u7 => J_Pas_overAll_C_91 k16 (L_Pas_overAll_C_34 k16 n) l1 1 w6.1 l4 x2 u7)) (J_Pas_overAll_C_91 k16 (L_Pas_overAll_C_34 k16 n) l1 l2 l3 l4 x2 u4)) := rfl
def L_Pas_overAll_C_16 : Nat → Int32 → gU → Option (gU)
  | 0, _, _ => none
  | n + 1, l1, u => bq ((u 1 1) ≤ l1) (some u) (L_Pas_overAll_C_34 (L_Pas_overAll_C_16 n) 20 l1 0 0 0 u)
theorem L_Pas_overAll_C_16_z (l1 : Int32) (u : gU) : L_Pas_overAll_C_16 0 l1 u = none := rfl
theorem L_Pas_overAll_C_16_s (n : Nat) (l1 : Int32) (u : gU) : L_Pas_overAll_C_16 (n + 1) l1 u = bq ((u 1 1) ≤ l1) (some u) (L_Pas_overAll_C_34 (L_Pas_overAll_C_16 n) 20 l1 0 0 0 u) := rfl
def f_Pas_overAll_C (u : gU) : Option (gU) := bd (f_Ctx_restart (u 1 5) (sb [2, 3, 4, 5, 6, 7] u)) fun w1 => tk (mg [2, 3, 4, 5, 6, 7] 0 u w1) fun u2 => L_Pas_overAll_C_16 20 0 u2
set_option maxHeartbeats 4000000 in
set_option maxRecDepth 100000 in
theorem c_Pas_overAll_C (l : Launch) (D : va_G) (cI : ClassId) (tJ : Nat) (q0 : Nat) (q1 : Nat) (q2 : Nat) (q3 : Nat) (q4 : Nat) (q5 : Nat) (q6 : Nat) (q7 : Nat) (q8 : Nat) (q9 : Nat) (q10 : Nat) (q11 : Nat) (hd : dj [q0, q1, q2, q3, q4, q5, q6, q7, q8, q9, q10, q11]) (u : gU) (v : gU) (hf : f_Pas_overAll_C u = some v) : Met l y_Pas_overAll (.code y_Pas_overAll b_Pas_overAll 6 none :: TS) ({ frames := 5, cells := 0, slots := 0, locals := 120 }) (va_Pc [.ref q0] (fun U => va_P D cls (wCod cI q0 q1 q2 q3 q4 q5 q6 q7 q8 q9 q10 q11 u) U.heap ∧ va_K D cls [(cI, .int)] U ∧ Jt tJ (ad [q0, q1, q2, q3, q4, q5, q6, q7, q8, q9, q10, q11]) U)) (va_Qv (fun (_ : Unit) => True) (fun _ t => va_P D cls (wCod cI q0 q1 q2 q3 q4 q5 q6 q7 q8 q9 q10 q11 v) t.heap) (ad [q0, q1, q2, q3, q4, q5, q6, q7, q8, q9, q10, q11])) 0 0 (ad [q0, q1, q2, q3, q4, q5, q6, q7, q8, q9, q10, q11]) := by
  refine ct_ofJ (by decide +kernel) (Nat.le_of_ble_eq_true rfl) ?_
  intro p e s m below meth c ls hx hb hml hr hlocks hown hw hP hK hJ hl
  have hS : va_S (ad [q0, q1, q2, q3, q4, q5, q6, q7, q8, q9, q10, q11]) s.heap s.heap [] := va_S.rf
  have hD : ∀ v, va_D (ad [q0, q1, q2, q3, q4, q5, q6, q7, q8, q9, q10, q11]) (wCod cI q0 q1 q2 q3 q4 q5 q6 q7 q8 q9 q10 q11 v) := fun _ => dj_D rfl hd
  have hl : lv_has ls 6 [(0, .ref q0)] := hl
  have hP : va_P D cls (wCod cI q0 q1 q2 q3 q4 q5 q6 q7 q8 q9 q10 q11 u) s.heap := hP
  have lp16 : ∀ (n16 : Nat), ∀ (ls : Array Slot) (H : Heap) (locs : List Loc) (l1 : Int32) (u : gU), lv_has ls 6 [(0, .ref q0), (1, .int l1)] → va_P D cls (wCod cI q0 q1 q2 q3 q4 q5 q6 q7 q8 q9 q10 q11 u) H → va_S (ad [q0, q1, q2, q3, q4, q5, q6, q7, q8, q9, q10, q11]) s.heap H locs → L_Pas_overAll_C_16 n16 l1 u = some v → W p l e ({ frames := 5, cells := 0, slots := 0, locals := 120 }) s m [.ref q0].toArray below meth c H locs 0 0 (MQ below (va_Qv (fun (_ : Unit) => True) (fun _ t => va_P D cls (wCod cI q0 q1 q2 q3 q4 q5 q6 q7 q8 q9 q10 q11 v) t.heap) (ad [q0, q1, q2, q3, q4, q5, q6, q7, q8, q9, q10, q11])) [.ref q0].toArray s 0 0 (ad [q0, q1, q2, q3, q4, q5, q6, q7, q8, q9, q10, q11])) (F0 m 16 ls []) := by
    intro n16
    induction n16 with
    | zero =>
      intro ls H locs l1 u hl hP hS hf
      rw [L_Pas_overAll_C_16_z] at hf
      cases hf
    | succ n16 ih16 =>
      have lp34 : ∀ (n34 : Nat), ∀ (ls : Array Slot) (H : Heap) (locs : List Loc) (l1 : Int32) (l2 : Int32) (l3 : Int32) (l4 : Int32) (u : gU), lv_has ls 6 [(0, .ref q0), (1, .int l1), (2, .int l2), (3, .int l3), (4, .int l4)] → va_P D cls (wCod cI q0 q1 q2 q3 q4 q5 q6 q7 q8 q9 q10 q11 u) H → va_S (ad [q0, q1, q2, q3, q4, q5, q6, q7, q8, q9, q10, q11]) s.heap H locs → L_Pas_overAll_C_34 (L_Pas_overAll_C_16 n16) n34 l1 l2 l3 l4 u = some v → W p l e ({ frames := 5, cells := 0, slots := 0, locals := 120 }) s m [.ref q0].toArray below meth c H locs 0 0 (MQ below (va_Qv (fun (_ : Unit) => True) (fun _ t => va_P D cls (wCod cI q0 q1 q2 q3 q4 q5 q6 q7 q8 q9 q10 q11 v) t.heap) (ad [q0, q1, q2, q3, q4, q5, q6, q7, q8, q9, q10, q11])) [.ref q0].toArray s 0 0 (ad [q0, q1, q2, q3, q4, q5, q6, q7, q8, q9, q10, q11])) (F0 m 34 ls []) := by
        intro n34
        induction n34 with
        | zero =>
          intro ls H locs l1 l2 l3 l4 u hl hP hS hf
          rw [L_Pas_overAll_C_34_z] at hf
          cases hf
        | succ n34 ih34 =>
          have j91 : ∀ (ls : Array Slot) (H : Heap) (locs : List Loc) (l1 : Int32) (l2 : Int32) (l3 : Int32) (l4 : Int32) (l5 : Int32) (u : gU), lv_has ls 6 [(0, .ref q0), (1, .int l1), (2, .int l2), (3, .int l3), (4, .int l4), (5, .int l5)] → va_P D cls (wCod cI q0 q1 q2 q3 q4 q5 q6 q7 q8 q9 q10 q11 u) H → va_S (ad [q0, q1, q2, q3, q4, q5, q6, q7, q8, q9, q10, q11]) s.heap H locs → J_Pas_overAll_C_91 (L_Pas_overAll_C_16 n16) (L_Pas_overAll_C_34 (L_Pas_overAll_C_16 n16) n34) l1 l2 l3 l4 l5 u = some v → W p l e ({ frames := 5, cells := 0, slots := 0, locals := 120 }) s m [.ref q0].toArray below meth c H locs 0 0 (MQ below (va_Qv (fun (_ : Unit) => True) (fun _ t => va_P D cls (wCod cI q0 q1 q2 q3 q4 q5 q6 q7 q8 q9 q10 q11 v) t.heap) (ad [q0, q1, q2, q3, q4, q5, q6, q7, q8, q9, q10, q11])) [.ref q0].toArray s 0 0 (ad [q0, q1, q2, q3, q4, q5, q6, q7, q8, q9, q10, q11])) (F0 m 91 ls []) := by
            intro ls H locs l1 l2 l3 l4 l5 u hl hP hS hf
            unfold J_Pas_overAll_C_91 at hf
            refine lv_iload_n hx hb d_Pas_overAll_91 rfl (lv_at hl 2 rfl) ?_
            refine lv_if_ne (tgt := 104) hx hb d_Pas_overAll_92 (by decide) (fun hc => ?_) (fun hc => ?_)
            · have hf := bq_n hf hc
              refine lv_iload_n hx hb d_Pas_overAll_104 rfl (lv_at hl 3 rfl) ?_
              refine lv_if_le (tgt := 125) hx hb d_Pas_overAll_105 (by decide) (fun hc => ?_) (fun hc => ?_)
              · have hf := bq_t hf hc
                refine lv_aload_n hx hb d_Pas_overAll_125 rfl (lv_at hl 0 rfl) ?_
                refine lv_iload hx hb d_Pas_overAll_126 (lv_at hl 5 rfl) ?_
                have hC : [0, 1, 2, 3, 4, 5, 6, 7, 8, 9, 10, 11].map (fun i => (wCod cI q0 q1 q2 q3 q4 q5 q6 q7 q8 q9 q10 q11 u)[i]?) = (wCod cI q0 q1 q2 q3 q4 q5 q6 q7 q8 q9 q10 q11 u).map some := rfl
                obtain ⟨w1, hc, hf⟩ := bd_o hf
                refine rw_v (va_runU (As := [.int l5]) (rest := []) ⟨hx, hb, hml, hown, hw⟩ (c_Pas_overEnd_C l D cI tJ q0 q1 q2 q3 q4 q5 q6 q7 q8 q9 q10 q11 (dj_sub hd [0, 1, 2, 3, 4, 5, 6, 7, 8, 9, 10, 11] (by decide) rfl) l5 u w1 hc) (va_cwU 1 hw g_41 rfl rfl rfl rfl (by decide +kernel) ⟨Nat.le_of_ble_eq_true rfl, Nat.le_of_ble_eq_true rfl⟩) (pre_VJ (P_sub hC hP) hK rfl rfl (Jt_call hJ hS (ad_sub [0, 1, 2, 3, 4, 5, 6, 7, 8, 9, 10, 11] rfl))) rfl rfl hl.1 rfl (lv_room (Nat.le_of_ble_eq_true rfl)) d_Pas_overAll_128 ⟨Nat.le_of_ble_eq_true rfl, Nat.le_of_ble_eq_true rfl⟩) hS hP (hD _) hC rfl rfl (fun H locs hP hS => ?_)
                obtain ⟨u2, e_u2, hf⟩ := tk_o hf
                have hP : va_P D cls (wCod cI q0 q1 q2 q3 q4 q5 q6 q7 q8 q9 q10 q11 u2) H := by rw [e_u2]; exact hP
                refine lv_iconst (v := 0) hx hb d_Pas_overAll_131 (by decide) ?_
                refine lv_istore_n (lv' := [(2, .int 0), (0, .ref q0), (1, .int l1), (3, .int l3), (4, .int l4), (5, .int l5)]) hx hb d_Pas_overAll_132 rfl hl (by decide) rfl (fun ls hl => ?_)
                obtain ⟨x3, e_x3, hf⟩ := tk_o hf
                refine lv_iinc (v := x3) (lv' := [(4, .int x3), (2, .int 0), (0, .ref q0), (1, .int l1), (3, .int l3), (5, .int l5)]) hx hb d_Pas_overAll_133 hl (k := 4) rfl e_x3.symm (by decide) rfl (fun ls hl => ?_)
                refine lv_goto (tgt := 34) hx hb d_Pas_overAll_136 (by decide) ?_
                exact ih34 _ _ _ l1 0 l3 x3 u2 (lv_sub hl [2, 3, 1, 4, 0] rfl) hP hS hf
              have hf := bq_n hf hc
              obtain ⟨x4, e_x4, hf⟩ := tk_o hf
              refine lv_iinc (v := x4) (lv' := [(3, .int x4), (0, .ref q0), (1, .int l1), (2, .int l2), (4, .int l4), (5, .int l5)]) hx hb d_Pas_overAll_108 hl (k := 3) rfl e_x4.symm (by decide) rfl (fun ls hl => ?_)
              refine lv_aload_n hx hb d_Pas_overAll_111 rfl (lv_at hl 1 rfl) ?_
              refine va_get (D := D) (ci := 3) (v := .ref q8) (C := R_Cod) (T := F_Cod) (N := 11) hx hb hw in_Cod hown hK hP 0 rfl rfl 2 (by decide) (hw _ m_84) (fun _ h9 => h9) rfl d_Pas_overAll_112 ?_
              refine lv_iload hx hb d_Pas_overAll_115 (lv_at hl 5 rfl) ?_
              refine lv_aload_n hx hb d_Pas_overAll_117 rfl (lv_at hl 1 rfl) ?_
              refine va_get (D := D) (ci := 3) (v := .int (u 0 0)) (C := R_Cod) (T := F_Cod) (N := 11) hx hb hw in_Cod hown hK hP 0 rfl rfl 3 (by decide) (hw _ m_99) (fun _ h9 => h9) rfl d_Pas_overAll_118 ?_
              obtain ⟨h5, hf⟩ := gd_o hf
              refine va_iast hx hb hK hP (hD _) hS 8 0 rfl rfl (ix_in h5) d_Pas_overAll_121 (fun H locs hP _ hS => ?_)
              obtain ⟨u6, e_u6, hf⟩ := tk_o hf
              have hP : va_P D cls (wCod cI q0 q1 q2 q3 q4 q5 q6 q7 q8 q9 q10 q11 u6) H := by rw [e_u6]; exact hP
              refine lv_goto (tgt := 133) hx hb d_Pas_overAll_122 (by decide) ?_
              obtain ⟨x7, e_x7, hf⟩ := tk_o hf
              refine lv_iinc (v := x7) (lv' := [(4, .int x7), (3, .int x4), (0, .ref q0), (1, .int l1), (2, .int l2), (5, .int l5)]) hx hb d_Pas_overAll_133 hl (k := 4) rfl e_x7.symm (by decide) rfl (fun ls hl => ?_)
              refine lv_goto (tgt := 34) hx hb d_Pas_overAll_136 (by decide) ?_
              exact ih34 _ _ _ l1 l2 x4 x7 u6 (lv_sub hl [2, 3, 4, 1, 0] rfl) hP hS hf
            have hf := bq_t hf hc
            refine lv_aload_n hx hb d_Pas_overAll_95 rfl (lv_at hl 0 rfl) ?_
            refine lv_iload hx hb d_Pas_overAll_96 (lv_at hl 5 rfl) ?_
            have hC : [0, 1, 2, 3, 4, 5, 6, 7, 8, 9, 10, 11].map (fun i => (wCod cI q0 q1 q2 q3 q4 q5 q6 q7 q8 q9 q10 q11 u)[i]?) = (wCod cI q0 q1 q2 q3 q4 q5 q6 q7 q8 q9 q10 q11 u).map some := rfl
            obtain ⟨w8, hc, hf⟩ := bd_o hf
            refine rw_v (va_runU (As := [.int l5]) (rest := []) ⟨hx, hb, hml, hown, hw⟩ (c_Pas_overRegular_C l D cI tJ q0 q1 q2 q3 q4 q5 q6 q7 q8 q9 q10 q11 (dj_sub hd [0, 1, 2, 3, 4, 5, 6, 7, 8, 9, 10, 11] (by decide) rfl) l5 u w8 hc) (va_cwU 1 hw g_42 rfl rfl rfl rfl (by decide +kernel) ⟨Nat.le_of_ble_eq_true rfl, Nat.le_of_ble_eq_true rfl⟩) (pre_VJ (P_sub hC hP) hK rfl rfl (Jt_call hJ hS (ad_sub [0, 1, 2, 3, 4, 5, 6, 7, 8, 9, 10, 11] rfl))) rfl rfl hl.1 rfl (lv_room (Nat.le_of_ble_eq_true rfl)) d_Pas_overAll_98 ⟨Nat.le_of_ble_eq_true rfl, Nat.le_of_ble_eq_true rfl⟩) hS hP (hD _) hC rfl rfl (fun H locs hP hS => ?_)
            obtain ⟨u9, e_u9, hf⟩ := tk_o hf
            have hP : va_P D cls (wCod cI q0 q1 q2 q3 q4 q5 q6 q7 q8 q9 q10 q11 u9) H := by rw [e_u9]; exact hP
            refine lv_goto (tgt := 133) hx hb d_Pas_overAll_101 (by decide) ?_
            obtain ⟨x10, e_x10, hf⟩ := tk_o hf
            refine lv_iinc (v := x10) (lv' := [(4, .int x10), (0, .ref q0), (1, .int l1), (2, .int l2), (3, .int l3), (5, .int l5)]) hx hb d_Pas_overAll_133 hl (k := 4) rfl e_x10.symm (by decide) rfl (fun ls hl => ?_)
            refine lv_goto (tgt := 34) hx hb d_Pas_overAll_136 (by decide) ?_
            exact ih34 _ _ _ l1 l2 l3 x10 u9 (lv_sub hl [1, 2, 3, 4, 0] rfl) hP hS hf
          intro ls H locs l1 l2 l3 l4 u hl hP hS hf
          rw [L_Pas_overAll_C_34_s] at hf
          refine lv_iload hx hb d_Pas_overAll_34 (lv_at hl 4 rfl) ?_
          refine lv_aload_n hx hb d_Pas_overAll_36 rfl (lv_at hl 0 rfl) ?_
          refine va_get (D := D) (ci := 3) (v := .ref q1) (C := R_Cod) (T := F_Cod) (N := 11) hx hb hw in_Cod hown hK hP 0 rfl rfl 0 (by decide) (hw _ m_90) (fun _ h9 => h9) rfl d_Pas_overAll_37 ?_
          refine va_get (D := D) (ci := 1) (v := .int (u 1 0)) (C := R_Pic) (T := F_Pic) (N := 11) hx hb hw in_Pic hown hK hP 1 rfl rfl 0 (by decide) (hw _ m_91) (fun _ h9 => h9) rfl d_Pas_overAll_40 ?_
          refine lv_icmp_ge (tgt := 139) hx hb d_Pas_overAll_43 (by decide) (fun hc => ?_) (fun hc => ?_)
          · have hf := bq_t hf hc
            obtain ⟨x1, e_x1, hf⟩ := tk_o hf
            refine lv_iinc (v := x1) (lv' := [(1, .int x1), (0, .ref q0), (2, .int l2), (3, .int l3), (4, .int l4)]) hx hb d_Pas_overAll_139 hl (k := 1) rfl e_x1.symm (by decide) rfl (fun ls hl => ?_)
            refine lv_goto (tgt := 16) hx hb d_Pas_overAll_142 (by decide) ?_
            exact ih16 _ _ _ x1 u (lv_sub hl [1, 0] rfl) hP hS hf
          have hf := bq_n hf hc
          refine lv_iload hx hb d_Pas_overAll_46 (lv_at hl 4 rfl) ?_
          refine lv_iload_n hx hb d_Pas_overAll_48 rfl (lv_at hl 1 rfl) ?_
          have hC : ([] : List Nat).map (fun i => (wCod cI q0 q1 q2 q3 q4 q5 q6 q7 q8 q9 q10 q11 u)[i]?) = ([] : va_W).map some := rfl
          obtain ⟨x2, hc, hf⟩ := bd_o hf
          refine ro_i (va_runS (As := [.int l4, .int l1]) (rest := []) ⟨hx, hb, hml, hown, hw⟩ (c_Pic_place l D cI l4 l1 x2 hc) (va_cwS 2 hw g_11 rfl rfl rfl (by decide +kernel) ⟨Nat.le_of_ble_eq_true rfl, Nat.le_of_ble_eq_true rfl⟩) (pre_S (P_sub hC hP) hK) rfl rfl hl.1 rfl (lv_room (Nat.le_of_ble_eq_true rfl)) d_Pas_overAll_49 ⟨Nat.le_of_ble_eq_true rfl, Nat.le_of_ble_eq_true rfl⟩) hS hP (fun H locs hP hS => ?_)
          refine lv_istore (lv' := [(5, .int x2), (0, .ref q0), (1, .int l1), (2, .int l2), (3, .int l3), (4, .int l4)]) hx hb d_Pas_overAll_52 hl (by decide) rfl (fun ls hl => ?_)
          refine lv_aload_n hx hb d_Pas_overAll_54 rfl (lv_at hl 1 rfl) ?_
          refine lv_iload hx hb d_Pas_overAll_55 (lv_at hl 5 rfl) ?_
          refine lv_iload_n hx hb d_Pas_overAll_57 rfl (lv_at hl 2 rfl) ?_
          have hC : [0, 1, 2, 3, 4, 5, 6, 7, 8, 9, 10, 11].map (fun i => (wCod cI q0 q1 q2 q3 q4 q5 q6 q7 q8 q9 q10 q11 u)[i]?) = (wCod cI q0 q1 q2 q3 q4 q5 q6 q7 q8 q9 q10 q11 u).map some := rfl
          obtain ⟨w3, hc, hf⟩ := bd_o hf
          refine rw_v (va_runU (As := [.int l4, .int l1]) (rest := []) ⟨hx, hb, hml, hown, hw⟩ (c_Pas_lookAround_C l D cI q0 q1 q2 q3 q4 q5 q6 q7 q8 q9 q10 q11 (dj_sub hd [0, 1, 2, 3, 4, 5, 6, 7, 8, 9, 10, 11] (by decide) rfl) l4 l1 u w3 hc) (va_cwU 2 hw g_43 rfl rfl rfl rfl (by decide +kernel) ⟨Nat.le_of_ble_eq_true rfl, Nat.le_of_ble_eq_true rfl⟩) (pre_V (P_sub hC hP) hK rfl rfl) rfl rfl hl.1 rfl (lv_room (Nat.le_of_ble_eq_true rfl)) d_Pas_overAll_58 ⟨Nat.le_of_ble_eq_true rfl, Nat.le_of_ble_eq_true rfl⟩) hS hP (hD _) hC rfl rfl (fun H locs hP hS => ?_)
          obtain ⟨u4, e_u4, hf⟩ := tk_o hf
          have hP : va_P D cls (wCod cI q0 q1 q2 q3 q4 q5 q6 q7 q8 q9 q10 q11 u4) H := by rw [e_u4]; exact hP
          refine lv_iload_n hx hb d_Pas_overAll_61 rfl (lv_at hl 3 rfl) ?_
          refine lv_if_ne (tgt := 91) hx hb d_Pas_overAll_62 (by decide) (fun hc => ?_) (fun hc => ?_)
          · have hf := bq_n hf hc
            exact j91 _ _ _ l1 l2 l3 l4 x2 u4 (lv_sub hl [1, 2, 3, 4, 5, 0] rfl) hP hS hf
          have hf := bq_t hf hc
          refine lv_aload_n hx hb d_Pas_overAll_65 rfl (lv_at hl 1 rfl) ?_
          have hC : [0, 1, 2, 3, 4, 5, 6, 7, 8, 9, 10, 11].map (fun i => (wCod cI q0 q1 q2 q3 q4 q5 q6 q7 q8 q9 q10 q11 u4)[i]?) = (wCod cI q0 q1 q2 q3 q4 q5 q6 q7 q8 q9 q10 q11 u4).map some := rfl
          obtain ⟨x5, hc, hf⟩ := bd_o hf
          refine ro_i (va_runU (As := []) (rest := []) ⟨hx, hb, hml, hown, hw⟩ (c_Pas_isEven_C l D cI q0 q1 q2 q3 q4 q5 q6 q7 q8 q9 q10 q11 u4 x5 hc) (va_cwU 0 hw g_44 rfl rfl rfl rfl (by decide +kernel) ⟨Nat.le_of_ble_eq_true rfl, Nat.le_of_ble_eq_true rfl⟩) (pre_V (P_sub hC hP) hK rfl rfl) rfl rfl hl.1 rfl (lv_room (Nat.le_of_ble_eq_true rfl)) d_Pas_overAll_66 ⟨Nat.le_of_ble_eq_true rfl, Nat.le_of_ble_eq_true rfl⟩) hS hP (fun H locs hP hS => ?_)
          refine lv_if_eq (tgt := 91) hx hb d_Pas_overAll_69 (by decide) (fun hc => ?_) (fun hc => ?_)
          · have hf := bq_t hf hc
            exact j91 _ _ _ l1 l2 l3 l4 x2 u4 (lv_sub hl [1, 2, 3, 4, 5, 0] rfl) hP hS hf
          have hf := bq_n hf hc
          refine lv_iconst (v := 1) hx hb d_Pas_overAll_72 (by decide) ?_
          refine lv_istore_n (lv' := [(2, .int 1), (5, .int x2), (0, .ref q0), (1, .int l1), (3, .int l3), (4, .int l4)]) hx hb d_Pas_overAll_73 rfl hl (by decide) rfl (fun ls hl => ?_)
          refine lv_aload_n hx hb d_Pas_overAll_74 rfl (lv_at hl 2 rfl) ?_
          refine lv_iload hx hb d_Pas_overAll_75 (lv_at hl 1 rfl) ?_
          refine lv_aload_n hx hb d_Pas_overAll_77 rfl (lv_at hl 2 rfl) ?_
          refine va_get (D := D) (ci := 3) (v := .ref q1) (C := R_Cod) (T := F_Cod) (N := 11) hx hb hw in_Cod hown hK hP 0 rfl rfl 0 (by decide) (hw _ m_90) (fun _ h9 => h9) rfl d_Pas_overAll_78 ?_
          refine va_get (D := D) (ci := 1) (v := .int (u4 1 0)) (C := R_Pic) (T := F_Pic) (N := 11) hx hb hw in_Pic hown hK hP 1 rfl rfl 0 (by decide) (hw _ m_91) (fun _ h9 => h9) rfl d_Pas_overAll_81 ?_
          refine lv_iload hx hb d_Pas_overAll_84 (lv_at hl 5 rfl) ?_
          refine lv_isub hx hb d_Pas_overAll_86 ?_
          have hC : [0, 1, 2, 3, 4, 5, 6, 7, 8, 9, 10, 11].map (fun i => (wCod cI q0 q1 q2 q3 q4 q5 q6 q7 q8 q9 q10 q11 u4)[i]?) = (wCod cI q0 q1 q2 q3 q4 q5 q6 q7 q8 q9 q10 q11 u4).map some := rfl
          obtain ⟨w6, hc, hf⟩ := bd_o hf
          refine rw_i (va_runU (As := [.int x2, .int ((u4 1 0) - l4)]) (rest := []) ⟨hx, hb, hml, hown, hw⟩ (c_Cod_carryRun l D cI tJ q0 q1 q2 q3 q4 q5 q6 q7 q8 q9 q10 q11 (dj_sub hd [0, 1, 2, 3, 4, 5, 6, 7, 8, 9, 10, 11] (by decide) rfl) x2 ((u4 1 0) - l4) u4 w6.1 w6.2 hc) (va_cwA 2 hw g_45 rfl rfl rfl hJ.2.2.1 (by decide +kernel) ⟨Nat.le_of_ble_eq_true rfl, Nat.le_of_ble_eq_true rfl⟩) (pre_VJ (P_sub hC hP) hK rfl rfl (Jt_call hJ hS (ad_sub [0, 1, 2, 3, 4, 5, 6, 7, 8, 9, 10, 11] rfl))) rfl rfl hl.1 rfl (lv_room (Nat.le_of_ble_eq_true rfl)) d_Pas_overAll_87 ⟨Nat.le_of_ble_eq_true rfl, Nat.le_of_ble_eq_true rfl⟩) hS hP (hD _) hC rfl rfl (fun H locs hP hS => ?_)
          obtain ⟨u7, e_u7, hf⟩ := tk_o hf
          have hP : va_P D cls (wCod cI q0 q1 q2 q3 q4 q5 q6 q7 q8 q9 q10 q11 u7) H := by rw [e_u7]; exact hP
          refine lv_istore_n (lv' := [(3, .int w6.1), (2, .int 1), (5, .int x2), (0, .ref q0), (1, .int l1), (4, .int l4)]) hx hb d_Pas_overAll_90 rfl hl (by decide) rfl (fun ls hl => ?_)
          exact j91 _ _ _ l1 1 w6.1 l4 x2 u7 (lv_sub hl [3, 4, 1, 0, 5, 2] rfl) hP hS hf
      intro ls H locs l1 u hl hP hS hf
      rw [L_Pas_overAll_C_16_s] at hf
      refine lv_iload_n hx hb d_Pas_overAll_16 rfl (lv_at hl 1 rfl) ?_
      refine lv_aload_n hx hb d_Pas_overAll_17 rfl (lv_at hl 0 rfl) ?_
      refine va_get (D := D) (ci := 3) (v := .ref q1) (C := R_Cod) (T := F_Cod) (N := 11) hx hb hw in_Cod hown hK hP 0 rfl rfl 0 (by decide) (hw _ m_90) (fun _ h9 => h9) rfl d_Pas_overAll_18 ?_
      refine va_get (D := D) (ci := 1) (v := .int (u 1 1)) (C := R_Pic) (T := F_Pic) (N := 11) hx hb hw in_Pic hown hK hP 1 rfl rfl 1 (by decide) (hw _ m_254) (fun _ h9 => h9) rfl d_Pas_overAll_21 ?_
      refine lv_icmp_ge (tgt := 145) hx hb d_Pas_overAll_24 (by decide) (fun hc => ?_) (fun hc => ?_)
      · have hf := bq_t hf hc
        exact rt_v (wCod cI q0 q1 q2 q3 q4 q5 q6 q7 q8 q9 q10 q11) hx hb hr hlocks hS hP hf d_Pas_overAll_145
      have hf := bq_n hf hc
      refine lv_iconst (v := 0) hx hb d_Pas_overAll_27 (by decide) ?_
      refine lv_istore_n (lv' := [(2, .int 0), (0, .ref q0), (1, .int l1)]) hx hb d_Pas_overAll_28 rfl hl (by decide) rfl (fun ls hl => ?_)
      refine lv_iconst (v := 0) hx hb d_Pas_overAll_29 (by decide) ?_
      refine lv_istore_n (lv' := [(3, .int 0), (2, .int 0), (0, .ref q0), (1, .int l1)]) hx hb d_Pas_overAll_30 rfl hl (by decide) rfl (fun ls hl => ?_)
      refine lv_iconst (v := 0) hx hb d_Pas_overAll_31 (by decide) ?_
      refine lv_istore (lv' := [(4, .int 0), (3, .int 0), (2, .int 0), (0, .ref q0), (1, .int l1)]) hx hb d_Pas_overAll_32 hl (by decide) rfl (fun ls hl => ?_)
      exact lp34 20 _ _ _ l1 0 0 0 u (lv_sub hl [3, 4, 2, 1, 0] rfl) hP hS hf
  unfold f_Pas_overAll_C at hf
  refine lv_aload_n hx hb d_Pas_overAll_0 rfl (lv_at hl 0 rfl) ?_
  refine va_get (D := D) (ci := 3) (v := .ref q2) (C := R_Cod) (T := F_Cod) (N := 11) hx hb hw in_Cod hown hK hP 0 rfl rfl 1 (by decide) (hw _ m_111) (fun _ h9 => h9) rfl d_Pas_overAll_1 ?_
  refine lv_aload_n hx hb d_Pas_overAll_4 rfl (lv_at hl 0 rfl) ?_
  refine va_get (D := D) (ci := 3) (v := .ref q1) (C := R_Cod) (T := F_Cod) (N := 11) hx hb hw in_Cod hown hK hP 0 rfl rfl 0 (by decide) (hw _ m_90) (fun _ h9 => h9) rfl d_Pas_overAll_5 ?_
  refine va_get (D := D) (ci := 1) (v := .int (u 1 5)) (C := R_Pic) (T := F_Pic) (N := 11) hx hb hw in_Pic hown hK hP 1 rfl rfl 5 (by decide) (hw _ m_255) (fun _ h9 => h9) rfl d_Pas_overAll_8 ?_
  have hC : [2, 3, 4, 5, 6, 7].map (fun i => (wCod cI q0 q1 q2 q3 q4 q5 q6 q7 q8 q9 q10 q11 u)[i]?) = (wCtx cI q2 q3 q4 q5 q6 q7 (sb [2, 3, 4, 5, 6, 7] u)).map some := rfl
  obtain ⟨w1, hc, hf⟩ := bd_o hf
  refine rw_v (va_runV (As := [.int (u 1 5)]) (rest := []) ⟨hx, hb, hml, hown, hw⟩ (c_Ctx_restart l D cI q2 q3 q4 q5 q6 q7 (dj_sub hd [2, 3, 4, 5, 6, 7] (by decide) rfl) (u 1 5) (sb [2, 3, 4, 5, 6, 7] u) w1 hc) (cwV 1 hw g_46 rfl rfl rfl (by decide +kernel) ⟨Nat.le_of_ble_eq_true rfl, Nat.le_of_ble_eq_true rfl⟩) (pre_V (P_sub hC hP) hK rfl rfl) rfl rfl hl.1 rfl (lv_room (Nat.le_of_ble_eq_true rfl)) d_Pas_overAll_11 ⟨Nat.le_of_ble_eq_true rfl, Nat.le_of_ble_eq_true rfl⟩) hS hP (hD _) hC rfl rfl (fun H locs hP hS => ?_)
  obtain ⟨u2, e_u2, hf⟩ := tk_o hf
  have hP : va_P D cls (wCod cI q0 q1 q2 q3 q4 q5 q6 q7 q8 q9 q10 q11 u2) H := by rw [e_u2]; exact hP
  refine lv_iconst (v := 0) hx hb d_Pas_overAll_14 (by decide) ?_
  refine lv_istore_n (lv' := [(1, .int 0), (0, .ref q0)]) hx hb d_Pas_overAll_15 rfl hl (by decide) rfl (fun ls hl => ?_)
  exact lp16 20 _ _ _ 0 u2 (lv_sub hl [1, 0] rfl) hP hS hf
def f_Cod_sampleIn (a0 : Int64) (a2 : Int32) : Option (Int32) := tk (((a0.toUInt64 >>> ((56 - (8 * a2)).toInt64.toUInt64 &&& Int64.toUInt64 63)).toInt64).toInt32) fun x1 => some (x1 &&& 255)
set_option maxHeartbeats 4000000 in
set_option maxRecDepth 100000 in
theorem c_Cod_sampleIn (l : Launch) (D : va_G) (cI : ClassId) (a0 : Int64) (a2 : Int32) (r : Int32) (hf : f_Cod_sampleIn a0 a2 = some r) : Met l y_Cod_sampleIn (.code y_Cod_sampleIn b_Cod_sampleIn 3 (some .int) :: TS) ({ frames := 0, cells := 0, slots := 0, locals := 0 }) (va_Pc [.long a0, .int a2] (fun U => va_P D cls (([] : va_W)) U.heap ∧ va_K D cls [(cI, .int)] U)) (va_Qi (fun x (_ : Unit) => x = r) (fun _ _ => True) (fun _ => False)) 0 0 (fun _ => False) := by
  refine ct_of (by decide +kernel) (Nat.le_of_ble_eq_true rfl) ?_
  intro p e s m below meth c ls hx hb hml hr hlocks hown hw hP hK hl
  have hS : va_S (fun _ => False) s.heap s.heap [] := va_S.rf
  have hl : lv_has ls 3 [(0, .long a0), (2, .int a2)] := hl
  have hP : va_P D cls (([] : va_W)) s.heap := hP
  unfold f_Cod_sampleIn at hf
  refine lv_lload_n hx hb d_Cod_sampleIn_0 rfl (lv_at hl 0 rfl) ?_
  refine lv_bipush (v := 56) hx hb d_Cod_sampleIn_1 (by decide) ?_
  refine lv_bipush (v := 8) hx hb d_Cod_sampleIn_3 (by decide) ?_
  refine lv_iload_n hx hb d_Cod_sampleIn_5 rfl (lv_at hl 1 rfl) ?_
  refine lv_imul hx hb d_Cod_sampleIn_6 ?_
  refine lv_isub hx hb d_Cod_sampleIn_7 ?_
  refine lv_lushr hx hb d_Cod_sampleIn_8 rfl ?_
  refine lv_l2i hx hb d_Cod_sampleIn_9 rfl ?_
  refine lv_topi (fun x1 e_x1 => ?_)
  have hf := tk_e hf e_x1
  refine lv_sipush (v := 255) hx hb d_Cod_sampleIn_10 (by decide) ?_
  refine lv_iand hx hb d_Cod_sampleIn_13 ?_
  exact rt_roi hx hb hr hlocks hS hf d_Cod_sampleIn_14
def L_Cod_takeRow_42 : Nat → Int32 → Int64 → Int32 → gU → Option (Int32 × gU)
  | 0, _, _, _, _ => none
  | n + 1, l1, l2, l4, u => bq ((u 1 0) ≤ l4) (some (1, u)) (bd (f_Pic_place l4 l1) fun x1 => bd (f_Cod_sampleIn l2 l4) fun x2 => gd (ix x1 64) (tk (st2 u 9 (tc x1) x2) fun u4 => tk (l4 + 1) fun x5 => (L_Cod_takeRow_42 n) l1 l2 x5 u4))
theorem L_Cod_takeRow_42_z (l1 : Int32) (l2 : Int64) (l4 : Int32) (u : gU) : L_Cod_takeRow_42 0 l1 l2 l4 u = none := rfl
theorem L_Cod_takeRow_42_s (n : Nat) (l1 : Int32) (l2 : Int64) (l4 : Int32) (u : gU) : L_Cod_takeRow_42 (n + 1) l1 l2 l4 u = bq ((u 1 0) ≤ l4) (some (1, u)) (bd (f_Pic_place l4 l1) fun x1 => bd (f_Cod_sampleIn l2 l4) fun x2 => gd (ix x1 64) (tk (st2 u 9 (tc x1) x2) fun u4 => tk (l4 + 1) fun x5 => (L_Cod_takeRow_42 n) l1 l2 x5 u4)) := rfl
def L_Cod_takeRow_3 : Nat → Int32 → Int64 → Int32 → gU → Option (Int32 × gU)
  | 0, _, _, _, _ => none
  | n + 1, l1, l2, l4, u => bq ((u 1 0) ≤ l4) (L_Cod_takeRow_42 20 l1 l2 0 u) (bd (f_Cod_sampleIn l2 l4) fun x1 => bq (x1 ≤ (u 1 2)) (tk (l4 + 1) fun x2 => (L_Cod_takeRow_3 n) l1 l2 x2 u) (some (0, u)))
theorem L_Cod_takeRow_3_z (l1 : Int32) (l2 : Int64) (l4 : Int32) (u : gU) : L_Cod_takeRow_3 0 l1 l2 l4 u = none := rfl
theorem L_Cod_takeRow_3_s (n : Nat) (l1 : Int32) (l2 : Int64) (l4 : Int32) (u : gU) : L_Cod_takeRow_3 (n + 1) l1 l2 l4 u = bq ((u 1 0) ≤ l4) (L_Cod_takeRow_42 20 l1 l2 0 u) (bd (f_Cod_sampleIn l2 l4) fun x1 => bq (x1 ≤ (u 1 2)) (tk (l4 + 1) fun x2 => (L_Cod_takeRow_3 n) l1 l2 x2 u) (some (0, u))) := rfl
def f_Cod_takeRow (a1 : Int32) (a2 : Int64) (u : gU) : Option (Int32 × gU) := L_Cod_takeRow_3 20 a1 a2 0 u
set_option maxHeartbeats 4000000 in
set_option maxRecDepth 100000 in
theorem c_Cod_takeRow (l : Launch) (D : va_G) (cI : ClassId) (q0 : Nat) (q1 : Nat) (q2 : Nat) (q3 : Nat) (q4 : Nat) (q5 : Nat) (q6 : Nat) (q7 : Nat) (q8 : Nat) (q9 : Nat) (q10 : Nat) (q11 : Nat) (hd : dj [q0, q1, q2, q3, q4, q5, q6, q7, q8, q9, q10, q11]) (a1 : Int32) (a2 : Int64) (u : gU) (r : Int32) (v : gU) (hf : f_Cod_takeRow a1 a2 u = some (r, v)) : Met l y_Cod_takeRow (.code y_Cod_takeRow b_Cod_takeRow 5 (some .boolean) :: TS) ({ frames := 1, cells := 0, slots := 0, locals := 22 }) (va_Pc [.ref q0, .int a1, .long a2] (fun U => va_P D cls (wCod cI q0 q1 q2 q3 q4 q5 q6 q7 q8 q9 q10 q11 u) U.heap ∧ va_K D cls [(cI, .int)] U)) (va_Qi (fun x (_ : Unit) => x = r) (fun _ t => va_P D cls (wCod cI q0 q1 q2 q3 q4 q5 q6 q7 q8 q9 q10 q11 v) t.heap) (ad [q0, q1, q2, q3, q4, q5, q6, q7, q8, q9, q10, q11])) 0 0 (ad [q0, q1, q2, q3, q4, q5, q6, q7, q8, q9, q10, q11]) := by
  refine ct_of (by decide +kernel) (Nat.le_of_ble_eq_true rfl) ?_
  intro p e s m below meth c ls hx hb hml hr hlocks hown hw hP hK hl
  have hS : va_S (ad [q0, q1, q2, q3, q4, q5, q6, q7, q8, q9, q10, q11]) s.heap s.heap [] := va_S.rf
  have hD : ∀ v, va_D (ad [q0, q1, q2, q3, q4, q5, q6, q7, q8, q9, q10, q11]) (wCod cI q0 q1 q2 q3 q4 q5 q6 q7 q8 q9 q10 q11 v) := fun _ => dj_D rfl hd
  have hl : lv_has ls 5 [(0, .ref q0), (1, .int a1), (2, .long a2)] := hl
  have hP : va_P D cls (wCod cI q0 q1 q2 q3 q4 q5 q6 q7 q8 q9 q10 q11 u) s.heap := hP
  have lp42 : ∀ (n42 : Nat), ∀ (ls : Array Slot) (H : Heap) (locs : List Loc) (l1 : Int32) (l2 : Int64) (l4 : Int32) (u : gU), lv_has ls 5 [(0, .ref q0), (1, .int l1), (2, .long l2), (4, .int l4)] → va_P D cls (wCod cI q0 q1 q2 q3 q4 q5 q6 q7 q8 q9 q10 q11 u) H → va_S (ad [q0, q1, q2, q3, q4, q5, q6, q7, q8, q9, q10, q11]) s.heap H locs → L_Cod_takeRow_42 n42 l1 l2 l4 u = some (r, v) → W p l e ({ frames := 1, cells := 0, slots := 0, locals := 22 }) s m [.ref q0, .int a1, .long a2].toArray below meth c H locs 0 0 (MQ below (va_Qi (fun x (_ : Unit) => x = r) (fun _ t => va_P D cls (wCod cI q0 q1 q2 q3 q4 q5 q6 q7 q8 q9 q10 q11 v) t.heap) (ad [q0, q1, q2, q3, q4, q5, q6, q7, q8, q9, q10, q11])) [.ref q0, .int a1, .long a2].toArray s 0 0 (ad [q0, q1, q2, q3, q4, q5, q6, q7, q8, q9, q10, q11])) (F0 m 42 ls []) := by
    intro n42
    induction n42 with
    | zero =>
      intro ls H locs l1 l2 l4 u hl hP hS hf
      rw [L_Cod_takeRow_42_z] at hf
      cases hf
    | succ n42 ih42 =>
      intro ls H locs l1 l2 l4 u hl hP hS hf
      rw [L_Cod_takeRow_42_s] at hf
      refine lv_iload hx hb d_Cod_takeRow_42 (lv_at hl 3 rfl) ?_
      refine lv_aload_n hx hb d_Cod_takeRow_44 rfl (lv_at hl 0 rfl) ?_
      refine va_get (D := D) (ci := 3) (v := .ref q1) (C := R_Cod) (T := F_Cod) (N := 11) hx hb hw in_Cod hown hK hP 0 rfl rfl 0 (by decide) (hw _ m_116) (fun x9 h9 => u_same (hw _ m_117) x9 h9) rfl d_Cod_takeRow_45 ?_
      refine va_get (D := D) (ci := 1) (v := .int (u 1 0)) (C := R_Pic) (T := F_Pic) (N := 11) hx hb hw in_Pic hown hK hP 1 rfl rfl 0 (by decide) (hw _ m_260) (fun _ h9 => h9) rfl d_Cod_takeRow_48 ?_
      refine lv_icmp_ge (tgt := 77) hx hb d_Cod_takeRow_51 (by decide) (fun hc => ?_) (fun hc => ?_)
      · have hf := bq_t hf hc
        refine lv_iconst (v := 1) hx hb d_Cod_takeRow_77 (by decide) ?_
        exact rt_z (wCod cI q0 q1 q2 q3 q4 q5 q6 q7 q8 q9 q10 q11) hx hb hr hlocks (Or.inr rfl) hS hP hf d_Cod_takeRow_78
      have hf := bq_n hf hc
      refine lv_aload_n hx hb d_Cod_takeRow_54 rfl (lv_at hl 0 rfl) ?_
      refine va_get (D := D) (ci := 3) (v := .ref q9) (C := R_Cod) (T := F_Cod) (N := 11) hx hb hw in_Cod hown hK hP 0 rfl rfl 9 (by decide) (hw _ m_120) (fun _ h9 => h9) rfl d_Cod_takeRow_55 ?_
      refine lv_iload hx hb d_Cod_takeRow_58 (lv_at hl 3 rfl) ?_
      refine lv_iload_n hx hb d_Cod_takeRow_60 rfl (lv_at hl 1 rfl) ?_
      have hC : ([] : List Nat).map (fun i => (wCod cI q0 q1 q2 q3 q4 q5 q6 q7 q8 q9 q10 q11 u)[i]?) = ([] : va_W).map some := rfl
      obtain ⟨x1, hc, hf⟩ := bd_o hf
      refine ro_i (va_runS (As := [.int l4, .int l1]) (rest := [.ref q9]) ⟨hx, hb, hml, hown, hw⟩ (c_Pic_place l D cI l4 l1 x1 hc) (va_cwS 2 hw g_47 rfl rfl rfl (by decide +kernel) ⟨Nat.le_of_ble_eq_true rfl, Nat.le_of_ble_eq_true rfl⟩) (pre_S (P_sub hC hP) hK) rfl rfl hl.1 rfl (lv_room (Nat.le_of_ble_eq_true rfl)) d_Cod_takeRow_61 ⟨Nat.le_of_ble_eq_true rfl, Nat.le_of_ble_eq_true rfl⟩) hS hP (fun H locs hP hS => ?_)
      refine lv_lload_n hx hb d_Cod_takeRow_64 rfl (lv_at hl 2 rfl) ?_
      refine lv_iload hx hb d_Cod_takeRow_65 (lv_at hl 3 rfl) ?_
      have hC : ([] : List Nat).map (fun i => (wCod cI q0 q1 q2 q3 q4 q5 q6 q7 q8 q9 q10 q11 u)[i]?) = ([] : va_W).map some := rfl
      obtain ⟨x2, hc, hf⟩ := bd_o hf
      refine ro_i (va_runS (As := [.long l2, .int l4]) (rest := [.int x1, .ref q9]) ⟨hx, hb, hml, hown, hw⟩ (c_Cod_sampleIn l D cI l2 l4 x2 hc) (va_cwS 2 hw g_48 rfl rfl rfl (by decide +kernel) ⟨Nat.le_of_ble_eq_true rfl, Nat.le_of_ble_eq_true rfl⟩) (pre_S (P_sub hC hP) hK) rfl rfl hl.1 rfl (lv_room (Nat.le_of_ble_eq_true rfl)) d_Cod_takeRow_67 ⟨Nat.le_of_ble_eq_true rfl, Nat.le_of_ble_eq_true rfl⟩) hS hP (fun H locs hP hS => ?_)
      obtain ⟨h3, hf⟩ := gd_o hf
      refine va_iast hx hb hK hP (hD _) hS 9 0 rfl rfl (ix_in h3) d_Cod_takeRow_70 (fun H locs hP _ hS => ?_)
      obtain ⟨u4, e_u4, hf⟩ := tk_o hf
      have hP : va_P D cls (wCod cI q0 q1 q2 q3 q4 q5 q6 q7 q8 q9 q10 q11 u4) H := by rw [e_u4]; exact hP
      obtain ⟨x5, e_x5, hf⟩ := tk_o hf
      refine lv_iinc (v := x5) (lv' := [(4, .int x5), (0, .ref q0), (1, .int l1), (2, .long l2)]) hx hb d_Cod_takeRow_71 hl (k := 3) rfl e_x5.symm (by decide) rfl (fun ls hl => ?_)
      refine lv_goto (tgt := 42) hx hb d_Cod_takeRow_74 (by decide) ?_
      exact ih42 _ _ _ l1 l2 x5 u4 (lv_sub hl [1, 2, 3, 0] rfl) hP hS hf
  have lp3 : ∀ (n3 : Nat), ∀ (ls : Array Slot) (H : Heap) (locs : List Loc) (l1 : Int32) (l2 : Int64) (l4 : Int32) (u : gU), lv_has ls 5 [(0, .ref q0), (1, .int l1), (2, .long l2), (4, .int l4)] → va_P D cls (wCod cI q0 q1 q2 q3 q4 q5 q6 q7 q8 q9 q10 q11 u) H → va_S (ad [q0, q1, q2, q3, q4, q5, q6, q7, q8, q9, q10, q11]) s.heap H locs → L_Cod_takeRow_3 n3 l1 l2 l4 u = some (r, v) → W p l e ({ frames := 1, cells := 0, slots := 0, locals := 22 }) s m [.ref q0, .int a1, .long a2].toArray below meth c H locs 0 0 (MQ below (va_Qi (fun x (_ : Unit) => x = r) (fun _ t => va_P D cls (wCod cI q0 q1 q2 q3 q4 q5 q6 q7 q8 q9 q10 q11 v) t.heap) (ad [q0, q1, q2, q3, q4, q5, q6, q7, q8, q9, q10, q11])) [.ref q0, .int a1, .long a2].toArray s 0 0 (ad [q0, q1, q2, q3, q4, q5, q6, q7, q8, q9, q10, q11])) (F0 m 3 ls []) := by
    intro n3
    induction n3 with
    | zero =>
      intro ls H locs l1 l2 l4 u hl hP hS hf
      rw [L_Cod_takeRow_3_z] at hf
      cases hf
    | succ n3 ih3 =>
      intro ls H locs l1 l2 l4 u hl hP hS hf
      rw [L_Cod_takeRow_3_s] at hf
      refine lv_iload hx hb d_Cod_takeRow_3 (lv_at hl 3 rfl) ?_
      refine lv_aload_n hx hb d_Cod_takeRow_5 rfl (lv_at hl 0 rfl) ?_
      refine va_get (D := D) (ci := 3) (v := .ref q1) (C := R_Cod) (T := F_Cod) (N := 11) hx hb hw in_Cod hown hK hP 0 rfl rfl 0 (by decide) (hw _ m_116) (fun x9 h9 => u_same (hw _ m_117) x9 h9) rfl d_Cod_takeRow_6 ?_
      refine va_get (D := D) (ci := 1) (v := .int (u 1 0)) (C := R_Pic) (T := F_Pic) (N := 11) hx hb hw in_Pic hown hK hP 1 rfl rfl 0 (by decide) (hw _ m_260) (fun _ h9 => h9) rfl d_Cod_takeRow_9 ?_
      refine lv_icmp_ge (tgt := 39) hx hb d_Cod_takeRow_12 (by decide) (fun hc => ?_) (fun hc => ?_)
      · have hf := bq_t hf hc
        refine lv_iconst (v := 0) hx hb d_Cod_takeRow_39 (by decide) ?_
        refine lv_istore (lv' := [(4, .int 0), (0, .ref q0), (1, .int l1), (2, .long l2)]) hx hb d_Cod_takeRow_40 hl (by decide) rfl (fun ls hl => ?_)
        exact lp42 20 _ _ _ l1 l2 0 u (lv_sub hl [1, 2, 3, 0] rfl) hP hS hf
      have hf := bq_n hf hc
      refine lv_lload_n hx hb d_Cod_takeRow_15 rfl (lv_at hl 2 rfl) ?_
      refine lv_iload hx hb d_Cod_takeRow_16 (lv_at hl 3 rfl) ?_
      have hC : ([] : List Nat).map (fun i => (wCod cI q0 q1 q2 q3 q4 q5 q6 q7 q8 q9 q10 q11 u)[i]?) = ([] : va_W).map some := rfl
      obtain ⟨x1, hc, hf⟩ := bd_o hf
      refine ro_i (va_runS (As := [.long l2, .int l4]) (rest := []) ⟨hx, hb, hml, hown, hw⟩ (c_Cod_sampleIn l D cI l2 l4 x1 hc) (va_cwS 2 hw g_48 rfl rfl rfl (by decide +kernel) ⟨Nat.le_of_ble_eq_true rfl, Nat.le_of_ble_eq_true rfl⟩) (pre_S (P_sub hC hP) hK) rfl rfl hl.1 rfl (lv_room (Nat.le_of_ble_eq_true rfl)) d_Cod_takeRow_18 ⟨Nat.le_of_ble_eq_true rfl, Nat.le_of_ble_eq_true rfl⟩) hS hP (fun H locs hP hS => ?_)
      refine lv_aload_n hx hb d_Cod_takeRow_21 rfl (lv_at hl 0 rfl) ?_
      refine va_get (D := D) (ci := 3) (v := .ref q1) (C := R_Cod) (T := F_Cod) (N := 11) hx hb hw in_Cod hown hK hP 0 rfl rfl 0 (by decide) (hw _ m_116) (fun x9 h9 => u_same (hw _ m_117) x9 h9) rfl d_Cod_takeRow_22 ?_
      refine va_get (D := D) (ci := 1) (v := .int (u 1 2)) (C := R_Pic) (T := F_Pic) (N := 11) hx hb hw in_Pic hown hK hP 1 rfl rfl 2 (by decide) (hw _ m_265) (fun _ h9 => h9) rfl d_Cod_takeRow_25 ?_
      refine lv_icmp_le (tgt := 33) hx hb d_Cod_takeRow_28 (by decide) (fun hc => ?_) (fun hc => ?_)
      · have hf := bq_t hf hc
        obtain ⟨x2, e_x2, hf⟩ := tk_o hf
        refine lv_iinc (v := x2) (lv' := [(4, .int x2), (0, .ref q0), (1, .int l1), (2, .long l2)]) hx hb d_Cod_takeRow_33 hl (k := 3) rfl e_x2.symm (by decide) rfl (fun ls hl => ?_)
        refine lv_goto (tgt := 3) hx hb d_Cod_takeRow_36 (by decide) ?_
        exact ih3 _ _ _ l1 l2 x2 u (lv_sub hl [1, 2, 3, 0] rfl) hP hS hf
      have hf := bq_n hf hc
      refine lv_iconst (v := 0) hx hb d_Cod_takeRow_31 (by decide) ?_
      exact rt_z (wCod cI q0 q1 q2 q3 q4 q5 q6 q7 q8 q9 q10 q11) hx hb hr hlocks (Or.inl rfl) hS hP hf d_Cod_takeRow_32
  unfold f_Cod_takeRow at hf
  refine lv_iconst (v := 0) hx hb d_Cod_takeRow_0 (by decide) ?_
  refine lv_istore (lv' := [(4, .int 0), (0, .ref q0), (1, .int a1), (2, .long a2)]) hx hb d_Cod_takeRow_1 hl (by decide) rfl (fun ls hl => ?_)
  exact lp3 20 _ _ _ a1 a2 0 u (lv_sub hl [1, 2, 3, 0] rfl) hP hS hf
def f_Cod_writeHead (u : gU) : Option (gU) := bd (f_Wri_restart (sb [10, 11] u)) fun w1 => tk (mg [10, 11] 0 u w1) fun u2 => bd (f_Wri_writeByte 255 (sb [10, 11] u2)) fun w3 => tk (mg [10, 11] 0 u2 w3) fun u4 => bd (f_Wri_writeByte 216 (sb [10, 11] u4)) fun w5 => tk (mg [10, 11] 0 u4 w5) fun u6 => bd (f_Wri_writeByte (u6 1 0) (sb [10, 11] u6)) fun w7 => tk (mg [10, 11] 0 u6 w7) fun u8 => bd (f_Wri_writeByte (u8 1 1) (sb [10, 11] u8)) fun w9 => tk (mg [10, 11] 0 u8 w9) fun u10 => bd (f_Wri_writeByte (u10 1 2) (sb [10, 11] u10)) fun w11 => tk (mg [10, 11] 0 u10 w11) fun u12 => bd (f_Wri_writeByte (u12 1 3) (sb [10, 11] u12)) fun w13 => tk (mg [10, 11] 0 u12 w13) fun u14 => some u14
set_option maxHeartbeats 4000000 in
set_option maxRecDepth 100000 in
theorem c_Cod_writeHead (l : Launch) (D : va_G) (cI : ClassId) (q0 : Nat) (q1 : Nat) (q2 : Nat) (q3 : Nat) (q4 : Nat) (q5 : Nat) (q6 : Nat) (q7 : Nat) (q8 : Nat) (q9 : Nat) (q10 : Nat) (q11 : Nat) (hd : dj [q0, q1, q2, q3, q4, q5, q6, q7, q8, q9, q10, q11]) (u : gU) (v : gU) (hf : f_Cod_writeHead u = some v) : Met l y_Cod_writeHead (.code y_Cod_writeHead b_Cod_writeHead 1 none :: TS) ({ frames := 1, cells := 0, slots := 0, locals := 21 }) (va_Pc [.ref q0] (fun U => va_P D cls (wCod cI q0 q1 q2 q3 q4 q5 q6 q7 q8 q9 q10 q11 u) U.heap ∧ va_K D cls [(cI, .int)] U)) (va_Qv (fun (_ : Unit) => True) (fun _ t => va_P D cls (wCod cI q0 q1 q2 q3 q4 q5 q6 q7 q8 q9 q10 q11 v) t.heap) (ad [q0, q1, q2, q3, q4, q5, q6, q7, q8, q9, q10, q11])) 0 0 (ad [q0, q1, q2, q3, q4, q5, q6, q7, q8, q9, q10, q11]) := by
  refine ct_of (by decide +kernel) (Nat.le_of_ble_eq_true rfl) ?_
  intro p e s m below meth c ls hx hb hml hr hlocks hown hw hP hK hl
  have hS : va_S (ad [q0, q1, q2, q3, q4, q5, q6, q7, q8, q9, q10, q11]) s.heap s.heap [] := va_S.rf
  have hD : ∀ v, va_D (ad [q0, q1, q2, q3, q4, q5, q6, q7, q8, q9, q10, q11]) (wCod cI q0 q1 q2 q3 q4 q5 q6 q7 q8 q9 q10 q11 v) := fun _ => dj_D rfl hd
  have hl : lv_has ls 1 [(0, .ref q0)] := hl
  have hP : va_P D cls (wCod cI q0 q1 q2 q3 q4 q5 q6 q7 q8 q9 q10 q11 u) s.heap := hP
  unfold f_Cod_writeHead at hf
  refine lv_aload_n hx hb d_Cod_writeHead_0 rfl (lv_at hl 0 rfl) ?_
  refine va_get (D := D) (ci := 3) (v := .ref q10) (C := R_Cod) (T := F_Cod) (N := 11) hx hb hw in_Cod hown hK hP 0 rfl rfl 10 (by decide) (hw _ m_141) (fun _ h9 => h9) rfl d_Cod_writeHead_1 ?_
  have hC : [10, 11].map (fun i => (wCod cI q0 q1 q2 q3 q4 q5 q6 q7 q8 q9 q10 q11 u)[i]?) = (wWri cI q10 q11 (sb [10, 11] u)).map some := rfl
  obtain ⟨w1, hc, hf⟩ := bd_o hf
  refine rw_v (va_runV (As := []) (rest := []) ⟨hx, hb, hml, hown, hw⟩ (c_Wri_restart l D cI q10 q11 (dj_sub hd [10, 11] (by decide) rfl) (sb [10, 11] u) w1 hc) (cwV 0 hw g_49 rfl rfl rfl (by decide +kernel) ⟨Nat.le_of_ble_eq_true rfl, Nat.le_of_ble_eq_true rfl⟩) (pre_V (P_sub hC hP) hK rfl rfl) rfl rfl hl.1 rfl (lv_room (Nat.le_of_ble_eq_true rfl)) d_Cod_writeHead_4 ⟨Nat.le_of_ble_eq_true rfl, Nat.le_of_ble_eq_true rfl⟩) hS hP (hD _) hC rfl rfl (fun H locs hP hS => ?_)
  obtain ⟨u2, e_u2, hf⟩ := tk_o hf
  have hP : va_P D cls (wCod cI q0 q1 q2 q3 q4 q5 q6 q7 q8 q9 q10 q11 u2) H := by rw [e_u2]; exact hP
  refine lv_aload_n hx hb d_Cod_writeHead_7 rfl (lv_at hl 0 rfl) ?_
  refine va_get (D := D) (ci := 3) (v := .ref q10) (C := R_Cod) (T := F_Cod) (N := 11) hx hb hw in_Cod hown hK hP 0 rfl rfl 10 (by decide) (hw _ m_141) (fun _ h9 => h9) rfl d_Cod_writeHead_8 ?_
  refine lv_sipush (v := 255) hx hb d_Cod_writeHead_11 (by decide) ?_
  have hC : [10, 11].map (fun i => (wCod cI q0 q1 q2 q3 q4 q5 q6 q7 q8 q9 q10 q11 u2)[i]?) = (wWri cI q10 q11 (sb [10, 11] u2)).map some := rfl
  obtain ⟨w3, hc, hf⟩ := bd_o hf
  refine rw_v (va_runV (As := [.int 255]) (rest := []) ⟨hx, hb, hml, hown, hw⟩ (c_Wri_writeByte l D cI q10 q11 (dj_sub hd [10, 11] (by decide) rfl) 255 (sb [10, 11] u2) w3 hc) (cwV 1 hw g_50 rfl rfl rfl (by decide +kernel) ⟨Nat.le_of_ble_eq_true rfl, Nat.le_of_ble_eq_true rfl⟩) (pre_V (P_sub hC hP) hK rfl rfl) rfl rfl hl.1 rfl (lv_room (Nat.le_of_ble_eq_true rfl)) d_Cod_writeHead_14 ⟨Nat.le_of_ble_eq_true rfl, Nat.le_of_ble_eq_true rfl⟩) hS hP (hD _) hC rfl rfl (fun H locs hP hS => ?_)
  obtain ⟨u4, e_u4, hf⟩ := tk_o hf
  have hP : va_P D cls (wCod cI q0 q1 q2 q3 q4 q5 q6 q7 q8 q9 q10 q11 u4) H := by rw [e_u4]; exact hP
  refine lv_aload_n hx hb d_Cod_writeHead_17 rfl (lv_at hl 0 rfl) ?_
  refine va_get (D := D) (ci := 3) (v := .ref q10) (C := R_Cod) (T := F_Cod) (N := 11) hx hb hw in_Cod hown hK hP 0 rfl rfl 10 (by decide) (hw _ m_141) (fun _ h9 => h9) rfl d_Cod_writeHead_18 ?_
  refine lv_sipush (v := 216) hx hb d_Cod_writeHead_21 (by decide) ?_
  have hC : [10, 11].map (fun i => (wCod cI q0 q1 q2 q3 q4 q5 q6 q7 q8 q9 q10 q11 u4)[i]?) = (wWri cI q10 q11 (sb [10, 11] u4)).map some := rfl
  obtain ⟨w5, hc, hf⟩ := bd_o hf
  refine rw_v (va_runV (As := [.int 216]) (rest := []) ⟨hx, hb, hml, hown, hw⟩ (c_Wri_writeByte l D cI q10 q11 (dj_sub hd [10, 11] (by decide) rfl) 216 (sb [10, 11] u4) w5 hc) (cwV 1 hw g_50 rfl rfl rfl (by decide +kernel) ⟨Nat.le_of_ble_eq_true rfl, Nat.le_of_ble_eq_true rfl⟩) (pre_V (P_sub hC hP) hK rfl rfl) rfl rfl hl.1 rfl (lv_room (Nat.le_of_ble_eq_true rfl)) d_Cod_writeHead_24 ⟨Nat.le_of_ble_eq_true rfl, Nat.le_of_ble_eq_true rfl⟩) hS hP (hD _) hC rfl rfl (fun H locs hP hS => ?_)
  obtain ⟨u6, e_u6, hf⟩ := tk_o hf
  have hP : va_P D cls (wCod cI q0 q1 q2 q3 q4 q5 q6 q7 q8 q9 q10 q11 u6) H := by rw [e_u6]; exact hP
  refine lv_aload_n hx hb d_Cod_writeHead_27 rfl (lv_at hl 0 rfl) ?_
  refine va_get (D := D) (ci := 3) (v := .ref q10) (C := R_Cod) (T := F_Cod) (N := 11) hx hb hw in_Cod hown hK hP 0 rfl rfl 10 (by decide) (hw _ m_141) (fun _ h9 => h9) rfl d_Cod_writeHead_28 ?_
  refine lv_aload_n hx hb d_Cod_writeHead_31 rfl (lv_at hl 0 rfl) ?_
  refine va_get (D := D) (ci := 3) (v := .ref q1) (C := R_Cod) (T := F_Cod) (N := 11) hx hb hw in_Cod hown hK hP 0 rfl rfl 0 (by decide) (hw _ m_116) (fun x9 h9 => u_same (hw _ m_117) x9 h9) rfl d_Cod_writeHead_32 ?_
  refine va_get (D := D) (ci := 1) (v := .int (u6 1 0)) (C := R_Pic) (T := F_Pic) (N := 11) hx hb hw in_Pic hown hK hP 1 rfl rfl 0 (by decide) (hw _ m_260) (fun _ h9 => h9) rfl d_Cod_writeHead_35 ?_
  have hC : [10, 11].map (fun i => (wCod cI q0 q1 q2 q3 q4 q5 q6 q7 q8 q9 q10 q11 u6)[i]?) = (wWri cI q10 q11 (sb [10, 11] u6)).map some := rfl
  obtain ⟨w7, hc, hf⟩ := bd_o hf
  refine rw_v (va_runV (As := [.int (u6 1 0)]) (rest := []) ⟨hx, hb, hml, hown, hw⟩ (c_Wri_writeByte l D cI q10 q11 (dj_sub hd [10, 11] (by decide) rfl) (u6 1 0) (sb [10, 11] u6) w7 hc) (cwV 1 hw g_50 rfl rfl rfl (by decide +kernel) ⟨Nat.le_of_ble_eq_true rfl, Nat.le_of_ble_eq_true rfl⟩) (pre_V (P_sub hC hP) hK rfl rfl) rfl rfl hl.1 rfl (lv_room (Nat.le_of_ble_eq_true rfl)) d_Cod_writeHead_38 ⟨Nat.le_of_ble_eq_true rfl, Nat.le_of_ble_eq_true rfl⟩) hS hP (hD _) hC rfl rfl (fun H locs hP hS => ?_)
  obtain ⟨u8, e_u8, hf⟩ := tk_o hf
  have hP : va_P D cls (wCod cI q0 q1 q2 q3 q4 q5 q6 q7 q8 q9 q10 q11 u8) H := by rw [e_u8]; exact hP
  refine lv_aload_n hx hb d_Cod_writeHead_41 rfl (lv_at hl 0 rfl) ?_
  refine va_get (D := D) (ci := 3) (v := .ref q10) (C := R_Cod) (T := F_Cod) (N := 11) hx hb hw in_Cod hown hK hP 0 rfl rfl 10 (by decide) (hw _ m_141) (fun _ h9 => h9) rfl d_Cod_writeHead_42 ?_
  refine lv_aload_n hx hb d_Cod_writeHead_45 rfl (lv_at hl 0 rfl) ?_
  refine va_get (D := D) (ci := 3) (v := .ref q1) (C := R_Cod) (T := F_Cod) (N := 11) hx hb hw in_Cod hown hK hP 0 rfl rfl 0 (by decide) (hw _ m_116) (fun x9 h9 => u_same (hw _ m_117) x9 h9) rfl d_Cod_writeHead_46 ?_
  refine va_get (D := D) (ci := 1) (v := .int (u8 1 1)) (C := R_Pic) (T := F_Pic) (N := 11) hx hb hw in_Pic hown hK hP 1 rfl rfl 1 (by decide) (hw _ m_271) (fun _ h9 => h9) rfl d_Cod_writeHead_49 ?_
  have hC : [10, 11].map (fun i => (wCod cI q0 q1 q2 q3 q4 q5 q6 q7 q8 q9 q10 q11 u8)[i]?) = (wWri cI q10 q11 (sb [10, 11] u8)).map some := rfl
  obtain ⟨w9, hc, hf⟩ := bd_o hf
  refine rw_v (va_runV (As := [.int (u8 1 1)]) (rest := []) ⟨hx, hb, hml, hown, hw⟩ (c_Wri_writeByte l D cI q10 q11 (dj_sub hd [10, 11] (by decide) rfl) (u8 1 1) (sb [10, 11] u8) w9 hc) (cwV 1 hw g_50 rfl rfl rfl (by decide +kernel) ⟨Nat.le_of_ble_eq_true rfl, Nat.le_of_ble_eq_true rfl⟩) (pre_V (P_sub hC hP) hK rfl rfl) rfl rfl hl.1 rfl (lv_room (Nat.le_of_ble_eq_true rfl)) d_Cod_writeHead_52 ⟨Nat.le_of_ble_eq_true rfl, Nat.le_of_ble_eq_true rfl⟩) hS hP (hD _) hC rfl rfl (fun H locs hP hS => ?_)
  obtain ⟨u10, e_u10, hf⟩ := tk_o hf
  have hP : va_P D cls (wCod cI q0 q1 q2 q3 q4 q5 q6 q7 q8 q9 q10 q11 u10) H := by rw [e_u10]; exact hP
  refine lv_aload_n hx hb d_Cod_writeHead_55 rfl (lv_at hl 0 rfl) ?_
  refine va_get (D := D) (ci := 3) (v := .ref q10) (C := R_Cod) (T := F_Cod) (N := 11) hx hb hw in_Cod hown hK hP 0 rfl rfl 10 (by decide) (hw _ m_141) (fun _ h9 => h9) rfl d_Cod_writeHead_56 ?_
  refine lv_aload_n hx hb d_Cod_writeHead_59 rfl (lv_at hl 0 rfl) ?_
  refine va_get (D := D) (ci := 3) (v := .ref q1) (C := R_Cod) (T := F_Cod) (N := 11) hx hb hw in_Cod hown hK hP 0 rfl rfl 0 (by decide) (hw _ m_116) (fun x9 h9 => u_same (hw _ m_117) x9 h9) rfl d_Cod_writeHead_60 ?_
  refine va_get (D := D) (ci := 1) (v := .int (u10 1 2)) (C := R_Pic) (T := F_Pic) (N := 11) hx hb hw in_Pic hown hK hP 1 rfl rfl 2 (by decide) (hw _ m_265) (fun _ h9 => h9) rfl d_Cod_writeHead_63 ?_
  have hC : [10, 11].map (fun i => (wCod cI q0 q1 q2 q3 q4 q5 q6 q7 q8 q9 q10 q11 u10)[i]?) = (wWri cI q10 q11 (sb [10, 11] u10)).map some := rfl
  obtain ⟨w11, hc, hf⟩ := bd_o hf
  refine rw_v (va_runV (As := [.int (u10 1 2)]) (rest := []) ⟨hx, hb, hml, hown, hw⟩ (c_Wri_writeByte l D cI q10 q11 (dj_sub hd [10, 11] (by decide) rfl) (u10 1 2) (sb [10, 11] u10) w11 hc) (cwV 1 hw g_50 rfl rfl rfl (by decide +kernel) ⟨Nat.le_of_ble_eq_true rfl, Nat.le_of_ble_eq_true rfl⟩) (pre_V (P_sub hC hP) hK rfl rfl) rfl rfl hl.1 rfl (lv_room (Nat.le_of_ble_eq_true rfl)) d_Cod_writeHead_66 ⟨Nat.le_of_ble_eq_true rfl, Nat.le_of_ble_eq_true rfl⟩) hS hP (hD _) hC rfl rfl (fun H locs hP hS => ?_)
  obtain ⟨u12, e_u12, hf⟩ := tk_o hf
  have hP : va_P D cls (wCod cI q0 q1 q2 q3 q4 q5 q6 q7 q8 q9 q10 q11 u12) H := by rw [e_u12]; exact hP
  refine lv_aload_n hx hb d_Cod_writeHead_69 rfl (lv_at hl 0 rfl) ?_
  refine va_get (D := D) (ci := 3) (v := .ref q10) (C := R_Cod) (T := F_Cod) (N := 11) hx hb hw in_Cod hown hK hP 0 rfl rfl 10 (by decide) (hw _ m_141) (fun _ h9 => h9) rfl d_Cod_writeHead_70 ?_
  refine lv_aload_n hx hb d_Cod_writeHead_73 rfl (lv_at hl 0 rfl) ?_
  refine va_get (D := D) (ci := 3) (v := .ref q1) (C := R_Cod) (T := F_Cod) (N := 11) hx hb hw in_Cod hown hK hP 0 rfl rfl 0 (by decide) (hw _ m_116) (fun x9 h9 => u_same (hw _ m_117) x9 h9) rfl d_Cod_writeHead_74 ?_
  refine va_get (D := D) (ci := 1) (v := .int (u12 1 3)) (C := R_Pic) (T := F_Pic) (N := 11) hx hb hw in_Pic hown hK hP 1 rfl rfl 3 (by decide) (hw _ m_272) (fun _ h9 => h9) rfl d_Cod_writeHead_77 ?_
  have hC : [10, 11].map (fun i => (wCod cI q0 q1 q2 q3 q4 q5 q6 q7 q8 q9 q10 q11 u12)[i]?) = (wWri cI q10 q11 (sb [10, 11] u12)).map some := rfl
  obtain ⟨w13, hc, hf⟩ := bd_o hf
  refine rw_v (va_runV (As := [.int (u12 1 3)]) (rest := []) ⟨hx, hb, hml, hown, hw⟩ (c_Wri_writeByte l D cI q10 q11 (dj_sub hd [10, 11] (by decide) rfl) (u12 1 3) (sb [10, 11] u12) w13 hc) (cwV 1 hw g_50 rfl rfl rfl (by decide +kernel) ⟨Nat.le_of_ble_eq_true rfl, Nat.le_of_ble_eq_true rfl⟩) (pre_V (P_sub hC hP) hK rfl rfl) rfl rfl hl.1 rfl (lv_room (Nat.le_of_ble_eq_true rfl)) d_Cod_writeHead_80 ⟨Nat.le_of_ble_eq_true rfl, Nat.le_of_ble_eq_true rfl⟩) hS hP (hD _) hC rfl rfl (fun H locs hP hS => ?_)
  obtain ⟨u14, e_u14, hf⟩ := tk_o hf
  have hP : va_P D cls (wCod cI q0 q1 q2 q3 q4 q5 q6 q7 q8 q9 q10 q11 u14) H := by rw [e_u14]; exact hP
  exact rt_v (wCod cI q0 q1 q2 q3 q4 q5 q6 q7 q8 q9 q10 q11) hx hb hr hlocks hS hP hf d_Cod_writeHead_83
def f_Cod_beginPicture (a1 : Int32) (a2 : Int32) (a3 : Int32) (a4 : Int32) (u : gU) : Option (gU) := bd (f_Pic_become a1 a2 a3 a4 (sb [1] u)) fun w1 => tk (mg [1] 0 u w1) fun u2 => bd (f_Ctx_restart (u2 1 5) (sb [2, 3, 4, 5, 6, 7] u2)) fun w3 => tk (mg [2, 3, 4, 5, 6, 7] 0 u2 w3) fun u4 => bd (f_Arrs_fill_102 64 0 (sb [9] u4)) fun w5 => tk (mg [9] 0 u4 w5) fun u6 => bd (f_Arrs_fill_102 64 0 (sb [8] u6)) fun w7 => tk (mg [8] 0 u6 w7) fun u8 => tk (st2 u8 10 0 0) fun u9 => some u9
set_option maxHeartbeats 4000000 in
set_option maxRecDepth 100000 in
theorem c_Cod_beginPicture (l : Launch) (D : va_G) (cI : ClassId) (q0 : Nat) (q1 : Nat) (q2 : Nat) (q3 : Nat) (q4 : Nat) (q5 : Nat) (q6 : Nat) (q7 : Nat) (q8 : Nat) (q9 : Nat) (q10 : Nat) (q11 : Nat) (hd : dj [q0, q1, q2, q3, q4, q5, q6, q7, q8, q9, q10, q11]) (a1 : Int32) (a2 : Int32) (a3 : Int32) (a4 : Int32) (u : gU) (v : gU) (hf : f_Cod_beginPicture a1 a2 a3 a4 u = some v) : Met l y_Cod_beginPicture (.code y_Cod_beginPicture b_Cod_beginPicture 5 none :: TS) ({ frames := 3, cells := 0, slots := 0, locals := 70 }) (va_Pc [.ref q0, .int a1, .int a2, .int a3, .int a4] (fun U => va_P D cls (wCod cI q0 q1 q2 q3 q4 q5 q6 q7 q8 q9 q10 q11 u) U.heap ∧ va_K D cls [(cI, .int)] U)) (va_Qv (fun (_ : Unit) => True) (fun _ t => va_P D cls (wCod cI q0 q1 q2 q3 q4 q5 q6 q7 q8 q9 q10 q11 v) t.heap) (ad [q0, q1, q2, q3, q4, q5, q6, q7, q8, q9, q10, q11])) 0 0 (ad [q0, q1, q2, q3, q4, q5, q6, q7, q8, q9, q10, q11]) := by
  refine ct_of (by decide +kernel) (Nat.le_of_ble_eq_true rfl) ?_
  intro p e s m below meth c ls hx hb hml hr hlocks hown hw hP hK hl
  have hS : va_S (ad [q0, q1, q2, q3, q4, q5, q6, q7, q8, q9, q10, q11]) s.heap s.heap [] := va_S.rf
  have hD : ∀ v, va_D (ad [q0, q1, q2, q3, q4, q5, q6, q7, q8, q9, q10, q11]) (wCod cI q0 q1 q2 q3 q4 q5 q6 q7 q8 q9 q10 q11 v) := fun _ => dj_D rfl hd
  have hl : lv_has ls 5 [(0, .ref q0), (1, .int a1), (2, .int a2), (3, .int a3), (4, .int a4)] := hl
  have hP : va_P D cls (wCod cI q0 q1 q2 q3 q4 q5 q6 q7 q8 q9 q10 q11 u) s.heap := hP
  unfold f_Cod_beginPicture at hf
  refine lv_aload_n hx hb d_Cod_beginPicture_0 rfl (lv_at hl 0 rfl) ?_
  refine va_get (D := D) (ci := 3) (v := .ref q1) (C := R_Cod) (T := F_Cod) (N := 11) hx hb hw in_Cod hown hK hP 0 rfl rfl 0 (by decide) (hw _ m_116) (fun x9 h9 => u_same (hw _ m_117) x9 h9) rfl d_Cod_beginPicture_1 ?_
  refine lv_iload_n hx hb d_Cod_beginPicture_4 rfl (lv_at hl 1 rfl) ?_
  refine lv_iload_n hx hb d_Cod_beginPicture_5 rfl (lv_at hl 2 rfl) ?_
  refine lv_iload_n hx hb d_Cod_beginPicture_6 rfl (lv_at hl 3 rfl) ?_
  refine lv_iload hx hb d_Cod_beginPicture_7 (lv_at hl 4 rfl) ?_
  have hC : [1].map (fun i => (wCod cI q0 q1 q2 q3 q4 q5 q6 q7 q8 q9 q10 q11 u)[i]?) = (wPic cI q1 (sb [1] u)).map some := rfl
  obtain ⟨w1, hc, hf⟩ := bd_o hf
  refine rw_v (va_runV (As := [.int a1, .int a2, .int a3, .int a4]) (rest := []) ⟨hx, hb, hml, hown, hw⟩ (c_Pic_become l D cI q1 (dj_sub hd [1] (by decide) rfl) a1 a2 a3 a4 (sb [1] u) w1 hc) (cwV 4 hw g_51 rfl rfl rfl (by decide +kernel) ⟨Nat.le_of_ble_eq_true rfl, Nat.le_of_ble_eq_true rfl⟩) (pre_V (P_sub hC hP) hK rfl rfl) rfl rfl hl.1 rfl (lv_room (Nat.le_of_ble_eq_true rfl)) d_Cod_beginPicture_9 ⟨Nat.le_of_ble_eq_true rfl, Nat.le_of_ble_eq_true rfl⟩) hS hP (hD _) hC rfl rfl (fun H locs hP hS => ?_)
  obtain ⟨u2, e_u2, hf⟩ := tk_o hf
  have hP : va_P D cls (wCod cI q0 q1 q2 q3 q4 q5 q6 q7 q8 q9 q10 q11 u2) H := by rw [e_u2]; exact hP
  refine lv_aload_n hx hb d_Cod_beginPicture_12 rfl (lv_at hl 0 rfl) ?_
  refine va_get (D := D) (ci := 3) (v := .ref q2) (C := R_Cod) (T := F_Cod) (N := 11) hx hb hw in_Cod hown hK hP 0 rfl rfl 1 (by decide) (hw _ m_138) (fun x9 h9 => u_same (hw _ m_139) x9 h9) rfl d_Cod_beginPicture_13 ?_
  refine lv_aload_n hx hb d_Cod_beginPicture_16 rfl (lv_at hl 0 rfl) ?_
  refine va_get (D := D) (ci := 3) (v := .ref q1) (C := R_Cod) (T := F_Cod) (N := 11) hx hb hw in_Cod hown hK hP 0 rfl rfl 0 (by decide) (hw _ m_116) (fun x9 h9 => u_same (hw _ m_117) x9 h9) rfl d_Cod_beginPicture_17 ?_
  refine va_get (D := D) (ci := 1) (v := .int (u2 1 5)) (C := R_Pic) (T := F_Pic) (N := 11) hx hb hw in_Pic hown hK hP 1 rfl rfl 5 (by decide) (hw _ m_277) (fun _ h9 => h9) rfl d_Cod_beginPicture_20 ?_
  have hC : [2, 3, 4, 5, 6, 7].map (fun i => (wCod cI q0 q1 q2 q3 q4 q5 q6 q7 q8 q9 q10 q11 u2)[i]?) = (wCtx cI q2 q3 q4 q5 q6 q7 (sb [2, 3, 4, 5, 6, 7] u2)).map some := rfl
  obtain ⟨w3, hc, hf⟩ := bd_o hf
  refine rw_v (va_runV (As := [.int (u2 1 5)]) (rest := []) ⟨hx, hb, hml, hown, hw⟩ (c_Ctx_restart l D cI q2 q3 q4 q5 q6 q7 (dj_sub hd [2, 3, 4, 5, 6, 7] (by decide) rfl) (u2 1 5) (sb [2, 3, 4, 5, 6, 7] u2) w3 hc) (cwV 1 hw g_52 rfl rfl rfl (by decide +kernel) ⟨Nat.le_of_ble_eq_true rfl, Nat.le_of_ble_eq_true rfl⟩) (pre_V (P_sub hC hP) hK rfl rfl) rfl rfl hl.1 rfl (lv_room (Nat.le_of_ble_eq_true rfl)) d_Cod_beginPicture_23 ⟨Nat.le_of_ble_eq_true rfl, Nat.le_of_ble_eq_true rfl⟩) hS hP (hD _) hC rfl rfl (fun H locs hP hS => ?_)
  obtain ⟨u4, e_u4, hf⟩ := tk_o hf
  have hP : va_P D cls (wCod cI q0 q1 q2 q3 q4 q5 q6 q7 q8 q9 q10 q11 u4) H := by rw [e_u4]; exact hP
  refine lv_aload_n hx hb d_Cod_beginPicture_26 rfl (lv_at hl 0 rfl) ?_
  refine va_get (D := D) (ci := 3) (v := .ref q9) (C := R_Cod) (T := F_Cod) (N := 11) hx hb hw in_Cod hown hK hP 0 rfl rfl 9 (by decide) (hw _ m_120) (fun _ h9 => h9) rfl d_Cod_beginPicture_27 ?_
  refine lv_iconst (v := 0) hx hb d_Cod_beginPicture_30 (by decide) ?_
  have hC : [9].map (fun i => (wCod cI q0 q1 q2 q3 q4 q5 q6 q7 q8 q9 q10 q11 u4)[i]?) = (wArrN cI 64 q9 (sb [9] u4)).map some := rfl
  obtain ⟨w5, hc, hf⟩ := bd_o hf
  refine rw_v (va_runS (As := [.ref q9, .int 0]) (rest := []) ⟨hx, hb, hml, hown, hw⟩ (c_Arrs_fill_102 l D cI 64 q9 (dj_sub hd [9] (by decide) rfl) 0 (sb [9] u4) w5 hc) (va_cwS 2 hw g_53 rfl rfl rfl (by decide +kernel) ⟨Nat.le_of_ble_eq_true rfl, Nat.le_of_ble_eq_true rfl⟩) (pre_S (P_sub hC hP) hK) rfl rfl hl.1 rfl (lv_room (Nat.le_of_ble_eq_true rfl)) d_Cod_beginPicture_31 ⟨Nat.le_of_ble_eq_true rfl, Nat.le_of_ble_eq_true rfl⟩) hS hP (hD _) hC rfl rfl (fun H locs hP hS => ?_)
  obtain ⟨u6, e_u6, hf⟩ := tk_o hf
  have hP : va_P D cls (wCod cI q0 q1 q2 q3 q4 q5 q6 q7 q8 q9 q10 q11 u6) H := by rw [e_u6]; exact hP
  refine lv_aload_n hx hb d_Cod_beginPicture_34 rfl (lv_at hl 0 rfl) ?_
  refine va_get (D := D) (ci := 3) (v := .ref q8) (C := R_Cod) (T := F_Cod) (N := 11) hx hb hw in_Cod hown hK hP 0 rfl rfl 2 (by decide) (hw _ m_127) (fun x9 h9 => u_same (hw _ m_128) x9 h9) rfl d_Cod_beginPicture_35 ?_
  refine lv_iconst (v := 0) hx hb d_Cod_beginPicture_38 (by decide) ?_
  have hC : [8].map (fun i => (wCod cI q0 q1 q2 q3 q4 q5 q6 q7 q8 q9 q10 q11 u6)[i]?) = (wArrN cI 64 q8 (sb [8] u6)).map some := rfl
  obtain ⟨w7, hc, hf⟩ := bd_o hf
  refine rw_v (va_runS (As := [.ref q8, .int 0]) (rest := []) ⟨hx, hb, hml, hown, hw⟩ (c_Arrs_fill_102 l D cI 64 q8 (dj_sub hd [8] (by decide) rfl) 0 (sb [8] u6) w7 hc) (va_cwS 2 hw g_53 rfl rfl rfl (by decide +kernel) ⟨Nat.le_of_ble_eq_true rfl, Nat.le_of_ble_eq_true rfl⟩) (pre_S (P_sub hC hP) hK) rfl rfl hl.1 rfl (lv_room (Nat.le_of_ble_eq_true rfl)) d_Cod_beginPicture_39 ⟨Nat.le_of_ble_eq_true rfl, Nat.le_of_ble_eq_true rfl⟩) hS hP (hD _) hC rfl rfl (fun H locs hP hS => ?_)
  obtain ⟨u8, e_u8, hf⟩ := tk_o hf
  have hP : va_P D cls (wCod cI q0 q1 q2 q3 q4 q5 q6 q7 q8 q9 q10 q11 u8) H := by rw [e_u8]; exact hP
  refine lv_aload_n hx hb d_Cod_beginPicture_42 rfl (lv_at hl 0 rfl) ?_
  refine va_get (D := D) (ci := 3) (v := .ref q10) (C := R_Cod) (T := F_Cod) (N := 11) hx hb hw in_Cod hown hK hP 0 rfl rfl 10 (by decide) (hw _ m_141) (fun _ h9 => h9) rfl d_Cod_beginPicture_43 ?_
  refine lv_iconst (v := 0) hx hb d_Cod_beginPicture_46 (by decide) ?_
  refine va_put (D := D) (ci := 5) (v := .int 0) (ty := .int) (C := R_Wri) (T := F_Wri) (N := 3) hx hb hw in_Wri t_Wri t_Wri_ok n_Wri hown hK hP (hD _) hS 10 rfl rfl 1 (by decide) (hw _ m_280) (fun _ h9 => h9) rfl (by decide +kernel) rfl rfl (Nat.le_of_ble_eq_true rfl) d_Cod_beginPicture_47 (fun H locs hP _ hS => ?_)
  obtain ⟨u9, e_u9, hf⟩ := tk_o hf
  have hP : va_P D cls (wCod cI q0 q1 q2 q3 q4 q5 q6 q7 q8 q9 q10 q11 u9) H := by rw [e_u9]; exact hP
  exact rt_v (wCod cI q0 q1 q2 q3 q4 q5 q6 q7 q8 q9 q10 q11) hx hb hr hlocks hS hP hf d_Cod_beginPicture_50
def f_Cod_takeOver (u : gU) : Option (gU) := bd (f_Pic_become (u 13 0) (u 13 1) (u 13 2) (u 13 3) (sb [1] u)) fun w1 => tk (mg [1] 0 u w1) fun u2 => bd (f_Ctx_takeOver (sb [2, 3, 4, 5, 6, 7, 14, 15, 16, 17, 18, 19] u2)) fun w3 => tk (mg [2, 3, 4, 5, 6, 7, 14, 15, 16, 17, 18, 19] 0 u2 w3) fun u4 => tk (st1 u4 8 (va_cpy (u4 20) (u4 8) 0 0 (tc 64))) fun u5 => tk (st1 u5 9 (va_cpy (u5 20) (u5 9) 0 0 (tc 64))) fun u6 => some u6
set_option maxHeartbeats 4000000 in
set_option maxRecDepth 100000 in
theorem c_Cod_takeOver (l : Launch) (D : va_G) (cI : ClassId) (q0 : Nat) (q1 : Nat) (q2 : Nat) (q3 : Nat) (q4 : Nat) (q5 : Nat) (q6 : Nat) (q7 : Nat) (q8 : Nat) (q9 : Nat) (q10 : Nat) (q11 : Nat) (q12 : Nat) (q13 : Nat) (q14 : Nat) (q15 : Nat) (q16 : Nat) (q17 : Nat) (q18 : Nat) (q19 : Nat) (q20 : Nat) (q21 : Nat) (q22 : Nat) (hd : dj [q0, q1, q2, q3, q4, q5, q6, q7, q8, q9, q10, q11, q12, q13, q14, q15, q16, q17, q18, q19, q20, q21, q22]) (u : gU) (v : gU) (hf : f_Cod_takeOver u = some v) : Met l y_Cod_takeOver (.code y_Cod_takeOver b_Cod_takeOver 3 none :: TS) ({ frames := 3, cells := 0, slots := 0, locals := 70 }) (va_Pc [.ref q0, .ref q12] (fun U => va_P D cls (wCodRdg cI q0 q1 q2 q3 q4 q5 q6 q7 q8 q9 q10 q11 q12 q13 q14 q15 q16 q17 q18 q19 q20 q21 q22 u) U.heap ∧ va_K D cls [(cI, .int)] U)) (va_Qv (fun (_ : Unit) => True) (fun _ t => va_P D cls (wCodRdg cI q0 q1 q2 q3 q4 q5 q6 q7 q8 q9 q10 q11 q12 q13 q14 q15 q16 q17 q18 q19 q20 q21 q22 v) t.heap) (ad [q0, q1, q2, q3, q4, q5, q6, q7, q8, q9, q10, q11, q12, q13, q14, q15, q16, q17, q18, q19, q20, q21, q22])) 0 0 (ad [q0, q1, q2, q3, q4, q5, q6, q7, q8, q9, q10, q11, q12, q13, q14, q15, q16, q17, q18, q19, q20, q21, q22]) := by
  refine ct_of (by decide +kernel) (Nat.le_of_ble_eq_true rfl) ?_
  intro p e s m below meth c ls hx hb hml hr hlocks hown hw hP hK hl
  have hS : va_S (ad [q0, q1, q2, q3, q4, q5, q6, q7, q8, q9, q10, q11, q12, q13, q14, q15, q16, q17, q18, q19, q20, q21, q22]) s.heap s.heap [] := va_S.rf
  have hD : ∀ v, va_D (ad [q0, q1, q2, q3, q4, q5, q6, q7, q8, q9, q10, q11, q12, q13, q14, q15, q16, q17, q18, q19, q20, q21, q22]) (wCodRdg cI q0 q1 q2 q3 q4 q5 q6 q7 q8 q9 q10 q11 q12 q13 q14 q15 q16 q17 q18 q19 q20 q21 q22 v) := fun _ => dj_D rfl hd
  have hl : lv_has ls 3 [(0, .ref q0), (1, .ref q12)] := hl
  have hP : va_P D cls (wCodRdg cI q0 q1 q2 q3 q4 q5 q6 q7 q8 q9 q10 q11 q12 q13 q14 q15 q16 q17 q18 q19 q20 q21 q22 u) s.heap := hP
  unfold f_Cod_takeOver at hf
  refine lv_aload_n hx hb d_Cod_takeOver_0 rfl (lv_at hl 1 rfl) ?_
  refine va_get (D := D) (ci := 4) (v := .ref q13) (C := R_Rdg) (T := F_Rdg) (N := 10) hx hb hw in_Rdg hown hK hP 12 rfl rfl 0 (by decide) (hw _ m_281) (fun x9 h9 => u_same (hw _ m_282) x9 h9) rfl d_Cod_takeOver_1 ?_
  refine lv_astore_n (lv' := [(2, .ref q13), (0, .ref q0), (1, .ref q12)]) hx hb d_Cod_takeOver_4 rfl hl (by decide) rfl (fun ls hl => ?_)
  refine lv_aload_n hx hb d_Cod_takeOver_5 rfl (lv_at hl 1 rfl) ?_
  refine va_get (D := D) (ci := 3) (v := .ref q1) (C := R_Cod) (T := F_Cod) (N := 11) hx hb hw in_Cod hown hK hP 0 rfl rfl 0 (by decide) (hw _ m_116) (fun x9 h9 => u_same (hw _ m_117) x9 h9) rfl d_Cod_takeOver_6 ?_
  refine lv_aload_n hx hb d_Cod_takeOver_9 rfl (lv_at hl 0 rfl) ?_
  refine va_get (D := D) (ci := 1) (v := .int (u 13 0)) (C := R_Pic) (T := F_Pic) (N := 11) hx hb hw in_Pic hown hK hP 13 rfl rfl 0 (by decide) (hw _ m_260) (fun _ h9 => h9) rfl d_Cod_takeOver_10 ?_
  refine lv_aload_n hx hb d_Cod_takeOver_13 rfl (lv_at hl 0 rfl) ?_
  refine va_get (D := D) (ci := 1) (v := .int (u 13 1)) (C := R_Pic) (T := F_Pic) (N := 11) hx hb hw in_Pic hown hK hP 13 rfl rfl 1 (by decide) (hw _ m_271) (fun _ h9 => h9) rfl d_Cod_takeOver_14 ?_
  refine lv_aload_n hx hb d_Cod_takeOver_17 rfl (lv_at hl 0 rfl) ?_
  refine va_get (D := D) (ci := 1) (v := .int (u 13 2)) (C := R_Pic) (T := F_Pic) (N := 11) hx hb hw in_Pic hown hK hP 13 rfl rfl 2 (by decide) (hw _ m_265) (fun _ h9 => h9) rfl d_Cod_takeOver_18 ?_
  refine lv_aload_n hx hb d_Cod_takeOver_21 rfl (lv_at hl 0 rfl) ?_
  refine va_get (D := D) (ci := 1) (v := .int (u 13 3)) (C := R_Pic) (T := F_Pic) (N := 11) hx hb hw in_Pic hown hK hP 13 rfl rfl 3 (by decide) (hw _ m_272) (fun _ h9 => h9) rfl d_Cod_takeOver_22 ?_
  have hC : [1].map (fun i => (wCodRdg cI q0 q1 q2 q3 q4 q5 q6 q7 q8 q9 q10 q11 q12 q13 q14 q15 q16 q17 q18 q19 q20 q21 q22 u)[i]?) = (wPic cI q1 (sb [1] u)).map some := rfl
  obtain ⟨w1, hc, hf⟩ := bd_o hf
  refine rw_v (va_runV (As := [.int (u 13 0), .int (u 13 1), .int (u 13 2), .int (u 13 3)]) (rest := []) ⟨hx, hb, hml, hown, hw⟩ (c_Pic_become l D cI q1 (dj_sub hd [1] (by decide) rfl) (u 13 0) (u 13 1) (u 13 2) (u 13 3) (sb [1] u) w1 hc) (cwV 4 hw g_51 rfl rfl rfl (by decide +kernel) ⟨Nat.le_of_ble_eq_true rfl, Nat.le_of_ble_eq_true rfl⟩) (pre_V (P_sub hC hP) hK rfl rfl) rfl rfl hl.1 rfl (lv_room (Nat.le_of_ble_eq_true rfl)) d_Cod_takeOver_25 ⟨Nat.le_of_ble_eq_true rfl, Nat.le_of_ble_eq_true rfl⟩) hS hP (hD _) hC rfl rfl (fun H locs hP hS => ?_)
  obtain ⟨u2, e_u2, hf⟩ := tk_o hf
  have hP : va_P D cls (wCodRdg cI q0 q1 q2 q3 q4 q5 q6 q7 q8 q9 q10 q11 q12 q13 q14 q15 q16 q17 q18 q19 q20 q21 q22 u2) H := by rw [e_u2]; exact hP
  refine lv_aload_n hx hb d_Cod_takeOver_28 rfl (lv_at hl 1 rfl) ?_
  refine va_get (D := D) (ci := 3) (v := .ref q2) (C := R_Cod) (T := F_Cod) (N := 11) hx hb hw in_Cod hown hK hP 0 rfl rfl 1 (by decide) (hw _ m_138) (fun x9 h9 => u_same (hw _ m_139) x9 h9) rfl d_Cod_takeOver_29 ?_
  refine lv_aload_n hx hb d_Cod_takeOver_32 rfl (lv_at hl 2 rfl) ?_
  refine va_get (D := D) (ci := 4) (v := .ref q14) (C := R_Rdg) (T := F_Rdg) (N := 10) hx hb hw in_Rdg hown hK hP 12 rfl rfl 1 (by decide) (hw _ m_283) (fun x9 h9 => u_same (hw _ m_284) x9 h9) rfl d_Cod_takeOver_33 ?_
  have hC : [2, 3, 4, 5, 6, 7, 14, 15, 16, 17, 18, 19].map (fun i => (wCodRdg cI q0 q1 q2 q3 q4 q5 q6 q7 q8 q9 q10 q11 q12 q13 q14 q15 q16 q17 q18 q19 q20 q21 q22 u2)[i]?) = (wCtxCtx cI q2 q3 q4 q5 q6 q7 q14 q15 q16 q17 q18 q19 (sb [2, 3, 4, 5, 6, 7, 14, 15, 16, 17, 18, 19] u2)).map some := rfl
  obtain ⟨w3, hc, hf⟩ := bd_o hf
  refine rw_v (va_runV (As := [.ref q14]) (rest := []) ⟨hx, hb, hml, hown, hw⟩ (c_Ctx_takeOver l D cI q2 q3 q4 q5 q6 q7 q14 q15 q16 q17 q18 q19 (dj_sub hd [2, 3, 4, 5, 6, 7, 14, 15, 16, 17, 18, 19] (by decide) rfl) (sb [2, 3, 4, 5, 6, 7, 14, 15, 16, 17, 18, 19] u2) w3 hc) (cwV 1 hw g_54 rfl rfl rfl (by decide +kernel) ⟨Nat.le_of_ble_eq_true rfl, Nat.le_of_ble_eq_true rfl⟩) (pre_V (P_sub hC hP) hK rfl rfl) rfl rfl hl.1 rfl (lv_room (Nat.le_of_ble_eq_true rfl)) d_Cod_takeOver_36 ⟨Nat.le_of_ble_eq_true rfl, Nat.le_of_ble_eq_true rfl⟩) hS hP (hD _) hC rfl rfl (fun H locs hP hS => ?_)
  obtain ⟨u4, e_u4, hf⟩ := tk_o hf
  have hP : va_P D cls (wCodRdg cI q0 q1 q2 q3 q4 q5 q6 q7 q8 q9 q10 q11 q12 q13 q14 q15 q16 q17 q18 q19 q20 q21 q22 u4) H := by rw [e_u4]; exact hP
  refine lv_aload_n hx hb d_Cod_takeOver_39 rfl (lv_at hl 2 rfl) ?_
  refine va_get (D := D) (ci := 4) (v := .ref q20) (C := R_Rdg) (T := F_Rdg) (N := 10) hx hb hw in_Rdg hown hK hP 12 rfl rfl 2 (by decide) (hw _ m_289) (fun x9 h9 => u_same (hw _ m_290) x9 h9) rfl d_Cod_takeOver_40 ?_
  refine lv_iconst (v := 0) hx hb d_Cod_takeOver_43 (by decide) ?_
  refine lv_aload_n hx hb d_Cod_takeOver_44 rfl (lv_at hl 1 rfl) ?_
  refine va_get (D := D) (ci := 3) (v := .ref q8) (C := R_Cod) (T := F_Cod) (N := 11) hx hb hw in_Cod hown hK hP 0 rfl rfl 2 (by decide) (hw _ m_127) (fun x9 h9 => u_same (hw _ m_128) x9 h9) rfl d_Cod_takeOver_45 ?_
  refine lv_iconst (v := 0) hx hb d_Cod_takeOver_48 (by decide) ?_
  refine lv_bipush (v := 64) hx hb d_Cod_takeOver_49 (by decide) ?_
  refine va_copyi (ty := .int) hx hb (hml.trans hl.1.symm) hown (hw _ m_291) (hw _ m_65) (hw _ m_66) (hw _ m_67) hK hP (hD _) hS 20 8 0 0 rfl rfl rfl rfl rfl (by decide) (by decide) (by decide) (by decide) (by decide) (fun _ _ => rfl) (Nat.le_of_ble_eq_true rfl) (by decide) d_Cod_takeOver_51 (fun H locs hP _ hS => ?_)
  obtain ⟨u5, e_u5, hf⟩ := tk_o hf
  have hP : va_P D cls (wCodRdg cI q0 q1 q2 q3 q4 q5 q6 q7 q8 q9 q10 q11 q12 q13 q14 q15 q16 q17 q18 q19 q20 q21 q22 u5) H := by rw [e_u5]; exact hP
  refine lv_aload_n hx hb d_Cod_takeOver_54 rfl (lv_at hl 2 rfl) ?_
  refine va_get (D := D) (ci := 4) (v := .ref q20) (C := R_Rdg) (T := F_Rdg) (N := 10) hx hb hw in_Rdg hown hK hP 12 rfl rfl 2 (by decide) (hw _ m_289) (fun x9 h9 => u_same (hw _ m_290) x9 h9) rfl d_Cod_takeOver_55 ?_
  refine lv_iconst (v := 0) hx hb d_Cod_takeOver_58 (by decide) ?_
  refine lv_aload_n hx hb d_Cod_takeOver_59 rfl (lv_at hl 1 rfl) ?_
  refine va_get (D := D) (ci := 3) (v := .ref q9) (C := R_Cod) (T := F_Cod) (N := 11) hx hb hw in_Cod hown hK hP 0 rfl rfl 9 (by decide) (hw _ m_120) (fun _ h9 => h9) rfl d_Cod_takeOver_60 ?_
  refine lv_iconst (v := 0) hx hb d_Cod_takeOver_63 (by decide) ?_
  refine lv_bipush (v := 64) hx hb d_Cod_takeOver_64 (by decide) ?_
  refine va_copyi (ty := .int) hx hb (hml.trans hl.1.symm) hown (hw _ m_291) (hw _ m_65) (hw _ m_66) (hw _ m_67) hK hP (hD _) hS 20 9 0 0 rfl rfl rfl rfl rfl (by decide) (by decide) (by decide) (by decide) (by decide) (fun _ _ => rfl) (Nat.le_of_ble_eq_true rfl) (by decide) d_Cod_takeOver_66 (fun H locs hP _ hS => ?_)
  obtain ⟨u6, e_u6, hf⟩ := tk_o hf
  have hP : va_P D cls (wCodRdg cI q0 q1 q2 q3 q4 q5 q6 q7 q8 q9 q10 q11 q12 q13 q14 q15 q16 q17 q18 q19 q20 q21 q22 u6) H := by rw [e_u6]; exact hP
  exact rt_v (wCodRdg cI q0 q1 q2 q3 q4 q5 q6 q7 q8 q9 q10 q11 q12 q13 q14 q15 q16 q17 q18 q19 q20 q21 q22) hx hb hr hlocks hS hP hf d_Cod_takeOver_69
end
