theorem m_868 : .instantiable R_Grc 2 ∈ TS := TS_1_in _ (List.mem_of_getElem? (i := 18) rfl)
theorem m_869 : .instantiable R_Mod 28 ∈ TS := TS_11_in _ (List.mem_of_getElem? (i := 30) rfl)
theorem arr_int {args : Array Value} {s : State} (h : (Cond.arrayClass .int).before args s = true) : ∃ cA : ClassId, ArrOfT s cA .int ∧ va_RA s cA .int := by
  simp only [Cond.before, Cond.holds, Cond.value] at h
  cases hf : s.vm.findClass ("[" ++ (FieldType.int).toString) with
  | none => simp [hf] at h
  | some cA =>
    cases hk : s.vm.classes[cA]? with
    | none => simp [hf, hk] at h
    | some kA =>
      cases hkd : kA.kind with
      | array comp ty =>
        simp [hf, hk, hkd] at h
        subst h
        exact ⟨cA, fun n z => ⟨fun k h => (by cases h), kA, hk, comp, hkd⟩, hf⟩
      | _ => simp [hf, hk, hkd] at h
theorem know {args : Array Value} {s : State} (hw : ∀ w ∈ TS, w.before args s = true) : ∃ D : va_G, ∀ (c : Nat) (q : vw_C), cls[c]? = some q → u_Kn s q.1 q.2.1 q.2.2 (D.1 c) (D.2 c) := by
  obtain ⟨c0, i0, h0⟩ := u_known (C := R_Grc) (T := F_Grc) (N := 2) (n := 2) hw in_Grc (hw _ m_868)
  obtain ⟨c1, i1, h1⟩ := u_known (C := R_Pic) (T := F_Pic) (N := 11) (n := 11) hw in_Pic (hw _ m_725)
  obtain ⟨c2, i2, h2⟩ := u_known (C := R_Ctx) (T := F_Ctx) (N := 6) (n := 6) hw in_Ctx (hw _ m_730)
  obtain ⟨c3, i3, h3⟩ := u_known (C := R_Cod) (T := F_Cod) (N := 11) (n := 11) hw in_Cod (hw _ m_745)
  obtain ⟨c4, i4, h4⟩ := u_known (C := R_Rdg) (T := F_Rdg) (N := 10) (n := 10) hw in_Rdg (hw _ m_750)
  obtain ⟨c5, i5, h5⟩ := u_known (C := R_Wri) (T := F_Wri) (N := 3) (n := 3) hw in_Wri (hw _ m_736)
  obtain ⟨c6, i6, h6⟩ := u_known (C := R_Rea) (T := F_Rea) (N := 4) (n := 4) hw in_Rea (hw _ m_740)
  obtain ⟨c7, i7, h7⟩ := u_known (C := R_Mod) (T := F_Mod) (N := 28) (n := 28) hw in_Mod (hw _ m_869)
  refine ⟨(fun c => match c with | 0 => c0 | 1 => c1 | 2 => c2 | 3 => c3 | 4 => c4 | 5 => c5 | 6 => c6 | _ => c7, fun c => match c with | 0 => i0 | 1 => i1 | 2 => i2 | 3 => i3 | 4 => i4 | 5 => i5 | 6 => i6 | _ => i7), fun c q hq => ?_⟩
  match c, hq with
  | 0, hq => cases hq; exact h0
  | 1, hq => cases hq; exact h1
  | 2, hq => cases hq; exact h2
  | 3, hq => cases hq; exact h3
  | 4, hq => cases hq; exact h4
  | 5, hq => cases hq; exact h5
  | 6, hq => cases hq; exact h6
  | 7, hq => cases hq; exact h7
  | n + 8, hq => simp [cls] at hq
set_option maxHeartbeats 4000000 in
set_option maxRecDepth 100000 in
theorem J_start {b : Nat} {s : State} {A : Nat → Prop} (hts : ∀ w ∈ lw_tbl, w.before #[Value.ref b] s = true) (hgv : (Jvm.Cond.and given_1 narrow_1).before #[Value.ref b] s = true) (hA : ∀ a : Nat, a < s.heap.size → ¬ A a) : ∃ tJ : Nat, Jt tJ A s := by
  have hs := flat_of_before _ hgv
  have e0 : ∀ j : Nat, j < 32 → (Term.elem (.static "GradientCoder$Contexts" "J" "[I") (.int (Int32.ofNat j))).eval #[Value.ref b] s none [] s = some (.int (jv j)) := by
    intro j hj
    match j, hj with
    | 0, _ => exact va_eqt (z := 0) (hs (Cond.eq (.elem (.static "GradientCoder$Contexts" "J" "[I") (.int 0)) (.int 0)) (by decide +kernel))
    | 1, _ => exact va_eqt (z := 0) (hs (Cond.eq (.elem (.static "GradientCoder$Contexts" "J" "[I") (.int 1)) (.int 0)) (by decide +kernel))
    | 2, _ => exact va_eqt (z := 0) (hs (Cond.eq (.elem (.static "GradientCoder$Contexts" "J" "[I") (.int 2)) (.int 0)) (by decide +kernel))
    | 3, _ => exact va_eqt (z := 0) (hs (Cond.eq (.elem (.static "GradientCoder$Contexts" "J" "[I") (.int 3)) (.int 0)) (by decide +kernel))
    | 4, _ => exact va_eqt (z := 1) (hs (Cond.eq (.elem (.static "GradientCoder$Contexts" "J" "[I") (.int 4)) (.int 1)) (by decide +kernel))
    | 5, _ => exact va_eqt (z := 1) (hs (Cond.eq (.elem (.static "GradientCoder$Contexts" "J" "[I") (.int 5)) (.int 1)) (by decide +kernel))
    | 6, _ => exact va_eqt (z := 1) (hs (Cond.eq (.elem (.static "GradientCoder$Contexts" "J" "[I") (.int 6)) (.int 1)) (by decide +kernel))
    | 7, _ => exact va_eqt (z := 1) (hs (Cond.eq (.elem (.static "GradientCoder$Contexts" "J" "[I") (.int 7)) (.int 1)) (by decide +kernel))
    | 8, _ => exact va_eqt (z := 2) (hs (Cond.eq (.elem (.static "GradientCoder$Contexts" "J" "[I") (.int 8)) (.int 2)) (by decide +kernel))
    | 9, _ => exact va_eqt (z := 2) (hs (Cond.eq (.elem (.static "GradientCoder$Contexts" "J" "[I") (.int 9)) (.int 2)) (by decide +kernel))
    | 10, _ => exact va_eqt (z := 2) (hs (Cond.eq (.elem (.static "GradientCoder$Contexts" "J" "[I") (.int 10)) (.int 2)) (by decide +kernel))
    | 11, _ => exact va_eqt (z := 2) (hs (Cond.eq (.elem (.static "GradientCoder$Contexts" "J" "[I") (.int 11)) (.int 2)) (by decide +kernel))
    | 12, _ => exact va_eqt (z := 3) (hs (Cond.eq (.elem (.static "GradientCoder$Contexts" "J" "[I") (.int 12)) (.int 3)) (by decide +kernel))
    | 13, _ => exact va_eqt (z := 3) (hs (Cond.eq (.elem (.static "GradientCoder$Contexts" "J" "[I") (.int 13)) (.int 3)) (by decide +kernel))
    | 14, _ => exact va_eqt (z := 3) (hs (Cond.eq (.elem (.static "GradientCoder$Contexts" "J" "[I") (.int 14)) (.int 3)) (by decide +kernel))
    | 15, _ => exact va_eqt (z := 3) (hs (Cond.eq (.elem (.static "GradientCoder$Contexts" "J" "[I") (.int 15)) (.int 3)) (by decide +kernel))
    | 16, _ => exact va_eqt (z := 4) (hs (Cond.eq (.elem (.static "GradientCoder$Contexts" "J" "[I") (.int 16)) (.int 4)) (by decide +kernel))
    | 17, _ => exact va_eqt (z := 4) (hs (Cond.eq (.elem (.static "GradientCoder$Contexts" "J" "[I") (.int 17)) (.int 4)) (by decide +kernel))
    | 18, _ => exact va_eqt (z := 5) (hs (Cond.eq (.elem (.static "GradientCoder$Contexts" "J" "[I") (.int 18)) (.int 5)) (by decide +kernel))
    | 19, _ => exact va_eqt (z := 5) (hs (Cond.eq (.elem (.static "GradientCoder$Contexts" "J" "[I") (.int 19)) (.int 5)) (by decide +kernel))
    | 20, _ => exact va_eqt (z := 6) (hs (Cond.eq (.elem (.static "GradientCoder$Contexts" "J" "[I") (.int 20)) (.int 6)) (by decide +kernel))
    | 21, _ => exact va_eqt (z := 6) (hs (Cond.eq (.elem (.static "GradientCoder$Contexts" "J" "[I") (.int 21)) (.int 6)) (by decide +kernel))
    | 22, _ => exact va_eqt (z := 7) (hs (Cond.eq (.elem (.static "GradientCoder$Contexts" "J" "[I") (.int 22)) (.int 7)) (by decide +kernel))
    | 23, _ => exact va_eqt (z := 7) (hs (Cond.eq (.elem (.static "GradientCoder$Contexts" "J" "[I") (.int 23)) (.int 7)) (by decide +kernel))
    | 24, _ => exact va_eqt (z := 8) (hs (Cond.eq (.elem (.static "GradientCoder$Contexts" "J" "[I") (.int 24)) (.int 8)) (by decide +kernel))
    | 25, _ => exact va_eqt (z := 9) (hs (Cond.eq (.elem (.static "GradientCoder$Contexts" "J" "[I") (.int 25)) (.int 9)) (by decide +kernel))
    | 26, _ => exact va_eqt (z := 10) (hs (Cond.eq (.elem (.static "GradientCoder$Contexts" "J" "[I") (.int 26)) (.int 10)) (by decide +kernel))
    | 27, _ => exact va_eqt (z := 11) (hs (Cond.eq (.elem (.static "GradientCoder$Contexts" "J" "[I") (.int 27)) (.int 11)) (by decide +kernel))
    | 28, _ => exact va_eqt (z := 12) (hs (Cond.eq (.elem (.static "GradientCoder$Contexts" "J" "[I") (.int 28)) (.int 12)) (by decide +kernel))
    | 29, _ => exact va_eqt (z := 13) (hs (Cond.eq (.elem (.static "GradientCoder$Contexts" "J" "[I") (.int 29)) (.int 13)) (by decide +kernel))
    | 30, _ => exact va_eqt (z := 14) (hs (Cond.eq (.elem (.static "GradientCoder$Contexts" "J" "[I") (.int 30)) (.int 14)) (by decide +kernel))
    | 31, _ => exact va_eqt (z := 15) (hs (Cond.eq (.elem (.static "GradientCoder$Contexts" "J" "[I") (.int 31)) (.int 15)) (by decide +kernel))
    | n + 32, hj => omega
  obtain ⟨t, ht, hT⟩ := va_Tof (A := A) (N := 32) (f := fun j => .int (jv j)) (by decide) (hs (Cond.arrayOf (.static "GradientCoder$Contexts" "J" "[I") .int) (by decide +kernel)) (va_eqt (z := 32) (hs (Cond.eq (.length (.static "GradientCoder$Contexts" "J" "[I")) (.int 32)) (by decide +kernel))) e0 hA
  exact ⟨t, va_Zref (hts _ (List.mem_of_getElem? (i := 421) rfl : .laysStatic "GradientCoder$Contexts" "J" "[I" ∈ lw_tbl)) (hts _ (List.mem_of_getElem? (i := 51) rfl : .initialized "GradientCoder$Contexts" ∈ lw_tbl)) ht hA, hT, (va_Nw.of rfl (hts _ (List.mem_of_getElem? (i := 410) rfl : .declares ⟨"GradientCoder$Pass", "carryRun", "(II)I"⟩ ∈ lw_tbl))), (va_Nw.of rfl (hts _ (List.mem_of_getElem? (i := 563) rfl : .declares ⟨"GradientCoder$Pass", "carryRegular", "(IIZ)I"⟩ ∈ lw_tbl))), (va_Nw.of rfl (hts _ (List.mem_of_getElem? (i := 642) rfl : .declares ⟨"GradientCoder$Pass", "carryEnd", "(IIIZ)I"⟩ ∈ lw_tbl)))⟩
set_option maxHeartbeats 4000000 in
set_option maxRecDepth 100000 in
theorem X_start {b : Nat} {s : State} {A : Nat → Prop} (hts : ∀ w ∈ lw_tbl, w.before #[Value.ref b] s = true) (hgv : (Jvm.Cond.and given_1 narrow_1).before #[Value.ref b] s = true) (hA : ∀ a : Nat, a < s.heap.size → ¬ A a) : Xt A s := by
  have hs := flat_of_before _ hgv
  refine ⟨Sf_of (hts _ (List.mem_of_getElem? (i := 470) rfl : .laysStatic "java/lang/Throwable" "UNASSIGNED_STACK" "[Ljava/lang/StackTraceElement;" ∈ lw_tbl)) (hs (Cond.isRef (.static "java/lang/Throwable" "UNASSIGNED_STACK" "[Ljava/lang/StackTraceElement;")) (by decide +kernel)) hA, Sf_of (hts _ (List.mem_of_getElem? (i := 472) rfl : .laysStatic "java/lang/Throwable" "SUPPRESSED_SENTINEL" "Ljava/util/List;" ∈ lw_tbl)) (hs (Cond.isRef (.static "java/lang/Throwable" "SUPPRESSED_SENTINEL" "Ljava/util/List;")) (by decide +kernel)) hA, ⟨va_Nw.of rfl (hts _ (List.mem_of_getElem? (i := 447) rfl : .declares ⟨"java/lang/RuntimeException", "<init>", "(Ljava/lang/String;)V"⟩ ∈ lw_tbl)), va_Nw.of rfl (hts _ (List.mem_of_getElem? (i := 449) rfl : .declares ⟨"java/lang/Exception", "<init>", "(Ljava/lang/String;)V"⟩ ∈ lw_tbl)), va_Nw.of rfl (hts _ (List.mem_of_getElem? (i := 451) rfl : .declares ⟨"java/lang/Throwable", "<init>", "(Ljava/lang/String;)V"⟩ ∈ lw_tbl)), va_Nw.of rfl (hts _ (List.mem_of_getElem? (i := 445) rfl : .castable "java/lang/IllegalArgumentException" "java/lang/IllegalArgumentException" ∈ lw_tbl))⟩, ?_⟩
  have hstr : ∀ (own tx : String) (k : Nat), (Cond.stringRef own k tx).before #[Value.ref b] s = true → (∃ c, s.vm.findClass own = some c) → ∃ q : Nat, vk_R own k tx q s := by
    intro own tx k h ⟨c, hc⟩
    obtain ⟨k9, cf, i, a, -, -, -, -, -, hev⟩ := Cond.stringRef_spec hc h
    exact ⟨a, h, hev⟩
  have hcRea : ∃ c, s.vm.findClass "GradientCoder$Reader" = some c := by
    obtain ⟨c, k, hc, -⟩ := Cond.instantiable_spec (hts _ (List.mem_of_getElem? (i := 302) rfl : .instantiable "GradientCoder$Reader" 4 ∈ lw_tbl))
    exact ⟨c, hc⟩
  have hcRdg : ∃ c, s.vm.findClass "GradientCoder$Reading" = some c := by
    obtain ⟨c, k, hc, -⟩ := Cond.instantiable_spec (hts _ (List.mem_of_getElem? (i := 296) rfl : .instantiable "GradientCoder$Reading" 10 ∈ lw_tbl))
    exact ⟨c, hc⟩
  exact List.forall_mem_cons.mpr ⟨hstr "GradientCoder$Reader" "there are no more bits" 38 (hts _ (List.mem_of_getElem? (i := 482) rfl : .stringRef "GradientCoder$Reader" 38 "there are no more bits" ∈ lw_tbl)) hcRea, List.forall_mem_cons.mpr ⟨hstr "GradientCoder$Reading" "a run leaves no sample for its end" 78 (hts _ (List.mem_of_getElem? (i := 519) rfl : .stringRef "GradientCoder$Reading" 78 "a run leaves no sample for its end" ∈ lw_tbl)) hcRdg, List.forall_mem_cons.mpr ⟨hstr "GradientCoder$Reader" "too many bits 0 come before a bit 1" 44 (hts _ (List.mem_of_getElem? (i := 596) rfl : .stringRef "GradientCoder$Reader" 44 "too many bits 0 come before a bit 1" ∈ lw_tbl)) hcRea, List.forall_mem_cons.mpr ⟨hstr "GradientCoder$Reading" "an error is out of its bounds" 111 (hts _ (List.mem_of_getElem? (i := 609) rfl : .stringRef "GradientCoder$Reading" 111 "an error is out of its bounds" ∈ lw_tbl)) hcRdg, List.forall_mem_cons.mpr ⟨hstr "GradientCoder$Reader" "the code is too short" 17 (hts _ (List.mem_of_getElem? (i := 742) rfl : .stringRef "GradientCoder$Reader" 17 "the code is too short" ∈ lw_tbl)) hcRea, List.forall_mem_cons.mpr ⟨hstr "GradientCoder$Reading" "the code does not begin with 255, 216" 33 (hts _ (List.mem_of_getElem? (i := 746) rfl : .stringRef "GradientCoder$Reading" 33 "the code does not begin with 255, 216" ∈ lw_tbl)) hcRdg, List.forall_mem_cons.mpr ⟨hstr "GradientCoder$Reading" "a number of the picture is out of its bounds" 44 (hts _ (List.mem_of_getElem? (i := 748) rfl : .stringRef "GradientCoder$Reading" 44 "a number of the picture is out of its bounds" ∈ lw_tbl)) hcRdg, List.forall_mem_cons.mpr ⟨hstr "GradientCoder$Reader" "a bit that is left is not 0" 50 (hts _ (List.mem_of_getElem? (i := 757) rfl : .stringRef "GradientCoder$Reader" 50 "a bit that is left is not 0" ∈ lw_tbl)) hcRea, List.forall_mem_cons.mpr ⟨hstr "GradientCoder$Reader" "the last byte is 255 and no 0 follows" 52 (hts _ (List.mem_of_getElem? (i := 758) rfl : .stringRef "GradientCoder$Reader" 52 "the last byte is 255 and no 0 follows" ∈ lw_tbl)) hcRea, List.forall_mem_cons.mpr ⟨hstr "GradientCoder$Reader" "the code does not end with 255, 217" 54 (hts _ (List.mem_of_getElem? (i := 759) rfl : .stringRef "GradientCoder$Reader" 54 "the code does not end with 255, 217" ∈ lw_tbl)) hcRea, (fun _ h => absurd h List.not_mem_nil)⟩⟩⟩⟩⟩⟩⟩⟩⟩⟩
set_option maxHeartbeats 4000000 in
set_option maxRecDepth 100000 in
theorem N_start {args : Array Value} {s : State} (hts : ∀ w ∈ lw_tbl, w.before args s = true) : Nt s := ⟨va_Nw.of rfl (hts _ (List.mem_of_getElem? (i := 76) rfl : .methodLinkNest "GradientCoder$Coding" 1 ⟨"GradientCoder$Pass", "<init>", "()V"⟩ "GradientCoder" ∈ lw_tbl)), va_Nw.of rfl (hts _ (List.mem_of_getElem? (i := 171) rfl : .methodLinkNest "GradientCoder$Pass" 18 ⟨"GradientCoder$Contexts", "<init>", "()V"⟩ "GradientCoder" ∈ lw_tbl)), va_Nw.of rfl (hts _ (List.mem_of_getElem? (i := 204) rfl : .methodLinkNest "GradientCoder$Coding" 17 ⟨"GradientCoder$Writer", "<init>", "()V"⟩ "GradientCoder" ∈ lw_tbl)), va_Nw.of rfl (hts _ (List.mem_of_getElem? (i := 297) rfl : .methodLinkNest "GradientCoder" 18 ⟨"GradientCoder$Reading", "<init>", "()V"⟩ "GradientCoder" ∈ lw_tbl)), va_Nw.of rfl (hts _ (List.mem_of_getElem? (i := 300) rfl : .methodLinkNest "GradientCoder$Reading" 1 ⟨"GradientCoder$Pass", "<init>", "()V"⟩ "GradientCoder" ∈ lw_tbl)), va_Nw.of rfl (hts _ (List.mem_of_getElem? (i := 303) rfl : .methodLinkNest "GradientCoder$Reading" 9 ⟨"GradientCoder$Reader", "<init>", "()V"⟩ "GradientCoder" ∈ lw_tbl))⟩
