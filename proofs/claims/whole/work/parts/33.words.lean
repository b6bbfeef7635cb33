def y_Rdg_limitOfEnd : MethodName := ⟨R_Rdg, "limitOfEnd", "()I"⟩
def y_Rdg_overAll : MethodName := ⟨R_Rdg, "overAll", "()V"⟩
theorem m_607 : .fieldLink R_Rea 9 "GradientCoder$Reader" "bytes" "[I" ∈ TS := TS_4_in _ (List.mem_of_getElem? (i := 41) rfl)
theorem m_608 : .methodLink R_Rea 22 arraycopyName ∈ TS := TS_11_in _ (List.mem_of_getElem? (i := 7) rfl)
theorem m_609 : .fieldLink R_Rea 28 "GradientCoder$Reader" "end" "I" ∈ TS := TS_4_in _ (List.mem_of_getElem? (i := 43) rfl)
theorem m_610 : .fieldLink R_Rea 32 "GradientCoder$Reader" "next" "I" ∈ TS := TS_4_in _ (List.mem_of_getElem? (i := 44) rfl)
theorem m_611 : .fieldLink R_Rea 35 "GradientCoder$Reader" "bitsLeft" "I" ∈ TS := TS_4_in _ (List.mem_of_getElem? (i := 45) rfl)
theorem m_612 : .classLink R_Rea 15 iae ∈ TS := TS_6_in _ (List.mem_of_getElem? (i := 43) rfl)
theorem m_613 : .instantiable iae 6 ∈ TS := TS_6_in _ (List.mem_of_getElem? (i := 44) rfl)
theorem m_614 : .initialized iae ∈ TS := TS_1_in _ (List.mem_of_getElem? (i := 14) rfl)
theorem m_615 : .methodLink R_Rea 19 (Bundle.initS iae) ∈ TS := TS_7_in _ (List.mem_of_getElem? (i := 12) rfl)
theorem m_616 : .code y_Rea_readBit b_Rea_readBit 2 (some .int) ∈ TS := TS_6_in _ (List.mem_of_getElem? (i := 42) rfl)
theorem m_617 : .methodLink R_Rea 40 y_Rea_readBit ∈ TS := TS_7_in _ (List.mem_of_getElem? (i := 38) rfl)
theorem m_618 : .instanceMethod y_Rea_readBit ∈ TS := TS_6_in _ (List.mem_of_getElem? (i := 40) rfl)
theorem m_619 : .selects R_Rea y_Rea_readBit y_Rea_readBit ∈ TS := TS_6_in _ (List.mem_of_getElem? (i := 41) rfl)
theorem m_620 : .initialized R_Rea ∈ TS := TS_1_in _ (List.mem_of_getElem? (i := 9) rfl)
theorem m_621 : .code y_Rea_readBits b_Rea_readBits 4 (some .int) ∈ TS := TS_7_in _ (List.mem_of_getElem? (i := 37) rfl)
theorem m_622 : .methodLink R_Rea 46 y_Rea_readBits ∈ TS := TS_8_in _ (List.mem_of_getElem? (i := 50) rfl)
theorem m_623 : .instanceMethod y_Rea_readBits ∈ TS := TS_7_in _ (List.mem_of_getElem? (i := 35) rfl)
theorem m_624 : .selects R_Rea y_Rea_readBits y_Rea_readBits ∈ TS := TS_7_in _ (List.mem_of_getElem? (i := 36) rfl)
theorem m_625 : .selects R_Rdg y_Pas_rebuiltOrNothing y_Pas_rebuiltOrNothing ∈ TS := TS_0_in _ (List.mem_of_getElem? (i := 3) rfl)
theorem m_626 : .fieldLink R_Rdg 10 "GradientCoder$Reading" "reader" "LGradientCoder$Reader;" ∈ TS := TS_4_in _ (List.mem_of_getElem? (i := 51) rfl)
theorem m_627 : .fieldLink R_Rdg 16 "GradientCoder$Writer" "bytes" "[I" ∈ TS := TS_3_in _ (List.mem_of_getElem? (i := 20) rfl)
theorem m_628 : .fieldLink R_Rdg 22 "GradientCoder$Writer" "size" "I" ∈ TS := TS_3_in _ (List.mem_of_getElem? (i := 23) rfl)
theorem m_629 : .code y_Rea_open b_Rea_open 3 none ∈ TS := TS_11_in _ (List.mem_of_getElem? (i := 6) rfl)
theorem m_630 : .methodLink R_Rdg 26 y_Rea_open ∈ TS := TS_11_in _ (List.mem_of_getElem? (i := 3) rfl)
theorem m_631 : .instanceMethod y_Rea_open ∈ TS := TS_11_in _ (List.mem_of_getElem? (i := 4) rfl)
theorem m_632 : .selects R_Rea y_Rea_open y_Rea_open ∈ TS := TS_11_in _ (List.mem_of_getElem? (i := 5) rfl)
theorem m_633 : .fieldLink R_Rdg 30 "GradientCoder$Reader" "bytes" "[I" ∈ TS := TS_4_in _ (List.mem_of_getElem? (i := 42) rfl)
theorem m_634 : .methodLink R_Rdg 38 y_Pic_fits ∈ TS := TS_11_in _ (List.mem_of_getElem? (i := 10) rfl)
theorem m_635 : .fieldLink R_Rdg 46 "GradientCoder$Reading" "picture" "LGradientCoder$Picture;" ∈ TS := TS_3_in _ (List.mem_of_getElem? (i := 46) rfl)
theorem m_636 : .methodLink R_Rdg 50 y_Pic_become ∈ TS := TS_11_in _ (List.mem_of_getElem? (i := 11) rfl)
theorem m_637 : .classLink R_Rdg 31 iae ∈ TS := TS_7_in _ (List.mem_of_getElem? (i := 39) rfl)
theorem m_638 : .methodLink R_Rdg 35 (Bundle.initS iae) ∈ TS := TS_7_in _ (List.mem_of_getElem? (i := 40) rfl)
theorem m_639 : .methodLink R_Rdg 74 y_Rea_readBits ∈ TS := TS_7_in _ (List.mem_of_getElem? (i := 34) rfl)
theorem m_640 : .fieldLink R_Rdg 54 "GradientCoder$Reading" "contexts" "LGradientCoder$Contexts;" ∈ TS := TS_3_in _ (List.mem_of_getElem? (i := 53) rfl)
theorem m_641 : .methodLink R_Rdg 58 y_Ctx_j ∈ TS := TS_6_in _ (List.mem_of_getElem? (i := 38) rfl)
theorem m_642 : .methodLink R_Rdg 64 y_Rea_readBit ∈ TS := TS_6_in _ (List.mem_of_getElem? (i := 39) rfl)
theorem m_643 : .methodLink R_Rdg 71 y_Ctx_raiseRunIndex ∈ TS := TS_7_in _ (List.mem_of_getElem? (i := 41) rfl)
theorem m_644 : .code y_Rdg_readRest b_Rdg_readRest 4 (some .int) ∈ TS := TS_7_in _ (List.mem_of_getElem? (i := 33) rfl)
theorem m_645 : .methodLink R_Rdg 67 y_Rdg_readRest ∈ TS := TS_7_in _ (List.mem_of_getElem? (i := 31) rfl)
theorem m_646 : .instanceMethod y_Rdg_readRest ∈ TS := TS_7_in _ (List.mem_of_getElem? (i := 32) rfl)
theorem m_647 : .selects R_Rdg y_Rdg_readRest y_Rdg_readRest ∈ TS := TS_0_in _ (List.mem_of_getElem? (i := 19) rfl)
theorem m_648 : .initialized R_Rdg ∈ TS := TS_1_in _ (List.mem_of_getElem? (i := 8) rfl)
theorem m_649 : .code y_Pic_isReduced b_Pic_isReduced 2 (some .boolean) ∈ TS := TS_9_in _ (List.mem_of_getElem? (i := 0) rfl)
theorem m_650 : .methodLink R_Rdg 107 y_Pic_isReduced ∈ TS := TS_8_in _ (List.mem_of_getElem? (i := 57) rfl)
theorem m_651 : .instanceMethod y_Pic_isReduced ∈ TS := TS_8_in _ (List.mem_of_getElem? (i := 58) rfl)
theorem m_652 : .selects R_Pic y_Pic_isReduced y_Pic_isReduced ∈ TS := TS_8_in _ (List.mem_of_getElem? (i := 59) rfl)
theorem m_653 : .fieldLink R_Rdg 113 "GradientCoder$Reading" "rebuilt" "[I" ∈ TS := TS_4_in _ (List.mem_of_getElem? (i := 2) rfl)
theorem m_654 : .fieldLink R_Rdg 116 "GradientCoder$Reading" "foretold" "I" ∈ TS := TS_4_in _ (List.mem_of_getElem? (i := 15) rfl)
theorem m_655 : .sameField "GradientCoder$Reading" "GradientCoder$Pass" "foretold" "I" ∈ TS := TS_4_in _ (List.mem_of_getElem? (i := 16) rfl)
theorem m_656 : .fieldLink R_Rdg 119 "GradientCoder$Reading" "sign" "I" ∈ TS := TS_4_in _ (List.mem_of_getElem? (i := 10) rfl)
theorem m_657 : .sameField "GradientCoder$Reading" "GradientCoder$Pass" "sign" "I" ∈ TS := TS_4_in _ (List.mem_of_getElem? (i := 11) rfl)
theorem m_658 : .fieldLink R_Rdg 122 "GradientCoder$Picture" "step" "I" ∈ TS := TS_2_in _ (List.mem_of_getElem? (i := 14) rfl)
theorem m_659 : .code y_Pic_unreduced b_Pic_unreduced 2 (some .int) ∈ TS := TS_9_in _ (List.mem_of_getElem? (i := 4) rfl)
theorem m_660 : .methodLink R_Rdg 125 y_Pic_unreduced ∈ TS := TS_9_in _ (List.mem_of_getElem? (i := 1) rfl)
theorem m_661 : .instanceMethod y_Pic_unreduced ∈ TS := TS_9_in _ (List.mem_of_getElem? (i := 2) rfl)
theorem m_662 : .selects R_Pic y_Pic_unreduced y_Pic_unreduced ∈ TS := TS_9_in _ (List.mem_of_getElem? (i := 3) rfl)
theorem m_663 : .methodLink R_Rdg 128 y_Pic_bounded ∈ TS := TS_9_in _ (List.mem_of_getElem? (i := 5) rfl)
theorem m_664 : .fieldLink R_Rdg 80 "GradientCoder$Picture" "limit" "I" ∈ TS := TS_2_in _ (List.mem_of_getElem? (i := 26) rfl)
theorem m_665 : .fieldLink R_Rdg 83 "GradientCoder$Picture" "qb" "I" ∈ TS := TS_2_in _ (List.mem_of_getElem? (i := 22) rfl)
theorem m_666 : .code y_Rea_readNumber b_Rea_readNumber 6 (some .int) ∈ TS := TS_8_in _ (List.mem_of_getElem? (i := 49) rfl)
theorem m_667 : .methodLink R_Rdg 86 y_Rea_readNumber ∈ TS := TS_8_in _ (List.mem_of_getElem? (i := 46) rfl)
theorem m_668 : .instanceMethod y_Rea_readNumber ∈ TS := TS_8_in _ (List.mem_of_getElem? (i := 47) rfl)
theorem m_669 : .selects R_Rea y_Rea_readNumber y_Rea_readNumber ∈ TS := TS_8_in _ (List.mem_of_getElem? (i := 48) rfl)
theorem m_670 : .code y_Fol_unfoldRegular b_Fol_unfoldRegular 3 (some .int) ∈ TS := TS_8_in _ (List.mem_of_getElem? (i := 53) rfl)
theorem m_671 : .methodLink R_Rdg 90 y_Fol_unfoldRegular ∈ TS := TS_8_in _ (List.mem_of_getElem? (i := 51) rfl)
theorem m_672 : .static y_Fol_unfoldRegular ∈ TS := TS_8_in _ (List.mem_of_getElem? (i := 52) rfl)
theorem m_673 : .code y_Rdg_rebuild b_Rdg_rebuild 3 none ∈ TS := TS_8_in _ (List.mem_of_getElem? (i := 56) rfl)
theorem m_674 : .methodLink R_Rdg 96 y_Rdg_rebuild ∈ TS := TS_8_in _ (List.mem_of_getElem? (i := 54) rfl)
theorem m_675 : .instanceMethod y_Rdg_rebuild ∈ TS := TS_8_in _ (List.mem_of_getElem? (i := 55) rfl)
theorem m_676 : .selects R_Rdg y_Rdg_rebuild y_Rdg_rebuild ∈ TS := TS_0_in _ (List.mem_of_getElem? (i := 22) rfl)
theorem m_677 : .methodLink R_Rdg 100 y_Rdg_limitOfEnd ∈ TS := TS_9_in _ (List.mem_of_getElem? (i := 47) rfl)
theorem m_678 : .sameMethod R_Rdg R_Pas "limitOfEnd" "()I" ∈ TS := TS_9_in _ (List.mem_of_getElem? (i := 48) rfl)
theorem m_679 : .selects R_Rdg y_Rdg_limitOfEnd y_Pas_limitOfEnd ∈ TS := TS_9_in _ (List.mem_of_getElem? (i := 49) rfl)
theorem m_680 : .code y_Fol_unfoldEnd b_Fol_unfoldEnd 5 (some .int) ∈ TS := TS_9_in _ (List.mem_of_getElem? (i := 52) rfl)
theorem m_681 : .methodLink R_Rdg 103 y_Fol_unfoldEnd ∈ TS := TS_9_in _ (List.mem_of_getElem? (i := 50) rfl)
theorem m_682 : .static y_Fol_unfoldEnd ∈ TS := TS_9_in _ (List.mem_of_getElem? (i := 51) rfl)
theorem m_683 : .code y_Rdg_carryRegular b_Rdg_carryRegular 6 (some .int) ∈ TS := TS_8_in _ (List.mem_of_getElem? (i := 45) rfl)
theorem m_684 : .selects R_Rdg y_Pas_carryRegular y_Rdg_carryRegular ∈ TS := TS_8_in _ (List.mem_of_getElem? (i := 43) rfl)
theorem m_685 : .instanceMethod y_Rdg_carryRegular ∈ TS := TS_8_in _ (List.mem_of_getElem? (i := 44) rfl)
theorem m_686 : .selects R_Rdg y_Pas_foretoldByNeighbours y_Pas_foretoldByNeighbours ∈ TS := TS_0_in _ (List.mem_of_getElem? (i := 11) rfl)
theorem m_687 : .selects R_Rdg y_Pas_signedContext y_Pas_signedContext ∈ TS := TS_0_in _ (List.mem_of_getElem? (i := 9) rfl)
theorem m_688 : .code y_Rdg_carryEnd b_Rdg_carryEnd 7 (some .int) ∈ TS := TS_9_in _ (List.mem_of_getElem? (i := 46) rfl)
theorem m_689 : .selects R_Rdg y_Pas_carryEnd y_Rdg_carryEnd ∈ TS := TS_9_in _ (List.mem_of_getElem? (i := 44) rfl)
theorem m_690 : .instanceMethod y_Rdg_carryEnd ∈ TS := TS_9_in _ (List.mem_of_getElem? (i := 45) rfl)
theorem m_691 : .selects R_Rdg y_Pas_overEnd y_Pas_overEnd ∈ TS := TS_0_in _ (List.mem_of_getElem? (i := 13) rfl)
theorem m_692 : .selects R_Rdg y_Pas_overRegular y_Pas_overRegular ∈ TS := TS_0_in _ (List.mem_of_getElem? (i := 7) rfl)
theorem m_693 : .selects R_Rdg y_Pas_lookAround y_Pas_lookAround ∈ TS := TS_0_in _ (List.mem_of_getElem? (i := 1) rfl)
theorem m_694 : .selects R_Rdg y_Pas_isEven y_Pas_isEven ∈ TS := TS_0_in _ (List.mem_of_getElem? (i := 5) rfl)
theorem m_695 : .code y_Rdg_carryRun b_Rdg_carryRun 5 (some .int) ∈ TS := TS_6_in _ (List.mem_of_getElem? (i := 37) rfl)
theorem m_696 : .selects R_Rdg y_Pas_carryRun y_Rdg_carryRun ∈ TS := TS_6_in _ (List.mem_of_getElem? (i := 35) rfl)
theorem m_697 : .instanceMethod y_Rdg_carryRun ∈ TS := TS_6_in _ (List.mem_of_getElem? (i := 36) rfl)
theorem m_698 : .fieldLink R_Grc 19 "GradientCoder" "reading" "LGradientCoder$Reading;" ∈ TS := TS_5_in _ (List.mem_of_getElem? (i := 5) rfl)
theorem m_699 : .code y_Rdg_readHead b_Rdg_readHead 3 none ∈ TS := TS_11_in _ (List.mem_of_getElem? (i := 2) rfl)
theorem m_700 : .methodLink R_Grc 71 y_Rdg_readHead ∈ TS := TS_10_in _ (List.mem_of_getElem? (i := 59) rfl)
theorem m_701 : .instanceMethod y_Rdg_readHead ∈ TS := TS_11_in _ (List.mem_of_getElem? (i := 0) rfl)
theorem m_702 : .selects R_Rdg y_Rdg_readHead y_Rdg_readHead ∈ TS := TS_11_in _ (List.mem_of_getElem? (i := 1) rfl)
theorem m_703 : .methodLink R_Grc 75 y_Rdg_overAll ∈ TS := TS_11_in _ (List.mem_of_getElem? (i := 12) rfl)
theorem m_704 : .sameMethod R_Rdg R_Pas "overAll" "()V" ∈ TS := TS_11_in _ (List.mem_of_getElem? (i := 13) rfl)
theorem m_705 : .selects R_Rdg y_Rdg_overAll y_Pas_overAll ∈ TS := TS_11_in _ (List.mem_of_getElem? (i := 14) rfl)
theorem m_706 : .fieldLink R_Grc 76 "GradientCoder$Reading" "reader" "LGradientCoder$Reader;" ∈ TS := TS_4_in _ (List.mem_of_getElem? (i := 52) rfl)
theorem m_707 : .code y_Rea_readEnd b_Rea_readEnd 1 none ∈ TS := TS_11_in _ (List.mem_of_getElem? (i := 18) rfl)
theorem m_708 : .methodLink R_Grc 80 y_Rea_readEnd ∈ TS := TS_11_in _ (List.mem_of_getElem? (i := 15) rfl)
theorem m_709 : .instanceMethod y_Rea_readEnd ∈ TS := TS_11_in _ (List.mem_of_getElem? (i := 16) rfl)
theorem m_710 : .selects R_Rea y_Rea_readEnd y_Rea_readEnd ∈ TS := TS_11_in _ (List.mem_of_getElem? (i := 17) rfl)
theorem m_711 : .code y_Cod_takeOver b_Cod_takeOver 3 none ∈ TS := TS_11_in _ (List.mem_of_getElem? (i := 22) rfl)
theorem m_712 : .methodLink R_Grc 85 y_Cod_takeOver ∈ TS := TS_11_in _ (List.mem_of_getElem? (i := 19) rfl)
theorem m_713 : .instanceMethod y_Cod_takeOver ∈ TS := TS_11_in _ (List.mem_of_getElem? (i := 20) rfl)
theorem m_714 : .selects R_Cod y_Cod_takeOver y_Cod_takeOver ∈ TS := TS_11_in _ (List.mem_of_getElem? (i := 21) rfl)
theorem g_103 : GoodIn TS (wsV R_Rea 40 R_Rea y_Rea_readBit (.code y_Rea_readBit b_Rea_readBit 2 (some .int) :: TS)) := gi_V TS_ok m_617 m_618 m_619 m_620 m_616
theorem g_104 : GoodIn TS (wsV R_Rea 46 R_Rea y_Rea_readBits (.code y_Rea_readBits b_Rea_readBits 4 (some .int) :: TS)) := gi_V TS_ok m_622 m_623 m_624 m_620 m_621
theorem g_105 : GoodIn TS (va_wsU R_Pas 65 R_Rdg R_Pas y_Pas_rebuiltOrNothing y_Pas_rebuiltOrNothing (.code y_Pas_rebuiltOrNothing b_Pas_rebuiltOrNothing 3 (some .int) :: TS)) := gi_U TS_ok m_169 m_170 m_625 m_172 m_173 m_168
theorem g_106 : GoodIn TS (wsV R_Rdg 26 R_Rea y_Rea_open (.code y_Rea_open b_Rea_open 3 none :: TS)) := gi_V TS_ok m_630 m_631 m_632 m_620 m_629
theorem g_107 : GoodIn TS (va_wsS R_Rdg 38 y_Pic_fits (.code y_Pic_fits b_Pic_fits 4 (some .boolean) :: TS)) := gi_S TS_ok m_634 m_372 m_81 m_370
theorem g_108 : GoodIn TS (wsV R_Rdg 50 R_Pic y_Pic_become (.code y_Pic_become b_Pic_become 6 none :: TS)) := gi_V TS_ok m_636 m_350 m_351 m_81 m_348
theorem g_109 : GoodIn TS (wsV R_Rdg 74 R_Rea y_Rea_readBits (.code y_Rea_readBits b_Rea_readBits 4 (some .int) :: TS)) := gi_V TS_ok m_639 m_623 m_624 m_620 m_621
theorem g_110 : GoodIn TS (wsV R_Rdg 58 R_Ctx y_Ctx_j (.code y_Ctx_j b_Ctx_j 1 (some .int) :: TS)) := gi_V TS_ok m_641 m_189 m_190 m_120 m_187
theorem g_111 : GoodIn TS (wsV R_Rdg 64 R_Rea y_Rea_readBit (.code y_Rea_readBit b_Rea_readBit 2 (some .int) :: TS)) := gi_V TS_ok m_642 m_618 m_619 m_620 m_616
theorem g_112 : GoodIn TS (wsV R_Rdg 71 R_Ctx y_Ctx_raiseRunIndex (.code y_Ctx_raiseRunIndex b_Ctx_raiseRunIndex 1 none :: TS)) := gi_V TS_ok m_643 m_220 m_221 m_120 m_218
theorem g_113 : GoodIn TS (wsV R_Rdg 67 R_Rdg y_Rdg_readRest (.code y_Rdg_readRest b_Rdg_readRest 4 (some .int) :: TS)) := gi_V TS_ok m_645 m_646 m_647 m_648 m_644
theorem g_114 : GoodIn TS (wsV R_Rdg 107 R_Pic y_Pic_isReduced (.code y_Pic_isReduced b_Pic_isReduced 2 (some .boolean) :: TS)) := gi_V TS_ok m_650 m_651 m_652 m_81 m_649
theorem g_115 : GoodIn TS (wsV R_Rdg 125 R_Pic y_Pic_unreduced (.code y_Pic_unreduced b_Pic_unreduced 2 (some .int) :: TS)) := gi_V TS_ok m_660 m_661 m_662 m_81 m_659
theorem g_116 : GoodIn TS (wsV R_Rdg 128 R_Pic y_Pic_bounded (.code y_Pic_bounded b_Pic_bounded 2 (some .int) :: TS)) := gi_V TS_ok m_663 m_207 m_208 m_81 m_205
theorem g_117 : GoodIn TS (wsV R_Rdg 86 R_Rea y_Rea_readNumber (.code y_Rea_readNumber b_Rea_readNumber 6 (some .int) :: TS)) := gi_V TS_ok m_667 m_668 m_669 m_620 m_666
theorem g_118 : GoodIn TS (va_wsS R_Rdg 90 y_Fol_unfoldRegular (.code y_Fol_unfoldRegular b_Fol_unfoldRegular 3 (some .int) :: TS)) := gi_S TS_ok m_671 m_672 m_233 m_670
theorem g_119 : GoodIn TS (wsV R_Rdg 96 R_Rdg y_Rdg_rebuild (.code y_Rdg_rebuild b_Rdg_rebuild 3 none :: TS)) := gi_V TS_ok m_674 m_675 m_676 m_648 m_673
theorem g_120 : GoodIn TS (va_wsU R_Rdg 100 R_Rdg R_Pas y_Rdg_limitOfEnd y_Pas_limitOfEnd (.code y_Pas_limitOfEnd b_Pas_limitOfEnd 1 (some .int) :: TS)) := gi_U TS_ok m_677 m_678 m_679 m_247 m_173 m_243
theorem g_121 : GoodIn TS (va_wsS R_Rdg 103 y_Fol_unfoldEnd (.code y_Fol_unfoldEnd b_Fol_unfoldEnd 5 (some .int) :: TS)) := gi_S TS_ok m_681 m_682 m_233 m_680
theorem g_122 : GoodIn TS (va_wsU R_Pas 114 R_Rdg R_Pas y_Pas_carryRegular y_Rdg_carryRegular (.code y_Rdg_carryRegular b_Rdg_carryRegular 6 (some .int) :: TS)) := gi_U TS_ok m_249 m_250 m_684 m_685 m_648 m_683
theorem g_123 : GoodIn TS (va_wsU R_Pas 94 R_Rdg R_Pas y_Pas_foretoldByNeighbours y_Pas_foretoldByNeighbours (.code y_Pas_foretoldByNeighbours b_Pas_foretoldByNeighbours 3 (some .int) :: TS)) := gi_U TS_ok m_261 m_262 m_686 m_264 m_173 m_260
theorem g_124 : GoodIn TS (va_wsU R_Pas 81 R_Rdg R_Pas y_Pas_signedContext y_Pas_signedContext (.code y_Pas_signedContext b_Pas_signedContext 1 (some .int) :: TS)) := gi_U TS_ok m_278 m_279 m_687 m_281 m_173 m_277
theorem g_125 : GoodIn TS (va_wsU R_Pas 140 R_Rdg R_Pas y_Pas_carryEnd y_Rdg_carryEnd (.code y_Rdg_carryEnd b_Rdg_carryEnd 7 (some .int) :: TS)) := gi_U TS_ok m_283 m_284 m_689 m_690 m_648 m_688
theorem g_126 : GoodIn TS (va_wsU R_Pas 62 R_Rdg R_Pas y_Pas_overEnd y_Pas_overEnd (.code y_Pas_overEnd b_Pas_overEnd 7 none :: TS)) := gi_U TS_ok m_305 m_306 m_691 m_308 m_173 m_304
theorem g_127 : GoodIn TS (va_wsU R_Pas 56 R_Rdg R_Pas y_Pas_overRegular y_Pas_overRegular (.code y_Pas_overRegular b_Pas_overRegular 7 none :: TS)) := gi_U TS_ok m_310 m_311 m_692 m_313 m_173 m_309
theorem g_128 : GoodIn TS (va_wsU R_Pas 45 R_Rdg R_Pas y_Pas_lookAround y_Pas_lookAround (.code y_Pas_lookAround b_Pas_lookAround 3 none :: TS)) := gi_U TS_ok m_315 m_316 m_693 m_318 m_173 m_314
theorem g_129 : GoodIn TS (va_wsU R_Pas 49 R_Rdg R_Pas y_Pas_isEven y_Pas_isEven (.code y_Pas_isEven b_Pas_isEven 1 (some .boolean) :: TS)) := gi_U TS_ok m_320 m_321 m_694 m_323 m_173 m_319
theorem g_130 : GoodIn TS (va_wsU R_Pas 53 R_Rdg R_Pas y_Pas_carryRun y_Rdg_carryRun (.code y_Rdg_carryRun b_Rdg_carryRun 5 (some .int) :: TS)) := gi_U TS_ok m_325 m_326 m_696 m_697 m_648 m_695
theorem g_131 : GoodIn TS (wsV R_Grc 71 R_Rdg y_Rdg_readHead (.code y_Rdg_readHead b_Rdg_readHead 3 none :: TS)) := gi_V TS_ok m_700 m_701 m_702 m_648 m_699
theorem g_132 : GoodIn TS (va_wsU R_Grc 75 R_Rdg R_Pas y_Rdg_overAll y_Pas_overAll (.code y_Pas_overAll b_Pas_overAll 6 none :: TS)) := gi_U TS_ok m_703 m_704 m_705 m_391 m_173 m_387
theorem g_133 : GoodIn TS (wsV R_Grc 80 R_Rea y_Rea_readEnd (.code y_Rea_readEnd b_Rea_readEnd 1 none :: TS)) := gi_V TS_ok m_708 m_709 m_710 m_620 m_707
theorem g_134 : GoodIn TS (wsV R_Grc 85 R_Cod y_Cod_takeOver (.code y_Cod_takeOver b_Cod_takeOver 3 none :: TS)) := gi_V TS_ok m_712 m_713 m_714 m_229 m_711
