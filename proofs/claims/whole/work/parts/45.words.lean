theorem m_754 : .code y_Grc_decode b_Grc_decode 1 (some .int) ∈ TS := TS_10_in _ (List.mem_of_getElem? (i := 58) rfl)
theorem m_755 : .methodLink R_Law 7 y_Grc_decode ∈ TS := TS_10_in _ (List.mem_of_getElem? (i := 55) rfl)
theorem m_756 : .instanceMethod y_Grc_decode ∈ TS := TS_10_in _ (List.mem_of_getElem? (i := 56) rfl)
theorem m_757 : .selects R_Grc y_Grc_decode y_Grc_decode ∈ TS := TS_10_in _ (List.mem_of_getElem? (i := 57) rfl)
theorem m_758 : .classLink R_Law 13 iae ∈ TS := TS_10_in _ (List.mem_of_getElem? (i := 54) rfl)
theorem g_136 : GoodIn TS (wsV R_Law 7 R_Grc y_Grc_decode (.code y_Grc_decode b_Grc_decode 1 (some .int) :: TS)) := gi_V TS_ok m_755 m_756 m_757 m_400 m_754
