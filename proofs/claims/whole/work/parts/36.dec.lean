def f_Grc_decode (u : gU) : Option (gU ⊕ (Int32 × gU)) := bd (f_Rdg_readHead (sb [13, 14, 15, 16, 17, 18, 19, 20, 21, 22, 23, 11, 12] u)) fun w1 => bx w1 (fun v2 => some (.inl (mg [13, 14, 15, 16, 17, 18, 19, 20, 21, 22, 23, 11, 12] 0 u v2))) fun w3 => tk (mg [13, 14, 15, 16, 17, 18, 19, 20, 21, 22, 23, 11, 12] 0 u w3) fun u4 => bd (f_Pas_overAll_R (sb [13, 14, 15, 16, 17, 18, 19, 20, 21, 22, 23] u4)) fun w5 => bx w5 (fun v6 => some (.inl (mg [13, 14, 15, 16, 17, 18, 19, 20, 21, 22, 23] 0 u4 v6))) fun w7 => tk (mg [13, 14, 15, 16, 17, 18, 19, 20, 21, 22, 23] 0 u4 w7) fun u8 => bd (f_Rea_readEnd (sb [22, 23] u8)) fun w9 => bx w9 (fun v10 => some (.inl (mg [22, 23] 0 u8 v10))) fun w11 => tk (mg [22, 23] 0 u8 w11) fun u12 => bd (f_Cod_takeOver (sb [1, 2, 3, 4, 5, 6, 7, 8, 9, 10, 11, 12, 13, 14, 15, 16, 17, 18, 19, 20, 21, 22, 23] u12)) fun w13 => tk (mg [1, 2, 3, 4, 5, 6, 7, 8, 9, 10, 11, 12, 13, 14, 15, 16, 17, 18, 19, 20, 21, 22, 23] 0 u12 w13) fun u14 => some (.inr ((u14 2 0) * (u14 2 1), u14))
set_option maxHeartbeats 4000000 in
set_option maxRecDepth 100000 in
theorem c_Grc_decode (l : Launch) (D : va_G) (cI : ClassId) (tJ : Nat) (q0 : Nat) (q1 : Nat) (q2 : Nat) (q3 : Nat) (q4 : Nat) (q5 : Nat) (q6 : Nat) (q7 : Nat) (q8 : Nat) (q9 : Nat) (q10 : Nat) (q11 : Nat) (q12 : Nat) (q13 : Nat) (q14 : Nat) (q15 : Nat) (q16 : Nat) (q17 : Nat) (q18 : Nat) (q19 : Nat) (q20 : Nat) (q21 : Nat) (q22 : Nat) (q23 : Nat) (hd : dj [q0, q1, q2, q3, q4, q5, q6, q7, q8, q9, q10, q11, q12, q13, q14, q15, q16, q17, q18, q19, q20, q21, q22, q23]) (u : gU) (r : Int32) (v : gU) (hf : f_Grc_decode u = some (.inr (r, v))) : Met l y_Grc_decode (.code y_Grc_decode b_Grc_decode 1 (some .int) :: TS) ({ frames := 6, cells := 0, slots := 0, locals := 146 }) (va_Pc [.ref q0] (fun U => va_P D cls (wGrc cI q0 q1 q2 q3 q4 q5 q6 q7 q8 q9 q10 q11 q12 q13 q14 q15 q16 q17 q18 q19 q20 q21 q22 q23 u) U.heap ∧ va_K D cls [(cI, .int)] U ∧ Jt tJ (ad [q0, q1, q2, q3, q4, q5, q6, q7, q8, q9, q10, q11, q12, q13, q14, q15, q16, q17, q18, q19, q20, q21, q22, q23]) U)) (va_Qi (fun x (_ : Unit) => x = r) (fun _ t => va_P D cls (wGrc cI q0 q1 q2 q3 q4 q5 q6 q7 q8 q9 q10 q11 q12 q13 q14 q15 q16 q17 q18 q19 q20 q21 q22 q23 v) t.heap) (ad [q0, q1, q2, q3, q4, q5, q6, q7, q8, q9, q10, q11, q12, q13, q14, q15, q16, q17, q18, q19, q20, q21, q22, q23])) 0 0 (ad [q0, q1, q2, q3, q4, q5, q6, q7, q8, q9, q10, q11, q12, q13, q14, q15, q16, q17, q18, q19, q20, q21, q22, q23]) := by
  refine ct_ofJ (by decide +kernel) (Nat.le_of_ble_eq_true rfl) ?_
  intro p e s m below meth c ls hx hb hml hr hlocks hown hw hP hK hJ hl
  have hS : va_S (ad [q0, q1, q2, q3, q4, q5, q6, q7, q8, q9, q10, q11, q12, q13, q14, q15, q16, q17, q18, q19, q20, q21, q22, q23]) s.heap s.heap [] := va_S.rf
  have hD : ∀ v, va_D (ad [q0, q1, q2, q3, q4, q5, q6, q7, q8, q9, q10, q11, q12, q13, q14, q15, q16, q17, q18, q19, q20, q21, q22, q23]) (wGrc cI q0 q1 q2 q3 q4 q5 q6 q7 q8 q9 q10 q11 q12 q13 q14 q15 q16 q17 q18 q19 q20 q21 q22 q23 v) := fun _ => dj_D rfl hd
  have hl : lv_has ls 1 [(0, .ref q0)] := hl
  have hP : va_P D cls (wGrc cI q0 q1 q2 q3 q4 q5 q6 q7 q8 q9 q10 q11 q12 q13 q14 q15 q16 q17 q18 q19 q20 q21 q22 q23 u) s.heap := hP
  unfold f_Grc_decode at hf
  refine lv_aload_n hx hb d_Grc_decode_0 rfl (lv_at hl 0 rfl) ?_
  refine va_get (D := D) (ci := 0) (v := .ref q13) (C := R_Grc) (T := F_Grc) (N := 2) hx hb hw in_Grc hown hK hP 0 rfl rfl 1 (by decide) (hw _ m_698) (fun _ h9 => h9) rfl d_Grc_decode_1 ?_
  refine lv_aload_n hx hb d_Grc_decode_4 rfl (lv_at hl 0 rfl) ?_
  refine va_get (D := D) (ci := 0) (v := .ref q1) (C := R_Grc) (T := F_Grc) (N := 2) hx hb hw in_Grc hown hK hP 0 rfl rfl 0 (by decide) (hw _ m_367) (fun _ h9 => h9) rfl d_Grc_decode_5 ?_
  refine va_get (D := D) (ci := 3) (v := .ref q11) (C := R_Cod) (T := F_Cod) (N := 11) hx hb hw in_Cod hown hK hP 1 rfl rfl 10 (by decide) (hw _ m_368) (fun _ h9 => h9) rfl d_Grc_decode_8 ?_
  have hC : [13, 14, 15, 16, 17, 18, 19, 20, 21, 22, 23, 11, 12].map (fun i => (wGrc cI q0 q1 q2 q3 q4 q5 q6 q7 q8 q9 q10 q11 q12 q13 q14 q15 q16 q17 q18 q19 q20 q21 q22 q23 u)[i]?) = (wRdgWri cI q13 q14 q15 q16 q17 q18 q19 q20 q21 q22 q23 q11 q12 (sb [13, 14, 15, 16, 17, 18, 19, 20, 21, 22, 23, 11, 12] u)).map some := rfl
  obtain ⟨w1, hc, hf⟩ := bd_o hf
  rcases w1 with v2 | w3
  · have hf := bx_l hf
    exact xo hf
  have hf := bx_r hf
  refine rw_v (va_runV (As := [.ref q11]) (rest := []) ⟨hx, hb, hml, hown, hw⟩ (c_Rdg_readHead l D cI q13 q14 q15 q16 q17 q18 q19 q20 q21 q22 q23 q11 q12 (dj_sub hd [13, 14, 15, 16, 17, 18, 19, 20, 21, 22, 23, 11, 12] (by decide) rfl) (sb [13, 14, 15, 16, 17, 18, 19, 20, 21, 22, 23, 11, 12] u) w3 hc) (cwV 1 hw g_131 rfl rfl rfl (by decide +kernel) ⟨Nat.le_of_ble_eq_true rfl, Nat.le_of_ble_eq_true rfl⟩) (pre_V (P_sub hC hP) hK rfl rfl) rfl rfl hl.1 rfl (lv_room (Nat.le_of_ble_eq_true rfl)) d_Grc_decode_11 ⟨Nat.le_of_ble_eq_true rfl, Nat.le_of_ble_eq_true rfl⟩) hS hP (hD _) hC rfl rfl (fun H locs hP hS => ?_)
  obtain ⟨u4, e_u4, hf⟩ := tk_o hf
  have hP : va_P D cls (wGrc cI q0 q1 q2 q3 q4 q5 q6 q7 q8 q9 q10 q11 q12 q13 q14 q15 q16 q17 q18 q19 q20 q21 q22 q23 u4) H := by rw [e_u4, ← rpl_Grc_RdgWri_0]; exact hP
  refine lv_aload_n hx hb d_Grc_decode_14 rfl (lv_at hl 0 rfl) ?_
  refine va_get (D := D) (ci := 0) (v := .ref q13) (C := R_Grc) (T := F_Grc) (N := 2) hx hb hw in_Grc hown hK hP 0 rfl rfl 1 (by decide) (hw _ m_698) (fun _ h9 => h9) rfl d_Grc_decode_15 ?_
  have hC : [13, 14, 15, 16, 17, 18, 19, 20, 21, 22, 23].map (fun i => (wGrc cI q0 q1 q2 q3 q4 q5 q6 q7 q8 q9 q10 q11 q12 q13 q14 q15 q16 q17 q18 q19 q20 q21 q22 q23 u4)[i]?) = (wRdg cI q13 q14 q15 q16 q17 q18 q19 q20 q21 q22 q23 (sb [13, 14, 15, 16, 17, 18, 19, 20, 21, 22, 23] u4)).map some := rfl
  obtain ⟨w5, hc, hf⟩ := bd_o hf
  rcases w5 with v6 | w7
  · have hf := bx_l hf
    exact xo hf
  have hf := bx_r hf
  refine rw_v (va_runU (As := []) (rest := []) ⟨hx, hb, hml, hown, hw⟩ (c_Pas_overAll_R l D cI tJ q13 q14 q15 q16 q17 q18 q19 q20 q21 q22 q23 (dj_sub hd [13, 14, 15, 16, 17, 18, 19, 20, 21, 22, 23] (by decide) rfl) (sb [13, 14, 15, 16, 17, 18, 19, 20, 21, 22, 23] u4) w7 hc) (va_cwU 0 hw g_132 rfl rfl rfl rfl (by decide +kernel) ⟨Nat.le_of_ble_eq_true rfl, Nat.le_of_ble_eq_true rfl⟩) (pre_VJ (P_sub hC hP) hK rfl rfl (Jt_call hJ hS (ad_sub [13, 14, 15, 16, 17, 18, 19, 20, 21, 22, 23] rfl))) rfl rfl hl.1 rfl (lv_room (Nat.le_of_ble_eq_true rfl)) d_Grc_decode_18 ⟨Nat.le_of_ble_eq_true rfl, Nat.le_of_ble_eq_true rfl⟩) hS hP (hD _) hC rfl rfl (fun H locs hP hS => ?_)
  obtain ⟨u8, e_u8, hf⟩ := tk_o hf
  have hP : va_P D cls (wGrc cI q0 q1 q2 q3 q4 q5 q6 q7 q8 q9 q10 q11 q12 q13 q14 q15 q16 q17 q18 q19 q20 q21 q22 q23 u8) H := by rw [e_u8, ← rpl_Grc_Rdg_1]; exact hP
  refine lv_aload_n hx hb d_Grc_decode_21 rfl (lv_at hl 0 rfl) ?_
  refine va_get (D := D) (ci := 0) (v := .ref q13) (C := R_Grc) (T := F_Grc) (N := 2) hx hb hw in_Grc hown hK hP 0 rfl rfl 1 (by decide) (hw _ m_698) (fun _ h9 => h9) rfl d_Grc_decode_22 ?_
  refine va_get (D := D) (ci := 4) (v := .ref q22) (C := R_Rdg) (T := F_Rdg) (N := 10) hx hb hw in_Rdg hown hK hP 13 rfl rfl 9 (by decide) (hw _ m_706) (fun _ h9 => h9) rfl d_Grc_decode_25 ?_
  have hC : [22, 23].map (fun i => (wGrc cI q0 q1 q2 q3 q4 q5 q6 q7 q8 q9 q10 q11 q12 q13 q14 q15 q16 q17 q18 q19 q20 q21 q22 q23 u8)[i]?) = (wRea cI q22 q23 (sb [22, 23] u8)).map some := rfl
  obtain ⟨w9, hc, hf⟩ := bd_o hf
  rcases w9 with v10 | w11
  · have hf := bx_l hf
    exact xo hf
  have hf := bx_r hf
  refine rw_v (va_runV (As := []) (rest := []) ⟨hx, hb, hml, hown, hw⟩ (c_Rea_readEnd l D cI q22 q23 (dj_sub hd [22, 23] (by decide) rfl) (sb [22, 23] u8) w11 hc) (cwV 0 hw g_133 rfl rfl rfl (by decide +kernel) ⟨Nat.le_of_ble_eq_true rfl, Nat.le_of_ble_eq_true rfl⟩) (pre_V (P_sub hC hP) hK rfl rfl) rfl rfl hl.1 rfl (lv_room (Nat.le_of_ble_eq_true rfl)) d_Grc_decode_28 ⟨Nat.le_of_ble_eq_true rfl, Nat.le_of_ble_eq_true rfl⟩) hS hP (hD _) hC rfl rfl (fun H locs hP hS => ?_)
  obtain ⟨u12, e_u12, hf⟩ := tk_o hf
  have hP : va_P D cls (wGrc cI q0 q1 q2 q3 q4 q5 q6 q7 q8 q9 q10 q11 q12 q13 q14 q15 q16 q17 q18 q19 q20 q21 q22 q23 u12) H := by rw [e_u12]; exact hP
  refine lv_aload_n hx hb d_Grc_decode_31 rfl (lv_at hl 0 rfl) ?_
  refine va_get (D := D) (ci := 0) (v := .ref q1) (C := R_Grc) (T := F_Grc) (N := 2) hx hb hw in_Grc hown hK hP 0 rfl rfl 0 (by decide) (hw _ m_367) (fun _ h9 => h9) rfl d_Grc_decode_32 ?_
  refine lv_aload_n hx hb d_Grc_decode_35 rfl (lv_at hl 0 rfl) ?_
  refine va_get (D := D) (ci := 0) (v := .ref q13) (C := R_Grc) (T := F_Grc) (N := 2) hx hb hw in_Grc hown hK hP 0 rfl rfl 1 (by decide) (hw _ m_698) (fun _ h9 => h9) rfl d_Grc_decode_36 ?_
  have hC : [1, 2, 3, 4, 5, 6, 7, 8, 9, 10, 11, 12, 13, 14, 15, 16, 17, 18, 19, 20, 21, 22, 23].map (fun i => (wGrc cI q0 q1 q2 q3 q4 q5 q6 q7 q8 q9 q10 q11 q12 q13 q14 q15 q16 q17 q18 q19 q20 q21 q22 q23 u12)[i]?) = (wCodRdg cI q1 q2 q3 q4 q5 q6 q7 q8 q9 q10 q11 q12 q13 q14 q15 q16 q17 q18 q19 q20 q21 q22 q23 (sb [1, 2, 3, 4, 5, 6, 7, 8, 9, 10, 11, 12, 13, 14, 15, 16, 17, 18, 19, 20, 21, 22, 23] u12)).map some := rfl
  obtain ⟨w13, hc, hf⟩ := bd_o hf
  refine rw_v (va_runV (As := [.ref q13]) (rest := []) ⟨hx, hb, hml, hown, hw⟩ (c_Cod_takeOver l D cI q1 q2 q3 q4 q5 q6 q7 q8 q9 q10 q11 q12 q13 q14 q15 q16 q17 q18 q19 q20 q21 q22 q23 (dj_sub hd [1, 2, 3, 4, 5, 6, 7, 8, 9, 10, 11, 12, 13, 14, 15, 16, 17, 18, 19, 20, 21, 22, 23] (by decide) rfl) (sb [1, 2, 3, 4, 5, 6, 7, 8, 9, 10, 11, 12, 13, 14, 15, 16, 17, 18, 19, 20, 21, 22, 23] u12) w13 hc) (cwV 1 hw g_134 rfl rfl rfl (by decide +kernel) ⟨Nat.le_of_ble_eq_true rfl, Nat.le_of_ble_eq_true rfl⟩) (pre_V (P_sub hC hP) hK rfl rfl) rfl rfl hl.1 rfl (lv_room (Nat.le_of_ble_eq_true rfl)) d_Grc_decode_39 ⟨Nat.le_of_ble_eq_true rfl, Nat.le_of_ble_eq_true rfl⟩) hS hP (hD _) hC rfl rfl (fun H locs hP hS => ?_)
  obtain ⟨u14, e_u14, hf⟩ := tk_o hf
  have hP : va_P D cls (wGrc cI q0 q1 q2 q3 q4 q5 q6 q7 q8 q9 q10 q11 q12 q13 q14 q15 q16 q17 q18 q19 q20 q21 q22 q23 u14) H := by rw [e_u14, ← rpl_Grc_CodRdg_2]; exact hP
  refine lv_aload_n hx hb d_Grc_decode_42 rfl (lv_at hl 0 rfl) ?_
  refine va_get (D := D) (ci := 0) (v := .ref q1) (C := R_Grc) (T := F_Grc) (N := 2) hx hb hw in_Grc hown hK hP 0 rfl rfl 0 (by decide) (hw _ m_367) (fun _ h9 => h9) rfl d_Grc_decode_43 ?_
  refine va_get (D := D) (ci := 3) (v := .ref q2) (C := R_Cod) (T := F_Cod) (N := 11) hx hb hw in_Cod hown hK hP 1 rfl rfl 0 (by decide) (hw _ m_377) (fun x9 h9 => u_same (hw _ m_192) x9 h9) rfl d_Grc_decode_46 ?_
  refine va_get (D := D) (ci := 1) (v := .int (u14 2 0)) (C := R_Pic) (T := F_Pic) (N := 11) hx hb hw in_Pic hown hK hP 2 rfl rfl 0 (by decide) (hw _ m_402) (fun _ h9 => h9) rfl d_Grc_decode_49 ?_
  refine lv_aload_n hx hb d_Grc_decode_52 rfl (lv_at hl 0 rfl) ?_
  refine va_get (D := D) (ci := 0) (v := .ref q1) (C := R_Grc) (T := F_Grc) (N := 2) hx hb hw in_Grc hown hK hP 0 rfl rfl 0 (by decide) (hw _ m_367) (fun _ h9 => h9) rfl d_Grc_decode_53 ?_
  refine va_get (D := D) (ci := 3) (v := .ref q2) (C := R_Cod) (T := F_Cod) (N := 11) hx hb hw in_Cod hown hK hP 1 rfl rfl 0 (by decide) (hw _ m_377) (fun x9 h9 => u_same (hw _ m_192) x9 h9) rfl d_Grc_decode_56 ?_
  refine va_get (D := D) (ci := 1) (v := .int (u14 2 1)) (C := R_Pic) (T := F_Pic) (N := 11) hx hb hw in_Pic hown hK hP 2 rfl rfl 1 (by decide) (hw _ m_378) (fun _ h9 => h9) rfl d_Grc_decode_59 ?_
  refine lv_imul hx hb d_Grc_decode_62 ?_
  exact rt_i (wGrc cI q0 q1 q2 q3 q4 q5 q6 q7 q8 q9 q10 q11 q12 q13 q14 q15 q16 q17 q18 q19 q20 q21 q22 q23) hx hb hr hlocks hS hP (sr hf) d_Grc_decode_63
set_option maxHeartbeats 4000000 in
set_option maxRecDepth 100000 in
theorem x_Grc_decode (l : Launch) (hfl : l.flags = pinnedFlags ++ [noTraceFlag]) (D : va_G) (cI : ClassId) (tJ : Nat) (q0 : Nat) (q1 : Nat) (q2 : Nat) (q3 : Nat) (q4 : Nat) (q5 : Nat) (q6 : Nat) (q7 : Nat) (q8 : Nat) (q9 : Nat) (q10 : Nat) (q11 : Nat) (q12 : Nat) (q13 : Nat) (q14 : Nat) (q15 : Nat) (q16 : Nat) (q17 : Nat) (q18 : Nat) (q19 : Nat) (q20 : Nat) (q21 : Nat) (q22 : Nat) (q23 : Nat) (hd : dj [q0, q1, q2, q3, q4, q5, q6, q7, q8, q9, q10, q11, q12, q13, q14, q15, q16, q17, q18, q19, q20, q21, q22, q23]) (u : gU) (v : gU) (hf : f_Grc_decode u = some (.inl v)) : MetX l y_Grc_decode (.code y_Grc_decode b_Grc_decode 1 (some .int) :: TS) ({ frames := 12, cells := 1, slots := 6, locals := 254 }) (va_Pc [.ref q0] (fun U => va_P D cls (wGrc cI q0 q1 q2 q3 q4 q5 q6 q7 q8 q9 q10 q11 q12 q13 q14 q15 q16 q17 q18 q19 q20 q21 q22 q23 u) U.heap ∧ va_K D cls [(cI, .int)] U ∧ Jt tJ (ad [q0, q1, q2, q3, q4, q5, q6, q7, q8, q9, q10, q11, q12, q13, q14, q15, q16, q17, q18, q19, q20, q21, q22, q23]) U ∧ Xt (ad [q0, q1, q2, q3, q4, q5, q6, q7, q8, q9, q10, q11, q12, q13, q14, q15, q16, q17, q18, q19, q20, q21, q22, q23]) U)) D cls (wGrc cI q0 q1 q2 q3 q4 q5 q6 q7 q8 q9 q10 q11 q12 q13 q14 q15 q16 q17 q18 q19 q20 q21 q22 q23 v) (ad [q0, q1, q2, q3, q4, q5, q6, q7, q8, q9, q10, q11, q12, q13, q14, q15, q16, q17, q18, q19, q20, q21, q22, q23]) := by
  refine ct_ofX hfl (by decide +kernel) (Nat.le_of_ble_eq_true rfl) ?_
  intro p e s m below meth c ls hx hb hml hr hlocks hown hw hP hK hJ hl hX htr hout
  have hS : va_S (ad [q0, q1, q2, q3, q4, q5, q6, q7, q8, q9, q10, q11, q12, q13, q14, q15, q16, q17, q18, q19, q20, q21, q22, q23]) s.heap s.heap [] := va_S.rf
  have hD : ∀ v, va_D (ad [q0, q1, q2, q3, q4, q5, q6, q7, q8, q9, q10, q11, q12, q13, q14, q15, q16, q17, q18, q19, q20, q21, q22, q23]) (wGrc cI q0 q1 q2 q3 q4 q5 q6 q7 q8 q9 q10 q11 q12 q13 q14 q15 q16 q17 q18 q19 q20 q21 q22 q23 v) := fun _ => dj_D rfl hd
  have hl : lv_has ls 1 [(0, .ref q0)] := hl
  have hP : va_P D cls (wGrc cI q0 q1 q2 q3 q4 q5 q6 q7 q8 q9 q10 q11 q12 q13 q14 q15 q16 q17 q18 q19 q20 q21 q22 q23 u) s.heap := hP
  unfold f_Grc_decode at hf
  refine lv_aload_n hx hb d_Grc_decode_0 rfl (lv_at hl 0 rfl) ?_
  refine va_get (D := D) (ci := 0) (v := .ref q13) (C := R_Grc) (T := F_Grc) (N := 2) hx hb hw in_Grc hown hK hP 0 rfl rfl 1 (by decide) (hw _ m_698) (fun _ h9 => h9) rfl d_Grc_decode_1 ?_
  refine lv_aload_n hx hb d_Grc_decode_4 rfl (lv_at hl 0 rfl) ?_
  refine va_get (D := D) (ci := 0) (v := .ref q1) (C := R_Grc) (T := F_Grc) (N := 2) hx hb hw in_Grc hown hK hP 0 rfl rfl 0 (by decide) (hw _ m_367) (fun _ h9 => h9) rfl d_Grc_decode_5 ?_
  refine va_get (D := D) (ci := 3) (v := .ref q11) (C := R_Cod) (T := F_Cod) (N := 11) hx hb hw in_Cod hown hK hP 1 rfl rfl 10 (by decide) (hw _ m_368) (fun _ h9 => h9) rfl d_Grc_decode_8 ?_
  have hC : [13, 14, 15, 16, 17, 18, 19, 20, 21, 22, 23, 11, 12].map (fun i => (wGrc cI q0 q1 q2 q3 q4 q5 q6 q7 q8 q9 q10 q11 q12 q13 q14 q15 q16 q17 q18 q19 q20 q21 q22 q23 u)[i]?) = (wRdgWri cI q13 q14 q15 q16 q17 q18 q19 q20 q21 q22 q23 q11 q12 (sb [13, 14, 15, 16, 17, 18, 19, 20, 21, 22, 23, 11, 12] u)).map some := rfl
  obtain ⟨w1, hc, hf⟩ := bd_o hf
  rcases w1 with v2 | w3
  · have hf := bx_l hf
    exact thr_V (As := [.ref q11]) (rest := []) ⟨hx, hb, hml, hown, hw⟩ (x_Rdg_readHead l hfl D cI tJ q13 q14 q15 q16 q17 q18 q19 q20 q21 q22 q23 q11 q12 (dj_sub hd [13, 14, 15, 16, 17, 18, 19, 20, 21, 22, 23, 11, 12] (by decide) rfl) (sb [13, 14, 15, 16, 17, 18, 19, 20, 21, 22, 23, 11, 12] u) v2 hc) (cwV 1 hw g_131 rfl rfl rfl (by decide +kernel) ⟨Nat.le_of_ble_eq_true rfl, Nat.le_of_ble_eq_true rfl⟩) (pre_VX (P_sub hC hP) hK rfl rfl hJ hX hS (ad_sub [13, 14, 15, 16, 17, 18, 19, 20, 21, 22, 23, 11, 12] rfl)) rfl hl.1 (Nat.le_of_ble_eq_true rfl) d_Grc_decode_11 ⟨Nat.le_of_ble_eq_true rfl, Nat.le_of_ble_eq_true rfl⟩ hlocks hout hS hP (hD _) hC rfl rfl (eq_tr (f := wGrc cI q0 q1 q2 q3 q4 q5 q6 q7 q8 q9 q10 q11 q12 q13 q14 q15 q16 q17 q18 q19 q20 q21 q22 q23) (sl hf) (rpl_Grc_RdgWri_0 ..))
  have hf := bx_r hf
  refine rw_v (va_runV (As := [.ref q11]) (rest := []) ⟨hx, hb, hml, hown, hw⟩ (c_Rdg_readHead l D cI q13 q14 q15 q16 q17 q18 q19 q20 q21 q22 q23 q11 q12 (dj_sub hd [13, 14, 15, 16, 17, 18, 19, 20, 21, 22, 23, 11, 12] (by decide) rfl) (sb [13, 14, 15, 16, 17, 18, 19, 20, 21, 22, 23, 11, 12] u) w3 hc) (cwV 1 hw g_131 rfl rfl rfl (by decide +kernel) ⟨Nat.le_of_ble_eq_true rfl, Nat.le_of_ble_eq_true rfl⟩) (pre_V (P_sub hC hP) hK rfl rfl) rfl rfl hl.1 rfl (lv_room (Nat.le_of_ble_eq_true rfl)) d_Grc_decode_11 ⟨Nat.le_of_ble_eq_true rfl, Nat.le_of_ble_eq_true rfl⟩) hS hP (hD _) hC rfl rfl (fun H locs hP hS => ?_)
  obtain ⟨u4, e_u4, hf⟩ := tk_o hf
  have hP : va_P D cls (wGrc cI q0 q1 q2 q3 q4 q5 q6 q7 q8 q9 q10 q11 q12 q13 q14 q15 q16 q17 q18 q19 q20 q21 q22 q23 u4) H := by rw [e_u4, ← rpl_Grc_RdgWri_0]; exact hP
  refine lv_aload_n hx hb d_Grc_decode_14 rfl (lv_at hl 0 rfl) ?_
  refine va_get (D := D) (ci := 0) (v := .ref q13) (C := R_Grc) (T := F_Grc) (N := 2) hx hb hw in_Grc hown hK hP 0 rfl rfl 1 (by decide) (hw _ m_698) (fun _ h9 => h9) rfl d_Grc_decode_15 ?_
  have hC : [13, 14, 15, 16, 17, 18, 19, 20, 21, 22, 23].map (fun i => (wGrc cI q0 q1 q2 q3 q4 q5 q6 q7 q8 q9 q10 q11 q12 q13 q14 q15 q16 q17 q18 q19 q20 q21 q22 q23 u4)[i]?) = (wRdg cI q13 q14 q15 q16 q17 q18 q19 q20 q21 q22 q23 (sb [13, 14, 15, 16, 17, 18, 19, 20, 21, 22, 23] u4)).map some := rfl
  obtain ⟨w5, hc, hf⟩ := bd_o hf
  rcases w5 with v6 | w7
  · have hf := bx_l hf
    exact thr_U (As := []) (rest := []) ⟨hx, hb, hml, hown, hw⟩ (x_Pas_overAll_R l hfl D cI tJ q13 q14 q15 q16 q17 q18 q19 q20 q21 q22 q23 (dj_sub hd [13, 14, 15, 16, 17, 18, 19, 20, 21, 22, 23] (by decide) rfl) (sb [13, 14, 15, 16, 17, 18, 19, 20, 21, 22, 23] u4) v6 hc) (va_cwU 0 hw g_132 rfl rfl rfl rfl (by decide +kernel) ⟨Nat.le_of_ble_eq_true rfl, Nat.le_of_ble_eq_true rfl⟩) (pre_VX (P_sub hC hP) hK rfl rfl hJ hX hS (ad_sub [13, 14, 15, 16, 17, 18, 19, 20, 21, 22, 23] rfl)) rfl hl.1 (Nat.le_of_ble_eq_true rfl) d_Grc_decode_18 ⟨Nat.le_of_ble_eq_true rfl, Nat.le_of_ble_eq_true rfl⟩ hlocks hout hS hP (hD _) hC rfl rfl (eq_tr (f := wGrc cI q0 q1 q2 q3 q4 q5 q6 q7 q8 q9 q10 q11 q12 q13 q14 q15 q16 q17 q18 q19 q20 q21 q22 q23) (sl hf) (rpl_Grc_Rdg_1 ..))
  have hf := bx_r hf
  refine rw_v (va_runU (As := []) (rest := []) ⟨hx, hb, hml, hown, hw⟩ (c_Pas_overAll_R l D cI tJ q13 q14 q15 q16 q17 q18 q19 q20 q21 q22 q23 (dj_sub hd [13, 14, 15, 16, 17, 18, 19, 20, 21, 22, 23] (by decide) rfl) (sb [13, 14, 15, 16, 17, 18, 19, 20, 21, 22, 23] u4) w7 hc) (va_cwU 0 hw g_132 rfl rfl rfl rfl (by decide +kernel) ⟨Nat.le_of_ble_eq_true rfl, Nat.le_of_ble_eq_true rfl⟩) (pre_VJ (P_sub hC hP) hK rfl rfl (Jt_call hJ hS (ad_sub [13, 14, 15, 16, 17, 18, 19, 20, 21, 22, 23] rfl))) rfl rfl hl.1 rfl (lv_room (Nat.le_of_ble_eq_true rfl)) d_Grc_decode_18 ⟨Nat.le_of_ble_eq_true rfl, Nat.le_of_ble_eq_true rfl⟩) hS hP (hD _) hC rfl rfl (fun H locs hP hS => ?_)
  obtain ⟨u8, e_u8, hf⟩ := tk_o hf
  have hP : va_P D cls (wGrc cI q0 q1 q2 q3 q4 q5 q6 q7 q8 q9 q10 q11 q12 q13 q14 q15 q16 q17 q18 q19 q20 q21 q22 q23 u8) H := by rw [e_u8, ← rpl_Grc_Rdg_1]; exact hP
  refine lv_aload_n hx hb d_Grc_decode_21 rfl (lv_at hl 0 rfl) ?_
  refine va_get (D := D) (ci := 0) (v := .ref q13) (C := R_Grc) (T := F_Grc) (N := 2) hx hb hw in_Grc hown hK hP 0 rfl rfl 1 (by decide) (hw _ m_698) (fun _ h9 => h9) rfl d_Grc_decode_22 ?_
  refine va_get (D := D) (ci := 4) (v := .ref q22) (C := R_Rdg) (T := F_Rdg) (N := 10) hx hb hw in_Rdg hown hK hP 13 rfl rfl 9 (by decide) (hw _ m_706) (fun _ h9 => h9) rfl d_Grc_decode_25 ?_
  have hC : [22, 23].map (fun i => (wGrc cI q0 q1 q2 q3 q4 q5 q6 q7 q8 q9 q10 q11 q12 q13 q14 q15 q16 q17 q18 q19 q20 q21 q22 q23 u8)[i]?) = (wRea cI q22 q23 (sb [22, 23] u8)).map some := rfl
  obtain ⟨w9, hc, hf⟩ := bd_o hf
  rcases w9 with v10 | w11
  · have hf := bx_l hf
    exact thr_V (As := []) (rest := []) ⟨hx, hb, hml, hown, hw⟩ (x_Rea_readEnd l hfl D cI tJ q22 q23 (dj_sub hd [22, 23] (by decide) rfl) (sb [22, 23] u8) v10 hc) (cwV 0 hw g_133 rfl rfl rfl (by decide +kernel) ⟨Nat.le_of_ble_eq_true rfl, Nat.le_of_ble_eq_true rfl⟩) (pre_VX (P_sub hC hP) hK rfl rfl hJ hX hS (ad_sub [22, 23] rfl)) rfl hl.1 (Nat.le_of_ble_eq_true rfl) d_Grc_decode_28 ⟨Nat.le_of_ble_eq_true rfl, Nat.le_of_ble_eq_true rfl⟩ hlocks hout hS hP (hD _) hC rfl rfl (eq_tr (f := wGrc cI q0 q1 q2 q3 q4 q5 q6 q7 q8 q9 q10 q11 q12 q13 q14 q15 q16 q17 q18 q19 q20 q21 q22 q23) (sl hf) rfl)
  have hf := bx_r hf
  refine rw_v (va_runV (As := []) (rest := []) ⟨hx, hb, hml, hown, hw⟩ (c_Rea_readEnd l D cI q22 q23 (dj_sub hd [22, 23] (by decide) rfl) (sb [22, 23] u8) w11 hc) (cwV 0 hw g_133 rfl rfl rfl (by decide +kernel) ⟨Nat.le_of_ble_eq_true rfl, Nat.le_of_ble_eq_true rfl⟩) (pre_V (P_sub hC hP) hK rfl rfl) rfl rfl hl.1 rfl (lv_room (Nat.le_of_ble_eq_true rfl)) d_Grc_decode_28 ⟨Nat.le_of_ble_eq_true rfl, Nat.le_of_ble_eq_true rfl⟩) hS hP (hD _) hC rfl rfl (fun H locs hP hS => ?_)
  obtain ⟨u12, e_u12, hf⟩ := tk_o hf
  have hP : va_P D cls (wGrc cI q0 q1 q2 q3 q4 q5 q6 q7 q8 q9 q10 q11 q12 q13 q14 q15 q16 q17 q18 q19 q20 q21 q22 q23 u12) H := by rw [e_u12]; exact hP
  refine lv_aload_n hx hb d_Grc_decode_31 rfl (lv_at hl 0 rfl) ?_
  refine va_get (D := D) (ci := 0) (v := .ref q1) (C := R_Grc) (T := F_Grc) (N := 2) hx hb hw in_Grc hown hK hP 0 rfl rfl 0 (by decide) (hw _ m_367) (fun _ h9 => h9) rfl d_Grc_decode_32 ?_
  refine lv_aload_n hx hb d_Grc_decode_35 rfl (lv_at hl 0 rfl) ?_
  refine va_get (D := D) (ci := 0) (v := .ref q13) (C := R_Grc) (T := F_Grc) (N := 2) hx hb hw in_Grc hown hK hP 0 rfl rfl 1 (by decide) (hw _ m_698) (fun _ h9 => h9) rfl d_Grc_decode_36 ?_
  have hC : [1, 2, 3, 4, 5, 6, 7, 8, 9, 10, 11, 12, 13, 14, 15, 16, 17, 18, 19, 20, 21, 22, 23].map (fun i => (wGrc cI q0 q1 q2 q3 q4 q5 q6 q7 q8 q9 q10 q11 q12 q13 q14 q15 q16 q17 q18 q19 q20 q21 q22 q23 u12)[i]?) = (wCodRdg cI q1 q2 q3 q4 q5 q6 q7 q8 q9 q10 q11 q12 q13 q14 q15 q16 q17 q18 q19 q20 q21 q22 q23 (sb [1, 2, 3, 4, 5, 6, 7, 8, 9, 10, 11, 12, 13, 14, 15, 16, 17, 18, 19, 20, 21, 22, 23] u12)).map some := rfl
  obtain ⟨w13, hc, hf⟩ := bd_o hf
  refine rw_v (va_runV (As := [.ref q13]) (rest := []) ⟨hx, hb, hml, hown, hw⟩ (c_Cod_takeOver l D cI q1 q2 q3 q4 q5 q6 q7 q8 q9 q10 q11 q12 q13 q14 q15 q16 q17 q18 q19 q20 q21 q22 q23 (dj_sub hd [1, 2, 3, 4, 5, 6, 7, 8, 9, 10, 11, 12, 13, 14, 15, 16, 17, 18, 19, 20, 21, 22, 23] (by decide) rfl) (sb [1, 2, 3, 4, 5, 6, 7, 8, 9, 10, 11, 12, 13, 14, 15, 16, 17, 18, 19, 20, 21, 22, 23] u12) w13 hc) (cwV 1 hw g_134 rfl rfl rfl (by decide +kernel) ⟨Nat.le_of_ble_eq_true rfl, Nat.le_of_ble_eq_true rfl⟩) (pre_V (P_sub hC hP) hK rfl rfl) rfl rfl hl.1 rfl (lv_room (Nat.le_of_ble_eq_true rfl)) d_Grc_decode_39 ⟨Nat.le_of_ble_eq_true rfl, Nat.le_of_ble_eq_true rfl⟩) hS hP (hD _) hC rfl rfl (fun H locs hP hS => ?_)
  obtain ⟨u14, e_u14, hf⟩ := tk_o hf
  have hP : va_P D cls (wGrc cI q0 q1 q2 q3 q4 q5 q6 q7 q8 q9 q10 q11 q12 q13 q14 q15 q16 q17 q18 q19 q20 q21 q22 q23 u14) H := by rw [e_u14, ← rpl_Grc_CodRdg_2]; exact hP
  refine lv_aload_n hx hb d_Grc_decode_42 rfl (lv_at hl 0 rfl) ?_
  refine va_get (D := D) (ci := 0) (v := .ref q1) (C := R_Grc) (T := F_Grc) (N := 2) hx hb hw in_Grc hown hK hP 0 rfl rfl 0 (by decide) (hw _ m_367) (fun _ h9 => h9) rfl d_Grc_decode_43 ?_
  refine va_get (D := D) (ci := 3) (v := .ref q2) (C := R_Cod) (T := F_Cod) (N := 11) hx hb hw in_Cod hown hK hP 1 rfl rfl 0 (by decide) (hw _ m_377) (fun x9 h9 => u_same (hw _ m_192) x9 h9) rfl d_Grc_decode_46 ?_
  refine va_get (D := D) (ci := 1) (v := .int (u14 2 0)) (C := R_Pic) (T := F_Pic) (N := 11) hx hb hw in_Pic hown hK hP 2 rfl rfl 0 (by decide) (hw _ m_402) (fun _ h9 => h9) rfl d_Grc_decode_49 ?_
  refine lv_aload_n hx hb d_Grc_decode_52 rfl (lv_at hl 0 rfl) ?_
  refine va_get (D := D) (ci := 0) (v := .ref q1) (C := R_Grc) (T := F_Grc) (N := 2) hx hb hw in_Grc hown hK hP 0 rfl rfl 0 (by decide) (hw _ m_367) (fun _ h9 => h9) rfl d_Grc_decode_53 ?_
  refine va_get (D := D) (ci := 3) (v := .ref q2) (C := R_Cod) (T := F_Cod) (N := 11) hx hb hw in_Cod hown hK hP 1 rfl rfl 0 (by decide) (hw _ m_377) (fun x9 h9 => u_same (hw _ m_192) x9 h9) rfl d_Grc_decode_56 ?_
  refine va_get (D := D) (ci := 1) (v := .int (u14 2 1)) (C := R_Pic) (T := F_Pic) (N := 11) hx hb hw in_Pic hown hK hP 2 rfl rfl 1 (by decide) (hw _ m_378) (fun _ h9 => h9) rfl d_Grc_decode_59 ?_
  refine lv_imul hx hb d_Grc_decode_62 ?_
  exact ox hf
