def f_Grc_hasByte (a1 : Int32) (u : gU) : Option (Int32) := bq (a1 < 0) (some 0) (bq ((u 11 0) ≤ a1) (some 0) (some 1))
set_option maxHeartbeats 4000000 in
set_option maxRecDepth 100000 in
theorem c_Grc_hasByte (l : Launch) (D : va_G) (cI : ClassId) (q0 : Nat) (q1 : Nat) (q2 : Nat) (q3 : Nat) (q4 : Nat) (q5 : Nat) (q6 : Nat) (q7 : Nat) (q8 : Nat) (q9 : Nat) (q10 : Nat) (q11 : Nat) (q12 : Nat) (q13 : Nat) (q14 : Nat) (q15 : Nat) (q16 : Nat) (q17 : Nat) (q18 : Nat) (q19 : Nat) (q20 : Nat) (q21 : Nat) (q22 : Nat) (q23 : Nat) (a1 : Int32) (u : gU) (r : Int32) (hf : f_Grc_hasByte a1 u = some r) : Met l y_Grc_hasByte (.code y_Grc_hasByte b_Grc_hasByte 2 (some .boolean) :: TS) ({ frames := 0, cells := 0, slots := 0, locals := 0 }) (va_Pc [.ref q0, .int a1] (fun U => va_P D cls (wGrc cI q0 q1 q2 q3 q4 q5 q6 q7 q8 q9 q10 q11 q12 q13 q14 q15 q16 q17 q18 q19 q20 q21 q22 q23 u) U.heap ∧ va_K D cls [(cI, .int)] U)) (va_Qi (fun x (_ : Unit) => x = r) (fun _ _ => True) (fun _ => False)) 0 0 (fun _ => False) := by
  refine ct_of (by decide +kernel) (Nat.le_of_ble_eq_true rfl) ?_
  intro p e s m below meth c ls hx hb hml hr hlocks hown hw hP hK hl
  have hS : va_S (fun _ => False) s.heap s.heap [] := va_S.rf
  have hl : lv_has ls 2 [(0, .ref q0), (1, .int a1)] := hl
  have hP : va_P D cls (wGrc cI q0 q1 q2 q3 q4 q5 q6 q7 q8 q9 q10 q11 q12 q13 q14 q15 q16 q17 q18 q19 q20 q21 q22 q23 u) s.heap := hP
  unfold f_Grc_hasByte at hf
  refine lv_iload_n hx hb d_Grc_hasByte_0 rfl (lv_at hl 1 rfl) ?_
  refine lv_if_lt (tgt := 22) hx hb d_Grc_hasByte_1 (by decide) (fun hc => ?_) (fun hc => ?_)
  · have hf := bq_t hf hc
    refine lv_iconst (v := 0) hx hb d_Grc_hasByte_22 (by decide) ?_
    exact rt_roz hx hb hr hlocks (Or.inl rfl) hS hf d_Grc_hasByte_23
  have hf := bq_n hf hc
  refine lv_iload_n hx hb d_Grc_hasByte_4 rfl (lv_at hl 1 rfl) ?_
  refine lv_aload_n hx hb d_Grc_hasByte_5 rfl (lv_at hl 0 rfl) ?_
  refine va_get (D := D) (ci := 0) (v := .ref q1) (C := R_Grc) (T := F_Grc) (N := 2) hx hb hw in_Grc hown hK hP 0 rfl rfl 0 (by decide) (hw _ m_367) (fun _ h9 => h9) rfl d_Grc_hasByte_6 ?_
  refine va_get (D := D) (ci := 3) (v := .ref q11) (C := R_Cod) (T := F_Cod) (N := 11) hx hb hw in_Cod hown hK hP 1 rfl rfl 10 (by decide) (hw _ m_368) (fun _ h9 => h9) rfl d_Grc_hasByte_9 ?_
  refine va_get (D := D) (ci := 5) (v := .int (u 11 0)) (C := R_Wri) (T := F_Wri) (N := 3) hx hb hw in_Wri hown hK hP 11 rfl rfl 1 (by decide) (hw _ m_369) (fun _ h9 => h9) rfl d_Grc_hasByte_12 ?_
  refine lv_icmp_ge (tgt := 22) hx hb d_Grc_hasByte_15 (by decide) (fun hc => ?_) (fun hc => ?_)
  · have hf := bq_t hf hc
    refine lv_iconst (v := 0) hx hb d_Grc_hasByte_22 (by decide) ?_
    exact rt_roz hx hb hr hlocks (Or.inl rfl) hS hf d_Grc_hasByte_23
  have hf := bq_n hf hc
  refine lv_iconst (v := 1) hx hb d_Grc_hasByte_18 (by decide) ?_
  refine lv_goto (tgt := 23) hx hb d_Grc_hasByte_19 (by decide) ?_
  exact rt_roz hx hb hr hlocks (Or.inr rfl) hS hf d_Grc_hasByte_23
def f_Grc_frame (a1 : Int32) (a2 : Int32) (a3 : Int32) (a4 : Int32) (u : gU) : Option (Int32 × gU) := bd (f_Pic_fits a1 a2 a3 a4) fun x1 => bq (x1 = 0) (some (0, u)) (bd (f_Cod_beginPicture a1 a2 a3 a4 (sb [1, 2, 3, 4, 5, 6, 7, 8, 9, 10, 11, 12] u)) fun w2 => tk (mg [1, 2, 3, 4, 5, 6, 7, 8, 9, 10, 11, 12] 0 u w2) fun u3 => some (1, u3))
set_option maxHeartbeats 4000000 in
set_option maxRecDepth 100000 in
theorem c_Grc_frame (l : Launch) (D : va_G) (cI : ClassId) (q0 : Nat) (q1 : Nat) (q2 : Nat) (q3 : Nat) (q4 : Nat) (q5 : Nat) (q6 : Nat) (q7 : Nat) (q8 : Nat) (q9 : Nat) (q10 : Nat) (q11 : Nat) (q12 : Nat) (q13 : Nat) (q14 : Nat) (q15 : Nat) (q16 : Nat) (q17 : Nat) (q18 : Nat) (q19 : Nat) (q20 : Nat) (q21 : Nat) (q22 : Nat) (q23 : Nat) (hd : dj [q0, q1, q2, q3, q4, q5, q6, q7, q8, q9, q10, q11, q12, q13, q14, q15, q16, q17, q18, q19, q20, q21, q22, q23]) (a1 : Int32) (a2 : Int32) (a3 : Int32) (a4 : Int32) (u : gU) (r : Int32) (v : gU) (hf : f_Grc_frame a1 a2 a3 a4 u = some (r, v)) : Met l y_Grc_frame (.code y_Grc_frame b_Grc_frame 5 (some .boolean) :: TS) ({ frames := 4, cells := 0, slots := 0, locals := 94 }) (va_Pc [.ref q0, .int a1, .int a2, .int a3, .int a4] (fun U => va_P D cls (wGrc cI q0 q1 q2 q3 q4 q5 q6 q7 q8 q9 q10 q11 q12 q13 q14 q15 q16 q17 q18 q19 q20 q21 q22 q23 u) U.heap ∧ va_K D cls [(cI, .int)] U)) (va_Qi (fun x (_ : Unit) => x = r) (fun _ t => va_P D cls (wGrc cI q0 q1 q2 q3 q4 q5 q6 q7 q8 q9 q10 q11 q12 q13 q14 q15 q16 q17 q18 q19 q20 q21 q22 q23 v) t.heap) (ad [q0, q1, q2, q3, q4, q5, q6, q7, q8, q9, q10, q11, q12, q13, q14, q15, q16, q17, q18, q19, q20, q21, q22, q23])) 0 0 (ad [q0, q1, q2, q3, q4, q5, q6, q7, q8, q9, q10, q11, q12, q13, q14, q15, q16, q17, q18, q19, q20, q21, q22, q23]) := by
  refine ct_of (by decide +kernel) (Nat.le_of_ble_eq_true rfl) ?_
  intro p e s m below meth c ls hx hb hml hr hlocks hown hw hP hK hl
  have hS : va_S (ad [q0, q1, q2, q3, q4, q5, q6, q7, q8, q9, q10, q11, q12, q13, q14, q15, q16, q17, q18, q19, q20, q21, q22, q23]) s.heap s.heap [] := va_S.rf
  have hD : ∀ v, va_D (ad [q0, q1, q2, q3, q4, q5, q6, q7, q8, q9, q10, q11, q12, q13, q14, q15, q16, q17, q18, q19, q20, q21, q22, q23]) (wGrc cI q0 q1 q2 q3 q4 q5 q6 q7 q8 q9 q10 q11 q12 q13 q14 q15 q16 q17 q18 q19 q20 q21 q22 q23 v) := fun _ => dj_D rfl hd
  have hl : lv_has ls 5 [(0, .ref q0), (1, .int a1), (2, .int a2), (3, .int a3), (4, .int a4)] := hl
  have hP : va_P D cls (wGrc cI q0 q1 q2 q3 q4 q5 q6 q7 q8 q9 q10 q11 q12 q13 q14 q15 q16 q17 q18 q19 q20 q21 q22 q23 u) s.heap := hP
  unfold f_Grc_frame at hf
  refine lv_iload_n hx hb d_Grc_frame_0 rfl (lv_at hl 1 rfl) ?_
  refine lv_iload_n hx hb d_Grc_frame_1 rfl (lv_at hl 2 rfl) ?_
  refine lv_iload_n hx hb d_Grc_frame_2 rfl (lv_at hl 3 rfl) ?_
  refine lv_iload hx hb d_Grc_frame_3 (lv_at hl 4 rfl) ?_
  have hC : ([] : List Nat).map (fun i => (wGrc cI q0 q1 q2 q3 q4 q5 q6 q7 q8 q9 q10 q11 q12 q13 q14 q15 q16 q17 q18 q19 q20 q21 q22 q23 u)[i]?) = ([] : va_W).map some := rfl
  obtain ⟨x1, hc, hf⟩ := bd_o hf
  refine ro_i (va_runS (As := [.int a1, .int a2, .int a3, .int a4]) (rest := []) ⟨hx, hb, hml, hown, hw⟩ (c_Pic_fits l D cI a1 a2 a3 a4 x1 hc) (va_cwS 4 hw g_55 rfl rfl rfl (by decide +kernel) ⟨Nat.le_of_ble_eq_true rfl, Nat.le_of_ble_eq_true rfl⟩) (pre_S (P_sub hC hP) hK) rfl rfl hl.1 rfl (lv_room (Nat.le_of_ble_eq_true rfl)) d_Grc_frame_5 ⟨Nat.le_of_ble_eq_true rfl, Nat.le_of_ble_eq_true rfl⟩) hS hP (fun H locs hP hS => ?_)
  refine lv_if_ne (tgt := 13) hx hb d_Grc_frame_8 (by decide) (fun hc => ?_) (fun hc => ?_)
  · have hf := bq_n hf hc
    refine lv_aload_n hx hb d_Grc_frame_13 rfl (lv_at hl 0 rfl) ?_
    refine va_get (D := D) (ci := 0) (v := .ref q1) (C := R_Grc) (T := F_Grc) (N := 2) hx hb hw in_Grc hown hK hP 0 rfl rfl 0 (by decide) (hw _ m_367) (fun _ h9 => h9) rfl d_Grc_frame_14 ?_
    refine lv_iload_n hx hb d_Grc_frame_17 rfl (lv_at hl 1 rfl) ?_
    refine lv_iload_n hx hb d_Grc_frame_18 rfl (lv_at hl 2 rfl) ?_
    refine lv_iload_n hx hb d_Grc_frame_19 rfl (lv_at hl 3 rfl) ?_
    refine lv_iload hx hb d_Grc_frame_20 (lv_at hl 4 rfl) ?_
    have hC : [1, 2, 3, 4, 5, 6, 7, 8, 9, 10, 11, 12].map (fun i => (wGrc cI q0 q1 q2 q3 q4 q5 q6 q7 q8 q9 q10 q11 q12 q13 q14 q15 q16 q17 q18 q19 q20 q21 q22 q23 u)[i]?) = (wCod cI q1 q2 q3 q4 q5 q6 q7 q8 q9 q10 q11 q12 (sb [1, 2, 3, 4, 5, 6, 7, 8, 9, 10, 11, 12] u)).map some := rfl
    obtain ⟨w2, hc, hf⟩ := bd_o hf
    refine rw_v (va_runV (As := [.int a1, .int a2, .int a3, .int a4]) (rest := []) ⟨hx, hb, hml, hown, hw⟩ (c_Cod_beginPicture l D cI q1 q2 q3 q4 q5 q6 q7 q8 q9 q10 q11 q12 (dj_sub hd [1, 2, 3, 4, 5, 6, 7, 8, 9, 10, 11, 12] (by decide) rfl) a1 a2 a3 a4 (sb [1, 2, 3, 4, 5, 6, 7, 8, 9, 10, 11, 12] u) w2 hc) (cwV 4 hw g_56 rfl rfl rfl (by decide +kernel) ⟨Nat.le_of_ble_eq_true rfl, Nat.le_of_ble_eq_true rfl⟩) (pre_V (P_sub hC hP) hK rfl rfl) rfl rfl hl.1 rfl (lv_room (Nat.le_of_ble_eq_true rfl)) d_Grc_frame_22 ⟨Nat.le_of_ble_eq_true rfl, Nat.le_of_ble_eq_true rfl⟩) hS hP (hD _) hC rfl rfl (fun H locs hP hS => ?_)
    obtain ⟨u3, e_u3, hf⟩ := tk_o hf
    have hP : va_P D cls (wGrc cI q0 q1 q2 q3 q4 q5 q6 q7 q8 q9 q10 q11 q12 q13 q14 q15 q16 q17 q18 q19 q20 q21 q22 q23 u3) H := by rw [e_u3]; exact hP
    refine lv_iconst (v := 1) hx hb d_Grc_frame_25 (by decide) ?_
    exact rt_z (wGrc cI q0 q1 q2 q3 q4 q5 q6 q7 q8 q9 q10 q11 q12 q13 q14 q15 q16 q17 q18 q19 q20 q21 q22 q23) hx hb hr hlocks (Or.inr rfl) hS hP hf d_Grc_frame_26
  have hf := bq_t hf hc
  refine lv_iconst (v := 0) hx hb d_Grc_frame_11 (by decide) ?_
  exact rt_z (wGrc cI q0 q1 q2 q3 q4 q5 q6 q7 q8 q9 q10 q11 q12 q13 q14 q15 q16 q17 q18 q19 q20 q21 q22 q23) hx hb hr hlocks (Or.inl rfl) hS hP hf d_Grc_frame_12
def f_Grc_row (a1 : Int32) (a2 : Int64) (u : gU) : Option (Int32 × gU) := bq (a1 < 0) (some (0, u)) (bq (a1 < (u 2 1)) (bd (f_Cod_takeRow a1 a2 (sb [1, 2, 3, 4, 5, 6, 7, 8, 9, 10, 11, 12] u)) fun w1 => tk (mg [1, 2, 3, 4, 5, 6, 7, 8, 9, 10, 11, 12] 0 u w1.2) fun u2 => gd (w1.1 = 0 ∨ w1.1 = 1) (some (w1.1, u2))) (some (0, u)))
set_option maxHeartbeats 4000000 in
set_option maxRecDepth 100000 in
theorem c_Grc_row (l : Launch) (D : va_G) (cI : ClassId) (q0 : Nat) (q1 : Nat) (q2 : Nat) (q3 : Nat) (q4 : Nat) (q5 : Nat) (q6 : Nat) (q7 : Nat) (q8 : Nat) (q9 : Nat) (q10 : Nat) (q11 : Nat) (q12 : Nat) (q13 : Nat) (q14 : Nat) (q15 : Nat) (q16 : Nat) (q17 : Nat) (q18 : Nat) (q19 : Nat) (q20 : Nat) (q21 : Nat) (q22 : Nat) (q23 : Nat) (hd : dj [q0, q1, q2, q3, q4, q5, q6, q7, q8, q9, q10, q11, q12, q13, q14, q15, q16, q17, q18, q19, q20, q21, q22, q23]) (a1 : Int32) (a2 : Int64) (u : gU) (r : Int32) (v : gU) (hf : f_Grc_row a1 a2 u = some (r, v)) : Met l y_Grc_row (.code y_Grc_row b_Grc_row 4 (some .boolean) :: TS) ({ frames := 2, cells := 0, slots := 0, locals := 46 }) (va_Pc [.ref q0, .int a1, .long a2] (fun U => va_P D cls (wGrc cI q0 q1 q2 q3 q4 q5 q6 q7 q8 q9 q10 q11 q12 q13 q14 q15 q16 q17 q18 q19 q20 q21 q22 q23 u) U.heap ∧ va_K D cls [(cI, .int)] U)) (va_Qi (fun x (_ : Unit) => x = r) (fun _ t => va_P D cls (wGrc cI q0 q1 q2 q3 q4 q5 q6 q7 q8 q9 q10 q11 q12 q13 q14 q15 q16 q17 q18 q19 q20 q21 q22 q23 v) t.heap) (ad [q0, q1, q2, q3, q4, q5, q6, q7, q8, q9, q10, q11, q12, q13, q14, q15, q16, q17, q18, q19, q20, q21, q22, q23])) 0 0 (ad [q0, q1, q2, q3, q4, q5, q6, q7, q8, q9, q10, q11, q12, q13, q14, q15, q16, q17, q18, q19, q20, q21, q22, q23]) := by
  refine ct_of (by decide +kernel) (Nat.le_of_ble_eq_true rfl) ?_
  intro p e s m below meth c ls hx hb hml hr hlocks hown hw hP hK hl
  have hS : va_S (ad [q0, q1, q2, q3, q4, q5, q6, q7, q8, q9, q10, q11, q12, q13, q14, q15, q16, q17, q18, q19, q20, q21, q22, q23]) s.heap s.heap [] := va_S.rf
  have hD : ∀ v, va_D (ad [q0, q1, q2, q3, q4, q5, q6, q7, q8, q9, q10, q11, q12, q13, q14, q15, q16, q17, q18, q19, q20, q21, q22, q23]) (wGrc cI q0 q1 q2 q3 q4 q5 q6 q7 q8 q9 q10 q11 q12 q13 q14 q15 q16 q17 q18 q19 q20 q21 q22 q23 v) := fun _ => dj_D rfl hd
  have hl : lv_has ls 4 [(0, .ref q0), (1, .int a1), (2, .long a2)] := hl
  have hP : va_P D cls (wGrc cI q0 q1 q2 q3 q4 q5 q6 q7 q8 q9 q10 q11 q12 q13 q14 q15 q16 q17 q18 q19 q20 q21 q22 q23 u) s.heap := hP
  unfold f_Grc_row at hf
  refine lv_iload_n hx hb d_Grc_row_0 rfl (lv_at hl 1 rfl) ?_
  refine lv_if_lt (tgt := 18) hx hb d_Grc_row_1 (by decide) (fun hc => ?_) (fun hc => ?_)
  · have hf := bq_t hf hc
    refine lv_iconst (v := 0) hx hb d_Grc_row_18 (by decide) ?_
    exact rt_z (wGrc cI q0 q1 q2 q3 q4 q5 q6 q7 q8 q9 q10 q11 q12 q13 q14 q15 q16 q17 q18 q19 q20 q21 q22 q23) hx hb hr hlocks (Or.inl rfl) hS hP hf d_Grc_row_19
  have hf := bq_n hf hc
  refine lv_iload_n hx hb d_Grc_row_4 rfl (lv_at hl 1 rfl) ?_
  refine lv_aload_n hx hb d_Grc_row_5 rfl (lv_at hl 0 rfl) ?_
  refine va_get (D := D) (ci := 0) (v := .ref q1) (C := R_Grc) (T := F_Grc) (N := 2) hx hb hw in_Grc hown hK hP 0 rfl rfl 0 (by decide) (hw _ m_367) (fun _ h9 => h9) rfl d_Grc_row_6 ?_
  refine va_get (D := D) (ci := 3) (v := .ref q2) (C := R_Cod) (T := F_Cod) (N := 11) hx hb hw in_Cod hown hK hP 1 rfl rfl 0 (by decide) (hw _ m_377) (fun x9 h9 => u_same (hw _ m_192) x9 h9) rfl d_Grc_row_9 ?_
  refine va_get (D := D) (ci := 1) (v := .int (u 2 1)) (C := R_Pic) (T := F_Pic) (N := 11) hx hb hw in_Pic hown hK hP 2 rfl rfl 1 (by decide) (hw _ m_378) (fun _ h9 => h9) rfl d_Grc_row_12 ?_
  refine lv_icmp_lt (tgt := 20) hx hb d_Grc_row_15 (by decide) (fun hc => ?_) (fun hc => ?_)
  · have hf := bq_t hf hc
    refine lv_aload_n hx hb d_Grc_row_20 rfl (lv_at hl 0 rfl) ?_
    refine va_get (D := D) (ci := 0) (v := .ref q1) (C := R_Grc) (T := F_Grc) (N := 2) hx hb hw in_Grc hown hK hP 0 rfl rfl 0 (by decide) (hw _ m_367) (fun _ h9 => h9) rfl d_Grc_row_21 ?_
    refine lv_iload_n hx hb d_Grc_row_24 rfl (lv_at hl 1 rfl) ?_
    refine lv_lload_n hx hb d_Grc_row_25 rfl (lv_at hl 2 rfl) ?_
    have hC : [1, 2, 3, 4, 5, 6, 7, 8, 9, 10, 11, 12].map (fun i => (wGrc cI q0 q1 q2 q3 q4 q5 q6 q7 q8 q9 q10 q11 q12 q13 q14 q15 q16 q17 q18 q19 q20 q21 q22 q23 u)[i]?) = (wCod cI q1 q2 q3 q4 q5 q6 q7 q8 q9 q10 q11 q12 (sb [1, 2, 3, 4, 5, 6, 7, 8, 9, 10, 11, 12] u)).map some := rfl
    obtain ⟨w1, hc, hf⟩ := bd_o hf
    refine rw_i (va_runV (As := [.int a1, .long a2]) (rest := []) ⟨hx, hb, hml, hown, hw⟩ (c_Cod_takeRow l D cI q1 q2 q3 q4 q5 q6 q7 q8 q9 q10 q11 q12 (dj_sub hd [1, 2, 3, 4, 5, 6, 7, 8, 9, 10, 11, 12] (by decide) rfl) a1 a2 (sb [1, 2, 3, 4, 5, 6, 7, 8, 9, 10, 11, 12] u) w1.1 w1.2 hc) (cwV 2 hw g_57 rfl rfl rfl (by decide +kernel) ⟨Nat.le_of_ble_eq_true rfl, Nat.le_of_ble_eq_true rfl⟩) (pre_V (P_sub hC hP) hK rfl rfl) rfl rfl hl.1 rfl (lv_room (Nat.le_of_ble_eq_true rfl)) d_Grc_row_26 ⟨Nat.le_of_ble_eq_true rfl, Nat.le_of_ble_eq_true rfl⟩) hS hP (hD _) hC rfl rfl (fun H locs hP hS => ?_)
    obtain ⟨u2, e_u2, hf⟩ := tk_o hf
    have hP : va_P D cls (wGrc cI q0 q1 q2 q3 q4 q5 q6 q7 q8 q9 q10 q11 q12 q13 q14 q15 q16 q17 q18 q19 q20 q21 q22 q23 u2) H := by rw [e_u2]; exact hP
    obtain ⟨h3, hf⟩ := gd_o hf
    exact rt_z (wGrc cI q0 q1 q2 q3 q4 q5 q6 q7 q8 q9 q10 q11 q12 q13 q14 q15 q16 q17 q18 q19 q20 q21 q22 q23) hx hb hr hlocks h3 hS hP hf d_Grc_row_29
  have hf := bq_n hf hc
  refine lv_iconst (v := 0) hx hb d_Grc_row_18 (by decide) ?_
  exact rt_z (wGrc cI q0 q1 q2 q3 q4 q5 q6 q7 q8 q9 q10 q11 q12 q13 q14 q15 q16 q17 q18 q19 q20 q21 q22 q23) hx hb hr hlocks (Or.inl rfl) hS hP hf d_Grc_row_19
def f_Grc_encode (u : gU) : Option (Int32 × gU) := bd (f_Cod_writeHead (sb [1, 2, 3, 4, 5, 6, 7, 8, 9, 10, 11, 12] u)) fun w1 => tk (mg [1, 2, 3, 4, 5, 6, 7, 8, 9, 10, 11, 12] 0 u w1) fun u2 => bd (f_Pas_overAll_C (sb [1, 2, 3, 4, 5, 6, 7, 8, 9, 10, 11, 12] u2)) fun w3 => tk (mg [1, 2, 3, 4, 5, 6, 7, 8, 9, 10, 11, 12] 0 u2 w3) fun u4 => bd (f_Wri_writeEnd (sb [11, 12] u4)) fun w5 => tk (mg [11, 12] 0 u4 w5) fun u6 => some (u6 11 0, u6)
set_option maxHeartbeats 4000000 in
set_option maxRecDepth 100000 in
theorem c_Grc_encode (l : Launch) (D : va_G) (cI : ClassId) (tJ : Nat) (q0 : Nat) (q1 : Nat) (q2 : Nat) (q3 : Nat) (q4 : Nat) (q5 : Nat) (q6 : Nat) (q7 : Nat) (q8 : Nat) (q9 : Nat) (q10 : Nat) (q11 : Nat) (q12 : Nat) (q13 : Nat) (q14 : Nat) (q15 : Nat) (q16 : Nat) (q17 : Nat) (q18 : Nat) (q19 : Nat) (q20 : Nat) (q21 : Nat) (q22 : Nat) (q23 : Nat) (hd : dj [q0, q1, q2, q3, q4, q5, q6, q7, q8, q9, q10, q11, q12, q13, q14, q15, q16, q17, q18, q19, q20, q21, q22, q23]) (u : gU) (r : Int32) (v : gU) (hf : f_Grc_encode u = some (r, v)) : Met l y_Grc_encode (.code y_Grc_encode b_Grc_encode 1 (some .int) :: TS) ({ frames := 6, cells := 0, slots := 0, locals := 145 }) (va_Pc [.ref q0] (fun U => va_P D cls (wGrc cI q0 q1 q2 q3 q4 q5 q6 q7 q8 q9 q10 q11 q12 q13 q14 q15 q16 q17 q18 q19 q20 q21 q22 q23 u) U.heap ∧ va_K D cls [(cI, .int)] U ∧ Jt tJ (ad [q0, q1, q2, q3, q4, q5, q6, q7, q8, q9, q10, q11, q12, q13, q14, q15, q16, q17, q18, q19, q20, q21, q22, q23]) U)) (va_Qi (fun x (_ : Unit) => x = r) (fun _ t => va_P D cls (wGrc cI q0 q1 q2 q3 q4 q5 q6 q7 q8 q9 q10 q11 q12 q13 q14 q15 q16 q17 q18 q19 q20 q21 q22 q23 v) t.heap) (ad [q0, q1, q2, q3, q4, q5, q6, q7, q8, q9, q10, q11, q12, q13, q14, q15, q16, q17, q18, q19, q20, q21, q22, q23])) 0 0 (ad [q0, q1, q2, q3, q4, q5, q6, q7, q8, q9, q10, q11, q12, q13, q14, q15, q16, q17, q18, q19, q20, q21, q22, q23]) := by
  refine ct_ofJ (by decide +kernel) (Nat.le_of_ble_eq_true rfl) ?_
  intro p e s m below meth c ls hx hb hml hr hlocks hown hw hP hK hJ hl
  have hS : va_S (ad [q0, q1, q2, q3, q4, q5, q6, q7, q8, q9, q10, q11, q12, q13, q14, q15, q16, q17, q18, q19, q20, q21, q22, q23]) s.heap s.heap [] := va_S.rf
  have hD : ∀ v, va_D (ad [q0, q1, q2, q3, q4, q5, q6, q7, q8, q9, q10, q11, q12, q13, q14, q15, q16, q17, q18, q19, q20, q21, q22, q23]) (wGrc cI q0 q1 q2 q3 q4 q5 q6 q7 q8 q9 q10 q11 q12 q13 q14 q15 q16 q17 q18 q19 q20 q21 q22 q23 v) := fun _ => dj_D rfl hd
  have hl : lv_has ls 1 [(0, .ref q0)] := hl
  have hP : va_P D cls (wGrc cI q0 q1 q2 q3 q4 q5 q6 q7 q8 q9 q10 q11 q12 q13 q14 q15 q16 q17 q18 q19 q20 q21 q22 q23 u) s.heap := hP
  unfold f_Grc_encode at hf
  refine lv_aload_n hx hb d_Grc_encode_0 rfl (lv_at hl 0 rfl) ?_
  refine va_get (D := D) (ci := 0) (v := .ref q1) (C := R_Grc) (T := F_Grc) (N := 2) hx hb hw in_Grc hown hK hP 0 rfl rfl 0 (by decide) (hw _ m_367) (fun _ h9 => h9) rfl d_Grc_encode_1 ?_
  have hC : [1, 2, 3, 4, 5, 6, 7, 8, 9, 10, 11, 12].map (fun i => (wGrc cI q0 q1 q2 q3 q4 q5 q6 q7 q8 q9 q10 q11 q12 q13 q14 q15 q16 q17 q18 q19 q20 q21 q22 q23 u)[i]?) = (wCod cI q1 q2 q3 q4 q5 q6 q7 q8 q9 q10 q11 q12 (sb [1, 2, 3, 4, 5, 6, 7, 8, 9, 10, 11, 12] u)).map some := rfl
  obtain ⟨w1, hc, hf⟩ := bd_o hf
  refine rw_v (va_runV (As := []) (rest := []) ⟨hx, hb, hml, hown, hw⟩ (c_Cod_writeHead l D cI q1 q2 q3 q4 q5 q6 q7 q8 q9 q10 q11 q12 (dj_sub hd [1, 2, 3, 4, 5, 6, 7, 8, 9, 10, 11, 12] (by decide) rfl) (sb [1, 2, 3, 4, 5, 6, 7, 8, 9, 10, 11, 12] u) w1 hc) (cwV 0 hw g_58 rfl rfl rfl (by decide +kernel) ⟨Nat.le_of_ble_eq_true rfl, Nat.le_of_ble_eq_true rfl⟩) (pre_V (P_sub hC hP) hK rfl rfl) rfl rfl hl.1 rfl (lv_room (Nat.le_of_ble_eq_true rfl)) d_Grc_encode_4 ⟨Nat.le_of_ble_eq_true rfl, Nat.le_of_ble_eq_true rfl⟩) hS hP (hD _) hC rfl rfl (fun H locs hP hS => ?_)
  obtain ⟨u2, e_u2, hf⟩ := tk_o hf
  have hP : va_P D cls (wGrc cI q0 q1 q2 q3 q4 q5 q6 q7 q8 q9 q10 q11 q12 q13 q14 q15 q16 q17 q18 q19 q20 q21 q22 q23 u2) H := by rw [e_u2]; exact hP
  refine lv_aload_n hx hb d_Grc_encode_7 rfl (lv_at hl 0 rfl) ?_
  refine va_get (D := D) (ci := 0) (v := .ref q1) (C := R_Grc) (T := F_Grc) (N := 2) hx hb hw in_Grc hown hK hP 0 rfl rfl 0 (by decide) (hw _ m_367) (fun _ h9 => h9) rfl d_Grc_encode_8 ?_
  have hC : [1, 2, 3, 4, 5, 6, 7, 8, 9, 10, 11, 12].map (fun i => (wGrc cI q0 q1 q2 q3 q4 q5 q6 q7 q8 q9 q10 q11 q12 q13 q14 q15 q16 q17 q18 q19 q20 q21 q22 q23 u2)[i]?) = (wCod cI q1 q2 q3 q4 q5 q6 q7 q8 q9 q10 q11 q12 (sb [1, 2, 3, 4, 5, 6, 7, 8, 9, 10, 11, 12] u2)).map some := rfl
  obtain ⟨w3, hc, hf⟩ := bd_o hf
  refine rw_v (va_runU (As := []) (rest := []) ⟨hx, hb, hml, hown, hw⟩ (c_Pas_overAll_C l D cI tJ q1 q2 q3 q4 q5 q6 q7 q8 q9 q10 q11 q12 (dj_sub hd [1, 2, 3, 4, 5, 6, 7, 8, 9, 10, 11, 12] (by decide) rfl) (sb [1, 2, 3, 4, 5, 6, 7, 8, 9, 10, 11, 12] u2) w3 hc) (va_cwU 0 hw g_59 rfl rfl rfl rfl (by decide +kernel) ⟨Nat.le_of_ble_eq_true rfl, Nat.le_of_ble_eq_true rfl⟩) (pre_VJ (P_sub hC hP) hK rfl rfl (Jt_call hJ hS (ad_sub [1, 2, 3, 4, 5, 6, 7, 8, 9, 10, 11, 12] rfl))) rfl rfl hl.1 rfl (lv_room (Nat.le_of_ble_eq_true rfl)) d_Grc_encode_11 ⟨Nat.le_of_ble_eq_true rfl, Nat.le_of_ble_eq_true rfl⟩) hS hP (hD _) hC rfl rfl (fun H locs hP hS => ?_)
  obtain ⟨u4, e_u4, hf⟩ := tk_o hf
  have hP : va_P D cls (wGrc cI q0 q1 q2 q3 q4 q5 q6 q7 q8 q9 q10 q11 q12 q13 q14 q15 q16 q17 q18 q19 q20 q21 q22 q23 u4) H := by rw [e_u4]; exact hP
  refine lv_aload_n hx hb d_Grc_encode_14 rfl (lv_at hl 0 rfl) ?_
  refine va_get (D := D) (ci := 0) (v := .ref q1) (C := R_Grc) (T := F_Grc) (N := 2) hx hb hw in_Grc hown hK hP 0 rfl rfl 0 (by decide) (hw _ m_367) (fun _ h9 => h9) rfl d_Grc_encode_15 ?_
  refine va_get (D := D) (ci := 3) (v := .ref q11) (C := R_Cod) (T := F_Cod) (N := 11) hx hb hw in_Cod hown hK hP 1 rfl rfl 10 (by decide) (hw _ m_368) (fun _ h9 => h9) rfl d_Grc_encode_18 ?_
  have hC : [11, 12].map (fun i => (wGrc cI q0 q1 q2 q3 q4 q5 q6 q7 q8 q9 q10 q11 q12 q13 q14 q15 q16 q17 q18 q19 q20 q21 q22 q23 u4)[i]?) = (wWri cI q11 q12 (sb [11, 12] u4)).map some := rfl
  obtain ⟨w5, hc, hf⟩ := bd_o hf
  refine rw_v (va_runV (As := []) (rest := []) ⟨hx, hb, hml, hown, hw⟩ (c_Wri_writeEnd l D cI q11 q12 (dj_sub hd [11, 12] (by decide) rfl) (sb [11, 12] u4) w5 hc) (cwV 0 hw g_60 rfl rfl rfl (by decide +kernel) ⟨Nat.le_of_ble_eq_true rfl, Nat.le_of_ble_eq_true rfl⟩) (pre_V (P_sub hC hP) hK rfl rfl) rfl rfl hl.1 rfl (lv_room (Nat.le_of_ble_eq_true rfl)) d_Grc_encode_21 ⟨Nat.le_of_ble_eq_true rfl, Nat.le_of_ble_eq_true rfl⟩) hS hP (hD _) hC rfl rfl (fun H locs hP hS => ?_)
  obtain ⟨u6, e_u6, hf⟩ := tk_o hf
  have hP : va_P D cls (wGrc cI q0 q1 q2 q3 q4 q5 q6 q7 q8 q9 q10 q11 q12 q13 q14 q15 q16 q17 q18 q19 q20 q21 q22 q23 u6) H := by rw [e_u6]; exact hP
  refine lv_aload_n hx hb d_Grc_encode_24 rfl (lv_at hl 0 rfl) ?_
  refine va_get (D := D) (ci := 0) (v := .ref q1) (C := R_Grc) (T := F_Grc) (N := 2) hx hb hw in_Grc hown hK hP 0 rfl rfl 0 (by decide) (hw _ m_367) (fun _ h9 => h9) rfl d_Grc_encode_25 ?_
  refine va_get (D := D) (ci := 3) (v := .ref q11) (C := R_Cod) (T := F_Cod) (N := 11) hx hb hw in_Cod hown hK hP 1 rfl rfl 10 (by decide) (hw _ m_368) (fun _ h9 => h9) rfl d_Grc_encode_28 ?_
  refine va_get (D := D) (ci := 5) (v := .int (u6 11 0)) (C := R_Wri) (T := F_Wri) (N := 3) hx hb hw in_Wri hown hK hP 11 rfl rfl 1 (by decide) (hw _ m_369) (fun _ h9 => h9) rfl d_Grc_encode_31 ?_
  exact rt_i (wGrc cI q0 q1 q2 q3 q4 q5 q6 q7 q8 q9 q10 q11 q12 q13 q14 q15 q16 q17 q18 q19 q20 q21 q22 q23) hx hb hr hlocks hS hP hf d_Grc_encode_34
def f_Grc_size (u : gU) : Option (Int32) := some (u 11 0)
set_option maxHeartbeats 4000000 in
set_option maxRecDepth 100000 in
theorem c_Grc_size (l : Launch) (D : va_G) (cI : ClassId) (q0 : Nat) (q1 : Nat) (q2 : Nat) (q3 : Nat) (q4 : Nat) (q5 : Nat) (q6 : Nat) (q7 : Nat) (q8 : Nat) (q9 : Nat) (q10 : Nat) (q11 : Nat) (q12 : Nat) (q13 : Nat) (q14 : Nat) (q15 : Nat) (q16 : Nat) (q17 : Nat) (q18 : Nat) (q19 : Nat) (q20 : Nat) (q21 : Nat) (q22 : Nat) (q23 : Nat) (u : gU) (r : Int32) (hf : f_Grc_size u = some r) : Met l y_Grc_size (.code y_Grc_size b_Grc_size 1 (some .int) :: TS) ({ frames := 0, cells := 0, slots := 0, locals := 0 }) (va_Pc [.ref q0] (fun U => va_P D cls (wGrc cI q0 q1 q2 q3 q4 q5 q6 q7 q8 q9 q10 q11 q12 q13 q14 q15 q16 q17 q18 q19 q20 q21 q22 q23 u) U.heap ∧ va_K D cls [(cI, .int)] U)) (va_Qi (fun x (_ : Unit) => x = r) (fun _ _ => True) (fun _ => False)) 0 0 (fun _ => False) := by
  refine ct_of (by decide +kernel) (Nat.le_of_ble_eq_true rfl) ?_
  intro p e s m below meth c ls hx hb hml hr hlocks hown hw hP hK hl
  have hS : va_S (fun _ => False) s.heap s.heap [] := va_S.rf
  have hl : lv_has ls 1 [(0, .ref q0)] := hl
  have hP : va_P D cls (wGrc cI q0 q1 q2 q3 q4 q5 q6 q7 q8 q9 q10 q11 q12 q13 q14 q15 q16 q17 q18 q19 q20 q21 q22 q23 u) s.heap := hP
  unfold f_Grc_size at hf
  refine lv_aload_n hx hb d_Grc_size_0 rfl (lv_at hl 0 rfl) ?_
  refine va_get (D := D) (ci := 0) (v := .ref q1) (C := R_Grc) (T := F_Grc) (N := 2) hx hb hw in_Grc hown hK hP 0 rfl rfl 0 (by decide) (hw _ m_367) (fun _ h9 => h9) rfl d_Grc_size_1 ?_
  refine va_get (D := D) (ci := 3) (v := .ref q11) (C := R_Cod) (T := F_Cod) (N := 11) hx hb hw in_Cod hown hK hP 1 rfl rfl 10 (by decide) (hw _ m_368) (fun _ h9 => h9) rfl d_Grc_size_4 ?_
  refine va_get (D := D) (ci := 5) (v := .int (u 11 0)) (C := R_Wri) (T := F_Wri) (N := 3) hx hb hw in_Wri hown hK hP 11 rfl rfl 1 (by decide) (hw _ m_369) (fun _ h9 => h9) rfl d_Grc_size_7 ?_
  exact rt_roi hx hb hr hlocks hS hf d_Grc_size_10
def f_Grc_code (a1 : Int32) (u : gU) : Option (Int32) := bd (f_Grc_hasByte a1 u) fun x1 => bq (x1 = 0) (some (-1)) (gd (ix a1 512) (some (u 12 (tc a1))))
set_option maxHeartbeats 4000000 in
set_option maxRecDepth 100000 in
theorem c_Grc_code (l : Launch) (D : va_G) (cI : ClassId) (q0 : Nat) (q1 : Nat) (q2 : Nat) (q3 : Nat) (q4 : Nat) (q5 : Nat) (q6 : Nat) (q7 : Nat) (q8 : Nat) (q9 : Nat) (q10 : Nat) (q11 : Nat) (q12 : Nat) (q13 : Nat) (q14 : Nat) (q15 : Nat) (q16 : Nat) (q17 : Nat) (q18 : Nat) (q19 : Nat) (q20 : Nat) (q21 : Nat) (q22 : Nat) (q23 : Nat) (a1 : Int32) (u : gU) (r : Int32) (hf : f_Grc_code a1 u = some r) : Met l y_Grc_code (.code y_Grc_code b_Grc_code 2 (some .int) :: TS) ({ frames := 1, cells := 0, slots := 0, locals := 21 }) (va_Pc [.ref q0, .int a1] (fun U => va_P D cls (wGrc cI q0 q1 q2 q3 q4 q5 q6 q7 q8 q9 q10 q11 q12 q13 q14 q15 q16 q17 q18 q19 q20 q21 q22 q23 u) U.heap ∧ va_K D cls [(cI, .int)] U)) (va_Qi (fun x (_ : Unit) => x = r) (fun _ _ => True) (fun _ => False)) 0 0 (fun _ => False) := by
  refine ct_of (by decide +kernel) (Nat.le_of_ble_eq_true rfl) ?_
  intro p e s m below meth c ls hx hb hml hr hlocks hown hw hP hK hl
  have hS : va_S (fun _ => False) s.heap s.heap [] := va_S.rf
  have hl : lv_has ls 2 [(0, .ref q0), (1, .int a1)] := hl
  have hP : va_P D cls (wGrc cI q0 q1 q2 q3 q4 q5 q6 q7 q8 q9 q10 q11 q12 q13 q14 q15 q16 q17 q18 q19 q20 q21 q22 q23 u) s.heap := hP
  unfold f_Grc_code at hf
  refine lv_aload_n hx hb d_Grc_code_0 rfl (lv_at hl 0 rfl) ?_
  refine lv_iload_n hx hb d_Grc_code_1 rfl (lv_at hl 1 rfl) ?_
  have hC : [0, 1, 2, 3, 4, 5, 6, 7, 8, 9, 10, 11, 12, 13, 14, 15, 16, 17, 18, 19, 20, 21, 22, 23].map (fun i => (wGrc cI q0 q1 q2 q3 q4 q5 q6 q7 q8 q9 q10 q11 q12 q13 q14 q15 q16 q17 q18 q19 q20 q21 q22 q23 u)[i]?) = (wGrc cI q0 q1 q2 q3 q4 q5 q6 q7 q8 q9 q10 q11 q12 q13 q14 q15 q16 q17 q18 q19 q20 q21 q22 q23 u).map some := rfl
  obtain ⟨x1, hc, hf⟩ := bd_o hf
  refine ro_i (va_runV (As := [.int a1]) (rest := []) ⟨hx, hb, hml, hown, hw⟩ (c_Grc_hasByte l D cI q0 q1 q2 q3 q4 q5 q6 q7 q8 q9 q10 q11 q12 q13 q14 q15 q16 q17 q18 q19 q20 q21 q22 q23 a1 u x1 hc) (cwV 1 hw g_61 rfl rfl rfl (by decide +kernel) ⟨Nat.le_of_ble_eq_true rfl, Nat.le_of_ble_eq_true rfl⟩) (pre_V (P_sub hC hP) hK rfl rfl) rfl rfl hl.1 rfl (lv_room (Nat.le_of_ble_eq_true rfl)) d_Grc_code_2 ⟨Nat.le_of_ble_eq_true rfl, Nat.le_of_ble_eq_true rfl⟩) hS hP (fun H locs hP hS => ?_)
  refine lv_if_eq (tgt := 23) hx hb d_Grc_code_5 (by decide) (fun hc => ?_) (fun hc => ?_)
  · have hf := bq_t hf hc
    refine lv_iconst (v := (-1)) hx hb d_Grc_code_23 (by decide) ?_
    exact rt_roi hx hb hr hlocks hS hf d_Grc_code_24
  have hf := bq_n hf hc
  refine lv_aload_n hx hb d_Grc_code_8 rfl (lv_at hl 0 rfl) ?_
  refine va_get (D := D) (ci := 0) (v := .ref q1) (C := R_Grc) (T := F_Grc) (N := 2) hx hb hw in_Grc hown hK hP 0 rfl rfl 0 (by decide) (hw _ m_367) (fun _ h9 => h9) rfl d_Grc_code_9 ?_
  refine va_get (D := D) (ci := 3) (v := .ref q11) (C := R_Cod) (T := F_Cod) (N := 11) hx hb hw in_Cod hown hK hP 1 rfl rfl 10 (by decide) (hw _ m_368) (fun _ h9 => h9) rfl d_Grc_code_12 ?_
  refine va_get (D := D) (ci := 5) (v := .ref q12) (C := R_Wri) (T := F_Wri) (N := 3) hx hb hw in_Wri hown hK hP 11 rfl rfl 0 (by decide) (hw _ m_401) (fun _ h9 => h9) rfl d_Grc_code_15 ?_
  refine lv_iload_n hx hb d_Grc_code_18 rfl (lv_at hl 1 rfl) ?_
  obtain ⟨h2, hf⟩ := gd_o hf
  refine va_iald hx hb hK hP 12 0 rfl rfl (ix_in h2) d_Grc_code_19 ?_
  refine lv_goto (tgt := 24) hx hb d_Grc_code_20 (by decide) ?_
  exact rt_roi hx hb hr hlocks hS hf d_Grc_code_24
def f_Grc_poke (a1 : Int32) (a2 : Int32) (u : gU) : Option (Int32 × gU) := bd (f_Grc_hasByte a1 u) fun x1 => bq (x1 = 0) (some (0, u)) (bq (a2 < 0) (some (0, u)) (bq (a2 ≤ 255) (gd (ix a1 512) (tk (st2 u 12 (tc a1) a2) fun u3 => some (1, u3))) (some (0, u))))
set_option maxHeartbeats 4000000 in
set_option maxRecDepth 100000 in
theorem c_Grc_poke (l : Launch) (D : va_G) (cI : ClassId) (q0 : Nat) (q1 : Nat) (q2 : Nat) (q3 : Nat) (q4 : Nat) (q5 : Nat) (q6 : Nat) (q7 : Nat) (q8 : Nat) (q9 : Nat) (q10 : Nat) (q11 : Nat) (q12 : Nat) (q13 : Nat) (q14 : Nat) (q15 : Nat) (q16 : Nat) (q17 : Nat) (q18 : Nat) (q19 : Nat) (q20 : Nat) (q21 : Nat) (q22 : Nat) (q23 : Nat) (hd : dj [q0, q1, q2, q3, q4, q5, q6, q7, q8, q9, q10, q11, q12, q13, q14, q15, q16, q17, q18, q19, q20, q21, q22, q23]) (a1 : Int32) (a2 : Int32) (u : gU) (r : Int32) (v : gU) (hf : f_Grc_poke a1 a2 u = some (r, v)) : Met l y_Grc_poke (.code y_Grc_poke b_Grc_poke 3 (some .boolean) :: TS) ({ frames := 1, cells := 0, slots := 0, locals := 21 }) (va_Pc [.ref q0, .int a1, .int a2] (fun U => va_P D cls (wGrc cI q0 q1 q2 q3 q4 q5 q6 q7 q8 q9 q10 q11 q12 q13 q14 q15 q16 q17 q18 q19 q20 q21 q22 q23 u) U.heap ∧ va_K D cls [(cI, .int)] U)) (va_Qi (fun x (_ : Unit) => x = r) (fun _ t => va_P D cls (wGrc cI q0 q1 q2 q3 q4 q5 q6 q7 q8 q9 q10 q11 q12 q13 q14 q15 q16 q17 q18 q19 q20 q21 q22 q23 v) t.heap) (ad [q0, q1, q2, q3, q4, q5, q6, q7, q8, q9, q10, q11, q12, q13, q14, q15, q16, q17, q18, q19, q20, q21, q22, q23])) 0 0 (ad [q0, q1, q2, q3, q4, q5, q6, q7, q8, q9, q10, q11, q12, q13, q14, q15, q16, q17, q18, q19, q20, q21, q22, q23]) := by
  refine ct_of (by decide +kernel) (Nat.le_of_ble_eq_true rfl) ?_
  intro p e s m below meth c ls hx hb hml hr hlocks hown hw hP hK hl
  have hS : va_S (ad [q0, q1, q2, q3, q4, q5, q6, q7, q8, q9, q10, q11, q12, q13, q14, q15, q16, q17, q18, q19, q20, q21, q22, q23]) s.heap s.heap [] := va_S.rf
  have hD : ∀ v, va_D (ad [q0, q1, q2, q3, q4, q5, q6, q7, q8, q9, q10, q11, q12, q13, q14, q15, q16, q17, q18, q19, q20, q21, q22, q23]) (wGrc cI q0 q1 q2 q3 q4 q5 q6 q7 q8 q9 q10 q11 q12 q13 q14 q15 q16 q17 q18 q19 q20 q21 q22 q23 v) := fun _ => dj_D rfl hd
  have hl : lv_has ls 3 [(0, .ref q0), (1, .int a1), (2, .int a2)] := hl
  have hP : va_P D cls (wGrc cI q0 q1 q2 q3 q4 q5 q6 q7 q8 q9 q10 q11 q12 q13 q14 q15 q16 q17 q18 q19 q20 q21 q22 q23 u) s.heap := hP
  unfold f_Grc_poke at hf
  refine lv_aload_n hx hb d_Grc_poke_0 rfl (lv_at hl 0 rfl) ?_
  refine lv_iload_n hx hb d_Grc_poke_1 rfl (lv_at hl 1 rfl) ?_
  have hC : [0, 1, 2, 3, 4, 5, 6, 7, 8, 9, 10, 11, 12, 13, 14, 15, 16, 17, 18, 19, 20, 21, 22, 23].map (fun i => (wGrc cI q0 q1 q2 q3 q4 q5 q6 q7 q8 q9 q10 q11 q12 q13 q14 q15 q16 q17 q18 q19 q20 q21 q22 q23 u)[i]?) = (wGrc cI q0 q1 q2 q3 q4 q5 q6 q7 q8 q9 q10 q11 q12 q13 q14 q15 q16 q17 q18 q19 q20 q21 q22 q23 u).map some := rfl
  obtain ⟨x1, hc, hf⟩ := bd_o hf
  refine ro_i (va_runV (As := [.int a1]) (rest := []) ⟨hx, hb, hml, hown, hw⟩ (c_Grc_hasByte l D cI q0 q1 q2 q3 q4 q5 q6 q7 q8 q9 q10 q11 q12 q13 q14 q15 q16 q17 q18 q19 q20 q21 q22 q23 a1 u x1 hc) (cwV 1 hw g_61 rfl rfl rfl (by decide +kernel) ⟨Nat.le_of_ble_eq_true rfl, Nat.le_of_ble_eq_true rfl⟩) (pre_V (P_sub hC hP) hK rfl rfl) rfl rfl hl.1 rfl (lv_room (Nat.le_of_ble_eq_true rfl)) d_Grc_poke_2 ⟨Nat.le_of_ble_eq_true rfl, Nat.le_of_ble_eq_true rfl⟩) hS hP (fun H locs hP hS => ?_)
  refine lv_if_eq (tgt := 19) hx hb d_Grc_poke_5 (by decide) (fun hc => ?_) (fun hc => ?_)
  · have hf := bq_t hf hc
    refine lv_iconst (v := 0) hx hb d_Grc_poke_19 (by decide) ?_
    exact rt_z (wGrc cI q0 q1 q2 q3 q4 q5 q6 q7 q8 q9 q10 q11 q12 q13 q14 q15 q16 q17 q18 q19 q20 q21 q22 q23) hx hb hr hlocks (Or.inl rfl) hS hP hf d_Grc_poke_20
  have hf := bq_n hf hc
  refine lv_iload_n hx hb d_Grc_poke_8 rfl (lv_at hl 2 rfl) ?_
  refine lv_if_lt (tgt := 19) hx hb d_Grc_poke_9 (by decide) (fun hc => ?_) (fun hc => ?_)
  · have hf := bq_t hf hc
    refine lv_iconst (v := 0) hx hb d_Grc_poke_19 (by decide) ?_
    exact rt_z (wGrc cI q0 q1 q2 q3 q4 q5 q6 q7 q8 q9 q10 q11 q12 q13 q14 q15 q16 q17 q18 q19 q20 q21 q22 q23) hx hb hr hlocks (Or.inl rfl) hS hP hf d_Grc_poke_20
  have hf := bq_n hf hc
  refine lv_iload_n hx hb d_Grc_poke_12 rfl (lv_at hl 2 rfl) ?_
  refine lv_sipush (v := 255) hx hb d_Grc_poke_13 (by decide) ?_
  refine lv_icmp_le (tgt := 21) hx hb d_Grc_poke_16 (by decide) (fun hc => ?_) (fun hc => ?_)
  · have hf := bq_t hf hc
    refine lv_aload_n hx hb d_Grc_poke_21 rfl (lv_at hl 0 rfl) ?_
    refine va_get (D := D) (ci := 0) (v := .ref q1) (C := R_Grc) (T := F_Grc) (N := 2) hx hb hw in_Grc hown hK hP 0 rfl rfl 0 (by decide) (hw _ m_367) (fun _ h9 => h9) rfl d_Grc_poke_22 ?_
    refine va_get (D := D) (ci := 3) (v := .ref q11) (C := R_Cod) (T := F_Cod) (N := 11) hx hb hw in_Cod hown hK hP 1 rfl rfl 10 (by decide) (hw _ m_368) (fun _ h9 => h9) rfl d_Grc_poke_25 ?_
    refine va_get (D := D) (ci := 5) (v := .ref q12) (C := R_Wri) (T := F_Wri) (N := 3) hx hb hw in_Wri hown hK hP 11 rfl rfl 0 (by decide) (hw _ m_401) (fun _ h9 => h9) rfl d_Grc_poke_28 ?_
    refine lv_iload_n hx hb d_Grc_poke_31 rfl (lv_at hl 1 rfl) ?_
    refine lv_iload_n hx hb d_Grc_poke_32 rfl (lv_at hl 2 rfl) ?_
    obtain ⟨h2, hf⟩ := gd_o hf
    refine va_iast hx hb hK hP (hD _) hS 12 0 rfl rfl (ix_in h2) d_Grc_poke_33 (fun H locs hP _ hS => ?_)
    obtain ⟨u3, e_u3, hf⟩ := tk_o hf
    have hP : va_P D cls (wGrc cI q0 q1 q2 q3 q4 q5 q6 q7 q8 q9 q10 q11 q12 q13 q14 q15 q16 q17 q18 q19 q20 q21 q22 q23 u3) H := by rw [e_u3]; exact hP
    refine lv_iconst (v := 1) hx hb d_Grc_poke_34 (by decide) ?_
    exact rt_z (wGrc cI q0 q1 q2 q3 q4 q5 q6 q7 q8 q9 q10 q11 q12 q13 q14 q15 q16 q17 q18 q19 q20 q21 q22 q23) hx hb hr hlocks (Or.inr rfl) hS hP hf d_Grc_poke_35
  have hf := bq_n hf hc
  refine lv_iconst (v := 0) hx hb d_Grc_poke_19 (by decide) ?_
  exact rt_z (wGrc cI q0 q1 q2 q3 q4 q5 q6 q7 q8 q9 q10 q11 q12 q13 q14 q15 q16 q17 q18 q19 q20 q21 q22 q23) hx hb hr hlocks (Or.inl rfl) hS hP hf d_Grc_poke_20
def f_Grc_cut (a1 : Int32) (u : gU) : Option (Int32 × gU) := bq (a1 < 0) (some (0, u)) (bq (a1 ≤ (u 11 0)) (tk (st2 u 11 0 a1) fun u1 => some (1, u1)) (some (0, u)))
set_option maxHeartbeats 4000000 in
set_option maxRecDepth 100000 in
theorem c_Grc_cut (l : Launch) (D : va_G) (cI : ClassId) (q0 : Nat) (q1 : Nat) (q2 : Nat) (q3 : Nat) (q4 : Nat) (q5 : Nat) (q6 : Nat) (q7 : Nat) (q8 : Nat) (q9 : Nat) (q10 : Nat) (q11 : Nat) (q12 : Nat) (q13 : Nat) (q14 : Nat) (q15 : Nat) (q16 : Nat) (q17 : Nat) (q18 : Nat) (q19 : Nat) (q20 : Nat) (q21 : Nat) (q22 : Nat) (q23 : Nat) (hd : dj [q0, q1, q2, q3, q4, q5, q6, q7, q8, q9, q10, q11, q12, q13, q14, q15, q16, q17, q18, q19, q20, q21, q22, q23]) (a1 : Int32) (u : gU) (r : Int32) (v : gU) (hf : f_Grc_cut a1 u = some (r, v)) : Met l y_Grc_cut (.code y_Grc_cut b_Grc_cut 2 (some .boolean) :: TS) ({ frames := 0, cells := 0, slots := 0, locals := 0 }) (va_Pc [.ref q0, .int a1] (fun U => va_P D cls (wGrc cI q0 q1 q2 q3 q4 q5 q6 q7 q8 q9 q10 q11 q12 q13 q14 q15 q16 q17 q18 q19 q20 q21 q22 q23 u) U.heap ∧ va_K D cls [(cI, .int)] U)) (va_Qi (fun x (_ : Unit) => x = r) (fun _ t => va_P D cls (wGrc cI q0 q1 q2 q3 q4 q5 q6 q7 q8 q9 q10 q11 q12 q13 q14 q15 q16 q17 q18 q19 q20 q21 q22 q23 v) t.heap) (ad [q0, q1, q2, q3, q4, q5, q6, q7, q8, q9, q10, q11, q12, q13, q14, q15, q16, q17, q18, q19, q20, q21, q22, q23])) 0 0 (ad [q0, q1, q2, q3, q4, q5, q6, q7, q8, q9, q10, q11, q12, q13, q14, q15, q16, q17, q18, q19, q20, q21, q22, q23]) := by
  refine ct_of (by decide +kernel) (Nat.le_of_ble_eq_true rfl) ?_
  intro p e s m below meth c ls hx hb hml hr hlocks hown hw hP hK hl
  have hS : va_S (ad [q0, q1, q2, q3, q4, q5, q6, q7, q8, q9, q10, q11, q12, q13, q14, q15, q16, q17, q18, q19, q20, q21, q22, q23]) s.heap s.heap [] := va_S.rf
  have hD : ∀ v, va_D (ad [q0, q1, q2, q3, q4, q5, q6, q7, q8, q9, q10, q11, q12, q13, q14, q15, q16, q17, q18, q19, q20, q21, q22, q23]) (wGrc cI q0 q1 q2 q3 q4 q5 q6 q7 q8 q9 q10 q11 q12 q13 q14 q15 q16 q17 q18 q19 q20 q21 q22 q23 v) := fun _ => dj_D rfl hd
  have hl : lv_has ls 2 [(0, .ref q0), (1, .int a1)] := hl
  have hP : va_P D cls (wGrc cI q0 q1 q2 q3 q4 q5 q6 q7 q8 q9 q10 q11 q12 q13 q14 q15 q16 q17 q18 q19 q20 q21 q22 q23 u) s.heap := hP
  unfold f_Grc_cut at hf
  refine lv_iload_n hx hb d_Grc_cut_0 rfl (lv_at hl 1 rfl) ?_
  refine lv_if_lt (tgt := 18) hx hb d_Grc_cut_1 (by decide) (fun hc => ?_) (fun hc => ?_)
  · have hf := bq_t hf hc
    refine lv_iconst (v := 0) hx hb d_Grc_cut_18 (by decide) ?_
    exact rt_z (wGrc cI q0 q1 q2 q3 q4 q5 q6 q7 q8 q9 q10 q11 q12 q13 q14 q15 q16 q17 q18 q19 q20 q21 q22 q23) hx hb hr hlocks (Or.inl rfl) hS hP hf d_Grc_cut_19
  have hf := bq_n hf hc
  refine lv_iload_n hx hb d_Grc_cut_4 rfl (lv_at hl 1 rfl) ?_
  refine lv_aload_n hx hb d_Grc_cut_5 rfl (lv_at hl 0 rfl) ?_
  refine va_get (D := D) (ci := 0) (v := .ref q1) (C := R_Grc) (T := F_Grc) (N := 2) hx hb hw in_Grc hown hK hP 0 rfl rfl 0 (by decide) (hw _ m_367) (fun _ h9 => h9) rfl d_Grc_cut_6 ?_
  refine va_get (D := D) (ci := 3) (v := .ref q11) (C := R_Cod) (T := F_Cod) (N := 11) hx hb hw in_Cod hown hK hP 1 rfl rfl 10 (by decide) (hw _ m_368) (fun _ h9 => h9) rfl d_Grc_cut_9 ?_
  refine va_get (D := D) (ci := 5) (v := .int (u 11 0)) (C := R_Wri) (T := F_Wri) (N := 3) hx hb hw in_Wri hown hK hP 11 rfl rfl 1 (by decide) (hw _ m_369) (fun _ h9 => h9) rfl d_Grc_cut_12 ?_
  refine lv_icmp_le (tgt := 20) hx hb d_Grc_cut_15 (by decide) (fun hc => ?_) (fun hc => ?_)
  · have hf := bq_t hf hc
    refine lv_aload_n hx hb d_Grc_cut_20 rfl (lv_at hl 0 rfl) ?_
    refine va_get (D := D) (ci := 0) (v := .ref q1) (C := R_Grc) (T := F_Grc) (N := 2) hx hb hw in_Grc hown hK hP 0 rfl rfl 0 (by decide) (hw _ m_367) (fun _ h9 => h9) rfl d_Grc_cut_21 ?_
    refine va_get (D := D) (ci := 3) (v := .ref q11) (C := R_Cod) (T := F_Cod) (N := 11) hx hb hw in_Cod hown hK hP 1 rfl rfl 10 (by decide) (hw _ m_368) (fun _ h9 => h9) rfl d_Grc_cut_24 ?_
    refine lv_iload_n hx hb d_Grc_cut_27 rfl (lv_at hl 1 rfl) ?_
    refine va_put (D := D) (ci := 5) (v := .int a1) (ty := .int) (C := R_Wri) (T := F_Wri) (N := 3) hx hb hw in_Wri t_Wri t_Wri_ok n_Wri hown hK hP (hD _) hS 11 rfl rfl 1 (by decide) (hw _ m_369) (fun _ h9 => h9) rfl (by decide +kernel) rfl rfl (Nat.le_of_ble_eq_true rfl) d_Grc_cut_28 (fun H locs hP _ hS => ?_)
    obtain ⟨u1, e_u1, hf⟩ := tk_o hf
    have hP : va_P D cls (wGrc cI q0 q1 q2 q3 q4 q5 q6 q7 q8 q9 q10 q11 q12 q13 q14 q15 q16 q17 q18 q19 q20 q21 q22 q23 u1) H := by rw [e_u1]; exact hP
    refine lv_iconst (v := 1) hx hb d_Grc_cut_31 (by decide) ?_
    exact rt_z (wGrc cI q0 q1 q2 q3 q4 q5 q6 q7 q8 q9 q10 q11 q12 q13 q14 q15 q16 q17 q18 q19 q20 q21 q22 q23) hx hb hr hlocks (Or.inr rfl) hS hP hf d_Grc_cut_32
  have hf := bq_n hf hc
  refine lv_iconst (v := 0) hx hb d_Grc_cut_18 (by decide) ?_
  exact rt_z (wGrc cI q0 q1 q2 q3 q4 q5 q6 q7 q8 q9 q10 q11 q12 q13 q14 q15 q16 q17 q18 q19 q20 q21 q22 q23) hx hb hr hlocks (Or.inl rfl) hS hP hf d_Grc_cut_19
def f_Grc_number (a1 : Int32) (u : gU) : Option (Int32) := bq (a1 = 0) (some (u 2 0)) (bq (a1 = 1) (some (u 2 1)) (bq (a1 = 2) (some (u 2 2)) (bq (a1 = 3) (some (u 2 3)) (bq (a1 = 4) (some (u 2 5)) (bq (a1 = 5) (some (u 2 6)) (bq (a1 = 6) (some (u 2 7)) (bq (a1 = 7) (some (u 2 8)) (bq (a1 = 8) (some (u 2 9)) (bq (a1 = 9) (some (u 2 10)) (some (-1)))))))))))
set_option maxHeartbeats 4000000 in
set_option maxRecDepth 100000 in
theorem c_Grc_number (l : Launch) (D : va_G) (cI : ClassId) (q0 : Nat) (q1 : Nat) (q2 : Nat) (q3 : Nat) (q4 : Nat) (q5 : Nat) (q6 : Nat) (q7 : Nat) (q8 : Nat) (q9 : Nat) (q10 : Nat) (q11 : Nat) (q12 : Nat) (q13 : Nat) (q14 : Nat) (q15 : Nat) (q16 : Nat) (q17 : Nat) (q18 : Nat) (q19 : Nat) (q20 : Nat) (q21 : Nat) (q22 : Nat) (q23 : Nat) (a1 : Int32) (u : gU) (r : Int32) (hf : f_Grc_number a1 u = some r) : Met l y_Grc_number (.code y_Grc_number b_Grc_number 3 (some .int) :: TS) ({ frames := 0, cells := 0, slots := 0, locals := 0 }) (va_Pc [.ref q0, .int a1] (fun U => va_P D cls (wGrc cI q0 q1 q2 q3 q4 q5 q6 q7 q8 q9 q10 q11 q12 q13 q14 q15 q16 q17 q18 q19 q20 q21 q22 q23 u) U.heap ∧ va_K D cls [(cI, .int)] U)) (va_Qi (fun x (_ : Unit) => x = r) (fun _ _ => True) (fun _ => False)) 0 0 (fun _ => False) := by
  refine ct_of (by decide +kernel) (Nat.le_of_ble_eq_true rfl) ?_
  intro p e s m below meth c ls hx hb hml hr hlocks hown hw hP hK hl
  have hS : va_S (fun _ => False) s.heap s.heap [] := va_S.rf
  have hl : lv_has ls 3 [(0, .ref q0), (1, .int a1)] := hl
  have hP : va_P D cls (wGrc cI q0 q1 q2 q3 q4 q5 q6 q7 q8 q9 q10 q11 q12 q13 q14 q15 q16 q17 q18 q19 q20 q21 q22 q23 u) s.heap := hP
  unfold f_Grc_number at hf
  refine lv_aload_n hx hb d_Grc_number_0 rfl (lv_at hl 0 rfl) ?_
  refine va_get (D := D) (ci := 0) (v := .ref q1) (C := R_Grc) (T := F_Grc) (N := 2) hx hb hw in_Grc hown hK hP 0 rfl rfl 0 (by decide) (hw _ m_367) (fun _ h9 => h9) rfl d_Grc_number_1 ?_
  refine va_get (D := D) (ci := 3) (v := .ref q2) (C := R_Cod) (T := F_Cod) (N := 11) hx hb hw in_Cod hown hK hP 1 rfl rfl 0 (by decide) (hw _ m_377) (fun x9 h9 => u_same (hw _ m_192) x9 h9) rfl d_Grc_number_4 ?_
  refine lv_astore_n (lv' := [(2, .ref q2), (0, .ref q0), (1, .int a1)]) hx hb d_Grc_number_7 rfl hl (by decide) rfl (fun ls hl => ?_)
  refine lv_iload_n hx hb d_Grc_number_8 rfl (lv_at hl 2 rfl) ?_
  by_cases hc0 : a1 = 0
  · have hf := bq_t hf hc0
    refine lv_tableIn (tgt := 64) hx hb d_Grc_number_9 (by rw [hc0]; decide) (by rw [hc0]; decide) (by rw [hc0]; rfl) (by decide) ?_
    refine lv_aload_n hx hb d_Grc_number_64 rfl (lv_at hl 0 rfl) ?_
    refine va_get (D := D) (ci := 1) (v := .int (u 2 0)) (C := R_Pic) (T := F_Pic) (N := 11) hx hb hw in_Pic hown hK hP 2 rfl rfl 0 (by decide) (hw _ m_402) (fun _ h9 => h9) rfl d_Grc_number_65 ?_
    exact rt_roi hx hb hr hlocks hS hf d_Grc_number_68
  have hf := bq_n hf hc0
  by_cases hc1 : a1 = 1
  · have hf := bq_t hf hc1
    refine lv_tableIn (tgt := 69) hx hb d_Grc_number_9 (by rw [hc1]; decide) (by rw [hc1]; decide) (by rw [hc1]; rfl) (by decide) ?_
    refine lv_aload_n hx hb d_Grc_number_69 rfl (lv_at hl 0 rfl) ?_
    refine va_get (D := D) (ci := 1) (v := .int (u 2 1)) (C := R_Pic) (T := F_Pic) (N := 11) hx hb hw in_Pic hown hK hP 2 rfl rfl 1 (by decide) (hw _ m_378) (fun _ h9 => h9) rfl d_Grc_number_70 ?_
    exact rt_roi hx hb hr hlocks hS hf d_Grc_number_73
  have hf := bq_n hf hc1
  by_cases hc2 : a1 = 2
  · have hf := bq_t hf hc2
    refine lv_tableIn (tgt := 74) hx hb d_Grc_number_9 (by rw [hc2]; decide) (by rw [hc2]; decide) (by rw [hc2]; rfl) (by decide) ?_
    refine lv_aload_n hx hb d_Grc_number_74 rfl (lv_at hl 0 rfl) ?_
    refine va_get (D := D) (ci := 1) (v := .int (u 2 2)) (C := R_Pic) (T := F_Pic) (N := 11) hx hb hw in_Pic hown hK hP 2 rfl rfl 2 (by decide) (hw _ m_403) (fun _ h9 => h9) rfl d_Grc_number_75 ?_
    exact rt_roi hx hb hr hlocks hS hf d_Grc_number_78
  have hf := bq_n hf hc2
  by_cases hc3 : a1 = 3
  · have hf := bq_t hf hc3
    refine lv_tableIn (tgt := 79) hx hb d_Grc_number_9 (by rw [hc3]; decide) (by rw [hc3]; decide) (by rw [hc3]; rfl) (by decide) ?_
    refine lv_aload_n hx hb d_Grc_number_79 rfl (lv_at hl 0 rfl) ?_
    refine va_get (D := D) (ci := 1) (v := .int (u 2 3)) (C := R_Pic) (T := F_Pic) (N := 11) hx hb hw in_Pic hown hK hP 2 rfl rfl 3 (by decide) (hw _ m_404) (fun _ h9 => h9) rfl d_Grc_number_80 ?_
    exact rt_roi hx hb hr hlocks hS hf d_Grc_number_83
  have hf := bq_n hf hc3
  by_cases hc4 : a1 = 4
  · have hf := bq_t hf hc4
    refine lv_tableIn (tgt := 84) hx hb d_Grc_number_9 (by rw [hc4]; decide) (by rw [hc4]; decide) (by rw [hc4]; rfl) (by decide) ?_
    refine lv_aload_n hx hb d_Grc_number_84 rfl (lv_at hl 0 rfl) ?_
    refine va_get (D := D) (ci := 1) (v := .int (u 2 5)) (C := R_Pic) (T := F_Pic) (N := 11) hx hb hw in_Pic hown hK hP 2 rfl rfl 5 (by decide) (hw _ m_405) (fun _ h9 => h9) rfl d_Grc_number_85 ?_
    exact rt_roi hx hb hr hlocks hS hf d_Grc_number_88
  have hf := bq_n hf hc4
  by_cases hc5 : a1 = 5
  · have hf := bq_t hf hc5
    refine lv_tableIn (tgt := 89) hx hb d_Grc_number_9 (by rw [hc5]; decide) (by rw [hc5]; decide) (by rw [hc5]; rfl) (by decide) ?_
    refine lv_aload_n hx hb d_Grc_number_89 rfl (lv_at hl 0 rfl) ?_
    refine va_get (D := D) (ci := 1) (v := .int (u 2 6)) (C := R_Pic) (T := F_Pic) (N := 11) hx hb hw in_Pic hown hK hP 2 rfl rfl 6 (by decide) (hw _ m_406) (fun _ h9 => h9) rfl d_Grc_number_90 ?_
    exact rt_roi hx hb hr hlocks hS hf d_Grc_number_93
  have hf := bq_n hf hc5
  by_cases hc6 : a1 = 6
  · have hf := bq_t hf hc6
    refine lv_tableIn (tgt := 94) hx hb d_Grc_number_9 (by rw [hc6]; decide) (by rw [hc6]; decide) (by rw [hc6]; rfl) (by decide) ?_
    refine lv_aload_n hx hb d_Grc_number_94 rfl (lv_at hl 0 rfl) ?_
    refine va_get (D := D) (ci := 1) (v := .int (u 2 7)) (C := R_Pic) (T := F_Pic) (N := 11) hx hb hw in_Pic hown hK hP 2 rfl rfl 7 (by decide) (hw _ m_407) (fun _ h9 => h9) rfl d_Grc_number_95 ?_
    exact rt_roi hx hb hr hlocks hS hf d_Grc_number_98
  have hf := bq_n hf hc6
  by_cases hc7 : a1 = 7
  · have hf := bq_t hf hc7
    refine lv_tableIn (tgt := 99) hx hb d_Grc_number_9 (by rw [hc7]; decide) (by rw [hc7]; decide) (by rw [hc7]; rfl) (by decide) ?_
    refine lv_aload_n hx hb d_Grc_number_99 rfl (lv_at hl 0 rfl) ?_
    refine va_get (D := D) (ci := 1) (v := .int (u 2 8)) (C := R_Pic) (T := F_Pic) (N := 11) hx hb hw in_Pic hown hK hP 2 rfl rfl 8 (by decide) (hw _ m_408) (fun _ h9 => h9) rfl d_Grc_number_100 ?_
    exact rt_roi hx hb hr hlocks hS hf d_Grc_number_103
  have hf := bq_n hf hc7
  by_cases hc8 : a1 = 8
  · have hf := bq_t hf hc8
    refine lv_tableIn (tgt := 104) hx hb d_Grc_number_9 (by rw [hc8]; decide) (by rw [hc8]; decide) (by rw [hc8]; rfl) (by decide) ?_
    refine lv_aload_n hx hb d_Grc_number_104 rfl (lv_at hl 0 rfl) ?_
    refine va_get (D := D) (ci := 1) (v := .int (u 2 9)) (C := R_Pic) (T := F_Pic) (N := 11) hx hb hw in_Pic hown hK hP 2 rfl rfl 9 (by decide) (hw _ m_409) (fun _ h9 => h9) rfl d_Grc_number_105 ?_
    exact rt_roi hx hb hr hlocks hS hf d_Grc_number_108
  have hf := bq_n hf hc8
  by_cases hc9 : a1 = 9
  · have hf := bq_t hf hc9
    refine lv_tableIn (tgt := 109) hx hb d_Grc_number_9 (by rw [hc9]; decide) (by rw [hc9]; decide) (by rw [hc9]; rfl) (by decide) ?_
    refine lv_aload_n hx hb d_Grc_number_109 rfl (lv_at hl 0 rfl) ?_
    refine va_get (D := D) (ci := 1) (v := .int (u 2 10)) (C := R_Pic) (T := F_Pic) (N := 11) hx hb hw in_Pic hown hK hP 2 rfl rfl 10 (by decide) (hw _ m_410) (fun _ h9 => h9) rfl d_Grc_number_110 ?_
    exact rt_roi hx hb hr hlocks hS hf d_Grc_number_113
  have hf := bq_n hf hc9
  refine lv_tableOut (tgt := 114) hx hb d_Grc_number_9 (by have g0 := lv_neT hc0 (a := 0) (by decide); have g1 := lv_neT hc1 (a := 1) (by decide); have g2 := lv_neT hc2 (a := 2) (by decide); have g3 := lv_neT hc3 (a := 3) (by decide); have g4 := lv_neT hc4 (a := 4) (by decide); have g5 := lv_neT hc5 (a := 5) (by decide); have g6 := lv_neT hc6 (a := 6) (by decide); have g7 := lv_neT hc7 (a := 7) (by decide); have g8 := lv_neT hc8 (a := 8) (by decide); have g9 := lv_neT hc9 (a := 9) (by decide); omega) (by decide) ?_
  refine lv_iconst (v := (-1)) hx hb d_Grc_number_114 (by decide) ?_
  exact rt_roi hx hb hr hlocks hS hf d_Grc_number_115
def f_Grc_sample (a1 : Int32) (a2 : Int32) (u : gU) : Option (Int32) := bd (f_Pic_hasPlace a1 a2 (sb [2] u)) fun x1 => bq (x1 = 0) (some (-1)) (bd (f_Pic_place a1 a2) fun x2 => gd (ix x2 64) (some (u 10 (tc x2))))
set_option maxHeartbeats 4000000 in
set_option maxRecDepth 100000 in
theorem c_Grc_sample (l : Launch) (D : va_G) (cI : ClassId) (q0 : Nat) (q1 : Nat) (q2 : Nat) (q3 : Nat) (q4 : Nat) (q5 : Nat) (q6 : Nat) (q7 : Nat) (q8 : Nat) (q9 : Nat) (q10 : Nat) (q11 : Nat) (q12 : Nat) (q13 : Nat) (q14 : Nat) (q15 : Nat) (q16 : Nat) (q17 : Nat) (q18 : Nat) (q19 : Nat) (q20 : Nat) (q21 : Nat) (q22 : Nat) (q23 : Nat) (a1 : Int32) (a2 : Int32) (u : gU) (r : Int32) (hf : f_Grc_sample a1 a2 u = some r) : Met l y_Grc_sample (.code y_Grc_sample b_Grc_sample 3 (some .int) :: TS) ({ frames := 1, cells := 0, slots := 0, locals := 22 }) (va_Pc [.ref q0, .int a1, .int a2] (fun U => va_P D cls (wGrc cI q0 q1 q2 q3 q4 q5 q6 q7 q8 q9 q10 q11 q12 q13 q14 q15 q16 q17 q18 q19 q20 q21 q22 q23 u) U.heap ∧ va_K D cls [(cI, .int)] U)) (va_Qi (fun x (_ : Unit) => x = r) (fun _ _ => True) (fun _ => False)) 0 0 (fun _ => False) := by
  refine ct_of (by decide +kernel) (Nat.le_of_ble_eq_true rfl) ?_
  intro p e s m below meth c ls hx hb hml hr hlocks hown hw hP hK hl
  have hS : va_S (fun _ => False) s.heap s.heap [] := va_S.rf
  have hl : lv_has ls 3 [(0, .ref q0), (1, .int a1), (2, .int a2)] := hl
  have hP : va_P D cls (wGrc cI q0 q1 q2 q3 q4 q5 q6 q7 q8 q9 q10 q11 q12 q13 q14 q15 q16 q17 q18 q19 q20 q21 q22 q23 u) s.heap := hP
  unfold f_Grc_sample at hf
  refine lv_aload_n hx hb d_Grc_sample_0 rfl (lv_at hl 0 rfl) ?_
  refine va_get (D := D) (ci := 0) (v := .ref q1) (C := R_Grc) (T := F_Grc) (N := 2) hx hb hw in_Grc hown hK hP 0 rfl rfl 0 (by decide) (hw _ m_367) (fun _ h9 => h9) rfl d_Grc_sample_1 ?_
  refine va_get (D := D) (ci := 3) (v := .ref q2) (C := R_Cod) (T := F_Cod) (N := 11) hx hb hw in_Cod hown hK hP 1 rfl rfl 0 (by decide) (hw _ m_377) (fun x9 h9 => u_same (hw _ m_192) x9 h9) rfl d_Grc_sample_4 ?_
  refine lv_iload_n hx hb d_Grc_sample_7 rfl (lv_at hl 1 rfl) ?_
  refine lv_iload_n hx hb d_Grc_sample_8 rfl (lv_at hl 2 rfl) ?_
  have hC : [2].map (fun i => (wGrc cI q0 q1 q2 q3 q4 q5 q6 q7 q8 q9 q10 q11 q12 q13 q14 q15 q16 q17 q18 q19 q20 q21 q22 q23 u)[i]?) = (wPic cI q2 (sb [2] u)).map some := rfl
  obtain ⟨x1, hc, hf⟩ := bd_o hf
  refine ro_i (va_runV (As := [.int a1, .int a2]) (rest := []) ⟨hx, hb, hml, hown, hw⟩ (c_Pic_hasPlace l D cI q2 a1 a2 (sb [2] u) x1 hc) (cwV 2 hw g_62 rfl rfl rfl (by decide +kernel) ⟨Nat.le_of_ble_eq_true rfl, Nat.le_of_ble_eq_true rfl⟩) (pre_V (P_sub hC hP) hK rfl rfl) rfl rfl hl.1 rfl (lv_room (Nat.le_of_ble_eq_true rfl)) d_Grc_sample_9 ⟨Nat.le_of_ble_eq_true rfl, Nat.le_of_ble_eq_true rfl⟩) hS hP (fun H locs hP hS => ?_)
  refine lv_if_eq (tgt := 31) hx hb d_Grc_sample_12 (by decide) (fun hc => ?_) (fun hc => ?_)
  · have hf := bq_t hf hc
    refine lv_iconst (v := (-1)) hx hb d_Grc_sample_31 (by decide) ?_
    exact rt_roi hx hb hr hlocks hS hf d_Grc_sample_32
  have hf := bq_n hf hc
  refine lv_aload_n hx hb d_Grc_sample_15 rfl (lv_at hl 0 rfl) ?_
  refine va_get (D := D) (ci := 0) (v := .ref q1) (C := R_Grc) (T := F_Grc) (N := 2) hx hb hw in_Grc hown hK hP 0 rfl rfl 0 (by decide) (hw _ m_367) (fun _ h9 => h9) rfl d_Grc_sample_16 ?_
  refine va_get (D := D) (ci := 3) (v := .ref q10) (C := R_Cod) (T := F_Cod) (N := 11) hx hb hw in_Cod hown hK hP 1 rfl rfl 9 (by decide) (hw _ m_415) (fun _ h9 => h9) rfl d_Grc_sample_19 ?_
  refine lv_iload_n hx hb d_Grc_sample_22 rfl (lv_at hl 1 rfl) ?_
  refine lv_iload_n hx hb d_Grc_sample_23 rfl (lv_at hl 2 rfl) ?_
  have hC : ([] : List Nat).map (fun i => (wGrc cI q0 q1 q2 q3 q4 q5 q6 q7 q8 q9 q10 q11 q12 q13 q14 q15 q16 q17 q18 q19 q20 q21 q22 q23 u)[i]?) = ([] : va_W).map some := rfl
  obtain ⟨x2, hc, hf⟩ := bd_o hf
  refine ro_i (va_runS (As := [.int a1, .int a2]) (rest := [.ref q10]) ⟨hx, hb, hml, hown, hw⟩ (c_Pic_place l D cI a1 a2 x2 hc) (va_cwS 2 hw g_63 rfl rfl rfl (by decide +kernel) ⟨Nat.le_of_ble_eq_true rfl, Nat.le_of_ble_eq_true rfl⟩) (pre_S (P_sub hC hP) hK) rfl rfl hl.1 rfl (lv_room (Nat.le_of_ble_eq_true rfl)) d_Grc_sample_24 ⟨Nat.le_of_ble_eq_true rfl, Nat.le_of_ble_eq_true rfl⟩) hS hP (fun H locs hP hS => ?_)
  obtain ⟨h3, hf⟩ := gd_o hf
  refine va_iald hx hb hK hP 10 0 rfl rfl (ix_in h3) d_Grc_sample_27 ?_
  refine lv_goto (tgt := 32) hx hb d_Grc_sample_28 (by decide) ?_
  exact rt_roi hx hb hr hlocks hS hf d_Grc_sample_32
def f_Grc_rebuilt (a1 : Int32) (a2 : Int32) (u : gU) : Option (Int32) := bd (f_Pic_hasPlace a1 a2 (sb [2] u)) fun x1 => bq (x1 = 0) (some (-1)) (bd (f_Pic_place a1 a2) fun x2 => gd (ix x2 64) (some (u 9 (tc x2))))
set_option maxHeartbeats 4000000 in
set_option maxRecDepth 100000 in
theorem c_Grc_rebuilt (l : Launch) (D : va_G) (cI : ClassId) (q0 : Nat) (q1 : Nat) (q2 : Nat) (q3 : Nat) (q4 : Nat) (q5 : Nat) (q6 : Nat) (q7 : Nat) (q8 : Nat) (q9 : Nat) (q10 : Nat) (q11 : Nat) (q12 : Nat) (q13 : Nat) (q14 : Nat) (q15 : Nat) (q16 : Nat) (q17 : Nat) (q18 : Nat) (q19 : Nat) (q20 : Nat) (q21 : Nat) (q22 : Nat) (q23 : Nat) (a1 : Int32) (a2 : Int32) (u : gU) (r : Int32) (hf : f_Grc_rebuilt a1 a2 u = some r) : Met l y_Grc_rebuilt (.code y_Grc_rebuilt b_Grc_rebuilt 3 (some .int) :: TS) ({ frames := 1, cells := 0, slots := 0, locals := 22 }) (va_Pc [.ref q0, .int a1, .int a2] (fun U => va_P D cls (wGrc cI q0 q1 q2 q3 q4 q5 q6 q7 q8 q9 q10 q11 q12 q13 q14 q15 q16 q17 q18 q19 q20 q21 q22 q23 u) U.heap ∧ va_K D cls [(cI, .int)] U)) (va_Qi (fun x (_ : Unit) => x = r) (fun _ _ => True) (fun _ => False)) 0 0 (fun _ => False) := by
  refine ct_of (by decide +kernel) (Nat.le_of_ble_eq_true rfl) ?_
  intro p e s m below meth c ls hx hb hml hr hlocks hown hw hP hK hl
  have hS : va_S (fun _ => False) s.heap s.heap [] := va_S.rf
  have hl : lv_has ls 3 [(0, .ref q0), (1, .int a1), (2, .int a2)] := hl
  have hP : va_P D cls (wGrc cI q0 q1 q2 q3 q4 q5 q6 q7 q8 q9 q10 q11 q12 q13 q14 q15 q16 q17 q18 q19 q20 q21 q22 q23 u) s.heap := hP
  unfold f_Grc_rebuilt at hf
  refine lv_aload_n hx hb d_Grc_rebuilt_0 rfl (lv_at hl 0 rfl) ?_
  refine va_get (D := D) (ci := 0) (v := .ref q1) (C := R_Grc) (T := F_Grc) (N := 2) hx hb hw in_Grc hown hK hP 0 rfl rfl 0 (by decide) (hw _ m_367) (fun _ h9 => h9) rfl d_Grc_rebuilt_1 ?_
  refine va_get (D := D) (ci := 3) (v := .ref q2) (C := R_Cod) (T := F_Cod) (N := 11) hx hb hw in_Cod hown hK hP 1 rfl rfl 0 (by decide) (hw _ m_377) (fun x9 h9 => u_same (hw _ m_192) x9 h9) rfl d_Grc_rebuilt_4 ?_
  refine lv_iload_n hx hb d_Grc_rebuilt_7 rfl (lv_at hl 1 rfl) ?_
  refine lv_iload_n hx hb d_Grc_rebuilt_8 rfl (lv_at hl 2 rfl) ?_
  have hC : [2].map (fun i => (wGrc cI q0 q1 q2 q3 q4 q5 q6 q7 q8 q9 q10 q11 q12 q13 q14 q15 q16 q17 q18 q19 q20 q21 q22 q23 u)[i]?) = (wPic cI q2 (sb [2] u)).map some := rfl
  obtain ⟨x1, hc, hf⟩ := bd_o hf
  refine ro_i (va_runV (As := [.int a1, .int a2]) (rest := []) ⟨hx, hb, hml, hown, hw⟩ (c_Pic_hasPlace l D cI q2 a1 a2 (sb [2] u) x1 hc) (cwV 2 hw g_62 rfl rfl rfl (by decide +kernel) ⟨Nat.le_of_ble_eq_true rfl, Nat.le_of_ble_eq_true rfl⟩) (pre_V (P_sub hC hP) hK rfl rfl) rfl rfl hl.1 rfl (lv_room (Nat.le_of_ble_eq_true rfl)) d_Grc_rebuilt_9 ⟨Nat.le_of_ble_eq_true rfl, Nat.le_of_ble_eq_true rfl⟩) hS hP (fun H locs hP hS => ?_)
  refine lv_if_eq (tgt := 31) hx hb d_Grc_rebuilt_12 (by decide) (fun hc => ?_) (fun hc => ?_)
  · have hf := bq_t hf hc
    refine lv_iconst (v := (-1)) hx hb d_Grc_rebuilt_31 (by decide) ?_
    exact rt_roi hx hb hr hlocks hS hf d_Grc_rebuilt_32
  have hf := bq_n hf hc
  refine lv_aload_n hx hb d_Grc_rebuilt_15 rfl (lv_at hl 0 rfl) ?_
  refine va_get (D := D) (ci := 0) (v := .ref q1) (C := R_Grc) (T := F_Grc) (N := 2) hx hb hw in_Grc hown hK hP 0 rfl rfl 0 (by decide) (hw _ m_367) (fun _ h9 => h9) rfl d_Grc_rebuilt_16 ?_
  refine va_get (D := D) (ci := 3) (v := .ref q9) (C := R_Cod) (T := F_Cod) (N := 11) hx hb hw in_Cod hown hK hP 1 rfl rfl 2 (by decide) (hw _ m_417) (fun x9 h9 => u_same (hw _ m_203) x9 h9) rfl d_Grc_rebuilt_19 ?_
  refine lv_iload_n hx hb d_Grc_rebuilt_22 rfl (lv_at hl 1 rfl) ?_
  refine lv_iload_n hx hb d_Grc_rebuilt_23 rfl (lv_at hl 2 rfl) ?_
  have hC : ([] : List Nat).map (fun i => (wGrc cI q0 q1 q2 q3 q4 q5 q6 q7 q8 q9 q10 q11 q12 q13 q14 q15 q16 q17 q18 q19 q20 q21 q22 q23 u)[i]?) = ([] : va_W).map some := rfl
  obtain ⟨x2, hc, hf⟩ := bd_o hf
  refine ro_i (va_runS (As := [.int a1, .int a2]) (rest := [.ref q9]) ⟨hx, hb, hml, hown, hw⟩ (c_Pic_place l D cI a1 a2 x2 hc) (va_cwS 2 hw g_63 rfl rfl rfl (by decide +kernel) ⟨Nat.le_of_ble_eq_true rfl, Nat.le_of_ble_eq_true rfl⟩) (pre_S (P_sub hC hP) hK) rfl rfl hl.1 rfl (lv_room (Nat.le_of_ble_eq_true rfl)) d_Grc_rebuilt_24 ⟨Nat.le_of_ble_eq_true rfl, Nat.le_of_ble_eq_true rfl⟩) hS hP (fun H locs hP hS => ?_)
  obtain ⟨h3, hf⟩ := gd_o hf
  refine va_iald hx hb hK hP 9 0 rfl rfl (ix_in h3) d_Grc_rebuilt_27 ?_
  refine lv_goto (tgt := 32) hx hb d_Grc_rebuilt_28 (by decide) ?_
  exact rt_roi hx hb hr hlocks hS hf d_Grc_rebuilt_32
def f_Grc_context (a1 : Int32) (a2 : Int32) (u : gU) : Option (Int32) := bq (a1 < 0) (some (-1000000)) (bq (a1 < 367) (bq (a2 = 0) (gd (ix a1 367) (some (u 4 (tc a1)))) (bq (a2 = 1) (gd (ix a1 367) (some (u 5 (tc a1)))) (bq (a2 = 2) (gd (ix a1 367) (some (u 6 (tc a1)))) (bq (a2 = 3) (gd (ix a1 367) (some (u 7 (tc a1)))) (bq (a2 = 4) (gd (ix a1 367) (some (u 8 (tc a1)))) (some (-1000000))))))) (some (-1000000)))
set_option maxHeartbeats 4000000 in
set_option maxRecDepth 100000 in
theorem c_Grc_context (l : Launch) (D : va_G) (cI : ClassId) (q0 : Nat) (q1 : Nat) (q2 : Nat) (q3 : Nat) (q4 : Nat) (q5 : Nat) (q6 : Nat) (q7 : Nat) (q8 : Nat) (q9 : Nat) (q10 : Nat) (q11 : Nat) (q12 : Nat) (q13 : Nat) (q14 : Nat) (q15 : Nat) (q16 : Nat) (q17 : Nat) (q18 : Nat) (q19 : Nat) (q20 : Nat) (q21 : Nat) (q22 : Nat) (q23 : Nat) (a1 : Int32) (a2 : Int32) (u : gU) (r : Int32) (hf : f_Grc_context a1 a2 u = some r) : Met l y_Grc_context (.code y_Grc_context b_Grc_context 4 (some .int) :: TS) ({ frames := 0, cells := 0, slots := 0, locals := 0 }) (va_Pc [.ref q0, .int a1, .int a2] (fun U => va_P D cls (wGrc cI q0 q1 q2 q3 q4 q5 q6 q7 q8 q9 q10 q11 q12 q13 q14 q15 q16 q17 q18 q19 q20 q21 q22 q23 u) U.heap ∧ va_K D cls [(cI, .int)] U)) (va_Qi (fun x (_ : Unit) => x = r) (fun _ _ => True) (fun _ => False)) 0 0 (fun _ => False) := by
  refine ct_of (by decide +kernel) (Nat.le_of_ble_eq_true rfl) ?_
  intro p e s m below meth c ls hx hb hml hr hlocks hown hw hP hK hl
  have hS : va_S (fun _ => False) s.heap s.heap [] := va_S.rf
  have hl : lv_has ls 4 [(0, .ref q0), (1, .int a1), (2, .int a2)] := hl
  have hP : va_P D cls (wGrc cI q0 q1 q2 q3 q4 q5 q6 q7 q8 q9 q10 q11 q12 q13 q14 q15 q16 q17 q18 q19 q20 q21 q22 q23 u) s.heap := hP
  unfold f_Grc_context at hf
  refine lv_iload_n hx hb d_Grc_context_0 rfl (lv_at hl 1 rfl) ?_
  refine lv_if_lt (tgt := 11) hx hb d_Grc_context_1 (by decide) (fun hc => ?_) (fun hc => ?_)
  · have hf := bq_t hf hc
    refine lv_ldc (v := (-1000000)) hx hb hown (hw _ m_418) d_Grc_context_11 ?_
    exact rt_roi hx hb hr hlocks hS hf d_Grc_context_13
  have hf := bq_n hf hc
  refine lv_iload_n hx hb d_Grc_context_4 rfl (lv_at hl 1 rfl) ?_
  refine lv_sipush (v := 367) hx hb d_Grc_context_5 (by decide) ?_
  refine lv_icmp_lt (tgt := 14) hx hb d_Grc_context_8 (by decide) (fun hc => ?_) (fun hc => ?_)
  · have hf := bq_t hf hc
    refine lv_aload_n hx hb d_Grc_context_14 rfl (lv_at hl 0 rfl) ?_
    refine va_get (D := D) (ci := 0) (v := .ref q1) (C := R_Grc) (T := F_Grc) (N := 2) hx hb hw in_Grc hown hK hP 0 rfl rfl 0 (by decide) (hw _ m_367) (fun _ h9 => h9) rfl d_Grc_context_15 ?_
    refine va_get (D := D) (ci := 3) (v := .ref q3) (C := R_Cod) (T := F_Cod) (N := 11) hx hb hw in_Cod hown hK hP 1 rfl rfl 1 (by decide) (hw _ m_419) (fun x9 h9 => u_same (hw _ m_214) x9 h9) rfl d_Grc_context_18 ?_
    refine lv_astore_n (lv' := [(3, .ref q3), (0, .ref q0), (1, .int a1), (2, .int a2)]) hx hb d_Grc_context_21 rfl hl (by decide) rfl (fun ls hl => ?_)
    refine lv_iload_n hx hb d_Grc_context_22 rfl (lv_at hl 3 rfl) ?_
    by_cases hc0 : a2 = 0
    · have hf := bq_t hf hc0
      refine lv_tableIn (tgt := 56) hx hb d_Grc_context_23 (by rw [hc0]; decide) (by rw [hc0]; decide) (by rw [hc0]; rfl) (by decide) ?_
      refine lv_aload_n hx hb d_Grc_context_56 rfl (lv_at hl 0 rfl) ?_
      refine va_get (D := D) (ci := 2) (v := .ref q4) (C := R_Ctx) (T := F_Ctx) (N := 6) hx hb hw in_Ctx hown hK hP 3 rfl rfl 0 (by decide) (hw _ m_420) (fun _ h9 => h9) rfl d_Grc_context_57 ?_
      refine lv_iload_n hx hb d_Grc_context_60 rfl (lv_at hl 2 rfl) ?_
      obtain ⟨h1, hf⟩ := gd_o hf
      refine va_iald hx hb hK hP 4 0 rfl rfl (ix_in h1) d_Grc_context_61 ?_
      exact rt_roi hx hb hr hlocks hS hf d_Grc_context_62
    have hf := bq_n hf hc0
    by_cases hc1 : a2 = 1
    · have hf := bq_t hf hc1
      refine lv_tableIn (tgt := 63) hx hb d_Grc_context_23 (by rw [hc1]; decide) (by rw [hc1]; decide) (by rw [hc1]; rfl) (by decide) ?_
      refine lv_aload_n hx hb d_Grc_context_63 rfl (lv_at hl 0 rfl) ?_
      refine va_get (D := D) (ci := 2) (v := .ref q5) (C := R_Ctx) (T := F_Ctx) (N := 6) hx hb hw in_Ctx hown hK hP 3 rfl rfl 1 (by decide) (hw _ m_421) (fun _ h9 => h9) rfl d_Grc_context_64 ?_
      refine lv_iload_n hx hb d_Grc_context_67 rfl (lv_at hl 2 rfl) ?_
      obtain ⟨h2, hf⟩ := gd_o hf
      refine va_iald hx hb hK hP 5 0 rfl rfl (ix_in h2) d_Grc_context_68 ?_
      exact rt_roi hx hb hr hlocks hS hf d_Grc_context_69
    have hf := bq_n hf hc1
    by_cases hc2 : a2 = 2
    · have hf := bq_t hf hc2
      refine lv_tableIn (tgt := 70) hx hb d_Grc_context_23 (by rw [hc2]; decide) (by rw [hc2]; decide) (by rw [hc2]; rfl) (by decide) ?_
      refine lv_aload_n hx hb d_Grc_context_70 rfl (lv_at hl 0 rfl) ?_
      refine va_get (D := D) (ci := 2) (v := .ref q6) (C := R_Ctx) (T := F_Ctx) (N := 6) hx hb hw in_Ctx hown hK hP 3 rfl rfl 2 (by decide) (hw _ m_422) (fun _ h9 => h9) rfl d_Grc_context_71 ?_
      refine lv_iload_n hx hb d_Grc_context_74 rfl (lv_at hl 2 rfl) ?_
      obtain ⟨h3, hf⟩ := gd_o hf
      refine va_iald hx hb hK hP 6 0 rfl rfl (ix_in h3) d_Grc_context_75 ?_
      exact rt_roi hx hb hr hlocks hS hf d_Grc_context_76
    have hf := bq_n hf hc2
    by_cases hc3 : a2 = 3
    · have hf := bq_t hf hc3
      refine lv_tableIn (tgt := 77) hx hb d_Grc_context_23 (by rw [hc3]; decide) (by rw [hc3]; decide) (by rw [hc3]; rfl) (by decide) ?_
      refine lv_aload_n hx hb d_Grc_context_77 rfl (lv_at hl 0 rfl) ?_
      refine va_get (D := D) (ci := 2) (v := .ref q7) (C := R_Ctx) (T := F_Ctx) (N := 6) hx hb hw in_Ctx hown hK hP 3 rfl rfl 3 (by decide) (hw _ m_423) (fun _ h9 => h9) rfl d_Grc_context_78 ?_
      refine lv_iload_n hx hb d_Grc_context_81 rfl (lv_at hl 2 rfl) ?_
      obtain ⟨h4, hf⟩ := gd_o hf
      refine va_iald hx hb hK hP 7 0 rfl rfl (ix_in h4) d_Grc_context_82 ?_
      exact rt_roi hx hb hr hlocks hS hf d_Grc_context_83
    have hf := bq_n hf hc3
    by_cases hc4 : a2 = 4
    · have hf := bq_t hf hc4
      refine lv_tableIn (tgt := 84) hx hb d_Grc_context_23 (by rw [hc4]; decide) (by rw [hc4]; decide) (by rw [hc4]; rfl) (by decide) ?_
      refine lv_aload_n hx hb d_Grc_context_84 rfl (lv_at hl 0 rfl) ?_
      refine va_get (D := D) (ci := 2) (v := .ref q8) (C := R_Ctx) (T := F_Ctx) (N := 6) hx hb hw in_Ctx hown hK hP 3 rfl rfl 4 (by decide) (hw _ m_424) (fun _ h9 => h9) rfl d_Grc_context_85 ?_
      refine lv_iload_n hx hb d_Grc_context_88 rfl (lv_at hl 2 rfl) ?_
      obtain ⟨h5, hf⟩ := gd_o hf
      refine va_iald hx hb hK hP 8 0 rfl rfl (ix_in h5) d_Grc_context_89 ?_
      exact rt_roi hx hb hr hlocks hS hf d_Grc_context_90
    have hf := bq_n hf hc4
    refine lv_tableOut (tgt := 91) hx hb d_Grc_context_23 (by have g0 := lv_neT hc0 (a := 0) (by decide); have g1 := lv_neT hc1 (a := 1) (by decide); have g2 := lv_neT hc2 (a := 2) (by decide); have g3 := lv_neT hc3 (a := 3) (by decide); have g4 := lv_neT hc4 (a := 4) (by decide); omega) (by decide) ?_
    refine lv_ldc (v := (-1000000)) hx hb hown (hw _ m_418) d_Grc_context_91 ?_
    exact rt_roi hx hb hr hlocks hS hf d_Grc_context_93
  have hf := bq_n hf hc
  refine lv_ldc (v := (-1000000)) hx hb hown (hw _ m_418) d_Grc_context_11 ?_
  exact rt_roi hx hb hr hlocks hS hf d_Grc_context_13
def f_Grc_runIndex (u : gU) : Option (Int32) := some (u 3 0)
set_option maxHeartbeats 4000000 in
set_option maxRecDepth 100000 in
theorem c_Grc_runIndex (l : Launch) (D : va_G) (cI : ClassId) (q0 : Nat) (q1 : Nat) (q2 : Nat) (q3 : Nat) (q4 : Nat) (q5 : Nat) (q6 : Nat) (q7 : Nat) (q8 : Nat) (q9 : Nat) (q10 : Nat) (q11 : Nat) (q12 : Nat) (q13 : Nat) (q14 : Nat) (q15 : Nat) (q16 : Nat) (q17 : Nat) (q18 : Nat) (q19 : Nat) (q20 : Nat) (q21 : Nat) (q22 : Nat) (q23 : Nat) (u : gU) (r : Int32) (hf : f_Grc_runIndex u = some r) : Met l y_Grc_runIndex (.code y_Grc_runIndex b_Grc_runIndex 1 (some .int) :: TS) ({ frames := 0, cells := 0, slots := 0, locals := 0 }) (va_Pc [.ref q0] (fun U => va_P D cls (wGrc cI q0 q1 q2 q3 q4 q5 q6 q7 q8 q9 q10 q11 q12 q13 q14 q15 q16 q17 q18 q19 q20 q21 q22 q23 u) U.heap ∧ va_K D cls [(cI, .int)] U)) (va_Qi (fun x (_ : Unit) => x = r) (fun _ _ => True) (fun _ => False)) 0 0 (fun _ => False) := by
  refine ct_of (by decide +kernel) (Nat.le_of_ble_eq_true rfl) ?_
  intro p e s m below meth c ls hx hb hml hr hlocks hown hw hP hK hl
  have hS : va_S (fun _ => False) s.heap s.heap [] := va_S.rf
  have hl : lv_has ls 1 [(0, .ref q0)] := hl
  have hP : va_P D cls (wGrc cI q0 q1 q2 q3 q4 q5 q6 q7 q8 q9 q10 q11 q12 q13 q14 q15 q16 q17 q18 q19 q20 q21 q22 q23 u) s.heap := hP
  unfold f_Grc_runIndex at hf
  refine lv_aload_n hx hb d_Grc_runIndex_0 rfl (lv_at hl 0 rfl) ?_
  refine va_get (D := D) (ci := 0) (v := .ref q1) (C := R_Grc) (T := F_Grc) (N := 2) hx hb hw in_Grc hown hK hP 0 rfl rfl 0 (by decide) (hw _ m_367) (fun _ h9 => h9) rfl d_Grc_runIndex_1 ?_
  refine va_get (D := D) (ci := 3) (v := .ref q3) (C := R_Cod) (T := F_Cod) (N := 11) hx hb hw in_Cod hown hK hP 1 rfl rfl 1 (by decide) (hw _ m_419) (fun x9 h9 => u_same (hw _ m_214) x9 h9) rfl d_Grc_runIndex_4 ?_
  refine va_get (D := D) (ci := 2) (v := .int (u 3 0)) (C := R_Ctx) (T := F_Ctx) (N := 6) hx hb hw in_Ctx hown hK hP 3 rfl rfl 5 (by decide) (hw _ m_425) (fun _ h9 => h9) rfl d_Grc_runIndex_7 ?_
  exact rt_roi hx hb hr hlocks hS hf d_Grc_runIndex_10
