def f_Pas_rebuiltOrNothing_C (a1 : Int32) (a2 : Int32) (u : gU) : Option (Int32) := bq (0 ≤ a2) (bd (f_Pic_place a1 a2) fun x1 => gd (ix x1 64) (some (u 8 (tc x1)))) (some 0)
set_option maxHeartbeats 4000000 in
set_option maxRecDepth 100000 in
theorem c_Pas_rebuiltOrNothing_C (l : Launch) (D : va_G) (cI : ClassId) (q0 : Nat) (q1 : Nat) (q2 : Nat) (q3 : Nat) (q4 : Nat) (q5 : Nat) (q6 : Nat) (q7 : Nat) (q8 : Nat) (q9 : Nat) (q10 : Nat) (q11 : Nat) (a1 : Int32) (a2 : Int32) (u : gU) (r : Int32) (hf : f_Pas_rebuiltOrNothing_C a1 a2 u = some r) : Met l y_Pas_rebuiltOrNothing (.code y_Pas_rebuiltOrNothing b_Pas_rebuiltOrNothing 3 (some .int) :: TS) ({ frames := 1, cells := 0, slots := 0, locals := 21 }) (va_Pc [.ref q0, .int a1, .int a2] (fun U => va_P D cls (wCod cI q0 q1 q2 q3 q4 q5 q6 q7 q8 q9 q10 q11 u) U.heap ∧ va_K D cls [(cI, .int)] U)) (va_Qi (fun x (_ : Unit) => x = r) (fun _ _ => True) (fun _ => False)) 0 0 (fun _ => False) := by
  refine ct_of (by decide +kernel) (Nat.le_of_ble_eq_true rfl) ?_
  intro p e s m below meth c ls hx hb hml hr hlocks hown hw hP hK hl
  have hS : va_S (fun _ => False) s.heap s.heap [] := va_S.rf
  have hl : lv_has ls 3 [(0, .ref q0), (1, .int a1), (2, .int a2)] := hl
  have hP : va_P D cls (wCod cI q0 q1 q2 q3 q4 q5 q6 q7 q8 q9 q10 q11 u) s.heap := hP
  unfold f_Pas_rebuiltOrNothing_C at hf
  refine lv_iload_n hx hb d_Pas_rebuiltOrNothing_0 rfl (lv_at hl 2 rfl) ?_
  refine lv_if_ge (tgt := 8) hx hb d_Pas_rebuiltOrNothing_1 (by decide) (fun hc => ?_) (fun hc => ?_)
  · have hf := bq_t hf hc
    refine lv_aload_n hx hb d_Pas_rebuiltOrNothing_8 rfl (lv_at hl 0 rfl) ?_
    refine va_get (D := D) (ci := 3) (v := .ref q8) (C := R_Cod) (T := F_Cod) (N := 11) hx hb hw in_Cod hown hK hP 0 rfl rfl 2 (by decide) (hw _ m_159) (fun _ h9 => h9) rfl d_Pas_rebuiltOrNothing_9 ?_
    refine lv_iload_n hx hb d_Pas_rebuiltOrNothing_12 rfl (lv_at hl 1 rfl) ?_
    refine lv_iload_n hx hb d_Pas_rebuiltOrNothing_13 rfl (lv_at hl 2 rfl) ?_
    have hC : ([] : List Nat).map (fun i => (wCod cI q0 q1 q2 q3 q4 q5 q6 q7 q8 q9 q10 q11 u)[i]?) = ([] : va_W).map some := rfl
    obtain ⟨x1, hc, hf⟩ := bd_o hf
    refine ro_i (va_runS (As := [.int a1, .int a2]) (rest := [.ref q8]) ⟨hx, hb, hml, hown, hw⟩ (c_Pic_place l D cI a1 a2 x1 hc) (va_cwS 2 hw g_11 rfl rfl rfl (by decide +kernel) ⟨Nat.le_of_ble_eq_true rfl, Nat.le_of_ble_eq_true rfl⟩) (pre_S (P_sub hC hP) hK) rfl rfl hl.1 rfl (lv_room (Nat.le_of_ble_eq_true rfl)) d_Pas_rebuiltOrNothing_14 ⟨Nat.le_of_ble_eq_true rfl, Nat.le_of_ble_eq_true rfl⟩) hS hP (fun H locs hP hS => ?_)
    obtain ⟨h2, hf⟩ := gd_o hf
    refine va_iald hx hb hK hP 8 0 rfl rfl (ix_in h2) d_Pas_rebuiltOrNothing_17 ?_
    exact rt_roi hx hb hr hlocks hS hf d_Pas_rebuiltOrNothing_18
  have hf := bq_n hf hc
  refine lv_iconst (v := 0) hx hb d_Pas_rebuiltOrNothing_4 (by decide) ?_
  refine lv_goto (tgt := 18) hx hb d_Pas_rebuiltOrNothing_5 (by decide) ?_
  exact rt_roi hx hb hr hlocks hS hf d_Pas_rebuiltOrNothing_18
def J_Pas_lookAround_C_95 (s1 : Int32) (u : gU) : Option (gU) := tk (st2 u 0 3 s1) fun u1 => some u1
def J_Pas_lookAround_C_61 (l1 : Int32) (l2 : Int32) (s1 : Int32) (u : gU) : Option (gU) := tk (st2 u 0 2 s1) fun u1 => bq (((u1 1 0) - 1) ≤ l1) (J_Pas_lookAround_C_95 (u1 0 1) u1) (bd (f_Pas_rebuiltOrNothing_C (l1 + 1) (l2 - 1) u1) fun x2 => J_Pas_lookAround_C_95 x2 u1)
def J_Pas_lookAround_C_32 (l1 : Int32) (l2 : Int32) (s1 : Int32) (u : gU) : Option (gU) := tk (st2 u 0 0 s1) fun u1 => bq (l1 ≤ 0) (bd (f_Pas_rebuiltOrNothing_C l1 (l2 - 2) u1) fun x2 => J_Pas_lookAround_C_61 l1 l2 x2 u1) (bd (f_Pas_rebuiltOrNothing_C (l1 - 1) (l2 - 1) u1) fun x3 => J_Pas_lookAround_C_61 l1 l2 x3 u1)
def f_Pas_lookAround_C (a1 : Int32) (a2 : Int32) (u : gU) : Option (gU) := bd (f_Pas_rebuiltOrNothing_C a1 (a2 - 1) u) fun x1 => tk (st2 u 0 1 x1) fun u2 => bq (a1 ≤ 0) (J_Pas_lookAround_C_32 a1 a2 (u2 0 1) u2) (bd (f_Pas_rebuiltOrNothing_C (a1 - 1) a2 u2) fun x3 => J_Pas_lookAround_C_32 a1 a2 x3 u2)
set_option maxHeartbeats 4000000 in
set_option maxRecDepth 100000 in
theorem c_Pas_lookAround_C (l : Launch) (D : va_G) (cI : ClassId) (q0 : Nat) (q1 : Nat) (q2 : Nat) (q3 : Nat) (q4 : Nat) (q5 : Nat) (q6 : Nat) (q7 : Nat) (q8 : Nat) (q9 : Nat) (q10 : Nat) (q11 : Nat) (hd : dj [q0, q1, q2, q3, q4, q5, q6, q7, q8, q9, q10, q11]) (a1 : Int32) (a2 : Int32) (u : gU) (v : gU) (hf : f_Pas_lookAround_C a1 a2 u = some v) : Met l y_Pas_lookAround (.code y_Pas_lookAround b_Pas_lookAround 3 none :: TS) ({ frames := 2, cells := 0, slots := 0, locals := 43 }) (va_Pc [.ref q0, .int a1, .int a2] (fun U => va_P D cls (wCod cI q0 q1 q2 q3 q4 q5 q6 q7 q8 q9 q10 q11 u) U.heap ∧ va_K D cls [(cI, .int)] U)) (va_Qv (fun (_ : Unit) => True) (fun _ t => va_P D cls (wCod cI q0 q1 q2 q3 q4 q5 q6 q7 q8 q9 q10 q11 v) t.heap) (ad [q0, q1, q2, q3, q4, q5, q6, q7, q8, q9, q10, q11])) 0 0 (ad [q0, q1, q2, q3, q4, q5, q6, q7, q8, q9, q10, q11]) := by
  refine ct_of (by decide +kernel) (Nat.le_of_ble_eq_true rfl) ?_
  intro p e s m below meth c ls hx hb hml hr hlocks hown hw hP hK hl
  have hS : va_S (ad [q0, q1, q2, q3, q4, q5, q6, q7, q8, q9, q10, q11]) s.heap s.heap [] := va_S.rf
  have hD : ∀ v, va_D (ad [q0, q1, q2, q3, q4, q5, q6, q7, q8, q9, q10, q11]) (wCod cI q0 q1 q2 q3 q4 q5 q6 q7 q8 q9 q10 q11 v) := fun _ => dj_D rfl hd
  have hl : lv_has ls 3 [(0, .ref q0), (1, .int a1), (2, .int a2)] := hl
  have hP : va_P D cls (wCod cI q0 q1 q2 q3 q4 q5 q6 q7 q8 q9 q10 q11 u) s.heap := hP
  have j95 : ∀ (ls : Array Slot) (H : Heap) (locs : List Loc) (s1 : Int32) (u : gU), lv_has ls 3 [] → va_P D cls (wCod cI q0 q1 q2 q3 q4 q5 q6 q7 q8 q9 q10 q11 u) H → va_S (ad [q0, q1, q2, q3, q4, q5, q6, q7, q8, q9, q10, q11]) s.heap H locs → J_Pas_lookAround_C_95 s1 u = some v → W p l e ({ frames := 2, cells := 0, slots := 0, locals := 43 }) s m [.ref q0, .int a1, .int a2].toArray below meth c H locs 0 0 (MQ below (va_Qv (fun (_ : Unit) => True) (fun _ t => va_P D cls (wCod cI q0 q1 q2 q3 q4 q5 q6 q7 q8 q9 q10 q11 v) t.heap) (ad [q0, q1, q2, q3, q4, q5, q6, q7, q8, q9, q10, q11])) [.ref q0, .int a1, .int a2].toArray s 0 0 (ad [q0, q1, q2, q3, q4, q5, q6, q7, q8, q9, q10, q11])) (F0 m 95 ls [.int s1, .ref q0]) := by
    intro ls H locs s1 u hl hP hS hf
    unfold J_Pas_lookAround_C_95 at hf
    refine va_put (D := D) (ci := 3) (v := .int s1) (ty := .int) (C := R_Cod) (T := F_Cod) (N := 11) hx hb hw in_Cod t_Cod t_Cod_ok n_Cod hown hK hP (hD _) hS 0 rfl rfl 6 (by decide) (hw _ m_163) (fun _ h9 => h9) rfl (by decide +kernel) rfl rfl (Nat.le_of_ble_eq_true rfl) d_Pas_lookAround_95 (fun H locs hP _ hS => ?_)
    obtain ⟨u1, e_u1, hf⟩ := tk_o hf
    have hP : va_P D cls (wCod cI q0 q1 q2 q3 q4 q5 q6 q7 q8 q9 q10 q11 u1) H := by rw [e_u1]; exact hP
    exact rt_v (wCod cI q0 q1 q2 q3 q4 q5 q6 q7 q8 q9 q10 q11) hx hb hr hlocks hS hP hf d_Pas_lookAround_98
  have j61 : ∀ (ls : Array Slot) (H : Heap) (locs : List Loc) (l1 : Int32) (l2 : Int32) (s1 : Int32) (u : gU), lv_has ls 3 [(0, .ref q0), (1, .int l1), (2, .int l2)] → va_P D cls (wCod cI q0 q1 q2 q3 q4 q5 q6 q7 q8 q9 q10 q11 u) H → va_S (ad [q0, q1, q2, q3, q4, q5, q6, q7, q8, q9, q10, q11]) s.heap H locs → J_Pas_lookAround_C_61 l1 l2 s1 u = some v → W p l e ({ frames := 2, cells := 0, slots := 0, locals := 43 }) s m [.ref q0, .int a1, .int a2].toArray below meth c H locs 0 0 (MQ below (va_Qv (fun (_ : Unit) => True) (fun _ t => va_P D cls (wCod cI q0 q1 q2 q3 q4 q5 q6 q7 q8 q9 q10 q11 v) t.heap) (ad [q0, q1, q2, q3, q4, q5, q6, q7, q8, q9, q10, q11])) [.ref q0, .int a1, .int a2].toArray s 0 0 (ad [q0, q1, q2, q3, q4, q5, q6, q7, q8, q9, q10, q11])) (F0 m 61 ls [.int s1, .ref q0]) := by
    intro ls H locs l1 l2 s1 u hl hP hS hf
    unfold J_Pas_lookAround_C_61 at hf
    refine va_put (D := D) (ci := 3) (v := .int s1) (ty := .int) (C := R_Cod) (T := F_Cod) (N := 11) hx hb hw in_Cod t_Cod t_Cod_ok n_Cod hown hK hP (hD _) hS 0 rfl rfl 5 (by decide) (hw _ m_164) (fun _ h9 => h9) rfl (by decide +kernel) rfl rfl (Nat.le_of_ble_eq_true rfl) d_Pas_lookAround_61 (fun H locs hP _ hS => ?_)
    obtain ⟨u1, e_u1, hf⟩ := tk_o hf
    have hP : va_P D cls (wCod cI q0 q1 q2 q3 q4 q5 q6 q7 q8 q9 q10 q11 u1) H := by rw [e_u1]; exact hP
    refine lv_aload_n hx hb d_Pas_lookAround_64 rfl (lv_at hl 0 rfl) ?_
    refine lv_iload_n hx hb d_Pas_lookAround_65 rfl (lv_at hl 1 rfl) ?_
    refine lv_aload_n hx hb d_Pas_lookAround_66 rfl (lv_at hl 0 rfl) ?_
    refine va_get (D := D) (ci := 3) (v := .ref q1) (C := R_Cod) (T := F_Cod) (N := 11) hx hb hw in_Cod hown hK hP 0 rfl rfl 0 (by decide) (hw _ m_165) (fun _ h9 => h9) rfl d_Pas_lookAround_67 ?_
    refine va_get (D := D) (ci := 1) (v := .int (u1 1 0)) (C := R_Pic) (T := F_Pic) (N := 11) hx hb hw in_Pic hown hK hP 1 rfl rfl 0 (by decide) (hw _ m_166) (fun _ h9 => h9) rfl d_Pas_lookAround_70 ?_
    refine lv_iconst (v := 1) hx hb d_Pas_lookAround_73 (by decide) ?_
    refine lv_isub hx hb d_Pas_lookAround_74 ?_
    refine lv_icmp_ge (tgt := 91) hx hb d_Pas_lookAround_75 (by decide) (fun hc => ?_) (fun hc => ?_)
    · have hf := bq_t hf hc
      refine lv_aload_n hx hb d_Pas_lookAround_91 rfl (lv_at hl 0 rfl) ?_
      refine va_get (D := D) (ci := 3) (v := .int (u1 0 1)) (C := R_Cod) (T := F_Cod) (N := 11) hx hb hw in_Cod hown hK hP 0 rfl rfl 4 (by decide) (hw _ m_167) (fun _ h9 => h9) rfl d_Pas_lookAround_92 ?_
      exact j95 _ _ _ (u1 0 1) u1 (lv_sub hl [] rfl) hP hS hf
    have hf := bq_n hf hc
    refine lv_aload_n hx hb d_Pas_lookAround_78 rfl (lv_at hl 0 rfl) ?_
    refine lv_iload_n hx hb d_Pas_lookAround_79 rfl (lv_at hl 1 rfl) ?_
    refine lv_iconst (v := 1) hx hb d_Pas_lookAround_80 (by decide) ?_
    refine lv_iadd hx hb d_Pas_lookAround_81 ?_
    refine lv_iload_n hx hb d_Pas_lookAround_82 rfl (lv_at hl 2 rfl) ?_
    refine lv_iconst (v := 1) hx hb d_Pas_lookAround_83 (by decide) ?_
    refine lv_isub hx hb d_Pas_lookAround_84 ?_
    have hC : [0, 1, 2, 3, 4, 5, 6, 7, 8, 9, 10, 11].map (fun i => (wCod cI q0 q1 q2 q3 q4 q5 q6 q7 q8 q9 q10 q11 u1)[i]?) = (wCod cI q0 q1 q2 q3 q4 q5 q6 q7 q8 q9 q10 q11 u1).map some := rfl
    obtain ⟨x2, hc, hf⟩ := bd_o hf
    refine ro_i (va_runU (As := [.int (l1 + 1), .int (l2 - 1)]) (rest := [.ref q0]) ⟨hx, hb, hml, hown, hw⟩ (c_Pas_rebuiltOrNothing_C l D cI q0 q1 q2 q3 q4 q5 q6 q7 q8 q9 q10 q11 (l1 + 1) (l2 - 1) u1 x2 hc) (va_cwU 2 hw g_12 rfl rfl rfl rfl (by decide +kernel) ⟨Nat.le_of_ble_eq_true rfl, Nat.le_of_ble_eq_true rfl⟩) (pre_V (P_sub hC hP) hK rfl rfl) rfl rfl hl.1 rfl (lv_room (Nat.le_of_ble_eq_true rfl)) d_Pas_lookAround_85 ⟨Nat.le_of_ble_eq_true rfl, Nat.le_of_ble_eq_true rfl⟩) hS hP (fun H locs hP hS => ?_)
    refine lv_goto (tgt := 95) hx hb d_Pas_lookAround_88 (by decide) ?_
    exact j95 _ _ _ x2 u1 (lv_sub hl [] rfl) hP hS hf
  have j32 : ∀ (ls : Array Slot) (H : Heap) (locs : List Loc) (l1 : Int32) (l2 : Int32) (s1 : Int32) (u : gU), lv_has ls 3 [(0, .ref q0), (1, .int l1), (2, .int l2)] → va_P D cls (wCod cI q0 q1 q2 q3 q4 q5 q6 q7 q8 q9 q10 q11 u) H → va_S (ad [q0, q1, q2, q3, q4, q5, q6, q7, q8, q9, q10, q11]) s.heap H locs → J_Pas_lookAround_C_32 l1 l2 s1 u = some v → W p l e ({ frames := 2, cells := 0, slots := 0, locals := 43 }) s m [.ref q0, .int a1, .int a2].toArray below meth c H locs 0 0 (MQ below (va_Qv (fun (_ : Unit) => True) (fun _ t => va_P D cls (wCod cI q0 q1 q2 q3 q4 q5 q6 q7 q8 q9 q10 q11 v) t.heap) (ad [q0, q1, q2, q3, q4, q5, q6, q7, q8, q9, q10, q11])) [.ref q0, .int a1, .int a2].toArray s 0 0 (ad [q0, q1, q2, q3, q4, q5, q6, q7, q8, q9, q10, q11])) (F0 m 32 ls [.int s1, .ref q0]) := by
    intro ls H locs l1 l2 s1 u hl hP hS hf
    unfold J_Pas_lookAround_C_32 at hf
    refine va_put (D := D) (ci := 3) (v := .int s1) (ty := .int) (C := R_Cod) (T := F_Cod) (N := 11) hx hb hw in_Cod t_Cod t_Cod_ok n_Cod hown hK hP (hD _) hS 0 rfl rfl 3 (by decide) (hw _ m_174) (fun _ h9 => h9) rfl (by decide +kernel) rfl rfl (Nat.le_of_ble_eq_true rfl) d_Pas_lookAround_32 (fun H locs hP _ hS => ?_)
    obtain ⟨u1, e_u1, hf⟩ := tk_o hf
    have hP : va_P D cls (wCod cI q0 q1 q2 q3 q4 q5 q6 q7 q8 q9 q10 q11 u1) H := by rw [e_u1]; exact hP
    refine lv_aload_n hx hb d_Pas_lookAround_35 rfl (lv_at hl 0 rfl) ?_
    refine lv_iload_n hx hb d_Pas_lookAround_36 rfl (lv_at hl 1 rfl) ?_
    refine lv_if_le (tgt := 53) hx hb d_Pas_lookAround_37 (by decide) (fun hc => ?_) (fun hc => ?_)
    · have hf := bq_t hf hc
      refine lv_aload_n hx hb d_Pas_lookAround_53 rfl (lv_at hl 0 rfl) ?_
      refine lv_iload_n hx hb d_Pas_lookAround_54 rfl (lv_at hl 1 rfl) ?_
      refine lv_iload_n hx hb d_Pas_lookAround_55 rfl (lv_at hl 2 rfl) ?_
      refine lv_iconst (v := 2) hx hb d_Pas_lookAround_56 (by decide) ?_
      refine lv_isub hx hb d_Pas_lookAround_57 ?_
      have hC : [0, 1, 2, 3, 4, 5, 6, 7, 8, 9, 10, 11].map (fun i => (wCod cI q0 q1 q2 q3 q4 q5 q6 q7 q8 q9 q10 q11 u1)[i]?) = (wCod cI q0 q1 q2 q3 q4 q5 q6 q7 q8 q9 q10 q11 u1).map some := rfl
      obtain ⟨x2, hc, hf⟩ := bd_o hf
      refine ro_i (va_runU (As := [.int l1, .int (l2 - 2)]) (rest := [.ref q0]) ⟨hx, hb, hml, hown, hw⟩ (c_Pas_rebuiltOrNothing_C l D cI q0 q1 q2 q3 q4 q5 q6 q7 q8 q9 q10 q11 l1 (l2 - 2) u1 x2 hc) (va_cwU 2 hw g_12 rfl rfl rfl rfl (by decide +kernel) ⟨Nat.le_of_ble_eq_true rfl, Nat.le_of_ble_eq_true rfl⟩) (pre_V (P_sub hC hP) hK rfl rfl) rfl rfl hl.1 rfl (lv_room (Nat.le_of_ble_eq_true rfl)) d_Pas_lookAround_58 ⟨Nat.le_of_ble_eq_true rfl, Nat.le_of_ble_eq_true rfl⟩) hS hP (fun H locs hP hS => ?_)
      exact j61 _ _ _ l1 l2 x2 u1 (lv_sub hl [0, 1, 2] rfl) hP hS hf
    have hf := bq_n hf hc
    refine lv_aload_n hx hb d_Pas_lookAround_40 rfl (lv_at hl 0 rfl) ?_
    refine lv_iload_n hx hb d_Pas_lookAround_41 rfl (lv_at hl 1 rfl) ?_
    refine lv_iconst (v := 1) hx hb d_Pas_lookAround_42 (by decide) ?_
    refine lv_isub hx hb d_Pas_lookAround_43 ?_
    refine lv_iload_n hx hb d_Pas_lookAround_44 rfl (lv_at hl 2 rfl) ?_
    refine lv_iconst (v := 1) hx hb d_Pas_lookAround_45 (by decide) ?_
    refine lv_isub hx hb d_Pas_lookAround_46 ?_
    have hC : [0, 1, 2, 3, 4, 5, 6, 7, 8, 9, 10, 11].map (fun i => (wCod cI q0 q1 q2 q3 q4 q5 q6 q7 q8 q9 q10 q11 u1)[i]?) = (wCod cI q0 q1 q2 q3 q4 q5 q6 q7 q8 q9 q10 q11 u1).map some := rfl
    obtain ⟨x3, hc, hf⟩ := bd_o hf
    refine ro_i (va_runU (As := [.int (l1 - 1), .int (l2 - 1)]) (rest := [.ref q0]) ⟨hx, hb, hml, hown, hw⟩ (c_Pas_rebuiltOrNothing_C l D cI q0 q1 q2 q3 q4 q5 q6 q7 q8 q9 q10 q11 (l1 - 1) (l2 - 1) u1 x3 hc) (va_cwU 2 hw g_12 rfl rfl rfl rfl (by decide +kernel) ⟨Nat.le_of_ble_eq_true rfl, Nat.le_of_ble_eq_true rfl⟩) (pre_V (P_sub hC hP) hK rfl rfl) rfl rfl hl.1 rfl (lv_room (Nat.le_of_ble_eq_true rfl)) d_Pas_lookAround_47 ⟨Nat.le_of_ble_eq_true rfl, Nat.le_of_ble_eq_true rfl⟩) hS hP (fun H locs hP hS => ?_)
    refine lv_goto (tgt := 61) hx hb d_Pas_lookAround_50 (by decide) ?_
    exact j61 _ _ _ l1 l2 x3 u1 (lv_sub hl [0, 1, 2] rfl) hP hS hf
  unfold f_Pas_lookAround_C at hf
  refine lv_aload_n hx hb d_Pas_lookAround_0 rfl (lv_at hl 0 rfl) ?_
  refine lv_aload_n hx hb d_Pas_lookAround_1 rfl (lv_at hl 0 rfl) ?_
  refine lv_iload_n hx hb d_Pas_lookAround_2 rfl (lv_at hl 1 rfl) ?_
  refine lv_iload_n hx hb d_Pas_lookAround_3 rfl (lv_at hl 2 rfl) ?_
  refine lv_iconst (v := 1) hx hb d_Pas_lookAround_4 (by decide) ?_
  refine lv_isub hx hb d_Pas_lookAround_5 ?_
  have hC : [0, 1, 2, 3, 4, 5, 6, 7, 8, 9, 10, 11].map (fun i => (wCod cI q0 q1 q2 q3 q4 q5 q6 q7 q8 q9 q10 q11 u)[i]?) = (wCod cI q0 q1 q2 q3 q4 q5 q6 q7 q8 q9 q10 q11 u).map some := rfl
  obtain ⟨x1, hc, hf⟩ := bd_o hf
  refine ro_i (va_runU (As := [.int a1, .int (a2 - 1)]) (rest := [.ref q0]) ⟨hx, hb, hml, hown, hw⟩ (c_Pas_rebuiltOrNothing_C l D cI q0 q1 q2 q3 q4 q5 q6 q7 q8 q9 q10 q11 a1 (a2 - 1) u x1 hc) (va_cwU 2 hw g_12 rfl rfl rfl rfl (by decide +kernel) ⟨Nat.le_of_ble_eq_true rfl, Nat.le_of_ble_eq_true rfl⟩) (pre_V (P_sub hC hP) hK rfl rfl) rfl rfl hl.1 rfl (lv_room (Nat.le_of_ble_eq_true rfl)) d_Pas_lookAround_6 ⟨Nat.le_of_ble_eq_true rfl, Nat.le_of_ble_eq_true rfl⟩) hS hP (fun H locs hP hS => ?_)
  refine va_put (D := D) (ci := 3) (v := .int x1) (ty := .int) (C := R_Cod) (T := F_Cod) (N := 11) hx hb hw in_Cod t_Cod t_Cod_ok n_Cod hown hK hP (hD _) hS 0 rfl rfl 4 (by decide) (hw _ m_167) (fun _ h9 => h9) rfl (by decide +kernel) rfl rfl (Nat.le_of_ble_eq_true rfl) d_Pas_lookAround_9 (fun H locs hP _ hS => ?_)
  obtain ⟨u2, e_u2, hf⟩ := tk_o hf
  have hP : va_P D cls (wCod cI q0 q1 q2 q3 q4 q5 q6 q7 q8 q9 q10 q11 u2) H := by rw [e_u2]; exact hP
  refine lv_aload_n hx hb d_Pas_lookAround_12 rfl (lv_at hl 0 rfl) ?_
  refine lv_iload_n hx hb d_Pas_lookAround_13 rfl (lv_at hl 1 rfl) ?_
  refine lv_if_le (tgt := 28) hx hb d_Pas_lookAround_14 (by decide) (fun hc => ?_) (fun hc => ?_)
  · have hf := bq_t hf hc
    refine lv_aload_n hx hb d_Pas_lookAround_28 rfl (lv_at hl 0 rfl) ?_
    refine va_get (D := D) (ci := 3) (v := .int (u2 0 1)) (C := R_Cod) (T := F_Cod) (N := 11) hx hb hw in_Cod hown hK hP 0 rfl rfl 4 (by decide) (hw _ m_167) (fun _ h9 => h9) rfl d_Pas_lookAround_29 ?_
    exact j32 _ _ _ a1 a2 (u2 0 1) u2 (lv_sub hl [0, 1, 2] rfl) hP hS hf
  have hf := bq_n hf hc
  refine lv_aload_n hx hb d_Pas_lookAround_17 rfl (lv_at hl 0 rfl) ?_
  refine lv_iload_n hx hb d_Pas_lookAround_18 rfl (lv_at hl 1 rfl) ?_
  refine lv_iconst (v := 1) hx hb d_Pas_lookAround_19 (by decide) ?_
  refine lv_isub hx hb d_Pas_lookAround_20 ?_
  refine lv_iload_n hx hb d_Pas_lookAround_21 rfl (lv_at hl 2 rfl) ?_
  have hC : [0, 1, 2, 3, 4, 5, 6, 7, 8, 9, 10, 11].map (fun i => (wCod cI q0 q1 q2 q3 q4 q5 q6 q7 q8 q9 q10 q11 u2)[i]?) = (wCod cI q0 q1 q2 q3 q4 q5 q6 q7 q8 q9 q10 q11 u2).map some := rfl
  obtain ⟨x3, hc, hf⟩ := bd_o hf
  refine ro_i (va_runU (As := [.int (a1 - 1), .int a2]) (rest := [.ref q0]) ⟨hx, hb, hml, hown, hw⟩ (c_Pas_rebuiltOrNothing_C l D cI q0 q1 q2 q3 q4 q5 q6 q7 q8 q9 q10 q11 (a1 - 1) a2 u2 x3 hc) (va_cwU 2 hw g_12 rfl rfl rfl rfl (by decide +kernel) ⟨Nat.le_of_ble_eq_true rfl, Nat.le_of_ble_eq_true rfl⟩) (pre_V (P_sub hC hP) hK rfl rfl) rfl rfl hl.1 rfl (lv_room (Nat.le_of_ble_eq_true rfl)) d_Pas_lookAround_22 ⟨Nat.le_of_ble_eq_true rfl, Nat.le_of_ble_eq_true rfl⟩) hS hP (fun H locs hP hS => ?_)
  refine lv_goto (tgt := 32) hx hb d_Pas_lookAround_25 (by decide) ?_
  exact j32 _ _ _ a1 a2 x3 u2 (lv_sub hl [0, 1, 2] rfl) hP hS hf
def f_Pas_isEven_C (u : gU) : Option (Int32) := bd (f_Pic_isNear ((u 0 1) - (u 0 3)) (sb [1] u)) fun x1 => bq (x1 = 0) (some 0) (bd (f_Pic_isNear ((u 0 2) - (u 0 1)) (sb [1] u)) fun x2 => bq (x2 = 0) (some 0) (bd (f_Pic_isNear ((u 0 0) - (u 0 2)) (sb [1] u)) fun x3 => bq (x3 = 0) (some 0) (some 1)))
set_option maxHeartbeats 4000000 in
set_option maxRecDepth 100000 in
theorem c_Pas_isEven_C (l : Launch) (D : va_G) (cI : ClassId) (q0 : Nat) (q1 : Nat) (q2 : Nat) (q3 : Nat) (q4 : Nat) (q5 : Nat) (q6 : Nat) (q7 : Nat) (q8 : Nat) (q9 : Nat) (q10 : Nat) (q11 : Nat) (u : gU) (r : Int32) (hf : f_Pas_isEven_C u = some r) : Met l y_Pas_isEven (.code y_Pas_isEven b_Pas_isEven 1 (some .boolean) :: TS) ({ frames := 1, cells := 0, slots := 0, locals := 21 }) (va_Pc [.ref q0] (fun U => va_P D cls (wCod cI q0 q1 q2 q3 q4 q5 q6 q7 q8 q9 q10 q11 u) U.heap ∧ va_K D cls [(cI, .int)] U)) (va_Qi (fun x (_ : Unit) => x = r) (fun _ _ => True) (fun _ => False)) 0 0 (fun _ => False) := by
  refine ct_of (by decide +kernel) (Nat.le_of_ble_eq_true rfl) ?_
  intro p e s m below meth c ls hx hb hml hr hlocks hown hw hP hK hl
  have hS : va_S (fun _ => False) s.heap s.heap [] := va_S.rf
  have hl : lv_has ls 1 [(0, .ref q0)] := hl
  have hP : va_P D cls (wCod cI q0 q1 q2 q3 q4 q5 q6 q7 q8 q9 q10 q11 u) s.heap := hP
  unfold f_Pas_isEven_C at hf
  refine lv_aload_n hx hb d_Pas_isEven_0 rfl (lv_at hl 0 rfl) ?_
  refine va_get (D := D) (ci := 3) (v := .ref q1) (C := R_Cod) (T := F_Cod) (N := 11) hx hb hw in_Cod hown hK hP 0 rfl rfl 0 (by decide) (hw _ m_165) (fun _ h9 => h9) rfl d_Pas_isEven_1 ?_
  refine lv_aload_n hx hb d_Pas_isEven_4 rfl (lv_at hl 0 rfl) ?_
  refine va_get (D := D) (ci := 3) (v := .int (u 0 1)) (C := R_Cod) (T := F_Cod) (N := 11) hx hb hw in_Cod hown hK hP 0 rfl rfl 4 (by decide) (hw _ m_167) (fun _ h9 => h9) rfl d_Pas_isEven_5 ?_
  refine lv_aload_n hx hb d_Pas_isEven_8 rfl (lv_at hl 0 rfl) ?_
  refine va_get (D := D) (ci := 3) (v := .int (u 0 3)) (C := R_Cod) (T := F_Cod) (N := 11) hx hb hw in_Cod hown hK hP 0 rfl rfl 6 (by decide) (hw _ m_163) (fun _ h9 => h9) rfl d_Pas_isEven_9 ?_
  refine lv_isub hx hb d_Pas_isEven_12 ?_
  have hC : [1].map (fun i => (wCod cI q0 q1 q2 q3 q4 q5 q6 q7 q8 q9 q10 q11 u)[i]?) = (wPic cI q1 (sb [1] u)).map some := rfl
  obtain ⟨x1, hc, hf⟩ := bd_o hf
  refine ro_i (va_runV (As := [.int ((u 0 1) - (u 0 3))]) (rest := []) ⟨hx, hb, hml, hown, hw⟩ (c_Pic_isNear l D cI q1 ((u 0 1) - (u 0 3)) (sb [1] u) x1 hc) (cwV 1 hw g_13 rfl rfl rfl (by decide +kernel) ⟨Nat.le_of_ble_eq_true rfl, Nat.le_of_ble_eq_true rfl⟩) (pre_V (P_sub hC hP) hK rfl rfl) rfl rfl hl.1 rfl (lv_room (Nat.le_of_ble_eq_true rfl)) d_Pas_isEven_13 ⟨Nat.le_of_ble_eq_true rfl, Nat.le_of_ble_eq_true rfl⟩) hS hP (fun H locs hP hS => ?_)
  refine lv_if_eq (tgt := 61) hx hb d_Pas_isEven_16 (by decide) (fun hc => ?_) (fun hc => ?_)
  · have hf := bq_t hf hc
    refine lv_iconst (v := 0) hx hb d_Pas_isEven_61 (by decide) ?_
    exact rt_roz hx hb hr hlocks (Or.inl rfl) hS hf d_Pas_isEven_62
  have hf := bq_n hf hc
  refine lv_aload_n hx hb d_Pas_isEven_19 rfl (lv_at hl 0 rfl) ?_
  refine va_get (D := D) (ci := 3) (v := .ref q1) (C := R_Cod) (T := F_Cod) (N := 11) hx hb hw in_Cod hown hK hP 0 rfl rfl 0 (by decide) (hw _ m_165) (fun _ h9 => h9) rfl d_Pas_isEven_20 ?_
  refine lv_aload_n hx hb d_Pas_isEven_23 rfl (lv_at hl 0 rfl) ?_
  refine va_get (D := D) (ci := 3) (v := .int (u 0 2)) (C := R_Cod) (T := F_Cod) (N := 11) hx hb hw in_Cod hown hK hP 0 rfl rfl 5 (by decide) (hw _ m_164) (fun _ h9 => h9) rfl d_Pas_isEven_24 ?_
  refine lv_aload_n hx hb d_Pas_isEven_27 rfl (lv_at hl 0 rfl) ?_
  refine va_get (D := D) (ci := 3) (v := .int (u 0 1)) (C := R_Cod) (T := F_Cod) (N := 11) hx hb hw in_Cod hown hK hP 0 rfl rfl 4 (by decide) (hw _ m_167) (fun _ h9 => h9) rfl d_Pas_isEven_28 ?_
  refine lv_isub hx hb d_Pas_isEven_31 ?_
  have hC : [1].map (fun i => (wCod cI q0 q1 q2 q3 q4 q5 q6 q7 q8 q9 q10 q11 u)[i]?) = (wPic cI q1 (sb [1] u)).map some := rfl
  obtain ⟨x2, hc, hf⟩ := bd_o hf
  refine ro_i (va_runV (As := [.int ((u 0 2) - (u 0 1))]) (rest := []) ⟨hx, hb, hml, hown, hw⟩ (c_Pic_isNear l D cI q1 ((u 0 2) - (u 0 1)) (sb [1] u) x2 hc) (cwV 1 hw g_13 rfl rfl rfl (by decide +kernel) ⟨Nat.le_of_ble_eq_true rfl, Nat.le_of_ble_eq_true rfl⟩) (pre_V (P_sub hC hP) hK rfl rfl) rfl rfl hl.1 rfl (lv_room (Nat.le_of_ble_eq_true rfl)) d_Pas_isEven_32 ⟨Nat.le_of_ble_eq_true rfl, Nat.le_of_ble_eq_true rfl⟩) hS hP (fun H locs hP hS => ?_)
  refine lv_if_eq (tgt := 61) hx hb d_Pas_isEven_35 (by decide) (fun hc => ?_) (fun hc => ?_)
  · have hf := bq_t hf hc
    refine lv_iconst (v := 0) hx hb d_Pas_isEven_61 (by decide) ?_
    exact rt_roz hx hb hr hlocks (Or.inl rfl) hS hf d_Pas_isEven_62
  have hf := bq_n hf hc
  refine lv_aload_n hx hb d_Pas_isEven_38 rfl (lv_at hl 0 rfl) ?_
  refine va_get (D := D) (ci := 3) (v := .ref q1) (C := R_Cod) (T := F_Cod) (N := 11) hx hb hw in_Cod hown hK hP 0 rfl rfl 0 (by decide) (hw _ m_165) (fun _ h9 => h9) rfl d_Pas_isEven_39 ?_
  refine lv_aload_n hx hb d_Pas_isEven_42 rfl (lv_at hl 0 rfl) ?_
  refine va_get (D := D) (ci := 3) (v := .int (u 0 0)) (C := R_Cod) (T := F_Cod) (N := 11) hx hb hw in_Cod hown hK hP 0 rfl rfl 3 (by decide) (hw _ m_174) (fun _ h9 => h9) rfl d_Pas_isEven_43 ?_
  refine lv_aload_n hx hb d_Pas_isEven_46 rfl (lv_at hl 0 rfl) ?_
  refine va_get (D := D) (ci := 3) (v := .int (u 0 2)) (C := R_Cod) (T := F_Cod) (N := 11) hx hb hw in_Cod hown hK hP 0 rfl rfl 5 (by decide) (hw _ m_164) (fun _ h9 => h9) rfl d_Pas_isEven_47 ?_
  refine lv_isub hx hb d_Pas_isEven_50 ?_
  have hC : [1].map (fun i => (wCod cI q0 q1 q2 q3 q4 q5 q6 q7 q8 q9 q10 q11 u)[i]?) = (wPic cI q1 (sb [1] u)).map some := rfl
  obtain ⟨x3, hc, hf⟩ := bd_o hf
  refine ro_i (va_runV (As := [.int ((u 0 0) - (u 0 2))]) (rest := []) ⟨hx, hb, hml, hown, hw⟩ (c_Pic_isNear l D cI q1 ((u 0 0) - (u 0 2)) (sb [1] u) x3 hc) (cwV 1 hw g_13 rfl rfl rfl (by decide +kernel) ⟨Nat.le_of_ble_eq_true rfl, Nat.le_of_ble_eq_true rfl⟩) (pre_V (P_sub hC hP) hK rfl rfl) rfl rfl hl.1 rfl (lv_room (Nat.le_of_ble_eq_true rfl)) d_Pas_isEven_51 ⟨Nat.le_of_ble_eq_true rfl, Nat.le_of_ble_eq_true rfl⟩) hS hP (fun H locs hP hS => ?_)
  refine lv_if_eq (tgt := 61) hx hb d_Pas_isEven_54 (by decide) (fun hc => ?_) (fun hc => ?_)
  · have hf := bq_t hf hc
    refine lv_iconst (v := 0) hx hb d_Pas_isEven_61 (by decide) ?_
    exact rt_roz hx hb hr hlocks (Or.inl rfl) hS hf d_Pas_isEven_62
  have hf := bq_n hf hc
  refine lv_iconst (v := 1) hx hb d_Pas_isEven_57 (by decide) ?_
  refine lv_goto (tgt := 62) hx hb d_Pas_isEven_58 (by decide) ?_
  exact rt_roz hx hb hr hlocks (Or.inr rfl) hS hf d_Pas_isEven_62
def f_Pas_signedContext_C (u : gU) : Option (Int32) := bd (f_Pic_level ((u 0 3) - (u 0 1)) (sb [1] u)) fun x1 => bd (f_Pic_level ((u 0 1) - (u 0 2)) (sb [1] u)) fun x2 => bd (f_Pic_level ((u 0 2) - (u 0 0)) (sb [1] u)) fun x3 => some (((81 * x1) + (9 * x2)) + x3)
set_option maxHeartbeats 4000000 in
set_option maxRecDepth 100000 in
theorem c_Pas_signedContext_C (l : Launch) (D : va_G) (cI : ClassId) (q0 : Nat) (q1 : Nat) (q2 : Nat) (q3 : Nat) (q4 : Nat) (q5 : Nat) (q6 : Nat) (q7 : Nat) (q8 : Nat) (q9 : Nat) (q10 : Nat) (q11 : Nat) (u : gU) (r : Int32) (hf : f_Pas_signedContext_C u = some r) : Met l y_Pas_signedContext (.code y_Pas_signedContext b_Pas_signedContext 1 (some .int) :: TS) ({ frames := 1, cells := 0, slots := 0, locals := 21 }) (va_Pc [.ref q0] (fun U => va_P D cls (wCod cI q0 q1 q2 q3 q4 q5 q6 q7 q8 q9 q10 q11 u) U.heap ∧ va_K D cls [(cI, .int)] U)) (va_Qi (fun x (_ : Unit) => x = r) (fun _ _ => True) (fun _ => False)) 0 0 (fun _ => False) := by
  refine ct_of (by decide +kernel) (Nat.le_of_ble_eq_true rfl) ?_
  intro p e s m below meth c ls hx hb hml hr hlocks hown hw hP hK hl
  have hS : va_S (fun _ => False) s.heap s.heap [] := va_S.rf
  have hl : lv_has ls 1 [(0, .ref q0)] := hl
  have hP : va_P D cls (wCod cI q0 q1 q2 q3 q4 q5 q6 q7 q8 q9 q10 q11 u) s.heap := hP
  unfold f_Pas_signedContext_C at hf
  refine lv_bipush (v := 81) hx hb d_Pas_signedContext_0 (by decide) ?_
  refine lv_aload_n hx hb d_Pas_signedContext_2 rfl (lv_at hl 0 rfl) ?_
  refine va_get (D := D) (ci := 3) (v := .ref q1) (C := R_Cod) (T := F_Cod) (N := 11) hx hb hw in_Cod hown hK hP 0 rfl rfl 0 (by decide) (hw _ m_165) (fun _ h9 => h9) rfl d_Pas_signedContext_3 ?_
  refine lv_aload_n hx hb d_Pas_signedContext_6 rfl (lv_at hl 0 rfl) ?_
  refine va_get (D := D) (ci := 3) (v := .int (u 0 3)) (C := R_Cod) (T := F_Cod) (N := 11) hx hb hw in_Cod hown hK hP 0 rfl rfl 6 (by decide) (hw _ m_163) (fun _ h9 => h9) rfl d_Pas_signedContext_7 ?_
  refine lv_aload_n hx hb d_Pas_signedContext_10 rfl (lv_at hl 0 rfl) ?_
  refine va_get (D := D) (ci := 3) (v := .int (u 0 1)) (C := R_Cod) (T := F_Cod) (N := 11) hx hb hw in_Cod hown hK hP 0 rfl rfl 4 (by decide) (hw _ m_167) (fun _ h9 => h9) rfl d_Pas_signedContext_11 ?_
  refine lv_isub hx hb d_Pas_signedContext_14 ?_
  have hC : [1].map (fun i => (wCod cI q0 q1 q2 q3 q4 q5 q6 q7 q8 q9 q10 q11 u)[i]?) = (wPic cI q1 (sb [1] u)).map some := rfl
  obtain ⟨x1, hc, hf⟩ := bd_o hf
  refine ro_i (va_runV (As := [.int ((u 0 3) - (u 0 1))]) (rest := [.int 81]) ⟨hx, hb, hml, hown, hw⟩ (c_Pic_level l D cI q1 ((u 0 3) - (u 0 1)) (sb [1] u) x1 hc) (cwV 1 hw g_14 rfl rfl rfl (by decide +kernel) ⟨Nat.le_of_ble_eq_true rfl, Nat.le_of_ble_eq_true rfl⟩) (pre_V (P_sub hC hP) hK rfl rfl) rfl rfl hl.1 rfl (lv_room (Nat.le_of_ble_eq_true rfl)) d_Pas_signedContext_15 ⟨Nat.le_of_ble_eq_true rfl, Nat.le_of_ble_eq_true rfl⟩) hS hP (fun H locs hP hS => ?_)
  refine lv_imul hx hb d_Pas_signedContext_18 ?_
  refine lv_bipush (v := 9) hx hb d_Pas_signedContext_19 (by decide) ?_
  refine lv_aload_n hx hb d_Pas_signedContext_21 rfl (lv_at hl 0 rfl) ?_
  refine va_get (D := D) (ci := 3) (v := .ref q1) (C := R_Cod) (T := F_Cod) (N := 11) hx hb hw in_Cod hown hK hP 0 rfl rfl 0 (by decide) (hw _ m_165) (fun _ h9 => h9) rfl d_Pas_signedContext_22 ?_
  refine lv_aload_n hx hb d_Pas_signedContext_25 rfl (lv_at hl 0 rfl) ?_
  refine va_get (D := D) (ci := 3) (v := .int (u 0 1)) (C := R_Cod) (T := F_Cod) (N := 11) hx hb hw in_Cod hown hK hP 0 rfl rfl 4 (by decide) (hw _ m_167) (fun _ h9 => h9) rfl d_Pas_signedContext_26 ?_
  refine lv_aload_n hx hb d_Pas_signedContext_29 rfl (lv_at hl 0 rfl) ?_
  refine va_get (D := D) (ci := 3) (v := .int (u 0 2)) (C := R_Cod) (T := F_Cod) (N := 11) hx hb hw in_Cod hown hK hP 0 rfl rfl 5 (by decide) (hw _ m_164) (fun _ h9 => h9) rfl d_Pas_signedContext_30 ?_
  refine lv_isub hx hb d_Pas_signedContext_33 ?_
  have hC : [1].map (fun i => (wCod cI q0 q1 q2 q3 q4 q5 q6 q7 q8 q9 q10 q11 u)[i]?) = (wPic cI q1 (sb [1] u)).map some := rfl
  obtain ⟨x2, hc, hf⟩ := bd_o hf
  refine ro_i (va_runV (As := [.int ((u 0 1) - (u 0 2))]) (rest := [.int 9, .int (81 * x1)]) ⟨hx, hb, hml, hown, hw⟩ (c_Pic_level l D cI q1 ((u 0 1) - (u 0 2)) (sb [1] u) x2 hc) (cwV 1 hw g_14 rfl rfl rfl (by decide +kernel) ⟨Nat.le_of_ble_eq_true rfl, Nat.le_of_ble_eq_true rfl⟩) (pre_V (P_sub hC hP) hK rfl rfl) rfl rfl hl.1 rfl (lv_room (Nat.le_of_ble_eq_true rfl)) d_Pas_signedContext_34 ⟨Nat.le_of_ble_eq_true rfl, Nat.le_of_ble_eq_true rfl⟩) hS hP (fun H locs hP hS => ?_)
  refine lv_imul hx hb d_Pas_signedContext_37 ?_
  refine lv_iadd hx hb d_Pas_signedContext_38 ?_
  refine lv_aload_n hx hb d_Pas_signedContext_39 rfl (lv_at hl 0 rfl) ?_
  refine va_get (D := D) (ci := 3) (v := .ref q1) (C := R_Cod) (T := F_Cod) (N := 11) hx hb hw in_Cod hown hK hP 0 rfl rfl 0 (by decide) (hw _ m_165) (fun _ h9 => h9) rfl d_Pas_signedContext_40 ?_
  refine lv_aload_n hx hb d_Pas_signedContext_43 rfl (lv_at hl 0 rfl) ?_
  refine va_get (D := D) (ci := 3) (v := .int (u 0 2)) (C := R_Cod) (T := F_Cod) (N := 11) hx hb hw in_Cod hown hK hP 0 rfl rfl 5 (by decide) (hw _ m_164) (fun _ h9 => h9) rfl d_Pas_signedContext_44 ?_
  refine lv_aload_n hx hb d_Pas_signedContext_47 rfl (lv_at hl 0 rfl) ?_
  refine va_get (D := D) (ci := 3) (v := .int (u 0 0)) (C := R_Cod) (T := F_Cod) (N := 11) hx hb hw in_Cod hown hK hP 0 rfl rfl 3 (by decide) (hw _ m_174) (fun _ h9 => h9) rfl d_Pas_signedContext_48 ?_
  refine lv_isub hx hb d_Pas_signedContext_51 ?_
  have hC : [1].map (fun i => (wCod cI q0 q1 q2 q3 q4 q5 q6 q7 q8 q9 q10 q11 u)[i]?) = (wPic cI q1 (sb [1] u)).map some := rfl
  obtain ⟨x3, hc, hf⟩ := bd_o hf
  refine ro_i (va_runV (As := [.int ((u 0 2) - (u 0 0))]) (rest := [.int ((81 * x1) + (9 * x2))]) ⟨hx, hb, hml, hown, hw⟩ (c_Pic_level l D cI q1 ((u 0 2) - (u 0 0)) (sb [1] u) x3 hc) (cwV 1 hw g_14 rfl rfl rfl (by decide +kernel) ⟨Nat.le_of_ble_eq_true rfl, Nat.le_of_ble_eq_true rfl⟩) (pre_V (P_sub hC hP) hK rfl rfl) rfl rfl hl.1 rfl (lv_room (Nat.le_of_ble_eq_true rfl)) d_Pas_signedContext_52 ⟨Nat.le_of_ble_eq_true rfl, Nat.le_of_ble_eq_true rfl⟩) hS hP (fun H locs hP hS => ?_)
  refine lv_iadd hx hb d_Pas_signedContext_55 ?_
  exact rt_roi hx hb hr hlocks hS hf d_Pas_signedContext_56
def f_Pas_foretoldByNeighbours_C (u : gU) : Option (Int32) := tk (if (u 0 1) < (u 0 0) then (u 0 1) else (u 0 0)) fun x1 => tk (if (u 0 0) < (u 0 1) then (u 0 1) else (u 0 0)) fun x2 => bq ((u 0 2) < x2) (bq (x1 < (u 0 2)) (some (((u 0 0) + (u 0 1)) - (u 0 2))) (some x2)) (some x1)
set_option maxHeartbeats 4000000 in
set_option maxRecDepth 100000 in
theorem c_Pas_foretoldByNeighbours_C (l : Launch) (D : va_G) (cI : ClassId) (q0 : Nat) (q1 : Nat) (q2 : Nat) (q3 : Nat) (q4 : Nat) (q5 : Nat) (q6 : Nat) (q7 : Nat) (q8 : Nat) (q9 : Nat) (q10 : Nat) (q11 : Nat) (u : gU) (r : Int32) (hf : f_Pas_foretoldByNeighbours_C u = some r) : Met l y_Pas_foretoldByNeighbours (.code y_Pas_foretoldByNeighbours b_Pas_foretoldByNeighbours 3 (some .int) :: TS) ({ frames := 1, cells := 0, slots := 0, locals := 24 }) (va_Pc [.ref q0] (fun U => va_P D cls (wCod cI q0 q1 q2 q3 q4 q5 q6 q7 q8 q9 q10 q11 u) U.heap ∧ va_K D cls [(cI, .int)] U)) (va_Qi (fun x (_ : Unit) => x = r) (fun _ _ => True) (fun _ => False)) 0 0 (fun _ => False) := by
  refine ct_of (by decide +kernel) (Nat.le_of_ble_eq_true rfl) ?_
  intro p e s m below meth c ls hx hb hml hr hlocks hown hw hP hK hl
  have hS : va_S (fun _ => False) s.heap s.heap [] := va_S.rf
  have hl : lv_has ls 3 [(0, .ref q0)] := hl
  have hP : va_P D cls (wCod cI q0 q1 q2 q3 q4 q5 q6 q7 q8 q9 q10 q11 u) s.heap := hP
  unfold f_Pas_foretoldByNeighbours_C at hf
  refine lv_aload_n hx hb d_Pas_foretoldByNeighbours_0 rfl (lv_at hl 0 rfl) ?_
  refine va_get (D := D) (ci := 3) (v := .int (u 0 0)) (C := R_Cod) (T := F_Cod) (N := 11) hx hb hw in_Cod hown hK hP 0 rfl rfl 3 (by decide) (hw _ m_174) (fun _ h9 => h9) rfl d_Pas_foretoldByNeighbours_1 ?_
  refine lv_aload_n hx hb d_Pas_foretoldByNeighbours_4 rfl (lv_at hl 0 rfl) ?_
  refine va_get (D := D) (ci := 3) (v := .int (u 0 1)) (C := R_Cod) (T := F_Cod) (N := 11) hx hb hw in_Cod hown hK hP 0 rfl rfl 4 (by decide) (hw _ m_167) (fun _ h9 => h9) rfl d_Pas_foretoldByNeighbours_5 ?_
  refine va_mmin hx hb (hml.trans hl.1.symm) hown (hw _ m_183) (hw _ m_107) (hw _ m_87) (hw _ m_108) (Nat.le_of_ble_eq_true rfl) (Nat.le_of_ble_eq_true rfl) (Nat.le_of_ble_eq_true rfl) (Nat.le_of_ble_eq_true rfl) d_Pas_foretoldByNeighbours_8 ?_
  refine lv_topi (fun x1 e_x1 => ?_)
  have hf := tk_e hf e_x1
  refine lv_istore_n (lv' := [(1, .int x1), (0, .ref q0)]) hx hb d_Pas_foretoldByNeighbours_11 rfl hl (by decide) rfl (fun ls hl => ?_)
  refine lv_aload_n hx hb d_Pas_foretoldByNeighbours_12 rfl (lv_at hl 1 rfl) ?_
  refine va_get (D := D) (ci := 3) (v := .int (u 0 0)) (C := R_Cod) (T := F_Cod) (N := 11) hx hb hw in_Cod hown hK hP 0 rfl rfl 3 (by decide) (hw _ m_174) (fun _ h9 => h9) rfl d_Pas_foretoldByNeighbours_13 ?_
  refine lv_aload_n hx hb d_Pas_foretoldByNeighbours_16 rfl (lv_at hl 1 rfl) ?_
  refine va_get (D := D) (ci := 3) (v := .int (u 0 1)) (C := R_Cod) (T := F_Cod) (N := 11) hx hb hw in_Cod hown hK hP 0 rfl rfl 4 (by decide) (hw _ m_167) (fun _ h9 => h9) rfl d_Pas_foretoldByNeighbours_17 ?_
  refine va_mmax hx hb (hml.trans hl.1.symm) hown (hw _ m_184) (hw _ m_86) (hw _ m_87) (hw _ m_88) (Nat.le_of_ble_eq_true rfl) (Nat.le_of_ble_eq_true rfl) (Nat.le_of_ble_eq_true rfl) (Nat.le_of_ble_eq_true rfl) d_Pas_foretoldByNeighbours_20 ?_
  refine lv_topi (fun x2 e_x2 => ?_)
  have hf := tk_e hf e_x2
  refine lv_istore_n (lv' := [(2, .int x2), (1, .int x1), (0, .ref q0)]) hx hb d_Pas_foretoldByNeighbours_23 rfl hl (by decide) rfl (fun ls hl => ?_)
  refine lv_aload_n hx hb d_Pas_foretoldByNeighbours_24 rfl (lv_at hl 2 rfl) ?_
  refine va_get (D := D) (ci := 3) (v := .int (u 0 2)) (C := R_Cod) (T := F_Cod) (N := 11) hx hb hw in_Cod hown hK hP 0 rfl rfl 5 (by decide) (hw _ m_164) (fun _ h9 => h9) rfl d_Pas_foretoldByNeighbours_25 ?_
  refine lv_iload_n hx hb d_Pas_foretoldByNeighbours_28 rfl (lv_at hl 0 rfl) ?_
  refine lv_icmp_lt (tgt := 34) hx hb d_Pas_foretoldByNeighbours_29 (by decide) (fun hc => ?_) (fun hc => ?_)
  · have hf := bq_t hf hc
    refine lv_aload_n hx hb d_Pas_foretoldByNeighbours_34 rfl (lv_at hl 2 rfl) ?_
    refine va_get (D := D) (ci := 3) (v := .int (u 0 2)) (C := R_Cod) (T := F_Cod) (N := 11) hx hb hw in_Cod hown hK hP 0 rfl rfl 5 (by decide) (hw _ m_164) (fun _ h9 => h9) rfl d_Pas_foretoldByNeighbours_35 ?_
    refine lv_iload_n hx hb d_Pas_foretoldByNeighbours_38 rfl (lv_at hl 1 rfl) ?_
    refine lv_icmp_gt (tgt := 46) hx hb d_Pas_foretoldByNeighbours_39 (by decide) (fun hc => ?_) (fun hc => ?_)
    · have hf := bq_t hf hc
      refine lv_aload_n hx hb d_Pas_foretoldByNeighbours_46 rfl (lv_at hl 2 rfl) ?_
      refine va_get (D := D) (ci := 3) (v := .int (u 0 0)) (C := R_Cod) (T := F_Cod) (N := 11) hx hb hw in_Cod hown hK hP 0 rfl rfl 3 (by decide) (hw _ m_174) (fun _ h9 => h9) rfl d_Pas_foretoldByNeighbours_47 ?_
      refine lv_aload_n hx hb d_Pas_foretoldByNeighbours_50 rfl (lv_at hl 2 rfl) ?_
      refine va_get (D := D) (ci := 3) (v := .int (u 0 1)) (C := R_Cod) (T := F_Cod) (N := 11) hx hb hw in_Cod hown hK hP 0 rfl rfl 4 (by decide) (hw _ m_167) (fun _ h9 => h9) rfl d_Pas_foretoldByNeighbours_51 ?_
      refine lv_iadd hx hb d_Pas_foretoldByNeighbours_54 ?_
      refine lv_aload_n hx hb d_Pas_foretoldByNeighbours_55 rfl (lv_at hl 2 rfl) ?_
      refine va_get (D := D) (ci := 3) (v := .int (u 0 2)) (C := R_Cod) (T := F_Cod) (N := 11) hx hb hw in_Cod hown hK hP 0 rfl rfl 5 (by decide) (hw _ m_164) (fun _ h9 => h9) rfl d_Pas_foretoldByNeighbours_56 ?_
      refine lv_isub hx hb d_Pas_foretoldByNeighbours_59 ?_
      exact rt_roi hx hb hr hlocks hS hf d_Pas_foretoldByNeighbours_60
    have hf := bq_n hf hc
    refine lv_iload_n hx hb d_Pas_foretoldByNeighbours_42 rfl (lv_at hl 0 rfl) ?_
    refine lv_goto (tgt := 60) hx hb d_Pas_foretoldByNeighbours_43 (by decide) ?_
    exact rt_roi hx hb hr hlocks hS hf d_Pas_foretoldByNeighbours_60
  have hf := bq_n hf hc
  refine lv_iload_n hx hb d_Pas_foretoldByNeighbours_32 rfl (lv_at hl 1 rfl) ?_
  exact rt_roi hx hb hr hlocks hS hf d_Pas_foretoldByNeighbours_33
def f_Pas_limitOfEnd_C (u : gU) : Option (Int32) := bd (f_Ctx_j (sb [2, 3, 4, 5, 6, 7] u)) fun x1 => some (((u 1 7) - x1) - 1)
set_option maxHeartbeats 4000000 in
set_option maxRecDepth 100000 in
theorem c_Pas_limitOfEnd_C (l : Launch) (D : va_G) (cI : ClassId) (tJ : Nat) (q0 : Nat) (q1 : Nat) (q2 : Nat) (q3 : Nat) (q4 : Nat) (q5 : Nat) (q6 : Nat) (q7 : Nat) (q8 : Nat) (q9 : Nat) (q10 : Nat) (q11 : Nat) (u : gU) (r : Int32) (hf : f_Pas_limitOfEnd_C u = some r) : Met l y_Pas_limitOfEnd (.code y_Pas_limitOfEnd b_Pas_limitOfEnd 1 (some .int) :: TS) ({ frames := 1, cells := 0, slots := 0, locals := 20 }) (va_Pc [.ref q0] (fun U => va_P D cls (wCod cI q0 q1 q2 q3 q4 q5 q6 q7 q8 q9 q10 q11 u) U.heap ∧ va_K D cls [(cI, .int)] U ∧ Jt tJ (fun _ => False) U)) (va_Qi (fun x (_ : Unit) => x = r) (fun _ _ => True) (fun _ => False)) 0 0 (fun _ => False) := by
  refine ct_ofJ (by decide +kernel) (Nat.le_of_ble_eq_true rfl) ?_
  intro p e s m below meth c ls hx hb hml hr hlocks hown hw hP hK hJ hl
  have hS : va_S (fun _ => False) s.heap s.heap [] := va_S.rf
  have hl : lv_has ls 1 [(0, .ref q0)] := hl
  have hP : va_P D cls (wCod cI q0 q1 q2 q3 q4 q5 q6 q7 q8 q9 q10 q11 u) s.heap := hP
  unfold f_Pas_limitOfEnd_C at hf
  refine lv_aload_n hx hb d_Pas_limitOfEnd_0 rfl (lv_at hl 0 rfl) ?_
  refine va_get (D := D) (ci := 3) (v := .ref q1) (C := R_Cod) (T := F_Cod) (N := 11) hx hb hw in_Cod hown hK hP 0 rfl rfl 0 (by decide) (hw _ m_165) (fun _ h9 => h9) rfl d_Pas_limitOfEnd_1 ?_
  refine va_get (D := D) (ci := 1) (v := .int (u 1 7)) (C := R_Pic) (T := F_Pic) (N := 11) hx hb hw in_Pic hown hK hP 1 rfl rfl 7 (by decide) (hw _ m_185) (fun _ h9 => h9) rfl d_Pas_limitOfEnd_4 ?_
  refine lv_aload_n hx hb d_Pas_limitOfEnd_7 rfl (lv_at hl 0 rfl) ?_
  refine va_get (D := D) (ci := 3) (v := .ref q2) (C := R_Cod) (T := F_Cod) (N := 11) hx hb hw in_Cod hown hK hP 0 rfl rfl 1 (by decide) (hw _ m_186) (fun _ h9 => h9) rfl d_Pas_limitOfEnd_8 ?_
  have hC : [2, 3, 4, 5, 6, 7].map (fun i => (wCod cI q0 q1 q2 q3 q4 q5 q6 q7 q8 q9 q10 q11 u)[i]?) = (wCtx cI q2 q3 q4 q5 q6 q7 (sb [2, 3, 4, 5, 6, 7] u)).map some := rfl
  obtain ⟨x1, hc, hf⟩ := bd_o hf
  refine ro_i (va_runV (As := []) (rest := [.int (u 1 7)]) ⟨hx, hb, hml, hown, hw⟩ (c_Ctx_j l D cI tJ q2 q3 q4 q5 q6 q7 (sb [2, 3, 4, 5, 6, 7] u) x1 hc) (cwV 0 hw g_15 rfl rfl rfl (by decide +kernel) ⟨Nat.le_of_ble_eq_true rfl, Nat.le_of_ble_eq_true rfl⟩) (pre_VJ (P_sub hC hP) hK rfl rfl (Jt_call hJ hS (fun _ h => h.elim))) rfl rfl hl.1 rfl (lv_room (Nat.le_of_ble_eq_true rfl)) d_Pas_limitOfEnd_11 ⟨Nat.le_of_ble_eq_true rfl, Nat.le_of_ble_eq_true rfl⟩) hS hP (fun H locs hP hS => ?_)
  refine lv_isub hx hb d_Pas_limitOfEnd_14 ?_
  refine lv_iconst (v := 1) hx hb d_Pas_limitOfEnd_15 (by decide) ?_
  refine lv_isub hx hb d_Pas_limitOfEnd_16 ?_
  exact rt_roi hx hb hr hlocks hS hf d_Pas_limitOfEnd_17
def f_Cod_takeError (a1 : Int32) (u : gU) : Option (Int32 × gU) := gd (ix a1 64) (bd (f_Pic_divided ((u 0 4) * ((u 9 (tc a1)) - (u 0 5))) (sb [1] u)) fun x2 => bd (f_Pic_bounded ((u 0 5) + (((u 0 4) * x2) * (u 1 4))) (sb [1] u)) fun x3 => gd (ix a1 64) (tk (st2 u 8 (tc a1) x3) fun u5 => bd (f_Pic_reduced x2 (sb [1] u5)) fun x6 => some (x6, u5)))
set_option maxHeartbeats 4000000 in
set_option maxRecDepth 100000 in
theorem c_Cod_takeError (l : Launch) (D : va_G) (cI : ClassId) (q0 : Nat) (q1 : Nat) (q2 : Nat) (q3 : Nat) (q4 : Nat) (q5 : Nat) (q6 : Nat) (q7 : Nat) (q8 : Nat) (q9 : Nat) (q10 : Nat) (q11 : Nat) (hd : dj [q0, q1, q2, q3, q4, q5, q6, q7, q8, q9, q10, q11]) (a1 : Int32) (u : gU) (r : Int32) (v : gU) (hf : f_Cod_takeError a1 u = some (r, v)) : Met l y_Cod_takeError (.code y_Cod_takeError b_Cod_takeError 3 (some .int) :: TS) ({ frames := 2, cells := 0, slots := 0, locals := 45 }) (va_Pc [.ref q0, .int a1] (fun U => va_P D cls (wCod cI q0 q1 q2 q3 q4 q5 q6 q7 q8 q9 q10 q11 u) U.heap ∧ va_K D cls [(cI, .int)] U)) (va_Qi (fun x (_ : Unit) => x = r) (fun _ t => va_P D cls (wCod cI q0 q1 q2 q3 q4 q5 q6 q7 q8 q9 q10 q11 v) t.heap) (ad [q0, q1, q2, q3, q4, q5, q6, q7, q8, q9, q10, q11])) 0 0 (ad [q0, q1, q2, q3, q4, q5, q6, q7, q8, q9, q10, q11]) := by
  refine ct_of (by decide +kernel) (Nat.le_of_ble_eq_true rfl) ?_
  intro p e s m below meth c ls hx hb hml hr hlocks hown hw hP hK hl
  have hS : va_S (ad [q0, q1, q2, q3, q4, q5, q6, q7, q8, q9, q10, q11]) s.heap s.heap [] := va_S.rf
  have hD : ∀ v, va_D (ad [q0, q1, q2, q3, q4, q5, q6, q7, q8, q9, q10, q11]) (wCod cI q0 q1 q2 q3 q4 q5 q6 q7 q8 q9 q10 q11 v) := fun _ => dj_D rfl hd
  have hl : lv_has ls 3 [(0, .ref q0), (1, .int a1)] := hl
  have hP : va_P D cls (wCod cI q0 q1 q2 q3 q4 q5 q6 q7 q8 q9 q10 q11 u) s.heap := hP
  unfold f_Cod_takeError at hf
  refine lv_aload_n hx hb d_Cod_takeError_0 rfl (lv_at hl 0 rfl) ?_
  refine va_get (D := D) (ci := 3) (v := .ref q1) (C := R_Cod) (T := F_Cod) (N := 11) hx hb hw in_Cod hown hK hP 0 rfl rfl 0 (by decide) (hw _ m_191) (fun x9 h9 => u_same (hw _ m_192) x9 h9) rfl d_Cod_takeError_1 ?_
  refine lv_aload_n hx hb d_Cod_takeError_4 rfl (lv_at hl 0 rfl) ?_
  refine va_get (D := D) (ci := 3) (v := .int (u 0 4)) (C := R_Cod) (T := F_Cod) (N := 11) hx hb hw in_Cod hown hK hP 0 rfl rfl 7 (by decide) (hw _ m_193) (fun x9 h9 => u_same (hw _ m_194) x9 h9) rfl d_Cod_takeError_5 ?_
  refine lv_aload_n hx hb d_Cod_takeError_8 rfl (lv_at hl 0 rfl) ?_
  refine va_get (D := D) (ci := 3) (v := .ref q9) (C := R_Cod) (T := F_Cod) (N := 11) hx hb hw in_Cod hown hK hP 0 rfl rfl 9 (by decide) (hw _ m_195) (fun _ h9 => h9) rfl d_Cod_takeError_9 ?_
  refine lv_iload_n hx hb d_Cod_takeError_12 rfl (lv_at hl 1 rfl) ?_
  obtain ⟨h1, hf⟩ := gd_o hf
  refine va_iald hx hb hK hP 9 0 rfl rfl (ix_in h1) d_Cod_takeError_13 ?_
  refine lv_aload_n hx hb d_Cod_takeError_14 rfl (lv_at hl 0 rfl) ?_
  refine va_get (D := D) (ci := 3) (v := .int (u 0 5)) (C := R_Cod) (T := F_Cod) (N := 11) hx hb hw in_Cod hown hK hP 0 rfl rfl 8 (by decide) (hw _ m_196) (fun x9 h9 => u_same (hw _ m_197) x9 h9) rfl d_Cod_takeError_15 ?_
  refine lv_isub hx hb d_Cod_takeError_18 ?_
  refine lv_imul hx hb d_Cod_takeError_19 ?_
  have hC : [1].map (fun i => (wCod cI q0 q1 q2 q3 q4 q5 q6 q7 q8 q9 q10 q11 u)[i]?) = (wPic cI q1 (sb [1] u)).map some := rfl
  obtain ⟨x2, hc, hf⟩ := bd_o hf
  refine ro_i (va_runV (As := [.int ((u 0 4) * ((u 9 (tc a1)) - (u 0 5)))]) (rest := []) ⟨hx, hb, hml, hown, hw⟩ (c_Pic_divided l D cI q1 ((u 0 4) * ((u 9 (tc a1)) - (u 0 5))) (sb [1] u) x2 hc) (cwV 1 hw g_16 rfl rfl rfl (by decide +kernel) ⟨Nat.le_of_ble_eq_true rfl, Nat.le_of_ble_eq_true rfl⟩) (pre_V (P_sub hC hP) hK rfl rfl) rfl rfl hl.1 rfl (lv_room (Nat.le_of_ble_eq_true rfl)) d_Cod_takeError_20 ⟨Nat.le_of_ble_eq_true rfl, Nat.le_of_ble_eq_true rfl⟩) hS hP (fun H locs hP hS => ?_)
  refine lv_istore_n (lv' := [(2, .int x2), (0, .ref q0), (1, .int a1)]) hx hb d_Cod_takeError_23 rfl hl (by decide) rfl (fun ls hl => ?_)
  refine lv_aload_n hx hb d_Cod_takeError_24 rfl (lv_at hl 1 rfl) ?_
  refine va_get (D := D) (ci := 3) (v := .ref q8) (C := R_Cod) (T := F_Cod) (N := 11) hx hb hw in_Cod hown hK hP 0 rfl rfl 2 (by decide) (hw _ m_202) (fun x9 h9 => u_same (hw _ m_203) x9 h9) rfl d_Cod_takeError_25 ?_
  refine lv_iload_n hx hb d_Cod_takeError_28 rfl (lv_at hl 2 rfl) ?_
  refine lv_aload_n hx hb d_Cod_takeError_29 rfl (lv_at hl 1 rfl) ?_
  refine va_get (D := D) (ci := 3) (v := .ref q1) (C := R_Cod) (T := F_Cod) (N := 11) hx hb hw in_Cod hown hK hP 0 rfl rfl 0 (by decide) (hw _ m_191) (fun x9 h9 => u_same (hw _ m_192) x9 h9) rfl d_Cod_takeError_30 ?_
  refine lv_aload_n hx hb d_Cod_takeError_33 rfl (lv_at hl 1 rfl) ?_
  refine va_get (D := D) (ci := 3) (v := .int (u 0 5)) (C := R_Cod) (T := F_Cod) (N := 11) hx hb hw in_Cod hown hK hP 0 rfl rfl 8 (by decide) (hw _ m_196) (fun x9 h9 => u_same (hw _ m_197) x9 h9) rfl d_Cod_takeError_34 ?_
  refine lv_aload_n hx hb d_Cod_takeError_37 rfl (lv_at hl 1 rfl) ?_
  refine va_get (D := D) (ci := 3) (v := .int (u 0 4)) (C := R_Cod) (T := F_Cod) (N := 11) hx hb hw in_Cod hown hK hP 0 rfl rfl 7 (by decide) (hw _ m_193) (fun x9 h9 => u_same (hw _ m_194) x9 h9) rfl d_Cod_takeError_38 ?_
  refine lv_iload_n hx hb d_Cod_takeError_41 rfl (lv_at hl 0 rfl) ?_
  refine lv_imul hx hb d_Cod_takeError_42 ?_
  refine lv_aload_n hx hb d_Cod_takeError_43 rfl (lv_at hl 1 rfl) ?_
  refine va_get (D := D) (ci := 3) (v := .ref q1) (C := R_Cod) (T := F_Cod) (N := 11) hx hb hw in_Cod hown hK hP 0 rfl rfl 0 (by decide) (hw _ m_191) (fun x9 h9 => u_same (hw _ m_192) x9 h9) rfl d_Cod_takeError_44 ?_
  refine va_get (D := D) (ci := 1) (v := .int (u 1 4)) (C := R_Pic) (T := F_Pic) (N := 11) hx hb hw in_Pic hown hK hP 1 rfl rfl 4 (by decide) (hw _ m_204) (fun _ h9 => h9) rfl d_Cod_takeError_47 ?_
  refine lv_imul hx hb d_Cod_takeError_50 ?_
  refine lv_iadd hx hb d_Cod_takeError_51 ?_
  have hC : [1].map (fun i => (wCod cI q0 q1 q2 q3 q4 q5 q6 q7 q8 q9 q10 q11 u)[i]?) = (wPic cI q1 (sb [1] u)).map some := rfl
  obtain ⟨x3, hc, hf⟩ := bd_o hf
  refine ro_i (va_runV (As := [.int ((u 0 5) + (((u 0 4) * x2) * (u 1 4)))]) (rest := [.int a1, .ref q8]) ⟨hx, hb, hml, hown, hw⟩ (c_Pic_bounded l D cI q1 ((u 0 5) + (((u 0 4) * x2) * (u 1 4))) (sb [1] u) x3 hc) (cwV 1 hw g_17 rfl rfl rfl (by decide +kernel) ⟨Nat.le_of_ble_eq_true rfl, Nat.le_of_ble_eq_true rfl⟩) (pre_V (P_sub hC hP) hK rfl rfl) rfl rfl hl.1 rfl (lv_room (Nat.le_of_ble_eq_true rfl)) d_Cod_takeError_52 ⟨Nat.le_of_ble_eq_true rfl, Nat.le_of_ble_eq_true rfl⟩) hS hP (fun H locs hP hS => ?_)
  obtain ⟨h4, hf⟩ := gd_o hf
  refine va_iast hx hb hK hP (hD _) hS 8 0 rfl rfl (ix_in h4) d_Cod_takeError_55 (fun H locs hP _ hS => ?_)
  obtain ⟨u5, e_u5, hf⟩ := tk_o hf
  have hP : va_P D cls (wCod cI q0 q1 q2 q3 q4 q5 q6 q7 q8 q9 q10 q11 u5) H := by rw [e_u5]; exact hP
  refine lv_aload_n hx hb d_Cod_takeError_56 rfl (lv_at hl 1 rfl) ?_
  refine va_get (D := D) (ci := 3) (v := .ref q1) (C := R_Cod) (T := F_Cod) (N := 11) hx hb hw in_Cod hown hK hP 0 rfl rfl 0 (by decide) (hw _ m_191) (fun x9 h9 => u_same (hw _ m_192) x9 h9) rfl d_Cod_takeError_57 ?_
  refine lv_iload_n hx hb d_Cod_takeError_60 rfl (lv_at hl 0 rfl) ?_
  have hC : [1].map (fun i => (wCod cI q0 q1 q2 q3 q4 q5 q6 q7 q8 q9 q10 q11 u5)[i]?) = (wPic cI q1 (sb [1] u5)).map some := rfl
  obtain ⟨x6, hc, hf⟩ := bd_o hf
  refine ro_i (va_runV (As := [.int x2]) (rest := []) ⟨hx, hb, hml, hown, hw⟩ (c_Pic_reduced l D cI q1 x2 (sb [1] u5) x6 hc) (cwV 1 hw g_18 rfl rfl rfl (by decide +kernel) ⟨Nat.le_of_ble_eq_true rfl, Nat.le_of_ble_eq_true rfl⟩) (pre_V (P_sub hC hP) hK rfl rfl) rfl rfl hl.1 rfl (lv_room (Nat.le_of_ble_eq_true rfl)) d_Cod_takeError_61 ⟨Nat.le_of_ble_eq_true rfl, Nat.le_of_ble_eq_true rfl⟩) hS hP (fun H locs hP hS => ?_)
  exact rt_i (wCod cI q0 q1 q2 q3 q4 q5 q6 q7 q8 q9 q10 q11) hx hb hr hlocks hS hP hf d_Cod_takeError_64
def L_Cod_carryRun_39 : Nat → Int32 → Int32 → Int32 → gU → Option (Int32 × gU)
  | 0, _, _, _, _ => none
  | n + 1, l2, l3, l4, u => bd (f_Ctx_j (sb [2, 3, 4, 5, 6, 7] u)) fun x1 => bq (l4 < (1 <<< (x1 &&& 31))) (bq (l2 ≤ l3) (bq (l4 ≤ 0) (some (l3, u)) (bd (f_Wri_writeBits 1 1 (sb [10, 11] u)) fun w2 => tk (mg [10, 11] 0 u w2) fun u3 => some (l3, u3))) (bd (f_Wri_writeBits 0 1 (sb [10, 11] u)) fun w4 => tk (mg [10, 11] 0 u w4) fun u5 => bd (f_Ctx_j (sb [2, 3, 4, 5, 6, 7] u5)) fun x6 => bd (f_Wri_writeBits l4 x6 (sb [10, 11] u5)) fun w7 => tk (mg [10, 11] 0 u5 w7) fun u8 => some (l3, u8))) (bd (f_Wri_writeBits 1 1 (sb [10, 11] u)) fun w9 => tk (mg [10, 11] 0 u w9) fun u10 => bd (f_Ctx_j (sb [2, 3, 4, 5, 6, 7] u10)) fun x11 => tk (l4 - (1 <<< (x11 &&& 31))) fun x12 => bd (f_Ctx_raiseRunIndex (sb [2, 3, 4, 5, 6, 7] u10)) fun w13 => tk (mg [2, 3, 4, 5, 6, 7] 0 u10 w13) fun u14 => (L_Cod_carryRun_39 n) l2 l3 x12 u14)
theorem L_Cod_carryRun_39_z (l2 : Int32) (l3 : Int32) (l4 : Int32) (u : gU) : L_Cod_carryRun_39 0 l2 l3 l4 u = none := rfl
theorem L_Cod_carryRun_39_s (n : Nat) (l2 : Int32) (l3 : Int32) (l4 : Int32) (u : gU) : L_Cod_carryRun_39 (n + 1) l2 l3 l4 u = bd (f_Ctx_j (sb [2, 3, 4, 5, 6, 7] u)) fun x1 => bq (l4 < (1 <<< (x1 &&& 31))) (bq (l2 ≤ l3) (bq (l4 ≤ 0) (some (l3, u)) (bd (f_Wri_writeBits 1 1 (sb [10, 11] u)) fun w2 => tk (mg [10, 11] 0 u w2) fun u3 => some (l3, u3))) (bd (f_Wri_writeBits 0 1 (sb [10, 11] u)) fun w4 => tk (mg [10, 11] 0 u w4) fun u5 => bd (f_Ctx_j (sb [2, 3, 4, 5, 6, 7] u5)) fun x6 => bd (f_Wri_writeBits l4 x6 (sb [10, 11] u5)) fun w7 => tk (mg [10, 11] 0 u5 w7) fun u8 => some (l3, u8))) (bd (f_Wri_writeBits 1 1 (sb [10, 11] u)) fun w9 => tk (mg [10, 11] 0 u w9) fun u10 => bd (f_Ctx_j (sb [2, 3, 4, 5, 6, 7] u10)) fun x11 => tk (l4 - (1 <<< (x11 &&& 31))) fun x12 => bd (f_Ctx_raiseRunIndex (sb [2, 3, 4, 5, 6, 7] u10)) fun w13 => tk (mg [2, 3, 4, 5, 6, 7] 0 u10 w13) fun u14 => (L_Cod_carryRun_39 n) l2 l3 x12 u14) := rfl
def L_Cod_carryRun_2 : Nat → Int32 → Int32 → Int32 → gU → Option (Int32 × gU)
  | 0, _, _, _, _ => none
  | n + 1, l1, l2, l3, u => bq (l2 ≤ l3) (L_Cod_carryRun_39 100 l2 l3 l3 u) (gd (ix (l1 + l3) 64) (bd (f_Pic_isNear ((u 9 (tc (l1 + l3))) - (u 0 0)) (sb [1] u)) fun x2 => bq (x2 = 0) (L_Cod_carryRun_39 100 l2 l3 l3 u) (tk (l3 + 1) fun x3 => (L_Cod_carryRun_2 n) l1 l2 x3 u)))
theorem L_Cod_carryRun_2_z (l1 : Int32) (l2 : Int32) (l3 : Int32) (u : gU) : L_Cod_carryRun_2 0 l1 l2 l3 u = none := rfl
theorem L_Cod_carryRun_2_s (n : Nat) (l1 : Int32) (l2 : Int32) (l3 : Int32) (u : gU) : L_Cod_carryRun_2 (n + 1) l1 l2 l3 u = bq (l2 ≤ l3) (L_Cod_carryRun_39 100 l2 l3 l3 u) (gd (ix (l1 + l3) 64) (bd (f_Pic_isNear ((u 9 (tc (l1 + l3))) - (u 0 0)) (sb [1] u)) fun x2 => bq (x2 = 0) (L_Cod_carryRun_39 100 l2 l3 l3 u) (tk (l3 + 1) fun x3 => (L_Cod_carryRun_2 n) l1 l2 x3 u))) := rfl
def f_Cod_carryRun (a1 : Int32) (a2 : Int32) (u : gU) : Option (Int32 × gU) := L_Cod_carryRun_2 100 a1 a2 0 u
set_option maxHeartbeats 4000000 in
set_option maxRecDepth 100000 in
theorem c_Cod_carryRun (l : Launch) (D : va_G) (cI : ClassId) (tJ : Nat) (q0 : Nat) (q1 : Nat) (q2 : Nat) (q3 : Nat) (q4 : Nat) (q5 : Nat) (q6 : Nat) (q7 : Nat) (q8 : Nat) (q9 : Nat) (q10 : Nat) (q11 : Nat) (hd : dj [q0, q1, q2, q3, q4, q5, q6, q7, q8, q9, q10, q11]) (a1 : Int32) (a2 : Int32) (u : gU) (r : Int32) (v : gU) (hf : f_Cod_carryRun a1 a2 u = some (r, v)) : Met l y_Cod_carryRun (.code y_Cod_carryRun b_Cod_carryRun 5 (some .int) :: TS) ({ frames := 2, cells := 0, slots := 0, locals := 44 }) (va_Pc [.ref q0, .int a1, .int a2] (fun U => va_P D cls (wCod cI q0 q1 q2 q3 q4 q5 q6 q7 q8 q9 q10 q11 u) U.heap ∧ va_K D cls [(cI, .int)] U ∧ Jt tJ (ad [q0, q1, q2, q3, q4, q5, q6, q7, q8, q9, q10, q11]) U)) (va_Qi (fun x (_ : Unit) => x = r) (fun _ t => va_P D cls (wCod cI q0 q1 q2 q3 q4 q5 q6 q7 q8 q9 q10 q11 v) t.heap) (ad [q0, q1, q2, q3, q4, q5, q6, q7, q8, q9, q10, q11])) 0 0 (ad [q0, q1, q2, q3, q4, q5, q6, q7, q8, q9, q10, q11]) := by
  refine ct_ofJ (by decide +kernel) (Nat.le_of_ble_eq_true rfl) ?_
  intro p e s m below meth c ls hx hb hml hr hlocks hown hw hP hK hJ hl
  have hS : va_S (ad [q0, q1, q2, q3, q4, q5, q6, q7, q8, q9, q10, q11]) s.heap s.heap [] := va_S.rf
  have hD : ∀ v, va_D (ad [q0, q1, q2, q3, q4, q5, q6, q7, q8, q9, q10, q11]) (wCod cI q0 q1 q2 q3 q4 q5 q6 q7 q8 q9 q10 q11 v) := fun _ => dj_D rfl hd
  have hl : lv_has ls 5 [(0, .ref q0), (1, .int a1), (2, .int a2)] := hl
  have hP : va_P D cls (wCod cI q0 q1 q2 q3 q4 q5 q6 q7 q8 q9 q10 q11 u) s.heap := hP
  have lp39 : ∀ (n39 : Nat), ∀ (ls : Array Slot) (H : Heap) (locs : List Loc) (l2 : Int32) (l3 : Int32) (l4 : Int32) (u : gU), lv_has ls 5 [(0, .ref q0), (2, .int l2), (3, .int l3), (4, .int l4)] → va_P D cls (wCod cI q0 q1 q2 q3 q4 q5 q6 q7 q8 q9 q10 q11 u) H → va_S (ad [q0, q1, q2, q3, q4, q5, q6, q7, q8, q9, q10, q11]) s.heap H locs → L_Cod_carryRun_39 n39 l2 l3 l4 u = some (r, v) → W p l e ({ frames := 2, cells := 0, slots := 0, locals := 44 }) s m [.ref q0, .int a1, .int a2].toArray below meth c H locs 0 0 (MQ below (va_Qi (fun x (_ : Unit) => x = r) (fun _ t => va_P D cls (wCod cI q0 q1 q2 q3 q4 q5 q6 q7 q8 q9 q10 q11 v) t.heap) (ad [q0, q1, q2, q3, q4, q5, q6, q7, q8, q9, q10, q11])) [.ref q0, .int a1, .int a2].toArray s 0 0 (ad [q0, q1, q2, q3, q4, q5, q6, q7, q8, q9, q10, q11])) (F0 m 39 ls []) := by
    intro n39
    induction n39 with
    | zero =>
      intro ls H locs l2 l3 l4 u hl hP hS hf
      rw [L_Cod_carryRun_39_z] at hf
      cases hf
    | succ n39 ih39 =>
      intro ls H locs l2 l3 l4 u hl hP hS hf
      rw [L_Cod_carryRun_39_s] at hf
      refine lv_iload hx hb d_Cod_carryRun_39 (lv_at hl 3 rfl) ?_
      refine lv_iconst (v := 1) hx hb d_Cod_carryRun_41 (by decide) ?_
      refine lv_aload_n hx hb d_Cod_carryRun_42 rfl (lv_at hl 0 rfl) ?_
      refine va_get (D := D) (ci := 3) (v := .ref q2) (C := R_Cod) (T := F_Cod) (N := 11) hx hb hw in_Cod hown hK hP 0 rfl rfl 1 (by decide) (hw _ m_213) (fun x9 h9 => u_same (hw _ m_214) x9 h9) rfl d_Cod_carryRun_43 ?_
      have hC : [2, 3, 4, 5, 6, 7].map (fun i => (wCod cI q0 q1 q2 q3 q4 q5 q6 q7 q8 q9 q10 q11 u)[i]?) = (wCtx cI q2 q3 q4 q5 q6 q7 (sb [2, 3, 4, 5, 6, 7] u)).map some := rfl
      obtain ⟨x1, hc, hf⟩ := bd_o hf
      refine ro_i (va_runV (As := []) (rest := [.int 1, .int l4]) ⟨hx, hb, hml, hown, hw⟩ (c_Ctx_j l D cI tJ q2 q3 q4 q5 q6 q7 (sb [2, 3, 4, 5, 6, 7] u) x1 hc) (cwV 0 hw g_19 rfl rfl rfl (by decide +kernel) ⟨Nat.le_of_ble_eq_true rfl, Nat.le_of_ble_eq_true rfl⟩) (pre_VJ (P_sub hC hP) hK rfl rfl (Jt_call hJ hS (fun _ h => h.elim))) rfl rfl hl.1 rfl (lv_room (Nat.le_of_ble_eq_true rfl)) d_Cod_carryRun_46 ⟨Nat.le_of_ble_eq_true rfl, Nat.le_of_ble_eq_true rfl⟩) hS hP (fun H locs hP hS => ?_)
      refine lv_ishl hx hb d_Cod_carryRun_49 ?_
      refine lv_icmp_lt (tgt := 86) hx hb d_Cod_carryRun_50 (by decide) (fun hc => ?_) (fun hc => ?_)
      · have hf := bq_t hf hc
        refine lv_iload_n hx hb d_Cod_carryRun_86 rfl (lv_at hl 2 rfl) ?_
        refine lv_iload_n hx hb d_Cod_carryRun_87 rfl (lv_at hl 1 rfl) ?_
        refine lv_icmp_ge (tgt := 119) hx hb d_Cod_carryRun_88 (by decide) (fun hc => ?_) (fun hc => ?_)
        · have hf := bq_t hf hc
          refine lv_iload hx hb d_Cod_carryRun_119 (lv_at hl 3 rfl) ?_
          refine lv_if_le (tgt := 133) hx hb d_Cod_carryRun_121 (by decide) (fun hc => ?_) (fun hc => ?_)
          · have hf := bq_t hf hc
            refine lv_iload_n hx hb d_Cod_carryRun_133 rfl (lv_at hl 2 rfl) ?_
            exact rt_i (wCod cI q0 q1 q2 q3 q4 q5 q6 q7 q8 q9 q10 q11) hx hb hr hlocks hS hP hf d_Cod_carryRun_134
          have hf := bq_n hf hc
          refine lv_aload_n hx hb d_Cod_carryRun_124 rfl (lv_at hl 0 rfl) ?_
          refine va_get (D := D) (ci := 3) (v := .ref q10) (C := R_Cod) (T := F_Cod) (N := 11) hx hb hw in_Cod hown hK hP 0 rfl rfl 10 (by decide) (hw _ m_216) (fun _ h9 => h9) rfl d_Cod_carryRun_125 ?_
          refine lv_iconst (v := 1) hx hb d_Cod_carryRun_128 (by decide) ?_
          refine lv_iconst (v := 1) hx hb d_Cod_carryRun_129 (by decide) ?_
          have hC : [10, 11].map (fun i => (wCod cI q0 q1 q2 q3 q4 q5 q6 q7 q8 q9 q10 q11 u)[i]?) = (wWri cI q10 q11 (sb [10, 11] u)).map some := rfl
          obtain ⟨w2, hc, hf⟩ := bd_o hf
          refine rw_v (va_runV (As := [.int 1, .int 1]) (rest := []) ⟨hx, hb, hml, hown, hw⟩ (c_Wri_writeBits l D cI q10 q11 (dj_sub hd [10, 11] (by decide) rfl) 1 1 (sb [10, 11] u) w2 hc) (cwV 2 hw g_20 rfl rfl rfl (by decide +kernel) ⟨Nat.le_of_ble_eq_true rfl, Nat.le_of_ble_eq_true rfl⟩) (pre_V (P_sub hC hP) hK rfl rfl) rfl rfl hl.1 rfl (lv_room (Nat.le_of_ble_eq_true rfl)) d_Cod_carryRun_130 ⟨Nat.le_of_ble_eq_true rfl, Nat.le_of_ble_eq_true rfl⟩) hS hP (hD _) hC rfl rfl (fun H locs hP hS => ?_)
          obtain ⟨u3, e_u3, hf⟩ := tk_o hf
          have hP : va_P D cls (wCod cI q0 q1 q2 q3 q4 q5 q6 q7 q8 q9 q10 q11 u3) H := by rw [e_u3]; exact hP
          refine lv_iload_n hx hb d_Cod_carryRun_133 rfl (lv_at hl 2 rfl) ?_
          exact rt_i (wCod cI q0 q1 q2 q3 q4 q5 q6 q7 q8 q9 q10 q11) hx hb hr hlocks hS hP hf d_Cod_carryRun_134
        have hf := bq_n hf hc
        refine lv_aload_n hx hb d_Cod_carryRun_91 rfl (lv_at hl 0 rfl) ?_
        refine va_get (D := D) (ci := 3) (v := .ref q10) (C := R_Cod) (T := F_Cod) (N := 11) hx hb hw in_Cod hown hK hP 0 rfl rfl 10 (by decide) (hw _ m_216) (fun _ h9 => h9) rfl d_Cod_carryRun_92 ?_
        refine lv_iconst (v := 0) hx hb d_Cod_carryRun_95 (by decide) ?_
        refine lv_iconst (v := 1) hx hb d_Cod_carryRun_96 (by decide) ?_
        have hC : [10, 11].map (fun i => (wCod cI q0 q1 q2 q3 q4 q5 q6 q7 q8 q9 q10 q11 u)[i]?) = (wWri cI q10 q11 (sb [10, 11] u)).map some := rfl
        obtain ⟨w4, hc, hf⟩ := bd_o hf
        refine rw_v (va_runV (As := [.int 0, .int 1]) (rest := []) ⟨hx, hb, hml, hown, hw⟩ (c_Wri_writeBits l D cI q10 q11 (dj_sub hd [10, 11] (by decide) rfl) 0 1 (sb [10, 11] u) w4 hc) (cwV 2 hw g_20 rfl rfl rfl (by decide +kernel) ⟨Nat.le_of_ble_eq_true rfl, Nat.le_of_ble_eq_true rfl⟩) (pre_V (P_sub hC hP) hK rfl rfl) rfl rfl hl.1 rfl (lv_room (Nat.le_of_ble_eq_true rfl)) d_Cod_carryRun_97 ⟨Nat.le_of_ble_eq_true rfl, Nat.le_of_ble_eq_true rfl⟩) hS hP (hD _) hC rfl rfl (fun H locs hP hS => ?_)
        obtain ⟨u5, e_u5, hf⟩ := tk_o hf
        have hP : va_P D cls (wCod cI q0 q1 q2 q3 q4 q5 q6 q7 q8 q9 q10 q11 u5) H := by rw [e_u5]; exact hP
        refine lv_aload_n hx hb d_Cod_carryRun_100 rfl (lv_at hl 0 rfl) ?_
        refine va_get (D := D) (ci := 3) (v := .ref q10) (C := R_Cod) (T := F_Cod) (N := 11) hx hb hw in_Cod hown hK hP 0 rfl rfl 10 (by decide) (hw _ m_216) (fun _ h9 => h9) rfl d_Cod_carryRun_101 ?_
        refine lv_iload hx hb d_Cod_carryRun_104 (lv_at hl 3 rfl) ?_
        refine lv_aload_n hx hb d_Cod_carryRun_106 rfl (lv_at hl 0 rfl) ?_
        refine va_get (D := D) (ci := 3) (v := .ref q2) (C := R_Cod) (T := F_Cod) (N := 11) hx hb hw in_Cod hown hK hP 0 rfl rfl 1 (by decide) (hw _ m_213) (fun x9 h9 => u_same (hw _ m_214) x9 h9) rfl d_Cod_carryRun_107 ?_
        have hC : [2, 3, 4, 5, 6, 7].map (fun i => (wCod cI q0 q1 q2 q3 q4 q5 q6 q7 q8 q9 q10 q11 u5)[i]?) = (wCtx cI q2 q3 q4 q5 q6 q7 (sb [2, 3, 4, 5, 6, 7] u5)).map some := rfl
        obtain ⟨x6, hc, hf⟩ := bd_o hf
        refine ro_i (va_runV (As := []) (rest := [.int l4, .ref q10]) ⟨hx, hb, hml, hown, hw⟩ (c_Ctx_j l D cI tJ q2 q3 q4 q5 q6 q7 (sb [2, 3, 4, 5, 6, 7] u5) x6 hc) (cwV 0 hw g_19 rfl rfl rfl (by decide +kernel) ⟨Nat.le_of_ble_eq_true rfl, Nat.le_of_ble_eq_true rfl⟩) (pre_VJ (P_sub hC hP) hK rfl rfl (Jt_call hJ hS (fun _ h => h.elim))) rfl rfl hl.1 rfl (lv_room (Nat.le_of_ble_eq_true rfl)) d_Cod_carryRun_110 ⟨Nat.le_of_ble_eq_true rfl, Nat.le_of_ble_eq_true rfl⟩) hS hP (fun H locs hP hS => ?_)
        have hC : [10, 11].map (fun i => (wCod cI q0 q1 q2 q3 q4 q5 q6 q7 q8 q9 q10 q11 u5)[i]?) = (wWri cI q10 q11 (sb [10, 11] u5)).map some := rfl
        obtain ⟨w7, hc, hf⟩ := bd_o hf
        refine rw_v (va_runV (As := [.int l4, .int x6]) (rest := []) ⟨hx, hb, hml, hown, hw⟩ (c_Wri_writeBits l D cI q10 q11 (dj_sub hd [10, 11] (by decide) rfl) l4 x6 (sb [10, 11] u5) w7 hc) (cwV 2 hw g_20 rfl rfl rfl (by decide +kernel) ⟨Nat.le_of_ble_eq_true rfl, Nat.le_of_ble_eq_true rfl⟩) (pre_V (P_sub hC hP) hK rfl rfl) rfl rfl hl.1 rfl (lv_room (Nat.le_of_ble_eq_true rfl)) d_Cod_carryRun_113 ⟨Nat.le_of_ble_eq_true rfl, Nat.le_of_ble_eq_true rfl⟩) hS hP (hD _) hC rfl rfl (fun H locs hP hS => ?_)
        obtain ⟨u8, e_u8, hf⟩ := tk_o hf
        have hP : va_P D cls (wCod cI q0 q1 q2 q3 q4 q5 q6 q7 q8 q9 q10 q11 u8) H := by rw [e_u8]; exact hP
        refine lv_goto (tgt := 133) hx hb d_Cod_carryRun_116 (by decide) ?_
        refine lv_iload_n hx hb d_Cod_carryRun_133 rfl (lv_at hl 2 rfl) ?_
        exact rt_i (wCod cI q0 q1 q2 q3 q4 q5 q6 q7 q8 q9 q10 q11) hx hb hr hlocks hS hP hf d_Cod_carryRun_134
      have hf := bq_n hf hc
      refine lv_aload_n hx hb d_Cod_carryRun_53 rfl (lv_at hl 0 rfl) ?_
      refine va_get (D := D) (ci := 3) (v := .ref q10) (C := R_Cod) (T := F_Cod) (N := 11) hx hb hw in_Cod hown hK hP 0 rfl rfl 10 (by decide) (hw _ m_216) (fun _ h9 => h9) rfl d_Cod_carryRun_54 ?_
      refine lv_iconst (v := 1) hx hb d_Cod_carryRun_57 (by decide) ?_
      refine lv_iconst (v := 1) hx hb d_Cod_carryRun_58 (by decide) ?_
      have hC : [10, 11].map (fun i => (wCod cI q0 q1 q2 q3 q4 q5 q6 q7 q8 q9 q10 q11 u)[i]?) = (wWri cI q10 q11 (sb [10, 11] u)).map some := rfl
      obtain ⟨w9, hc, hf⟩ := bd_o hf
      refine rw_v (va_runV (As := [.int 1, .int 1]) (rest := []) ⟨hx, hb, hml, hown, hw⟩ (c_Wri_writeBits l D cI q10 q11 (dj_sub hd [10, 11] (by decide) rfl) 1 1 (sb [10, 11] u) w9 hc) (cwV 2 hw g_20 rfl rfl rfl (by decide +kernel) ⟨Nat.le_of_ble_eq_true rfl, Nat.le_of_ble_eq_true rfl⟩) (pre_V (P_sub hC hP) hK rfl rfl) rfl rfl hl.1 rfl (lv_room (Nat.le_of_ble_eq_true rfl)) d_Cod_carryRun_59 ⟨Nat.le_of_ble_eq_true rfl, Nat.le_of_ble_eq_true rfl⟩) hS hP (hD _) hC rfl rfl (fun H locs hP hS => ?_)
      obtain ⟨u10, e_u10, hf⟩ := tk_o hf
      have hP : va_P D cls (wCod cI q0 q1 q2 q3 q4 q5 q6 q7 q8 q9 q10 q11 u10) H := by rw [e_u10]; exact hP
      refine lv_iload hx hb d_Cod_carryRun_62 (lv_at hl 3 rfl) ?_
      refine lv_iconst (v := 1) hx hb d_Cod_carryRun_64 (by decide) ?_
      refine lv_aload_n hx hb d_Cod_carryRun_65 rfl (lv_at hl 0 rfl) ?_
      refine va_get (D := D) (ci := 3) (v := .ref q2) (C := R_Cod) (T := F_Cod) (N := 11) hx hb hw in_Cod hown hK hP 0 rfl rfl 1 (by decide) (hw _ m_213) (fun x9 h9 => u_same (hw _ m_214) x9 h9) rfl d_Cod_carryRun_66 ?_
      have hC : [2, 3, 4, 5, 6, 7].map (fun i => (wCod cI q0 q1 q2 q3 q4 q5 q6 q7 q8 q9 q10 q11 u10)[i]?) = (wCtx cI q2 q3 q4 q5 q6 q7 (sb [2, 3, 4, 5, 6, 7] u10)).map some := rfl
      obtain ⟨x11, hc, hf⟩ := bd_o hf
      refine ro_i (va_runV (As := []) (rest := [.int 1, .int l4]) ⟨hx, hb, hml, hown, hw⟩ (c_Ctx_j l D cI tJ q2 q3 q4 q5 q6 q7 (sb [2, 3, 4, 5, 6, 7] u10) x11 hc) (cwV 0 hw g_19 rfl rfl rfl (by decide +kernel) ⟨Nat.le_of_ble_eq_true rfl, Nat.le_of_ble_eq_true rfl⟩) (pre_VJ (P_sub hC hP) hK rfl rfl (Jt_call hJ hS (fun _ h => h.elim))) rfl rfl hl.1 rfl (lv_room (Nat.le_of_ble_eq_true rfl)) d_Cod_carryRun_69 ⟨Nat.le_of_ble_eq_true rfl, Nat.le_of_ble_eq_true rfl⟩) hS hP (fun H locs hP hS => ?_)
      refine lv_ishl hx hb d_Cod_carryRun_72 ?_
      refine lv_isub hx hb d_Cod_carryRun_73 ?_
      refine lv_topi (fun x12 e_x12 => ?_)
      have hf := tk_e hf e_x12
      refine lv_istore (lv' := [(4, .int x12), (0, .ref q0), (2, .int l2), (3, .int l3)]) hx hb d_Cod_carryRun_74 hl (by decide) rfl (fun ls hl => ?_)
      refine lv_aload_n hx hb d_Cod_carryRun_76 rfl (lv_at hl 1 rfl) ?_
      refine va_get (D := D) (ci := 3) (v := .ref q2) (C := R_Cod) (T := F_Cod) (N := 11) hx hb hw in_Cod hown hK hP 0 rfl rfl 1 (by decide) (hw _ m_213) (fun x9 h9 => u_same (hw _ m_214) x9 h9) rfl d_Cod_carryRun_77 ?_
      have hC : [2, 3, 4, 5, 6, 7].map (fun i => (wCod cI q0 q1 q2 q3 q4 q5 q6 q7 q8 q9 q10 q11 u10)[i]?) = (wCtx cI q2 q3 q4 q5 q6 q7 (sb [2, 3, 4, 5, 6, 7] u10)).map some := rfl
      obtain ⟨w13, hc, hf⟩ := bd_o hf
      refine rw_v (va_runV (As := []) (rest := []) ⟨hx, hb, hml, hown, hw⟩ (c_Ctx_raiseRunIndex l D cI q2 q3 q4 q5 q6 q7 (dj_sub hd [2, 3, 4, 5, 6, 7] (by decide) rfl) (sb [2, 3, 4, 5, 6, 7] u10) w13 hc) (cwV 0 hw g_21 rfl rfl rfl (by decide +kernel) ⟨Nat.le_of_ble_eq_true rfl, Nat.le_of_ble_eq_true rfl⟩) (pre_V (P_sub hC hP) hK rfl rfl) rfl rfl hl.1 rfl (lv_room (Nat.le_of_ble_eq_true rfl)) d_Cod_carryRun_80 ⟨Nat.le_of_ble_eq_true rfl, Nat.le_of_ble_eq_true rfl⟩) hS hP (hD _) hC rfl rfl (fun H locs hP hS => ?_)
      obtain ⟨u14, e_u14, hf⟩ := tk_o hf
      have hP : va_P D cls (wCod cI q0 q1 q2 q3 q4 q5 q6 q7 q8 q9 q10 q11 u14) H := by rw [e_u14]; exact hP
      refine lv_goto (tgt := 39) hx hb d_Cod_carryRun_83 (by decide) ?_
      exact ih39 _ _ _ l2 l3 x12 u14 (lv_sub hl [1, 2, 3, 0] rfl) hP hS hf
  have lp2 : ∀ (n2 : Nat), ∀ (ls : Array Slot) (H : Heap) (locs : List Loc) (l1 : Int32) (l2 : Int32) (l3 : Int32) (u : gU), lv_has ls 5 [(0, .ref q0), (1, .int l1), (2, .int l2), (3, .int l3)] → va_P D cls (wCod cI q0 q1 q2 q3 q4 q5 q6 q7 q8 q9 q10 q11 u) H → va_S (ad [q0, q1, q2, q3, q4, q5, q6, q7, q8, q9, q10, q11]) s.heap H locs → L_Cod_carryRun_2 n2 l1 l2 l3 u = some (r, v) → W p l e ({ frames := 2, cells := 0, slots := 0, locals := 44 }) s m [.ref q0, .int a1, .int a2].toArray below meth c H locs 0 0 (MQ below (va_Qi (fun x (_ : Unit) => x = r) (fun _ t => va_P D cls (wCod cI q0 q1 q2 q3 q4 q5 q6 q7 q8 q9 q10 q11 v) t.heap) (ad [q0, q1, q2, q3, q4, q5, q6, q7, q8, q9, q10, q11])) [.ref q0, .int a1, .int a2].toArray s 0 0 (ad [q0, q1, q2, q3, q4, q5, q6, q7, q8, q9, q10, q11])) (F0 m 2 ls []) := by
    intro n2
    induction n2 with
    | zero =>
      intro ls H locs l1 l2 l3 u hl hP hS hf
      rw [L_Cod_carryRun_2_z] at hf
      cases hf
    | succ n2 ih2 =>
      intro ls H locs l1 l2 l3 u hl hP hS hf
      rw [L_Cod_carryRun_2_s] at hf
      refine lv_iload_n hx hb d_Cod_carryRun_2 rfl (lv_at hl 3 rfl) ?_
      refine lv_iload_n hx hb d_Cod_carryRun_3 rfl (lv_at hl 2 rfl) ?_
      refine lv_icmp_ge (tgt := 36) hx hb d_Cod_carryRun_4 (by decide) (fun hc => ?_) (fun hc => ?_)
      · have hf := bq_t hf hc
        refine lv_iload_n hx hb d_Cod_carryRun_36 rfl (lv_at hl 3 rfl) ?_
        refine lv_istore (lv' := [(4, .int l3), (0, .ref q0), (1, .int l1), (2, .int l2), (3, .int l3)]) hx hb d_Cod_carryRun_37 hl (by decide) rfl (fun ls hl => ?_)
        exact lp39 100 _ _ _ l2 l3 l3 u (lv_sub hl [1, 3, 4, 0] rfl) hP hS hf
      have hf := bq_n hf hc
      refine lv_aload_n hx hb d_Cod_carryRun_7 rfl (lv_at hl 0 rfl) ?_
      refine va_get (D := D) (ci := 3) (v := .ref q1) (C := R_Cod) (T := F_Cod) (N := 11) hx hb hw in_Cod hown hK hP 0 rfl rfl 0 (by decide) (hw _ m_191) (fun x9 h9 => u_same (hw _ m_192) x9 h9) rfl d_Cod_carryRun_8 ?_
      refine lv_aload_n hx hb d_Cod_carryRun_11 rfl (lv_at hl 0 rfl) ?_
      refine va_get (D := D) (ci := 3) (v := .ref q9) (C := R_Cod) (T := F_Cod) (N := 11) hx hb hw in_Cod hown hK hP 0 rfl rfl 9 (by decide) (hw _ m_195) (fun _ h9 => h9) rfl d_Cod_carryRun_12 ?_
      refine lv_iload_n hx hb d_Cod_carryRun_15 rfl (lv_at hl 1 rfl) ?_
      refine lv_iload_n hx hb d_Cod_carryRun_16 rfl (lv_at hl 3 rfl) ?_
      refine lv_iadd hx hb d_Cod_carryRun_17 ?_
      obtain ⟨h1, hf⟩ := gd_o hf
      refine va_iald hx hb hK hP 9 0 rfl rfl (ix_in h1) d_Cod_carryRun_18 ?_
      refine lv_aload_n hx hb d_Cod_carryRun_19 rfl (lv_at hl 0 rfl) ?_
      refine va_get (D := D) (ci := 3) (v := .int (u 0 0)) (C := R_Cod) (T := F_Cod) (N := 11) hx hb hw in_Cod hown hK hP 0 rfl rfl 3 (by decide) (hw _ m_222) (fun x9 h9 => u_same (hw _ m_223) x9 h9) rfl d_Cod_carryRun_20 ?_
      refine lv_isub hx hb d_Cod_carryRun_23 ?_
      have hC : [1].map (fun i => (wCod cI q0 q1 q2 q3 q4 q5 q6 q7 q8 q9 q10 q11 u)[i]?) = (wPic cI q1 (sb [1] u)).map some := rfl
      obtain ⟨x2, hc, hf⟩ := bd_o hf
      refine ro_i (va_runV (As := [.int ((u 9 (tc (l1 + l3))) - (u 0 0))]) (rest := []) ⟨hx, hb, hml, hown, hw⟩ (c_Pic_isNear l D cI q1 ((u 9 (tc (l1 + l3))) - (u 0 0)) (sb [1] u) x2 hc) (cwV 1 hw g_22 rfl rfl rfl (by decide +kernel) ⟨Nat.le_of_ble_eq_true rfl, Nat.le_of_ble_eq_true rfl⟩) (pre_V (P_sub hC hP) hK rfl rfl) rfl rfl hl.1 rfl (lv_room (Nat.le_of_ble_eq_true rfl)) d_Cod_carryRun_24 ⟨Nat.le_of_ble_eq_true rfl, Nat.le_of_ble_eq_true rfl⟩) hS hP (fun H locs hP hS => ?_)
      refine lv_if_eq (tgt := 36) hx hb d_Cod_carryRun_27 (by decide) (fun hc => ?_) (fun hc => ?_)
      · have hf := bq_t hf hc
        refine lv_iload_n hx hb d_Cod_carryRun_36 rfl (lv_at hl 3 rfl) ?_
        refine lv_istore (lv' := [(4, .int l3), (0, .ref q0), (1, .int l1), (2, .int l2), (3, .int l3)]) hx hb d_Cod_carryRun_37 hl (by decide) rfl (fun ls hl => ?_)
        exact lp39 100 _ _ _ l2 l3 l3 u (lv_sub hl [1, 3, 4, 0] rfl) hP hS hf
      have hf := bq_n hf hc
      obtain ⟨x3, e_x3, hf⟩ := tk_o hf
      refine lv_iinc (v := x3) (lv' := [(3, .int x3), (0, .ref q0), (1, .int l1), (2, .int l2)]) hx hb d_Cod_carryRun_30 hl (k := 3) rfl e_x3.symm (by decide) rfl (fun ls hl => ?_)
      refine lv_goto (tgt := 2) hx hb d_Cod_carryRun_33 (by decide) ?_
      exact ih2 _ _ _ l1 l2 x3 u (lv_sub hl [1, 2, 3, 0] rfl) hP hS hf
  unfold f_Cod_carryRun at hf
  refine lv_iconst (v := 0) hx hb d_Cod_carryRun_0 (by decide) ?_
  refine lv_istore_n (lv' := [(3, .int 0), (0, .ref q0), (1, .int a1), (2, .int a2)]) hx hb d_Cod_carryRun_1 rfl hl (by decide) rfl (fun ls hl => ?_)
  exact lp2 100 _ _ _ a1 a2 0 u (lv_sub hl [1, 2, 3, 0] rfl) hP hS hf
def f_Cod_carryRegular (a1 : Int32) (a2 : Int32) (a3 : Int32) (u : gU) : Option (Int32 × gU) := bd (f_Cod_takeError a1 u) fun w1 => tk (w1.2) fun u2 => bd (f_Fol_foldRegular w1.1 a3) fun x3 => bd (f_Wri_writeNumber x3 a2 (u2 1 7) (u2 1 6) (sb [10, 11] u2)) fun w4 => tk (mg [10, 11] 0 u2 w4) fun u5 => some (w1.1, u5)
set_option maxHeartbeats 4000000 in
set_option maxRecDepth 100000 in
theorem c_Cod_carryRegular (l : Launch) (D : va_G) (cI : ClassId) (q0 : Nat) (q1 : Nat) (q2 : Nat) (q3 : Nat) (q4 : Nat) (q5 : Nat) (q6 : Nat) (q7 : Nat) (q8 : Nat) (q9 : Nat) (q10 : Nat) (q11 : Nat) (hd : dj [q0, q1, q2, q3, q4, q5, q6, q7, q8, q9, q10, q11]) (a1 : Int32) (a2 : Int32) (a3 : Int32) (u : gU) (r : Int32) (v : gU) (hf : f_Cod_carryRegular a1 a2 a3 u = some (r, v)) : Met l y_Cod_carryRegular (.code y_Cod_carryRegular b_Cod_carryRegular 5 (some .int) :: TS) ({ frames := 3, cells := 0, slots := 0, locals := 69 }) (va_Pc [.ref q0, .int a1, .int a2, .int a3] (fun U => va_P D cls (wCod cI q0 q1 q2 q3 q4 q5 q6 q7 q8 q9 q10 q11 u) U.heap ∧ va_K D cls [(cI, .int)] U)) (va_Qi (fun x (_ : Unit) => x = r) (fun _ t => va_P D cls (wCod cI q0 q1 q2 q3 q4 q5 q6 q7 q8 q9 q10 q11 v) t.heap) (ad [q0, q1, q2, q3, q4, q5, q6, q7, q8, q9, q10, q11])) 0 0 (ad [q0, q1, q2, q3, q4, q5, q6, q7, q8, q9, q10, q11]) := by
  refine ct_of (by decide +kernel) (Nat.le_of_ble_eq_true rfl) ?_
  intro p e s m below meth c ls hx hb hml hr hlocks hown hw hP hK hl
  have hS : va_S (ad [q0, q1, q2, q3, q4, q5, q6, q7, q8, q9, q10, q11]) s.heap s.heap [] := va_S.rf
  have hD : ∀ v, va_D (ad [q0, q1, q2, q3, q4, q5, q6, q7, q8, q9, q10, q11]) (wCod cI q0 q1 q2 q3 q4 q5 q6 q7 q8 q9 q10 q11 v) := fun _ => dj_D rfl hd
  have hl : lv_has ls 5 [(0, .ref q0), (1, .int a1), (2, .int a2), (3, .int a3)] := hl
  have hP : va_P D cls (wCod cI q0 q1 q2 q3 q4 q5 q6 q7 q8 q9 q10 q11 u) s.heap := hP
  unfold f_Cod_carryRegular at hf
  refine lv_aload_n hx hb d_Cod_carryRegular_0 rfl (lv_at hl 0 rfl) ?_
  refine lv_iload_n hx hb d_Cod_carryRegular_1 rfl (lv_at hl 1 rfl) ?_
  have hC : [0, 1, 2, 3, 4, 5, 6, 7, 8, 9, 10, 11].map (fun i => (wCod cI q0 q1 q2 q3 q4 q5 q6 q7 q8 q9 q10 q11 u)[i]?) = (wCod cI q0 q1 q2 q3 q4 q5 q6 q7 q8 q9 q10 q11 u).map some := rfl
  obtain ⟨w1, hc, hf⟩ := bd_o hf
  refine rw_i (va_runV (As := [.int a1]) (rest := []) ⟨hx, hb, hml, hown, hw⟩ (c_Cod_takeError l D cI q0 q1 q2 q3 q4 q5 q6 q7 q8 q9 q10 q11 (dj_sub hd [0, 1, 2, 3, 4, 5, 6, 7, 8, 9, 10, 11] (by decide) rfl) a1 u w1.1 w1.2 hc) (cwV 1 hw g_23 rfl rfl rfl (by decide +kernel) ⟨Nat.le_of_ble_eq_true rfl, Nat.le_of_ble_eq_true rfl⟩) (pre_V (P_sub hC hP) hK rfl rfl) rfl rfl hl.1 rfl (lv_room (Nat.le_of_ble_eq_true rfl)) d_Cod_carryRegular_2 ⟨Nat.le_of_ble_eq_true rfl, Nat.le_of_ble_eq_true rfl⟩) hS hP (hD _) hC rfl rfl (fun H locs hP hS => ?_)
  obtain ⟨u2, e_u2, hf⟩ := tk_o hf
  have hP : va_P D cls (wCod cI q0 q1 q2 q3 q4 q5 q6 q7 q8 q9 q10 q11 u2) H := by rw [e_u2]; exact hP
  refine lv_istore (lv' := [(4, .int w1.1), (0, .ref q0), (1, .int a1), (2, .int a2), (3, .int a3)]) hx hb d_Cod_carryRegular_5 hl (by decide) rfl (fun ls hl => ?_)
  refine lv_aload_n hx hb d_Cod_carryRegular_7 rfl (lv_at hl 1 rfl) ?_
  refine va_get (D := D) (ci := 3) (v := .ref q10) (C := R_Cod) (T := F_Cod) (N := 11) hx hb hw in_Cod hown hK hP 0 rfl rfl 10 (by decide) (hw _ m_216) (fun _ h9 => h9) rfl d_Cod_carryRegular_8 ?_
  refine lv_iload hx hb d_Cod_carryRegular_11 (lv_at hl 0 rfl) ?_
  refine lv_iload_n hx hb d_Cod_carryRegular_13 rfl (lv_at hl 4 rfl) ?_
  have hC : ([] : List Nat).map (fun i => (wCod cI q0 q1 q2 q3 q4 q5 q6 q7 q8 q9 q10 q11 u2)[i]?) = ([] : va_W).map some := rfl
  obtain ⟨x3, hc, hf⟩ := bd_o hf
  refine ro_i (va_runS (As := [.int w1.1, .int a3]) (rest := [.ref q10]) ⟨hx, hb, hml, hown, hw⟩ (c_Fol_foldRegular l D cI w1.1 a3 x3 hc) (va_cwS 2 hw g_24 rfl rfl rfl (by decide +kernel) ⟨Nat.le_of_ble_eq_true rfl, Nat.le_of_ble_eq_true rfl⟩) (pre_S (P_sub hC hP) hK) rfl rfl hl.1 rfl (lv_room (Nat.le_of_ble_eq_true rfl)) d_Cod_carryRegular_14 ⟨Nat.le_of_ble_eq_true rfl, Nat.le_of_ble_eq_true rfl⟩) hS hP (fun H locs hP hS => ?_)
  refine lv_iload_n hx hb d_Cod_carryRegular_17 rfl (lv_at hl 3 rfl) ?_
  refine lv_aload_n hx hb d_Cod_carryRegular_18 rfl (lv_at hl 1 rfl) ?_
  refine va_get (D := D) (ci := 3) (v := .ref q1) (C := R_Cod) (T := F_Cod) (N := 11) hx hb hw in_Cod hown hK hP 0 rfl rfl 0 (by decide) (hw _ m_191) (fun x9 h9 => u_same (hw _ m_192) x9 h9) rfl d_Cod_carryRegular_19 ?_
  refine va_get (D := D) (ci := 1) (v := .int (u2 1 7)) (C := R_Pic) (T := F_Pic) (N := 11) hx hb hw in_Pic hown hK hP 1 rfl rfl 7 (by decide) (hw _ m_234) (fun _ h9 => h9) rfl d_Cod_carryRegular_22 ?_
  refine lv_aload_n hx hb d_Cod_carryRegular_25 rfl (lv_at hl 1 rfl) ?_
  refine va_get (D := D) (ci := 3) (v := .ref q1) (C := R_Cod) (T := F_Cod) (N := 11) hx hb hw in_Cod hown hK hP 0 rfl rfl 0 (by decide) (hw _ m_191) (fun x9 h9 => u_same (hw _ m_192) x9 h9) rfl d_Cod_carryRegular_26 ?_
  refine va_get (D := D) (ci := 1) (v := .int (u2 1 6)) (C := R_Pic) (T := F_Pic) (N := 11) hx hb hw in_Pic hown hK hP 1 rfl rfl 6 (by decide) (hw _ m_235) (fun _ h9 => h9) rfl d_Cod_carryRegular_29 ?_
  have hC : [10, 11].map (fun i => (wCod cI q0 q1 q2 q3 q4 q5 q6 q7 q8 q9 q10 q11 u2)[i]?) = (wWri cI q10 q11 (sb [10, 11] u2)).map some := rfl
  obtain ⟨w4, hc, hf⟩ := bd_o hf
  refine rw_v (va_runV (As := [.int x3, .int a2, .int (u2 1 7), .int (u2 1 6)]) (rest := []) ⟨hx, hb, hml, hown, hw⟩ (c_Wri_writeNumber l D cI q10 q11 (dj_sub hd [10, 11] (by decide) rfl) x3 a2 (u2 1 7) (u2 1 6) (sb [10, 11] u2) w4 hc) (cwV 4 hw g_25 rfl rfl rfl (by decide +kernel) ⟨Nat.le_of_ble_eq_true rfl, Nat.le_of_ble_eq_true rfl⟩) (pre_V (P_sub hC hP) hK rfl rfl) rfl rfl hl.1 rfl (lv_room (Nat.le_of_ble_eq_true rfl)) d_Cod_carryRegular_32 ⟨Nat.le_of_ble_eq_true rfl, Nat.le_of_ble_eq_true rfl⟩) hS hP (hD _) hC rfl rfl (fun H locs hP hS => ?_)
  obtain ⟨u5, e_u5, hf⟩ := tk_o hf
  have hP : va_P D cls (wCod cI q0 q1 q2 q3 q4 q5 q6 q7 q8 q9 q10 q11 u5) H := by rw [e_u5]; exact hP
  refine lv_iload hx hb d_Cod_carryRegular_35 (lv_at hl 0 rfl) ?_
  exact rt_i (wCod cI q0 q1 q2 q3 q4 q5 q6 q7 q8 q9 q10 q11) hx hb hr hlocks hS hP hf d_Cod_carryRegular_37
def f_Cod_carryEnd (a1 : Int32) (a2 : Int32) (a3 : Int32) (a4 : Int32) (u : gU) : Option (Int32 × gU) := bd (f_Cod_takeError a1 u) fun w1 => tk (w1.2) fun u2 => bd (f_Fol_foldEnd w1.1 a2 a4) fun x3 => bd (f_Pas_limitOfEnd_C u2) fun x4 => bd (f_Wri_writeNumber x3 a3 x4 (u2 1 6) (sb [10, 11] u2)) fun w5 => tk (mg [10, 11] 0 u2 w5) fun u6 => some (w1.1, u6)
set_option maxHeartbeats 4000000 in
set_option maxRecDepth 100000 in
theorem c_Cod_carryEnd (l : Launch) (D : va_G) (cI : ClassId) (tJ : Nat) (q0 : Nat) (q1 : Nat) (q2 : Nat) (q3 : Nat) (q4 : Nat) (q5 : Nat) (q6 : Nat) (q7 : Nat) (q8 : Nat) (q9 : Nat) (q10 : Nat) (q11 : Nat) (hd : dj [q0, q1, q2, q3, q4, q5, q6, q7, q8, q9, q10, q11]) (a1 : Int32) (a2 : Int32) (a3 : Int32) (a4 : Int32) (u : gU) (r : Int32) (v : gU) (hf : f_Cod_carryEnd a1 a2 a3 a4 u = some (r, v)) : Met l y_Cod_carryEnd (.code y_Cod_carryEnd b_Cod_carryEnd 6 (some .int) :: TS) ({ frames := 3, cells := 0, slots := 0, locals := 69 }) (va_Pc [.ref q0, .int a1, .int a2, .int a3, .int a4] (fun U => va_P D cls (wCod cI q0 q1 q2 q3 q4 q5 q6 q7 q8 q9 q10 q11 u) U.heap ∧ va_K D cls [(cI, .int)] U ∧ Jt tJ (ad [q0, q1, q2, q3, q4, q5, q6, q7, q8, q9, q10, q11]) U)) (va_Qi (fun x (_ : Unit) => x = r) (fun _ t => va_P D cls (wCod cI q0 q1 q2 q3 q4 q5 q6 q7 q8 q9 q10 q11 v) t.heap) (ad [q0, q1, q2, q3, q4, q5, q6, q7, q8, q9, q10, q11])) 0 0 (ad [q0, q1, q2, q3, q4, q5, q6, q7, q8, q9, q10, q11]) := by
  refine ct_ofJ (by decide +kernel) (Nat.le_of_ble_eq_true rfl) ?_
  intro p e s m below meth c ls hx hb hml hr hlocks hown hw hP hK hJ hl
  have hS : va_S (ad [q0, q1, q2, q3, q4, q5, q6, q7, q8, q9, q10, q11]) s.heap s.heap [] := va_S.rf
  have hD : ∀ v, va_D (ad [q0, q1, q2, q3, q4, q5, q6, q7, q8, q9, q10, q11]) (wCod cI q0 q1 q2 q3 q4 q5 q6 q7 q8 q9 q10 q11 v) := fun _ => dj_D rfl hd
  have hl : lv_has ls 6 [(0, .ref q0), (1, .int a1), (2, .int a2), (3, .int a3), (4, .int a4)] := hl
  have hP : va_P D cls (wCod cI q0 q1 q2 q3 q4 q5 q6 q7 q8 q9 q10 q11 u) s.heap := hP
  unfold f_Cod_carryEnd at hf
  refine lv_aload_n hx hb d_Cod_carryEnd_0 rfl (lv_at hl 0 rfl) ?_
  refine lv_iload_n hx hb d_Cod_carryEnd_1 rfl (lv_at hl 1 rfl) ?_
  have hC : [0, 1, 2, 3, 4, 5, 6, 7, 8, 9, 10, 11].map (fun i => (wCod cI q0 q1 q2 q3 q4 q5 q6 q7 q8 q9 q10 q11 u)[i]?) = (wCod cI q0 q1 q2 q3 q4 q5 q6 q7 q8 q9 q10 q11 u).map some := rfl
  obtain ⟨w1, hc, hf⟩ := bd_o hf
  refine rw_i (va_runV (As := [.int a1]) (rest := []) ⟨hx, hb, hml, hown, hw⟩ (c_Cod_takeError l D cI q0 q1 q2 q3 q4 q5 q6 q7 q8 q9 q10 q11 (dj_sub hd [0, 1, 2, 3, 4, 5, 6, 7, 8, 9, 10, 11] (by decide) rfl) a1 u w1.1 w1.2 hc) (cwV 1 hw g_23 rfl rfl rfl (by decide +kernel) ⟨Nat.le_of_ble_eq_true rfl, Nat.le_of_ble_eq_true rfl⟩) (pre_V (P_sub hC hP) hK rfl rfl) rfl rfl hl.1 rfl (lv_room (Nat.le_of_ble_eq_true rfl)) d_Cod_carryEnd_2 ⟨Nat.le_of_ble_eq_true rfl, Nat.le_of_ble_eq_true rfl⟩) hS hP (hD _) hC rfl rfl (fun H locs hP hS => ?_)
  obtain ⟨u2, e_u2, hf⟩ := tk_o hf
  have hP : va_P D cls (wCod cI q0 q1 q2 q3 q4 q5 q6 q7 q8 q9 q10 q11 u2) H := by rw [e_u2]; exact hP
  refine lv_istore (lv' := [(5, .int w1.1), (0, .ref q0), (1, .int a1), (2, .int a2), (3, .int a3), (4, .int a4)]) hx hb d_Cod_carryEnd_5 hl (by decide) rfl (fun ls hl => ?_)
  refine lv_aload_n hx hb d_Cod_carryEnd_7 rfl (lv_at hl 1 rfl) ?_
  refine va_get (D := D) (ci := 3) (v := .ref q10) (C := R_Cod) (T := F_Cod) (N := 11) hx hb hw in_Cod hown hK hP 0 rfl rfl 10 (by decide) (hw _ m_216) (fun _ h9 => h9) rfl d_Cod_carryEnd_8 ?_
  refine lv_iload hx hb d_Cod_carryEnd_11 (lv_at hl 0 rfl) ?_
  refine lv_iload_n hx hb d_Cod_carryEnd_13 rfl (lv_at hl 3 rfl) ?_
  refine lv_iload hx hb d_Cod_carryEnd_14 (lv_at hl 5 rfl) ?_
  have hC : ([] : List Nat).map (fun i => (wCod cI q0 q1 q2 q3 q4 q5 q6 q7 q8 q9 q10 q11 u2)[i]?) = ([] : va_W).map some := rfl
  obtain ⟨x3, hc, hf⟩ := bd_o hf
  refine ro_i (va_runS (As := [.int w1.1, .int a2, .int a4]) (rest := [.ref q10]) ⟨hx, hb, hml, hown, hw⟩ (c_Fol_foldEnd l D cI w1.1 a2 a4 x3 hc) (va_cwS 3 hw g_26 rfl rfl rfl (by decide +kernel) ⟨Nat.le_of_ble_eq_true rfl, Nat.le_of_ble_eq_true rfl⟩) (pre_S (P_sub hC hP) hK) rfl rfl hl.1 rfl (lv_room (Nat.le_of_ble_eq_true rfl)) d_Cod_carryEnd_16 ⟨Nat.le_of_ble_eq_true rfl, Nat.le_of_ble_eq_true rfl⟩) hS hP (fun H locs hP hS => ?_)
  refine lv_iload_n hx hb d_Cod_carryEnd_19 rfl (lv_at hl 4 rfl) ?_
  refine lv_aload_n hx hb d_Cod_carryEnd_20 rfl (lv_at hl 1 rfl) ?_
  have hC : [0, 1, 2, 3, 4, 5, 6, 7, 8, 9, 10, 11].map (fun i => (wCod cI q0 q1 q2 q3 q4 q5 q6 q7 q8 q9 q10 q11 u2)[i]?) = (wCod cI q0 q1 q2 q3 q4 q5 q6 q7 q8 q9 q10 q11 u2).map some := rfl
  obtain ⟨x4, hc, hf⟩ := bd_o hf
  refine ro_i (va_runU (As := []) (rest := [.int a3, .int x3, .ref q10]) ⟨hx, hb, hml, hown, hw⟩ (c_Pas_limitOfEnd_C l D cI tJ q0 q1 q2 q3 q4 q5 q6 q7 q8 q9 q10 q11 u2 x4 hc) (va_cwU 0 hw g_27 rfl rfl rfl rfl (by decide +kernel) ⟨Nat.le_of_ble_eq_true rfl, Nat.le_of_ble_eq_true rfl⟩) (pre_VJ (P_sub hC hP) hK rfl rfl (Jt_call hJ hS (fun _ h => h.elim))) rfl rfl hl.1 rfl (lv_room (Nat.le_of_ble_eq_true rfl)) d_Cod_carryEnd_21 ⟨Nat.le_of_ble_eq_true rfl, Nat.le_of_ble_eq_true rfl⟩) hS hP (fun H locs hP hS => ?_)
  refine lv_aload_n hx hb d_Cod_carryEnd_24 rfl (lv_at hl 1 rfl) ?_
  refine va_get (D := D) (ci := 3) (v := .ref q1) (C := R_Cod) (T := F_Cod) (N := 11) hx hb hw in_Cod hown hK hP 0 rfl rfl 0 (by decide) (hw _ m_191) (fun x9 h9 => u_same (hw _ m_192) x9 h9) rfl d_Cod_carryEnd_25 ?_
  refine va_get (D := D) (ci := 1) (v := .int (u2 1 6)) (C := R_Pic) (T := F_Pic) (N := 11) hx hb hw in_Pic hown hK hP 1 rfl rfl 6 (by decide) (hw _ m_235) (fun _ h9 => h9) rfl d_Cod_carryEnd_28 ?_
  have hC : [10, 11].map (fun i => (wCod cI q0 q1 q2 q3 q4 q5 q6 q7 q8 q9 q10 q11 u2)[i]?) = (wWri cI q10 q11 (sb [10, 11] u2)).map some := rfl
  obtain ⟨w5, hc, hf⟩ := bd_o hf
  refine rw_v (va_runV (As := [.int x3, .int a3, .int x4, .int (u2 1 6)]) (rest := []) ⟨hx, hb, hml, hown, hw⟩ (c_Wri_writeNumber l D cI q10 q11 (dj_sub hd [10, 11] (by decide) rfl) x3 a3 x4 (u2 1 6) (sb [10, 11] u2) w5 hc) (cwV 4 hw g_25 rfl rfl rfl (by decide +kernel) ⟨Nat.le_of_ble_eq_true rfl, Nat.le_of_ble_eq_true rfl⟩) (pre_V (P_sub hC hP) hK rfl rfl) rfl rfl hl.1 rfl (lv_room (Nat.le_of_ble_eq_true rfl)) d_Cod_carryEnd_31 ⟨Nat.le_of_ble_eq_true rfl, Nat.le_of_ble_eq_true rfl⟩) hS hP (hD _) hC rfl rfl (fun H locs hP hS => ?_)
  obtain ⟨u6, e_u6, hf⟩ := tk_o hf
  have hP : va_P D cls (wCod cI q0 q1 q2 q3 q4 q5 q6 q7 q8 q9 q10 q11 u6) H := by rw [e_u6]; exact hP
  refine lv_iload hx hb d_Cod_carryEnd_34 (lv_at hl 0 rfl) ?_
  exact rt_i (wCod cI q0 q1 q2 q3 q4 q5 q6 q7 q8 q9 q10 q11) hx hb hr hlocks hS hP hf d_Cod_carryEnd_36
def J_Pas_overRegular_C_94 (l1 : Int32) (l3 : Int32) (l4 : Int32) (s0 : Int32) (u : gU) : Option (gU) := bd (f_Cod_carryRegular l1 l4 s0 u) fun w1 => tk (w1.2) fun u2 => bd (f_Ctx_learnRegular l3 w1.1 (u2 1 4) (sb [2, 3, 4, 5, 6, 7] u2)) fun w3 => tk (mg [2, 3, 4, 5, 6, 7] 0 u2 w3) fun u4 => some u4
def J_Pas_overRegular_C_93 (l1 : Int32) (l3 : Int32) (l4 : Int32) (u : gU) : Option (gU) := J_Pas_overRegular_C_94 l1 l3 l4 0 u
def J_Pas_overRegular_C_15 (l1 : Int32) (l2 : Int32) (s1 : Int32) (u : gU) : Option (gU) := tk (st2 u 0 4 s1) fun u1 => tk (if 0 ≤ l2 then l2 else 0 - l2) fun x2 => bd (f_Pas_foretoldByNeighbours_C u1) fun x3 => gd (ix x2 367) (bd (f_Pic_bounded (x3 + ((u1 0 4) * (u1 5 (tc x2)))) (sb [1] u1)) fun x5 => tk (st2 u1 0 5 x5) fun u6 => bd (f_Ctx_kOfRegular x2 (sb [2, 3, 4, 5, 6, 7] u6)) fun x7 => bq ((u6 1 3) = 0) (bq (x7 = 0) (bd (f_Ctx_leansDown x2 (sb [2, 3, 4, 5, 6, 7] u6)) fun x8 => bq (x8 = 0) (J_Pas_overRegular_C_93 l1 x2 x7 u6) (J_Pas_overRegular_C_94 l1 x2 x7 1 u6)) (J_Pas_overRegular_C_93 l1 x2 x7 u6)) (J_Pas_overRegular_C_93 l1 x2 x7 u6))
def f_Pas_overRegular_C (a1 : Int32) (u : gU) : Option (gU) := bd (f_Pas_signedContext_C u) fun x1 => bq (0 ≤ x1) (J_Pas_overRegular_C_15 a1 x1 1 u) (J_Pas_overRegular_C_15 a1 x1 (-1) u)
set_option maxHeartbeats 4000000 in
set_option maxRecDepth 100000 in
theorem c_Pas_overRegular_C (l : Launch) (D : va_G) (cI : ClassId) (tJ : Nat) (q0 : Nat) (q1 : Nat) (q2 : Nat) (q3 : Nat) (q4 : Nat) (q5 : Nat) (q6 : Nat) (q7 : Nat) (q8 : Nat) (q9 : Nat) (q10 : Nat) (q11 : Nat) (hd : dj [q0, q1, q2, q3, q4, q5, q6, q7, q8, q9, q10, q11]) (a1 : Int32) (u : gU) (v : gU) (hf : f_Pas_overRegular_C a1 u = some v) : Met l y_Pas_overRegular (.code y_Pas_overRegular b_Pas_overRegular 7 none :: TS) ({ frames := 4, cells := 0, slots := 0, locals := 93 }) (va_Pc [.ref q0, .int a1] (fun U => va_P D cls (wCod cI q0 q1 q2 q3 q4 q5 q6 q7 q8 q9 q10 q11 u) U.heap ∧ va_K D cls [(cI, .int)] U ∧ Jt tJ (ad [q0, q1, q2, q3, q4, q5, q6, q7, q8, q9, q10, q11]) U)) (va_Qv (fun (_ : Unit) => True) (fun _ t => va_P D cls (wCod cI q0 q1 q2 q3 q4 q5 q6 q7 q8 q9 q10 q11 v) t.heap) (ad [q0, q1, q2, q3, q4, q5, q6, q7, q8, q9, q10, q11])) 0 0 (ad [q0, q1, q2, q3, q4, q5, q6, q7, q8, q9, q10, q11]) := by
  refine ct_ofJ (by decide +kernel) (Nat.le_of_ble_eq_true rfl) ?_
  intro p e s m below meth c ls hx hb hml hr hlocks hown hw hP hK hJ hl
  have hS : va_S (ad [q0, q1, q2, q3, q4, q5, q6, q7, q8, q9, q10, q11]) s.heap s.heap [] := va_S.rf
  have hD : ∀ v, va_D (ad [q0, q1, q2, q3, q4, q5, q6, q7, q8, q9, q10, q11]) (wCod cI q0 q1 q2 q3 q4 q5 q6 q7 q8 q9 q10 q11 v) := fun _ => dj_D rfl hd
  have hl : lv_has ls 7 [(0, .ref q0), (1, .int a1)] := hl
  have hP : va_P D cls (wCod cI q0 q1 q2 q3 q4 q5 q6 q7 q8 q9 q10 q11 u) s.heap := hP
  have j94 : ∀ (ls : Array Slot) (H : Heap) (locs : List Loc) (l1 : Int32) (l3 : Int32) (l4 : Int32) (s0 : Int32) (u : gU), lv_has ls 7 [(0, .ref q0), (1, .int l1), (3, .int l3), (4, .int l4)] → va_P D cls (wCod cI q0 q1 q2 q3 q4 q5 q6 q7 q8 q9 q10 q11 u) H → va_S (ad [q0, q1, q2, q3, q4, q5, q6, q7, q8, q9, q10, q11]) s.heap H locs → J_Pas_overRegular_C_94 l1 l3 l4 s0 u = some v → W p l e ({ frames := 4, cells := 0, slots := 0, locals := 93 }) s m [.ref q0, .int a1].toArray below meth c H locs 0 0 (MQ below (va_Qv (fun (_ : Unit) => True) (fun _ t => va_P D cls (wCod cI q0 q1 q2 q3 q4 q5 q6 q7 q8 q9 q10 q11 v) t.heap) (ad [q0, q1, q2, q3, q4, q5, q6, q7, q8, q9, q10, q11])) [.ref q0, .int a1].toArray s 0 0 (ad [q0, q1, q2, q3, q4, q5, q6, q7, q8, q9, q10, q11])) (F0 m 94 ls [.int s0]) := by
    intro ls H locs l1 l3 l4 s0 u hl hP hS hf
    unfold J_Pas_overRegular_C_94 at hf
    refine lv_istore (lv' := [(5, .int s0), (0, .ref q0), (1, .int l1), (3, .int l3), (4, .int l4)]) hx hb d_Pas_overRegular_94 hl (by decide) rfl (fun ls hl => ?_)
    refine lv_aload_n hx hb d_Pas_overRegular_96 rfl (lv_at hl 1 rfl) ?_
    refine lv_iload_n hx hb d_Pas_overRegular_97 rfl (lv_at hl 2 rfl) ?_
    refine lv_iload hx hb d_Pas_overRegular_98 (lv_at hl 4 rfl) ?_
    refine lv_iload hx hb d_Pas_overRegular_100 (lv_at hl 0 rfl) ?_
    have hC : [0, 1, 2, 3, 4, 5, 6, 7, 8, 9, 10, 11].map (fun i => (wCod cI q0 q1 q2 q3 q4 q5 q6 q7 q8 q9 q10 q11 u)[i]?) = (wCod cI q0 q1 q2 q3 q4 q5 q6 q7 q8 q9 q10 q11 u).map some := rfl
    obtain ⟨w1, hc, hf⟩ := bd_o hf
    refine rw_i (va_runU (As := [.int l1, .int l4, .int s0]) (rest := []) ⟨hx, hb, hml, hown, hw⟩ (c_Cod_carryRegular l D cI q0 q1 q2 q3 q4 q5 q6 q7 q8 q9 q10 q11 (dj_sub hd [0, 1, 2, 3, 4, 5, 6, 7, 8, 9, 10, 11] (by decide) rfl) l1 l4 s0 u w1.1 w1.2 hc) (va_cwA 3 hw g_28 rfl rfl rfl hJ.2.2.2.1 (by decide +kernel) ⟨Nat.le_of_ble_eq_true rfl, Nat.le_of_ble_eq_true rfl⟩) (pre_V (P_sub hC hP) hK rfl rfl) rfl rfl hl.1 rfl (lv_room (Nat.le_of_ble_eq_true rfl)) d_Pas_overRegular_102 ⟨Nat.le_of_ble_eq_true rfl, Nat.le_of_ble_eq_true rfl⟩) hS hP (hD _) hC rfl rfl (fun H locs hP hS => ?_)
    obtain ⟨u2, e_u2, hf⟩ := tk_o hf
    have hP : va_P D cls (wCod cI q0 q1 q2 q3 q4 q5 q6 q7 q8 q9 q10 q11 u2) H := by rw [e_u2]; exact hP
    refine lv_istore (lv' := [(6, .int w1.1), (5, .int s0), (0, .ref q0), (1, .int l1), (3, .int l3), (4, .int l4)]) hx hb d_Pas_overRegular_105 hl (by decide) rfl (fun ls hl => ?_)
    refine lv_aload_n hx hb d_Pas_overRegular_107 rfl (lv_at hl 2 rfl) ?_
    refine va_get (D := D) (ci := 3) (v := .ref q2) (C := R_Cod) (T := F_Cod) (N := 11) hx hb hw in_Cod hown hK hP 0 rfl rfl 1 (by decide) (hw _ m_186) (fun _ h9 => h9) rfl d_Pas_overRegular_108 ?_
    refine lv_iload_n hx hb d_Pas_overRegular_111 rfl (lv_at hl 4 rfl) ?_
    refine lv_iload hx hb d_Pas_overRegular_112 (lv_at hl 0 rfl) ?_
    refine lv_aload_n hx hb d_Pas_overRegular_114 rfl (lv_at hl 2 rfl) ?_
    refine va_get (D := D) (ci := 3) (v := .ref q1) (C := R_Cod) (T := F_Cod) (N := 11) hx hb hw in_Cod hown hK hP 0 rfl rfl 0 (by decide) (hw _ m_165) (fun _ h9 => h9) rfl d_Pas_overRegular_115 ?_
    refine va_get (D := D) (ci := 1) (v := .int (u2 1 4)) (C := R_Pic) (T := F_Pic) (N := 11) hx hb hw in_Pic hown hK hP 1 rfl rfl 4 (by decide) (hw _ m_253) (fun _ h9 => h9) rfl d_Pas_overRegular_118 ?_
    have hC : [2, 3, 4, 5, 6, 7].map (fun i => (wCod cI q0 q1 q2 q3 q4 q5 q6 q7 q8 q9 q10 q11 u2)[i]?) = (wCtx cI q2 q3 q4 q5 q6 q7 (sb [2, 3, 4, 5, 6, 7] u2)).map some := rfl
    obtain ⟨w3, hc, hf⟩ := bd_o hf
    refine rw_v (va_runV (As := [.int l3, .int w1.1, .int (u2 1 4)]) (rest := []) ⟨hx, hb, hml, hown, hw⟩ (c_Ctx_learnRegular l D cI q2 q3 q4 q5 q6 q7 (dj_sub hd [2, 3, 4, 5, 6, 7] (by decide) rfl) l3 w1.1 (u2 1 4) (sb [2, 3, 4, 5, 6, 7] u2) w3 hc) (cwV 3 hw g_29 rfl rfl rfl (by decide +kernel) ⟨Nat.le_of_ble_eq_true rfl, Nat.le_of_ble_eq_true rfl⟩) (pre_V (P_sub hC hP) hK rfl rfl) rfl rfl hl.1 rfl (lv_room (Nat.le_of_ble_eq_true rfl)) d_Pas_overRegular_121 ⟨Nat.le_of_ble_eq_true rfl, Nat.le_of_ble_eq_true rfl⟩) hS hP (hD _) hC rfl rfl (fun H locs hP hS => ?_)
    obtain ⟨u4, e_u4, hf⟩ := tk_o hf
    have hP : va_P D cls (wCod cI q0 q1 q2 q3 q4 q5 q6 q7 q8 q9 q10 q11 u4) H := by rw [e_u4]; exact hP
    exact rt_v (wCod cI q0 q1 q2 q3 q4 q5 q6 q7 q8 q9 q10 q11) hx hb hr hlocks hS hP hf d_Pas_overRegular_124
  have j93 : ∀ (ls : Array Slot) (H : Heap) (locs : List Loc) (l1 : Int32) (l3 : Int32) (l4 : Int32) (u : gU), lv_has ls 7 [(0, .ref q0), (1, .int l1), (3, .int l3), (4, .int l4)] → va_P D cls (wCod cI q0 q1 q2 q3 q4 q5 q6 q7 q8 q9 q10 q11 u) H → va_S (ad [q0, q1, q2, q3, q4, q5, q6, q7, q8, q9, q10, q11]) s.heap H locs → J_Pas_overRegular_C_93 l1 l3 l4 u = some v → W p l e ({ frames := 4, cells := 0, slots := 0, locals := 93 }) s m [.ref q0, .int a1].toArray below meth c H locs 0 0 (MQ below (va_Qv (fun (_ : Unit) => True) (fun _ t => va_P D cls (wCod cI q0 q1 q2 q3 q4 q5 q6 q7 q8 q9 q10 q11 v) t.heap) (ad [q0, q1, q2, q3, q4, q5, q6, q7, q8, q9, q10, q11])) [.ref q0, .int a1].toArray s 0 0 (ad [q0, q1, q2, q3, q4, q5, q6, q7, q8, q9, q10, q11])) (F0 m 93 ls []) := by
    intro ls H locs l1 l3 l4 u hl hP hS hf
    unfold J_Pas_overRegular_C_93 at hf
    refine lv_iconst (v := 0) hx hb d_Pas_overRegular_93 (by decide) ?_
    exact j94 _ _ _ l1 l3 l4 0 u (lv_sub hl [0, 1, 2, 3] rfl) hP hS hf
  have j15 : ∀ (ls : Array Slot) (H : Heap) (locs : List Loc) (l1 : Int32) (l2 : Int32) (s1 : Int32) (u : gU), lv_has ls 7 [(0, .ref q0), (1, .int l1), (2, .int l2)] → va_P D cls (wCod cI q0 q1 q2 q3 q4 q5 q6 q7 q8 q9 q10 q11 u) H → va_S (ad [q0, q1, q2, q3, q4, q5, q6, q7, q8, q9, q10, q11]) s.heap H locs → J_Pas_overRegular_C_15 l1 l2 s1 u = some v → W p l e ({ frames := 4, cells := 0, slots := 0, locals := 93 }) s m [.ref q0, .int a1].toArray below meth c H locs 0 0 (MQ below (va_Qv (fun (_ : Unit) => True) (fun _ t => va_P D cls (wCod cI q0 q1 q2 q3 q4 q5 q6 q7 q8 q9 q10 q11 v) t.heap) (ad [q0, q1, q2, q3, q4, q5, q6, q7, q8, q9, q10, q11])) [.ref q0, .int a1].toArray s 0 0 (ad [q0, q1, q2, q3, q4, q5, q6, q7, q8, q9, q10, q11])) (F0 m 15 ls [.int s1, .ref q0]) := by
    intro ls H locs l1 l2 s1 u hl hP hS hf
    unfold J_Pas_overRegular_C_15 at hf
    refine va_put (D := D) (ci := 3) (v := .int s1) (ty := .int) (C := R_Cod) (T := F_Cod) (N := 11) hx hb hw in_Cod t_Cod t_Cod_ok n_Cod hown hK hP (hD _) hS 0 rfl rfl 7 (by decide) (hw _ m_258) (fun _ h9 => h9) rfl (by decide +kernel) rfl rfl (Nat.le_of_ble_eq_true rfl) d_Pas_overRegular_15 (fun H locs hP _ hS => ?_)
    obtain ⟨u1, e_u1, hf⟩ := tk_o hf
    have hP : va_P D cls (wCod cI q0 q1 q2 q3 q4 q5 q6 q7 q8 q9 q10 q11 u1) H := by rw [e_u1]; exact hP
    refine lv_iload_n hx hb d_Pas_overRegular_18 rfl (lv_at hl 2 rfl) ?_
    refine va_mabs hx hb (hml.trans hl.1.symm) hown (hw _ m_259) (hw _ m_110) (hw _ m_87) (hw _ m_111) (Nat.le_of_ble_eq_true rfl) (Nat.le_of_ble_eq_true rfl) (Nat.le_of_ble_eq_true rfl) (Nat.le_of_ble_eq_true rfl) d_Pas_overRegular_19 ?_
    refine lv_topi (fun x2 e_x2 => ?_)
    have hf := tk_e hf e_x2
    refine lv_istore_n (lv' := [(3, .int x2), (0, .ref q0), (1, .int l1), (2, .int l2)]) hx hb d_Pas_overRegular_22 rfl hl (by decide) rfl (fun ls hl => ?_)
    refine lv_aload_n hx hb d_Pas_overRegular_23 rfl (lv_at hl 1 rfl) ?_
    refine lv_aload_n hx hb d_Pas_overRegular_24 rfl (lv_at hl 1 rfl) ?_
    refine va_get (D := D) (ci := 3) (v := .ref q1) (C := R_Cod) (T := F_Cod) (N := 11) hx hb hw in_Cod hown hK hP 0 rfl rfl 0 (by decide) (hw _ m_165) (fun _ h9 => h9) rfl d_Pas_overRegular_25 ?_
    refine lv_aload_n hx hb d_Pas_overRegular_28 rfl (lv_at hl 1 rfl) ?_
    have hC : [0, 1, 2, 3, 4, 5, 6, 7, 8, 9, 10, 11].map (fun i => (wCod cI q0 q1 q2 q3 q4 q5 q6 q7 q8 q9 q10 q11 u1)[i]?) = (wCod cI q0 q1 q2 q3 q4 q5 q6 q7 q8 q9 q10 q11 u1).map some := rfl
    obtain ⟨x3, hc, hf⟩ := bd_o hf
    refine ro_i (va_runU (As := []) (rest := [.ref q1, .ref q0]) ⟨hx, hb, hml, hown, hw⟩ (c_Pas_foretoldByNeighbours_C l D cI q0 q1 q2 q3 q4 q5 q6 q7 q8 q9 q10 q11 u1 x3 hc) (va_cwU 0 hw g_30 rfl rfl rfl rfl (by decide +kernel) ⟨Nat.le_of_ble_eq_true rfl, Nat.le_of_ble_eq_true rfl⟩) (pre_V (P_sub hC hP) hK rfl rfl) rfl rfl hl.1 rfl (lv_room (Nat.le_of_ble_eq_true rfl)) d_Pas_overRegular_29 ⟨Nat.le_of_ble_eq_true rfl, Nat.le_of_ble_eq_true rfl⟩) hS hP (fun H locs hP hS => ?_)
    refine lv_aload_n hx hb d_Pas_overRegular_32 rfl (lv_at hl 1 rfl) ?_
    refine va_get (D := D) (ci := 3) (v := .int (u1 0 4)) (C := R_Cod) (T := F_Cod) (N := 11) hx hb hw in_Cod hown hK hP 0 rfl rfl 7 (by decide) (hw _ m_258) (fun _ h9 => h9) rfl d_Pas_overRegular_33 ?_
    refine lv_aload_n hx hb d_Pas_overRegular_36 rfl (lv_at hl 1 rfl) ?_
    refine va_get (D := D) (ci := 3) (v := .ref q2) (C := R_Cod) (T := F_Cod) (N := 11) hx hb hw in_Cod hown hK hP 0 rfl rfl 1 (by decide) (hw _ m_186) (fun _ h9 => h9) rfl d_Pas_overRegular_37 ?_
    refine va_get (D := D) (ci := 2) (v := .ref q5) (C := R_Ctx) (T := F_Ctx) (N := 6) hx hb hw in_Ctx hown hK hP 2 rfl rfl 2 (by decide) (hw _ m_265) (fun _ h9 => h9) rfl d_Pas_overRegular_40 ?_
    refine lv_iload_n hx hb d_Pas_overRegular_43 rfl (lv_at hl 0 rfl) ?_
    obtain ⟨h4, hf⟩ := gd_o hf
    refine va_iald hx hb hK hP 5 0 rfl rfl (ix_in h4) d_Pas_overRegular_44 ?_
    refine lv_imul hx hb d_Pas_overRegular_45 ?_
    refine lv_iadd hx hb d_Pas_overRegular_46 ?_
    have hC : [1].map (fun i => (wCod cI q0 q1 q2 q3 q4 q5 q6 q7 q8 q9 q10 q11 u1)[i]?) = (wPic cI q1 (sb [1] u1)).map some := rfl
    obtain ⟨x5, hc, hf⟩ := bd_o hf
    refine ro_i (va_runV (As := [.int (x3 + ((u1 0 4) * (u1 5 (tc x2))))]) (rest := [.ref q0]) ⟨hx, hb, hml, hown, hw⟩ (c_Pic_bounded l D cI q1 (x3 + ((u1 0 4) * (u1 5 (tc x2)))) (sb [1] u1) x5 hc) (cwV 1 hw g_31 rfl rfl rfl (by decide +kernel) ⟨Nat.le_of_ble_eq_true rfl, Nat.le_of_ble_eq_true rfl⟩) (pre_V (P_sub hC hP) hK rfl rfl) rfl rfl hl.1 rfl (lv_room (Nat.le_of_ble_eq_true rfl)) d_Pas_overRegular_47 ⟨Nat.le_of_ble_eq_true rfl, Nat.le_of_ble_eq_true rfl⟩) hS hP (fun H locs hP hS => ?_)
    refine va_put (D := D) (ci := 3) (v := .int x5) (ty := .int) (C := R_Cod) (T := F_Cod) (N := 11) hx hb hw in_Cod t_Cod t_Cod_ok n_Cod hown hK hP (hD _) hS 0 rfl rfl 8 (by decide) (hw _ m_267) (fun _ h9 => h9) rfl (by decide +kernel) rfl rfl (Nat.le_of_ble_eq_true rfl) d_Pas_overRegular_50 (fun H locs hP _ hS => ?_)
    obtain ⟨u6, e_u6, hf⟩ := tk_o hf
    have hP : va_P D cls (wCod cI q0 q1 q2 q3 q4 q5 q6 q7 q8 q9 q10 q11 u6) H := by rw [e_u6]; exact hP
    refine lv_aload_n hx hb d_Pas_overRegular_53 rfl (lv_at hl 1 rfl) ?_
    refine va_get (D := D) (ci := 3) (v := .ref q2) (C := R_Cod) (T := F_Cod) (N := 11) hx hb hw in_Cod hown hK hP 0 rfl rfl 1 (by decide) (hw _ m_186) (fun _ h9 => h9) rfl d_Pas_overRegular_54 ?_
    refine lv_iload_n hx hb d_Pas_overRegular_57 rfl (lv_at hl 0 rfl) ?_
    have hC : [2, 3, 4, 5, 6, 7].map (fun i => (wCod cI q0 q1 q2 q3 q4 q5 q6 q7 q8 q9 q10 q11 u6)[i]?) = (wCtx cI q2 q3 q4 q5 q6 q7 (sb [2, 3, 4, 5, 6, 7] u6)).map some := rfl
    obtain ⟨x7, hc, hf⟩ := bd_o hf
    refine ro_i (va_runV (As := [.int x2]) (rest := []) ⟨hx, hb, hml, hown, hw⟩ (c_Ctx_kOfRegular l D cI q2 q3 q4 q5 q6 q7 x2 (sb [2, 3, 4, 5, 6, 7] u6) x7 hc) (cwV 1 hw g_32 rfl rfl rfl (by decide +kernel) ⟨Nat.le_of_ble_eq_true rfl, Nat.le_of_ble_eq_true rfl⟩) (pre_V (P_sub hC hP) hK rfl rfl) rfl rfl hl.1 rfl (lv_room (Nat.le_of_ble_eq_true rfl)) d_Pas_overRegular_58 ⟨Nat.le_of_ble_eq_true rfl, Nat.le_of_ble_eq_true rfl⟩) hS hP (fun H locs hP hS => ?_)
    refine lv_istore (lv' := [(4, .int x7), (3, .int x2), (0, .ref q0), (1, .int l1), (2, .int l2)]) hx hb d_Pas_overRegular_61 hl (by decide) rfl (fun ls hl => ?_)
    refine lv_aload_n hx hb d_Pas_overRegular_63 rfl (lv_at hl 2 rfl) ?_
    refine va_get (D := D) (ci := 3) (v := .ref q1) (C := R_Cod) (T := F_Cod) (N := 11) hx hb hw in_Cod hown hK hP 0 rfl rfl 0 (by decide) (hw _ m_165) (fun _ h9 => h9) rfl d_Pas_overRegular_64 ?_
    refine va_get (D := D) (ci := 1) (v := .int (u6 1 3)) (C := R_Pic) (T := F_Pic) (N := 11) hx hb hw in_Pic hown hK hP 1 rfl rfl 3 (by decide) (hw _ m_272) (fun _ h9 => h9) rfl d_Pas_overRegular_67 ?_
    refine lv_if_ne (tgt := 93) hx hb d_Pas_overRegular_70 (by decide) (fun hc => ?_) (fun hc => ?_)
    · have hf := bq_n hf hc
      exact j93 _ _ _ l1 x2 x7 u6 (lv_sub hl [2, 3, 1, 0] rfl) hP hS hf
    have hf := bq_t hf hc
    refine lv_iload hx hb d_Pas_overRegular_73 (lv_at hl 0 rfl) ?_
    refine lv_if_ne (tgt := 93) hx hb d_Pas_overRegular_75 (by decide) (fun hc => ?_) (fun hc => ?_)
    · have hf := bq_n hf hc
      exact j93 _ _ _ l1 x2 x7 u6 (lv_sub hl [2, 3, 1, 0] rfl) hP hS hf
    have hf := bq_t hf hc
    refine lv_aload_n hx hb d_Pas_overRegular_78 rfl (lv_at hl 2 rfl) ?_
    refine va_get (D := D) (ci := 3) (v := .ref q2) (C := R_Cod) (T := F_Cod) (N := 11) hx hb hw in_Cod hown hK hP 0 rfl rfl 1 (by decide) (hw _ m_186) (fun _ h9 => h9) rfl d_Pas_overRegular_79 ?_
    refine lv_iload_n hx hb d_Pas_overRegular_82 rfl (lv_at hl 1 rfl) ?_
    have hC : [2, 3, 4, 5, 6, 7].map (fun i => (wCod cI q0 q1 q2 q3 q4 q5 q6 q7 q8 q9 q10 q11 u6)[i]?) = (wCtx cI q2 q3 q4 q5 q6 q7 (sb [2, 3, 4, 5, 6, 7] u6)).map some := rfl
    obtain ⟨x8, hc, hf⟩ := bd_o hf
    refine ro_i (va_runV (As := [.int x2]) (rest := []) ⟨hx, hb, hml, hown, hw⟩ (c_Ctx_leansDown l D cI q2 q3 q4 q5 q6 q7 x2 (sb [2, 3, 4, 5, 6, 7] u6) x8 hc) (cwV 1 hw g_33 rfl rfl rfl (by decide +kernel) ⟨Nat.le_of_ble_eq_true rfl, Nat.le_of_ble_eq_true rfl⟩) (pre_V (P_sub hC hP) hK rfl rfl) rfl rfl hl.1 rfl (lv_room (Nat.le_of_ble_eq_true rfl)) d_Pas_overRegular_83 ⟨Nat.le_of_ble_eq_true rfl, Nat.le_of_ble_eq_true rfl⟩) hS hP (fun H locs hP hS => ?_)
    refine lv_if_eq (tgt := 93) hx hb d_Pas_overRegular_86 (by decide) (fun hc => ?_) (fun hc => ?_)
    · have hf := bq_t hf hc
      exact j93 _ _ _ l1 x2 x7 u6 (lv_sub hl [2, 3, 1, 0] rfl) hP hS hf
    have hf := bq_n hf hc
    refine lv_iconst (v := 1) hx hb d_Pas_overRegular_89 (by decide) ?_
    refine lv_goto (tgt := 94) hx hb d_Pas_overRegular_90 (by decide) ?_
    exact j94 _ _ _ l1 x2 x7 1 u6 (lv_sub hl [2, 3, 1, 0] rfl) hP hS hf
  unfold f_Pas_overRegular_C at hf
  refine lv_aload_n hx hb d_Pas_overRegular_0 rfl (lv_at hl 0 rfl) ?_
  have hC : [0, 1, 2, 3, 4, 5, 6, 7, 8, 9, 10, 11].map (fun i => (wCod cI q0 q1 q2 q3 q4 q5 q6 q7 q8 q9 q10 q11 u)[i]?) = (wCod cI q0 q1 q2 q3 q4 q5 q6 q7 q8 q9 q10 q11 u).map some := rfl
  obtain ⟨x1, hc, hf⟩ := bd_o hf
  refine ro_i (va_runU (As := []) (rest := []) ⟨hx, hb, hml, hown, hw⟩ (c_Pas_signedContext_C l D cI q0 q1 q2 q3 q4 q5 q6 q7 q8 q9 q10 q11 u x1 hc) (va_cwU 0 hw g_34 rfl rfl rfl rfl (by decide +kernel) ⟨Nat.le_of_ble_eq_true rfl, Nat.le_of_ble_eq_true rfl⟩) (pre_V (P_sub hC hP) hK rfl rfl) rfl rfl hl.1 rfl (lv_room (Nat.le_of_ble_eq_true rfl)) d_Pas_overRegular_1 ⟨Nat.le_of_ble_eq_true rfl, Nat.le_of_ble_eq_true rfl⟩) hS hP (fun H locs hP hS => ?_)
  refine lv_istore_n (lv' := [(2, .int x1), (0, .ref q0), (1, .int a1)]) hx hb d_Pas_overRegular_4 rfl hl (by decide) rfl (fun ls hl => ?_)
  refine lv_aload_n hx hb d_Pas_overRegular_5 rfl (lv_at hl 1 rfl) ?_
  refine lv_iload_n hx hb d_Pas_overRegular_6 rfl (lv_at hl 0 rfl) ?_
  refine lv_if_ge (tgt := 14) hx hb d_Pas_overRegular_7 (by decide) (fun hc => ?_) (fun hc => ?_)
  · have hf := bq_t hf hc
    refine lv_iconst (v := 1) hx hb d_Pas_overRegular_14 (by decide) ?_
    exact j15 _ _ _ a1 x1 1 u (lv_sub hl [1, 2, 0] rfl) hP hS hf
  have hf := bq_n hf hc
  refine lv_iconst (v := (-1)) hx hb d_Pas_overRegular_10 (by decide) ?_
  refine lv_goto (tgt := 15) hx hb d_Pas_overRegular_11 (by decide) ?_
  exact j15 _ _ _ a1 x1 (-1) u (lv_sub hl [1, 2, 0] rfl) hP hS hf
def J_Pas_overEnd_C_106 (l1 : Int32) (l2 : Int32) (l3 : Int32) (l4 : Int32) (s0 : Int32) (u : gU) : Option (gU) := bd (f_Cod_carryEnd l1 l2 l4 s0 u) fun w1 => tk (w1.2) fun u2 => bd (f_Fol_foldEnd w1.1 l2 s0) fun x3 => bd (f_Ctx_learnEnd l3 w1.1 x3 (sb [2, 3, 4, 5, 6, 7] u2)) fun w4 => tk (mg [2, 3, 4, 5, 6, 7] 0 u2 w4) fun u5 => bd (f_Ctx_lowerRunIndex (sb [2, 3, 4, 5, 6, 7] u5)) fun w6 => tk (mg [2, 3, 4, 5, 6, 7] 0 u5 w6) fun u7 => some u7
def J_Pas_overEnd_C_101 (l1 : Int32) (l2 : Int32) (l3 : Int32) (l4 : Int32) (u : gU) : Option (gU) := J_Pas_overEnd_C_106 l1 l2 l3 l4 1 u
def J_Pas_overEnd_C_66 (l1 : Int32) (l2 : Int32) (s1 : Int32) (u : gU) : Option (gU) := tk (st2 u 0 4 s1) fun u1 => tk (365 + l2) fun x2 => bd (f_Ctx_kOfEnd x2 (sb [2, 3, 4, 5, 6, 7] u1)) fun x3 => bq (x3 = 0) (bd (f_Ctx_isMostlyBelow x2 (sb [2, 3, 4, 5, 6, 7] u1)) fun x4 => bq (x4 = 0) (J_Pas_overEnd_C_106 l1 l2 x2 x3 0 u1) (J_Pas_overEnd_C_101 l1 l2 x2 x3 u1)) (J_Pas_overEnd_C_101 l1 l2 x2 x3 u1)
def J_Pas_overEnd_C_65 (l1 : Int32) (l2 : Int32) (u : gU) : Option (gU) := J_Pas_overEnd_C_66 l1 l2 1 u
def J_Pas_overEnd_C_42 (l1 : Int32) (l2 : Int32) (s1 : Int32) (u : gU) : Option (gU) := tk (st2 u 0 5 s1) fun u1 => bq (l2 = 0) (bq ((u1 0 0) ≤ (u1 0 1)) (J_Pas_overEnd_C_65 l1 l2 u1) (J_Pas_overEnd_C_66 l1 l2 (-1) u1)) (J_Pas_overEnd_C_65 l1 l2 u1)
def J_Pas_overEnd_C_24 (l1 : Int32) (s0 : Int32) (u : gU) : Option (gU) := bq (s0 = 1) (J_Pas_overEnd_C_42 l1 s0 (u 0 0) u) (J_Pas_overEnd_C_42 l1 s0 (u 0 1) u)
def f_Pas_overEnd_C (a1 : Int32) (u : gU) : Option (gU) := bd (f_Pic_isNear ((u 0 0) - (u 0 1)) (sb [1] u)) fun x1 => bq (x1 = 0) (J_Pas_overEnd_C_24 a1 0 u) (J_Pas_overEnd_C_24 a1 1 u)
set_option maxHeartbeats 4000000 in
set_option maxRecDepth 100000 in
theorem c_Pas_overEnd_C (l : Launch) (D : va_G) (cI : ClassId) (tJ : Nat) (q0 : Nat) (q1 : Nat) (q2 : Nat) (q3 : Nat) (q4 : Nat) (q5 : Nat) (q6 : Nat) (q7 : Nat) (q8 : Nat) (q9 : Nat) (q10 : Nat) (q11 : Nat) (hd : dj [q0, q1, q2, q3, q4, q5, q6, q7, q8, q9, q10, q11]) (a1 : Int32) (u : gU) (v : gU) (hf : f_Pas_overEnd_C a1 u = some v) : Met l y_Pas_overEnd (.code y_Pas_overEnd b_Pas_overEnd 7 none :: TS) ({ frames := 4, cells := 0, slots := 0, locals := 94 }) (va_Pc [.ref q0, .int a1] (fun U => va_P D cls (wCod cI q0 q1 q2 q3 q4 q5 q6 q7 q8 q9 q10 q11 u) U.heap ∧ va_K D cls [(cI, .int)] U ∧ Jt tJ (ad [q0, q1, q2, q3, q4, q5, q6, q7, q8, q9, q10, q11]) U)) (va_Qv (fun (_ : Unit) => True) (fun _ t => va_P D cls (wCod cI q0 q1 q2 q3 q4 q5 q6 q7 q8 q9 q10 q11 v) t.heap) (ad [q0, q1, q2, q3, q4, q5, q6, q7, q8, q9, q10, q11])) 0 0 (ad [q0, q1, q2, q3, q4, q5, q6, q7, q8, q9, q10, q11]) := by
  refine ct_ofJ (by decide +kernel) (Nat.le_of_ble_eq_true rfl) ?_
  intro p e s m below meth c ls hx hb hml hr hlocks hown hw hP hK hJ hl
  have hS : va_S (ad [q0, q1, q2, q3, q4, q5, q6, q7, q8, q9, q10, q11]) s.heap s.heap [] := va_S.rf
  have hD : ∀ v, va_D (ad [q0, q1, q2, q3, q4, q5, q6, q7, q8, q9, q10, q11]) (wCod cI q0 q1 q2 q3 q4 q5 q6 q7 q8 q9 q10 q11 v) := fun _ => dj_D rfl hd
  have hl : lv_has ls 7 [(0, .ref q0), (1, .int a1)] := hl
  have hP : va_P D cls (wCod cI q0 q1 q2 q3 q4 q5 q6 q7 q8 q9 q10 q11 u) s.heap := hP
  have j106 : ∀ (ls : Array Slot) (H : Heap) (locs : List Loc) (l1 : Int32) (l2 : Int32) (l3 : Int32) (l4 : Int32) (s0 : Int32) (u : gU), lv_has ls 7 [(0, .ref q0), (1, .int l1), (2, .int l2), (3, .int l3), (4, .int l4)] → va_P D cls (wCod cI q0 q1 q2 q3 q4 q5 q6 q7 q8 q9 q10 q11 u) H → va_S (ad [q0, q1, q2, q3, q4, q5, q6, q7, q8, q9, q10, q11]) s.heap H locs → J_Pas_overEnd_C_106 l1 l2 l3 l4 s0 u = some v → W p l e ({ frames := 4, cells := 0, slots := 0, locals := 94 }) s m [.ref q0, .int a1].toArray below meth c H locs 0 0 (MQ below (va_Qv (fun (_ : Unit) => True) (fun _ t => va_P D cls (wCod cI q0 q1 q2 q3 q4 q5 q6 q7 q8 q9 q10 q11 v) t.heap) (ad [q0, q1, q2, q3, q4, q5, q6, q7, q8, q9, q10, q11])) [.ref q0, .int a1].toArray s 0 0 (ad [q0, q1, q2, q3, q4, q5, q6, q7, q8, q9, q10, q11])) (F0 m 106 ls [.int s0]) := by
    intro ls H locs l1 l2 l3 l4 s0 u hl hP hS hf
    unfold J_Pas_overEnd_C_106 at hf
    refine lv_istore (lv' := [(5, .int s0), (0, .ref q0), (1, .int l1), (2, .int l2), (3, .int l3), (4, .int l4)]) hx hb d_Pas_overEnd_106 hl (by decide) rfl (fun ls hl => ?_)
    refine lv_aload_n hx hb d_Pas_overEnd_108 rfl (lv_at hl 1 rfl) ?_
    refine lv_iload_n hx hb d_Pas_overEnd_109 rfl (lv_at hl 2 rfl) ?_
    refine lv_iload_n hx hb d_Pas_overEnd_110 rfl (lv_at hl 3 rfl) ?_
    refine lv_iload hx hb d_Pas_overEnd_111 (lv_at hl 5 rfl) ?_
    refine lv_iload hx hb d_Pas_overEnd_113 (lv_at hl 0 rfl) ?_
    have hC : [0, 1, 2, 3, 4, 5, 6, 7, 8, 9, 10, 11].map (fun i => (wCod cI q0 q1 q2 q3 q4 q5 q6 q7 q8 q9 q10 q11 u)[i]?) = (wCod cI q0 q1 q2 q3 q4 q5 q6 q7 q8 q9 q10 q11 u).map some := rfl
    obtain ⟨w1, hc, hf⟩ := bd_o hf
    refine rw_i (va_runU (As := [.int l1, .int l2, .int l4, .int s0]) (rest := []) ⟨hx, hb, hml, hown, hw⟩ (c_Cod_carryEnd l D cI tJ q0 q1 q2 q3 q4 q5 q6 q7 q8 q9 q10 q11 (dj_sub hd [0, 1, 2, 3, 4, 5, 6, 7, 8, 9, 10, 11] (by decide) rfl) l1 l2 l4 s0 u w1.1 w1.2 hc) (va_cwA 4 hw g_35 rfl rfl rfl hJ.2.2.2.2 (by decide +kernel) ⟨Nat.le_of_ble_eq_true rfl, Nat.le_of_ble_eq_true rfl⟩) (pre_VJ (P_sub hC hP) hK rfl rfl (Jt_call hJ hS (ad_sub [0, 1, 2, 3, 4, 5, 6, 7, 8, 9, 10, 11] rfl))) rfl rfl hl.1 rfl (lv_room (Nat.le_of_ble_eq_true rfl)) d_Pas_overEnd_115 ⟨Nat.le_of_ble_eq_true rfl, Nat.le_of_ble_eq_true rfl⟩) hS hP (hD _) hC rfl rfl (fun H locs hP hS => ?_)
    obtain ⟨u2, e_u2, hf⟩ := tk_o hf
    have hP : va_P D cls (wCod cI q0 q1 q2 q3 q4 q5 q6 q7 q8 q9 q10 q11 u2) H := by rw [e_u2]; exact hP
    refine lv_istore (lv' := [(6, .int w1.1), (5, .int s0), (0, .ref q0), (1, .int l1), (2, .int l2), (3, .int l3), (4, .int l4)]) hx hb d_Pas_overEnd_118 hl (by decide) rfl (fun ls hl => ?_)
    refine lv_aload_n hx hb d_Pas_overEnd_120 rfl (lv_at hl 2 rfl) ?_
    refine va_get (D := D) (ci := 3) (v := .ref q2) (C := R_Cod) (T := F_Cod) (N := 11) hx hb hw in_Cod hown hK hP 0 rfl rfl 1 (by decide) (hw _ m_186) (fun _ h9 => h9) rfl d_Pas_overEnd_121 ?_
    refine lv_iload_n hx hb d_Pas_overEnd_124 rfl (lv_at hl 5 rfl) ?_
    refine lv_iload hx hb d_Pas_overEnd_125 (lv_at hl 0 rfl) ?_
    refine lv_iload hx hb d_Pas_overEnd_127 (lv_at hl 0 rfl) ?_
    refine lv_iload_n hx hb d_Pas_overEnd_129 rfl (lv_at hl 4 rfl) ?_
    refine lv_iload hx hb d_Pas_overEnd_130 (lv_at hl 1 rfl) ?_
    have hC : ([] : List Nat).map (fun i => (wCod cI q0 q1 q2 q3 q4 q5 q6 q7 q8 q9 q10 q11 u2)[i]?) = ([] : va_W).map some := rfl
    obtain ⟨x3, hc, hf⟩ := bd_o hf
    refine ro_i (va_runS (As := [.int w1.1, .int l2, .int s0]) (rest := [.int w1.1, .int l3, .ref q2]) ⟨hx, hb, hml, hown, hw⟩ (c_Fol_foldEnd l D cI w1.1 l2 s0 x3 hc) (va_cwS 3 hw g_36 rfl rfl rfl (by decide +kernel) ⟨Nat.le_of_ble_eq_true rfl, Nat.le_of_ble_eq_true rfl⟩) (pre_S (P_sub hC hP) hK) rfl rfl hl.1 rfl (lv_room (Nat.le_of_ble_eq_true rfl)) d_Pas_overEnd_132 ⟨Nat.le_of_ble_eq_true rfl, Nat.le_of_ble_eq_true rfl⟩) hS hP (fun H locs hP hS => ?_)
    have hC : [2, 3, 4, 5, 6, 7].map (fun i => (wCod cI q0 q1 q2 q3 q4 q5 q6 q7 q8 q9 q10 q11 u2)[i]?) = (wCtx cI q2 q3 q4 q5 q6 q7 (sb [2, 3, 4, 5, 6, 7] u2)).map some := rfl
    obtain ⟨w4, hc, hf⟩ := bd_o hf
    refine rw_v (va_runV (As := [.int l3, .int w1.1, .int x3]) (rest := []) ⟨hx, hb, hml, hown, hw⟩ (c_Ctx_learnEnd l D cI q2 q3 q4 q5 q6 q7 (dj_sub hd [2, 3, 4, 5, 6, 7] (by decide) rfl) l3 w1.1 x3 (sb [2, 3, 4, 5, 6, 7] u2) w4 hc) (cwV 3 hw g_37 rfl rfl rfl (by decide +kernel) ⟨Nat.le_of_ble_eq_true rfl, Nat.le_of_ble_eq_true rfl⟩) (pre_V (P_sub hC hP) hK rfl rfl) rfl rfl hl.1 rfl (lv_room (Nat.le_of_ble_eq_true rfl)) d_Pas_overEnd_135 ⟨Nat.le_of_ble_eq_true rfl, Nat.le_of_ble_eq_true rfl⟩) hS hP (hD _) hC rfl rfl (fun H locs hP hS => ?_)
    obtain ⟨u5, e_u5, hf⟩ := tk_o hf
    have hP : va_P D cls (wCod cI q0 q1 q2 q3 q4 q5 q6 q7 q8 q9 q10 q11 u5) H := by rw [e_u5]; exact hP
    refine lv_aload_n hx hb d_Pas_overEnd_138 rfl (lv_at hl 2 rfl) ?_
    refine va_get (D := D) (ci := 3) (v := .ref q2) (C := R_Cod) (T := F_Cod) (N := 11) hx hb hw in_Cod hown hK hP 0 rfl rfl 1 (by decide) (hw _ m_186) (fun _ h9 => h9) rfl d_Pas_overEnd_139 ?_
    have hC : [2, 3, 4, 5, 6, 7].map (fun i => (wCod cI q0 q1 q2 q3 q4 q5 q6 q7 q8 q9 q10 q11 u5)[i]?) = (wCtx cI q2 q3 q4 q5 q6 q7 (sb [2, 3, 4, 5, 6, 7] u5)).map some := rfl
    obtain ⟨w6, hc, hf⟩ := bd_o hf
    refine rw_v (va_runV (As := []) (rest := []) ⟨hx, hb, hml, hown, hw⟩ (c_Ctx_lowerRunIndex l D cI q2 q3 q4 q5 q6 q7 (dj_sub hd [2, 3, 4, 5, 6, 7] (by decide) rfl) (sb [2, 3, 4, 5, 6, 7] u5) w6 hc) (cwV 0 hw g_38 rfl rfl rfl (by decide +kernel) ⟨Nat.le_of_ble_eq_true rfl, Nat.le_of_ble_eq_true rfl⟩) (pre_V (P_sub hC hP) hK rfl rfl) rfl rfl hl.1 rfl (lv_room (Nat.le_of_ble_eq_true rfl)) d_Pas_overEnd_142 ⟨Nat.le_of_ble_eq_true rfl, Nat.le_of_ble_eq_true rfl⟩) hS hP (hD _) hC rfl rfl (fun H locs hP hS => ?_)
    obtain ⟨u7, e_u7, hf⟩ := tk_o hf
    have hP : va_P D cls (wCod cI q0 q1 q2 q3 q4 q5 q6 q7 q8 q9 q10 q11 u7) H := by rw [e_u7]; exact hP
    exact rt_v (wCod cI q0 q1 q2 q3 q4 q5 q6 q7 q8 q9 q10 q11) hx hb hr hlocks hS hP hf d_Pas_overEnd_145
  have j101 : ∀ (ls : Array Slot) (H : Heap) (locs : List Loc) (l1 : Int32) (l2 : Int32) (l3 : Int32) (l4 : Int32) (u : gU), lv_has ls 7 [(0, .ref q0), (1, .int l1), (2, .int l2), (3, .int l3), (4, .int l4)] → va_P D cls (wCod cI q0 q1 q2 q3 q4 q5 q6 q7 q8 q9 q10 q11 u) H → va_S (ad [q0, q1, q2, q3, q4, q5, q6, q7, q8, q9, q10, q11]) s.heap H locs → J_Pas_overEnd_C_101 l1 l2 l3 l4 u = some v → W p l e ({ frames := 4, cells := 0, slots := 0, locals := 94 }) s m [.ref q0, .int a1].toArray below meth c H locs 0 0 (MQ below (va_Qv (fun (_ : Unit) => True) (fun _ t => va_P D cls (wCod cI q0 q1 q2 q3 q4 q5 q6 q7 q8 q9 q10 q11 v) t.heap) (ad [q0, q1, q2, q3, q4, q5, q6, q7, q8, q9, q10, q11])) [.ref q0, .int a1].toArray s 0 0 (ad [q0, q1, q2, q3, q4, q5, q6, q7, q8, q9, q10, q11])) (F0 m 101 ls []) := by
    intro ls H locs l1 l2 l3 l4 u hl hP hS hf
    unfold J_Pas_overEnd_C_101 at hf
    refine lv_iconst (v := 1) hx hb d_Pas_overEnd_101 (by decide) ?_
    refine lv_goto (tgt := 106) hx hb d_Pas_overEnd_102 (by decide) ?_
    exact j106 _ _ _ l1 l2 l3 l4 1 u (lv_sub hl [0, 1, 2, 3, 4] rfl) hP hS hf
  have j66 : ∀ (ls : Array Slot) (H : Heap) (locs : List Loc) (l1 : Int32) (l2 : Int32) (s1 : Int32) (u : gU), lv_has ls 7 [(0, .ref q0), (1, .int l1), (2, .int l2)] → va_P D cls (wCod cI q0 q1 q2 q3 q4 q5 q6 q7 q8 q9 q10 q11 u) H → va_S (ad [q0, q1, q2, q3, q4, q5, q6, q7, q8, q9, q10, q11]) s.heap H locs → J_Pas_overEnd_C_66 l1 l2 s1 u = some v → W p l e ({ frames := 4, cells := 0, slots := 0, locals := 94 }) s m [.ref q0, .int a1].toArray below meth c H locs 0 0 (MQ below (va_Qv (fun (_ : Unit) => True) (fun _ t => va_P D cls (wCod cI q0 q1 q2 q3 q4 q5 q6 q7 q8 q9 q10 q11 v) t.heap) (ad [q0, q1, q2, q3, q4, q5, q6, q7, q8, q9, q10, q11])) [.ref q0, .int a1].toArray s 0 0 (ad [q0, q1, q2, q3, q4, q5, q6, q7, q8, q9, q10, q11])) (F0 m 66 ls [.int s1, .ref q0]) := by
    intro ls H locs l1 l2 s1 u hl hP hS hf
    unfold J_Pas_overEnd_C_66 at hf
    refine va_put (D := D) (ci := 3) (v := .int s1) (ty := .int) (C := R_Cod) (T := F_Cod) (N := 11) hx hb hw in_Cod t_Cod t_Cod_ok n_Cod hown hK hP (hD _) hS 0 rfl rfl 7 (by decide) (hw _ m_258) (fun _ h9 => h9) rfl (by decide +kernel) rfl rfl (Nat.le_of_ble_eq_true rfl) d_Pas_overEnd_66 (fun H locs hP _ hS => ?_)
    obtain ⟨u1, e_u1, hf⟩ := tk_o hf
    have hP : va_P D cls (wCod cI q0 q1 q2 q3 q4 q5 q6 q7 q8 q9 q10 q11 u1) H := by rw [e_u1]; exact hP
    refine lv_sipush (v := 365) hx hb d_Pas_overEnd_69 (by decide) ?_
    refine lv_iload_n hx hb d_Pas_overEnd_72 rfl (lv_at hl 2 rfl) ?_
    refine lv_iadd hx hb d_Pas_overEnd_73 ?_
    refine lv_topi (fun x2 e_x2 => ?_)
    have hf := tk_e hf e_x2
    refine lv_istore_n (lv' := [(3, .int x2), (0, .ref q0), (1, .int l1), (2, .int l2)]) hx hb d_Pas_overEnd_74 rfl hl (by decide) rfl (fun ls hl => ?_)
    refine lv_aload_n hx hb d_Pas_overEnd_75 rfl (lv_at hl 1 rfl) ?_
    refine va_get (D := D) (ci := 3) (v := .ref q2) (C := R_Cod) (T := F_Cod) (N := 11) hx hb hw in_Cod hown hK hP 0 rfl rfl 1 (by decide) (hw _ m_186) (fun _ h9 => h9) rfl d_Pas_overEnd_76 ?_
    refine lv_iload_n hx hb d_Pas_overEnd_79 rfl (lv_at hl 0 rfl) ?_
    have hC : [2, 3, 4, 5, 6, 7].map (fun i => (wCod cI q0 q1 q2 q3 q4 q5 q6 q7 q8 q9 q10 q11 u1)[i]?) = (wCtx cI q2 q3 q4 q5 q6 q7 (sb [2, 3, 4, 5, 6, 7] u1)).map some := rfl
    obtain ⟨x3, hc, hf⟩ := bd_o hf
    refine ro_i (va_runV (As := [.int x2]) (rest := []) ⟨hx, hb, hml, hown, hw⟩ (c_Ctx_kOfEnd l D cI q2 q3 q4 q5 q6 q7 x2 (sb [2, 3, 4, 5, 6, 7] u1) x3 hc) (cwV 1 hw g_39 rfl rfl rfl (by decide +kernel) ⟨Nat.le_of_ble_eq_true rfl, Nat.le_of_ble_eq_true rfl⟩) (pre_V (P_sub hC hP) hK rfl rfl) rfl rfl hl.1 rfl (lv_room (Nat.le_of_ble_eq_true rfl)) d_Pas_overEnd_80 ⟨Nat.le_of_ble_eq_true rfl, Nat.le_of_ble_eq_true rfl⟩) hS hP (fun H locs hP hS => ?_)
    refine lv_istore (lv' := [(4, .int x3), (3, .int x2), (0, .ref q0), (1, .int l1), (2, .int l2)]) hx hb d_Pas_overEnd_83 hl (by decide) rfl (fun ls hl => ?_)
    refine lv_iload hx hb d_Pas_overEnd_85 (lv_at hl 0 rfl) ?_
    refine lv_if_ne (tgt := 101) hx hb d_Pas_overEnd_87 (by decide) (fun hc => ?_) (fun hc => ?_)
    · have hf := bq_n hf hc
      exact j101 _ _ _ l1 l2 x2 x3 u1 (lv_sub hl [2, 3, 4, 1, 0] rfl) hP hS hf
    have hf := bq_t hf hc
    refine lv_aload_n hx hb d_Pas_overEnd_90 rfl (lv_at hl 2 rfl) ?_
    refine va_get (D := D) (ci := 3) (v := .ref q2) (C := R_Cod) (T := F_Cod) (N := 11) hx hb hw in_Cod hown hK hP 0 rfl rfl 1 (by decide) (hw _ m_186) (fun _ h9 => h9) rfl d_Pas_overEnd_91 ?_
    refine lv_iload_n hx hb d_Pas_overEnd_94 rfl (lv_at hl 1 rfl) ?_
    have hC : [2, 3, 4, 5, 6, 7].map (fun i => (wCod cI q0 q1 q2 q3 q4 q5 q6 q7 q8 q9 q10 q11 u1)[i]?) = (wCtx cI q2 q3 q4 q5 q6 q7 (sb [2, 3, 4, 5, 6, 7] u1)).map some := rfl
    obtain ⟨x4, hc, hf⟩ := bd_o hf
    refine ro_i (va_runV (As := [.int x2]) (rest := []) ⟨hx, hb, hml, hown, hw⟩ (c_Ctx_isMostlyBelow l D cI q2 q3 q4 q5 q6 q7 x2 (sb [2, 3, 4, 5, 6, 7] u1) x4 hc) (cwV 1 hw g_40 rfl rfl rfl (by decide +kernel) ⟨Nat.le_of_ble_eq_true rfl, Nat.le_of_ble_eq_true rfl⟩) (pre_V (P_sub hC hP) hK rfl rfl) rfl rfl hl.1 rfl (lv_room (Nat.le_of_ble_eq_true rfl)) d_Pas_overEnd_95 ⟨Nat.le_of_ble_eq_true rfl, Nat.le_of_ble_eq_true rfl⟩) hS hP (fun H locs hP hS => ?_)
    refine lv_if_eq (tgt := 105) hx hb d_Pas_overEnd_98 (by decide) (fun hc => ?_) (fun hc => ?_)
    · have hf := bq_t hf hc
      refine lv_iconst (v := 0) hx hb d_Pas_overEnd_105 (by decide) ?_
      exact j106 _ _ _ l1 l2 x2 x3 0 u1 (lv_sub hl [2, 3, 4, 1, 0] rfl) hP hS hf
    have hf := bq_n hf hc
    exact j101 _ _ _ l1 l2 x2 x3 u1 (lv_sub hl [2, 3, 4, 1, 0] rfl) hP hS hf
  have j65 : ∀ (ls : Array Slot) (H : Heap) (locs : List Loc) (l1 : Int32) (l2 : Int32) (u : gU), lv_has ls 7 [(0, .ref q0), (1, .int l1), (2, .int l2)] → va_P D cls (wCod cI q0 q1 q2 q3 q4 q5 q6 q7 q8 q9 q10 q11 u) H → va_S (ad [q0, q1, q2, q3, q4, q5, q6, q7, q8, q9, q10, q11]) s.heap H locs → J_Pas_overEnd_C_65 l1 l2 u = some v → W p l e ({ frames := 4, cells := 0, slots := 0, locals := 94 }) s m [.ref q0, .int a1].toArray below meth c H locs 0 0 (MQ below (va_Qv (fun (_ : Unit) => True) (fun _ t => va_P D cls (wCod cI q0 q1 q2 q3 q4 q5 q6 q7 q8 q9 q10 q11 v) t.heap) (ad [q0, q1, q2, q3, q4, q5, q6, q7, q8, q9, q10, q11])) [.ref q0, .int a1].toArray s 0 0 (ad [q0, q1, q2, q3, q4, q5, q6, q7, q8, q9, q10, q11])) (F0 m 65 ls [.ref q0]) := by
    intro ls H locs l1 l2 u hl hP hS hf
    unfold J_Pas_overEnd_C_65 at hf
    refine lv_iconst (v := 1) hx hb d_Pas_overEnd_65 (by decide) ?_
    exact j66 _ _ _ l1 l2 1 u (lv_sub hl [0, 1, 2] rfl) hP hS hf
  have j42 : ∀ (ls : Array Slot) (H : Heap) (locs : List Loc) (l1 : Int32) (l2 : Int32) (s1 : Int32) (u : gU), lv_has ls 7 [(0, .ref q0), (1, .int l1), (2, .int l2)] → va_P D cls (wCod cI q0 q1 q2 q3 q4 q5 q6 q7 q8 q9 q10 q11 u) H → va_S (ad [q0, q1, q2, q3, q4, q5, q6, q7, q8, q9, q10, q11]) s.heap H locs → J_Pas_overEnd_C_42 l1 l2 s1 u = some v → W p l e ({ frames := 4, cells := 0, slots := 0, locals := 94 }) s m [.ref q0, .int a1].toArray below meth c H locs 0 0 (MQ below (va_Qv (fun (_ : Unit) => True) (fun _ t => va_P D cls (wCod cI q0 q1 q2 q3 q4 q5 q6 q7 q8 q9 q10 q11 v) t.heap) (ad [q0, q1, q2, q3, q4, q5, q6, q7, q8, q9, q10, q11])) [.ref q0, .int a1].toArray s 0 0 (ad [q0, q1, q2, q3, q4, q5, q6, q7, q8, q9, q10, q11])) (F0 m 42 ls [.int s1, .ref q0]) := by
    intro ls H locs l1 l2 s1 u hl hP hS hf
    unfold J_Pas_overEnd_C_42 at hf
    refine va_put (D := D) (ci := 3) (v := .int s1) (ty := .int) (C := R_Cod) (T := F_Cod) (N := 11) hx hb hw in_Cod t_Cod t_Cod_ok n_Cod hown hK hP (hD _) hS 0 rfl rfl 8 (by decide) (hw _ m_267) (fun _ h9 => h9) rfl (by decide +kernel) rfl rfl (Nat.le_of_ble_eq_true rfl) d_Pas_overEnd_42 (fun H locs hP _ hS => ?_)
    obtain ⟨u1, e_u1, hf⟩ := tk_o hf
    have hP : va_P D cls (wCod cI q0 q1 q2 q3 q4 q5 q6 q7 q8 q9 q10 q11 u1) H := by rw [e_u1]; exact hP
    refine lv_aload_n hx hb d_Pas_overEnd_45 rfl (lv_at hl 0 rfl) ?_
    refine lv_iload_n hx hb d_Pas_overEnd_46 rfl (lv_at hl 2 rfl) ?_
    refine lv_if_ne (tgt := 65) hx hb d_Pas_overEnd_47 (by decide) (fun hc => ?_) (fun hc => ?_)
    · have hf := bq_n hf hc
      exact j65 _ _ _ l1 l2 u1 (lv_sub hl [0, 1, 2] rfl) hP hS hf
    have hf := bq_t hf hc
    refine lv_aload_n hx hb d_Pas_overEnd_50 rfl (lv_at hl 0 rfl) ?_
    refine va_get (D := D) (ci := 3) (v := .int (u1 0 0)) (C := R_Cod) (T := F_Cod) (N := 11) hx hb hw in_Cod hown hK hP 0 rfl rfl 3 (by decide) (hw _ m_174) (fun _ h9 => h9) rfl d_Pas_overEnd_51 ?_
    refine lv_aload_n hx hb d_Pas_overEnd_54 rfl (lv_at hl 0 rfl) ?_
    refine va_get (D := D) (ci := 3) (v := .int (u1 0 1)) (C := R_Cod) (T := F_Cod) (N := 11) hx hb hw in_Cod hown hK hP 0 rfl rfl 4 (by decide) (hw _ m_167) (fun _ h9 => h9) rfl d_Pas_overEnd_55 ?_
    refine lv_icmp_le (tgt := 65) hx hb d_Pas_overEnd_58 (by decide) (fun hc => ?_) (fun hc => ?_)
    · have hf := bq_t hf hc
      exact j65 _ _ _ l1 l2 u1 (lv_sub hl [0, 1, 2] rfl) hP hS hf
    have hf := bq_n hf hc
    refine lv_iconst (v := (-1)) hx hb d_Pas_overEnd_61 (by decide) ?_
    refine lv_goto (tgt := 66) hx hb d_Pas_overEnd_62 (by decide) ?_
    exact j66 _ _ _ l1 l2 (-1) u1 (lv_sub hl [0, 1, 2] rfl) hP hS hf
  have j24 : ∀ (ls : Array Slot) (H : Heap) (locs : List Loc) (l1 : Int32) (s0 : Int32) (u : gU), lv_has ls 7 [(0, .ref q0), (1, .int l1)] → va_P D cls (wCod cI q0 q1 q2 q3 q4 q5 q6 q7 q8 q9 q10 q11 u) H → va_S (ad [q0, q1, q2, q3, q4, q5, q6, q7, q8, q9, q10, q11]) s.heap H locs → J_Pas_overEnd_C_24 l1 s0 u = some v → W p l e ({ frames := 4, cells := 0, slots := 0, locals := 94 }) s m [.ref q0, .int a1].toArray below meth c H locs 0 0 (MQ below (va_Qv (fun (_ : Unit) => True) (fun _ t => va_P D cls (wCod cI q0 q1 q2 q3 q4 q5 q6 q7 q8 q9 q10 q11 v) t.heap) (ad [q0, q1, q2, q3, q4, q5, q6, q7, q8, q9, q10, q11])) [.ref q0, .int a1].toArray s 0 0 (ad [q0, q1, q2, q3, q4, q5, q6, q7, q8, q9, q10, q11])) (F0 m 24 ls [.int s0]) := by
    intro ls H locs l1 s0 u hl hP hS hf
    unfold J_Pas_overEnd_C_24 at hf
    refine lv_istore_n (lv' := [(2, .int s0), (0, .ref q0), (1, .int l1)]) hx hb d_Pas_overEnd_24 rfl hl (by decide) rfl (fun ls hl => ?_)
    refine lv_aload_n hx hb d_Pas_overEnd_25 rfl (lv_at hl 1 rfl) ?_
    refine lv_iload_n hx hb d_Pas_overEnd_26 rfl (lv_at hl 0 rfl) ?_
    refine lv_iconst (v := 1) hx hb d_Pas_overEnd_27 (by decide) ?_
    refine lv_icmp_ne (tgt := 38) hx hb d_Pas_overEnd_28 (by decide) (fun hc => ?_) (fun hc => ?_)
    · have hf := bq_n hf hc
      refine lv_aload_n hx hb d_Pas_overEnd_38 rfl (lv_at hl 1 rfl) ?_
      refine va_get (D := D) (ci := 3) (v := .int (u 0 1)) (C := R_Cod) (T := F_Cod) (N := 11) hx hb hw in_Cod hown hK hP 0 rfl rfl 4 (by decide) (hw _ m_167) (fun _ h9 => h9) rfl d_Pas_overEnd_39 ?_
      exact j42 _ _ _ l1 s0 (u 0 1) u (lv_sub hl [1, 2, 0] rfl) hP hS hf
    have hf := bq_t hf hc
    refine lv_aload_n hx hb d_Pas_overEnd_31 rfl (lv_at hl 1 rfl) ?_
    refine va_get (D := D) (ci := 3) (v := .int (u 0 0)) (C := R_Cod) (T := F_Cod) (N := 11) hx hb hw in_Cod hown hK hP 0 rfl rfl 3 (by decide) (hw _ m_174) (fun _ h9 => h9) rfl d_Pas_overEnd_32 ?_
    refine lv_goto (tgt := 42) hx hb d_Pas_overEnd_35 (by decide) ?_
    exact j42 _ _ _ l1 s0 (u 0 0) u (lv_sub hl [1, 2, 0] rfl) hP hS hf
  unfold f_Pas_overEnd_C at hf
  refine lv_aload_n hx hb d_Pas_overEnd_0 rfl (lv_at hl 0 rfl) ?_
  refine va_get (D := D) (ci := 3) (v := .ref q1) (C := R_Cod) (T := F_Cod) (N := 11) hx hb hw in_Cod hown hK hP 0 rfl rfl 0 (by decide) (hw _ m_165) (fun _ h9 => h9) rfl d_Pas_overEnd_1 ?_
  refine lv_aload_n hx hb d_Pas_overEnd_4 rfl (lv_at hl 0 rfl) ?_
  refine va_get (D := D) (ci := 3) (v := .int (u 0 0)) (C := R_Cod) (T := F_Cod) (N := 11) hx hb hw in_Cod hown hK hP 0 rfl rfl 3 (by decide) (hw _ m_174) (fun _ h9 => h9) rfl d_Pas_overEnd_5 ?_
  refine lv_aload_n hx hb d_Pas_overEnd_8 rfl (lv_at hl 0 rfl) ?_
  refine va_get (D := D) (ci := 3) (v := .int (u 0 1)) (C := R_Cod) (T := F_Cod) (N := 11) hx hb hw in_Cod hown hK hP 0 rfl rfl 4 (by decide) (hw _ m_167) (fun _ h9 => h9) rfl d_Pas_overEnd_9 ?_
  refine lv_isub hx hb d_Pas_overEnd_12 ?_
  have hC : [1].map (fun i => (wCod cI q0 q1 q2 q3 q4 q5 q6 q7 q8 q9 q10 q11 u)[i]?) = (wPic cI q1 (sb [1] u)).map some := rfl
  obtain ⟨x1, hc, hf⟩ := bd_o hf
  refine ro_i (va_runV (As := [.int ((u 0 0) - (u 0 1))]) (rest := []) ⟨hx, hb, hml, hown, hw⟩ (c_Pic_isNear l D cI q1 ((u 0 0) - (u 0 1)) (sb [1] u) x1 hc) (cwV 1 hw g_13 rfl rfl rfl (by decide +kernel) ⟨Nat.le_of_ble_eq_true rfl, Nat.le_of_ble_eq_true rfl⟩) (pre_V (P_sub hC hP) hK rfl rfl) rfl rfl hl.1 rfl (lv_room (Nat.le_of_ble_eq_true rfl)) d_Pas_overEnd_13 ⟨Nat.le_of_ble_eq_true rfl, Nat.le_of_ble_eq_true rfl⟩) hS hP (fun H locs hP hS => ?_)
  refine lv_if_eq (tgt := 23) hx hb d_Pas_overEnd_16 (by decide) (fun hc => ?_) (fun hc => ?_)
  · have hf := bq_t hf hc
    refine lv_iconst (v := 0) hx hb d_Pas_overEnd_23 (by decide) ?_
    exact j24 _ _ _ a1 0 u (lv_sub hl [0, 1] rfl) hP hS hf
  have hf := bq_n hf hc
  refine lv_iconst (v := 1) hx hb d_Pas_overEnd_19 (by decide) ?_
  refine lv_goto (tgt := 24) hx hb d_Pas_overEnd_20 (by decide) ?_
  exact j24 _ _ _ a1 1 u (lv_sub hl [0, 1] rfl) hP hS hf
def J_Pas_overAll_C_91 (k16 : Int32 → gU → Option (gU)) (k34 : Int32 → Int32 → Int32 → Int32 → gU → Option (gU)) (l1 : Int32) (l2 : Int32) (l3 : Int32) (l4 : Int32) (l5 : Int32) (u : gU) : Option (gU) := bq (l2 = 0) (bd (f_Pas_overRegular_C l5 u) fun w8 => tk (w8) fun u9 => tk (l4 + 1) fun x10 => k34 l1 l2 l3 x10 u9) (bq (l3 ≤ 0) (bd (f_Pas_overEnd_C l5 u) fun w1 => tk (w1) fun u2 => tk (l4 + 1) fun x3 => k34 l1 0 l3 x3 u2) (tk (l3 + (-1)) fun x4 => gd (ix l5 64) (tk (st2 u 8 (tc l5) (u 0 0)) fun u6 => tk (l4 + 1) fun x7 => k34 l1 l2 x4 x7 u6)))
def L_Pas_overAll_C_34 (k16 : Int32 → gU → Option (gU)) : Nat → Int32 → Int32 → Int32 → Int32 → gU → Option (gU)
  | 0, _, _, _, _, _ => none
  | n + 1, l1, l2, l3, l4, u => bq ((u 1 0) ≤ l4) (tk (l1 + 1) fun x1 => k16 x1 u) (bd (f_Pic_place l4 l1) fun x2 => bd (f_Pas_lookAround_C l4 l1 u) fun w3 => tk (w3) fun u4 => bq (l2 = 0) (bd (f_Pas_isEven_C u4) fun x5 => bq (x5 = 0) (J_Pas_overAll_C_91 k16 (L_Pas_overAll_C_34 k16 n) l1 l2 l3 l4 x2 u4) (bd (f_Cod_carryRun x2 ((u4 1 0) - l4) u4) fun w6 => tk (w6.2) fun u7 => J_Pas_overAll_C_91 k16 (L_Pas_overAll_C_34 k16 n) l1 1 w6.1 l4 x2 u7)) (J_Pas_overAll_C_91 k16 (L_Pas_overAll_C_34 k16 n) l1 l2 l3 l4 x2 u4))
theorem L_Pas_overAll_C_34_z (k16 : Int32 → gU → Option (gU)) (l1 : Int32) (l2 : Int32) (l3 : Int32) (l4 : Int32) (u : gU) : L_Pas_overAll_C_34 k16 0 l1 l2 l3 l4 u = none := rfl
theorem L_Pas_overAll_C_34_s (k16 : Int32 → gU → Option (gU)) (n : Nat) (l1 : Int32) (l2 : Int32) (l3 : Int32) (l4 : Int32) (u : gU) : L_Pas_overAll_C_34 k16 (n + 1) l1 l2 l3 l4 u = bq ((u 1 0) ≤ l4) (tk (l1 + 1) fun x1 => k16 x1 u) (bd (f_Pic_place l4 l1) fun x2 => bd (f_Pas_lookAround_C l4 l1 u) fun w3 => tk (w3) fun u4 => bq (l2 = 0) (bd (f_Pas_isEven_C u4) fun x5 => bq (x5 = 0) (J_Pas_overAll_C_91 k16 (L_Pas_overAll_C_34 k16 n) l1 l2 l3 l4 x2 u4) (bd (f_Cod_carryRun x2 ((u4 1 0) - l4) u4) fun w6 => tk (w6.2) fun u7 => J_Pas_overAll_C_91 k16 (L_Pas_overAll_C_34 k16 n) l1 1 w6.1 l4 x2 u7)) (J_Pas_overAll_C_91 k16 (L_Pas_overAll_C_34 k16 n) l1 l2 l3 l4 x2 u4)) := rfl
def L_Pas_overAll_C_16 : Nat → Int32 → gU → Option (gU)
  | 0, _, _ => none
  | n + 1, l1, u => bq ((u 1 1) ≤ l1) (some u) (L_Pas_overAll_C_34 (L_Pas_overAll_C_16 n) 20 l1 0 0 0 u)
theorem L_Pas_overAll_C_16_z (l1 : Int32) (u : gU) : L_Pas_overAll_C_16 0 l1 u = none := rfl
theorem L_Pas_overAll_C_16_s (n : Nat) (l1 : Int32) (u : gU) : L_Pas_overAll_C_16 (n + 1) l1 u = bq ((u 1 1) ≤ l1) (some u) (L_Pas_overAll_C_34 (L_Pas_overAll_C_16 n) 20 l1 0 0 0 u) := rfl
def f_Pas_overAll_C (u : gU) : Option (gU) := bd (f_Ctx_restart (u 1 5) (sb [2, 3, 4, 5, 6, 7] u)) fun w1 => tk (mg [2, 3, 4, 5, 6, 7] 0 u w1) fun u2 => L_Pas_overAll_C_16 20 0 u2
set_option maxHeartbeats 4000000 in
set_option maxRecDepth 100000 in
theorem c_Pas_overAll_C (l : Launch) (D : va_G) (cI : ClassId) (tJ : Nat) (q0 : Nat) (q1 : Nat) (q2 : Nat) (q3 : Nat) (q4 : Nat) (q5 : Nat) (q6 : Nat) (q7 : Nat) (q8 : Nat) (q9 : Nat) (q10 : Nat) (q11 : Nat) (hd : dj [q0, q1, q2, q3, q4, q5, q6, q7, q8, q9, q10, q11]) (u : gU) (v : gU) (hf : f_Pas_overAll_C u = some v) : Met l y_Pas_overAll (.code y_Pas_overAll b_Pas_overAll 6 none :: TS) ({ frames := 5, cells := 0, slots := 0, locals := 120 }) (va_Pc [.ref q0] (fun U => va_P D cls (wCod cI q0 q1 q2 q3 q4 q5 q6 q7 q8 q9 q10 q11 u) U.heap ∧ va_K D cls [(cI, .int)] U ∧ Jt tJ (ad [q0, q1, q2, q3, q4, q5, q6, q7, q8, q9, q10, q11]) U)) (va_Qv (fun (_ : Unit) => True) (fun _ t => va_P D cls (wCod cI q0 q1 q2 q3 q4 q5 q6 q7 q8 q9 q10 q11 v) t.heap) (ad [q0, q1, q2, q3, q4, q5, q6, q7, q8, q9, q10, q11])) 0 0 (ad [q0, q1, q2, q3, q4, q5, q6, q7, q8, q9, q10, q11]) := by
  refine ct_ofJ (by decide +kernel) (Nat.le_of_ble_eq_true rfl) ?_
  intro p e s m below meth c ls hx hb hml hr hlocks hown hw hP hK hJ hl
  have hS : va_S (ad [q0, q1, q2, q3, q4, q5, q6, q7, q8, q9, q10, q11]) s.heap s.heap [] := va_S.rf
  have hD : ∀ v, va_D (ad [q0, q1, q2, q3, q4, q5, q6, q7, q8, q9, q10, q11]) (wCod cI q0 q1 q2 q3 q4 q5 q6 q7 q8 q9 q10 q11 v) := fun _ => dj_D rfl hd
  have hl : lv_has ls 6 [(0, .ref q0)] := hl
  have hP : va_P D cls (wCod cI q0 q1 q2 q3 q4 q5 q6 q7 q8 q9 q10 q11 u) s.heap := hP
  have lp16 : ∀ (n16 : Nat), ∀ (ls : Array Slot) (H : Heap) (locs : List Loc) (l1 : Int32) (u : gU), lv_has ls 6 [(0, .ref q0), (1, .int l1)] → va_P D cls (wCod cI q0 q1 q2 q3 q4 q5 q6 q7 q8 q9 q10 q11 u) H → va_S (ad [q0, q1, q2, q3, q4, q5, q6, q7, q8, q9, q10, q11]) s.heap H locs → L_Pas_overAll_C_16 n16 l1 u = some v → W p l e ({ frames := 5, cells := 0, slots := 0, locals := 120 }) s m [.ref q0].toArray below meth c H locs 0 0 (MQ below (va_Qv (fun (_ : Unit) => True) (fun _ t => va_P D cls (wCod cI q0 q1 q2 q3 q4 q5 q6 q7 q8 q9 q10 q11 v) t.heap) (ad [q0, q1, q2, q3, q4, q5, q6, q7, q8, q9, q10, q11])) [.ref q0].toArray s 0 0 (ad [q0, q1, q2, q3, q4, q5, q6, q7, q8, q9, q10, q11])) (F0 m 16 ls []) := by
    intro n16
    induction n16 with
    | zero =>
      intro ls H locs l1 u hl hP hS hf
      rw [L_Pas_overAll_C_16_z] at hf
      cases hf
    | succ n16 ih16 =>
      have lp34 : ∀ (n34 : Nat), ∀ (ls : Array Slot) (H : Heap) (locs : List Loc) (l1 : Int32) (l2 : Int32) (l3 : Int32) (l4 : Int32) (u : gU), lv_has ls 6 [(0, .ref q0), (1, .int l1), (2, .int l2), (3, .int l3), (4, .int l4)] → va_P D cls (wCod cI q0 q1 q2 q3 q4 q5 q6 q7 q8 q9 q10 q11 u) H → va_S (ad [q0, q1, q2, q3, q4, q5, q6, q7, q8, q9, q10, q11]) s.heap H locs → L_Pas_overAll_C_34 (L_Pas_overAll_C_16 n16) n34 l1 l2 l3 l4 u = some v → W p l e ({ frames := 5, cells := 0, slots := 0, locals := 120 }) s m [.ref q0].toArray below meth c H locs 0 0 (MQ below (va_Qv (fun (_ : Unit) => True) (fun _ t => va_P D cls (wCod cI q0 q1 q2 q3 q4 q5 q6 q7 q8 q9 q10 q11 v) t.heap) (ad [q0, q1, q2, q3, q4, q5, q6, q7, q8, q9, q10, q11])) [.ref q0].toArray s 0 0 (ad [q0, q1, q2, q3, q4, q5, q6, q7, q8, q9, q10, q11])) (F0 m 34 ls []) := by
        intro n34
        induction n34 with
        | zero =>
          intro ls H locs l1 l2 l3 l4 u hl hP hS hf
          rw [L_Pas_overAll_C_34_z] at hf
          cases hf
        | succ n34 ih34 =>
          have j91 : ∀ (ls : Array Slot) (H : Heap) (locs : List Loc) (l1 : Int32) (l2 : Int32) (l3 : Int32) (l4 : Int32) (l5 : Int32) (u : gU), lv_has ls 6 [(0, .ref q0), (1, .int l1), (2, .int l2), (3, .int l3), (4, .int l4), (5, .int l5)] → va_P D cls (wCod cI q0 q1 q2 q3 q4 q5 q6 q7 q8 q9 q10 q11 u) H → va_S (ad [q0, q1, q2, q3, q4, q5, q6, q7, q8, q9, q10, q11]) s.heap H locs → J_Pas_overAll_C_91 (L_Pas_overAll_C_16 n16) (L_Pas_overAll_C_34 (L_Pas_overAll_C_16 n16) n34) l1 l2 l3 l4 l5 u = some v → W p l e ({ frames := 5, cells := 0, slots := 0, locals := 120 }) s m [.ref q0].toArray below meth c H locs 0 0 (MQ below (va_Qv (fun (_ : Unit) => True) (fun _ t => va_P D cls (wCod cI q0 q1 q2 q3 q4 q5 q6 q7 q8 q9 q10 q11 v) t.heap) (ad [q0, q1, q2, q3, q4, q5, q6, q7, q8, q9, q10, q11])) [.ref q0].toArray s 0 0 (ad [q0, q1, q2, q3, q4, q5, q6, q7, q8, q9, q10, q11])) (F0 m 91 ls []) := by
            intro ls H locs l1 l2 l3 l4 l5 u hl hP hS hf
            unfold J_Pas_overAll_C_91 at hf
            refine lv_iload_n hx hb d_Pas_overAll_91 rfl (lv_at hl 2 rfl) ?_
            refine lv_if_ne (tgt := 104) hx hb d_Pas_overAll_92 (by decide) (fun hc => ?_) (fun hc => ?_)
            · have hf := bq_n hf hc
              refine lv_iload_n hx hb d_Pas_overAll_104 rfl (lv_at hl 3 rfl) ?_
              refine lv_if_le (tgt := 125) hx hb d_Pas_overAll_105 (by decide) (fun hc => ?_) (fun hc => ?_)
              · have hf := bq_t hf hc
                refine lv_aload_n hx hb d_Pas_overAll_125 rfl (lv_at hl 0 rfl) ?_
                refine lv_iload hx hb d_Pas_overAll_126 (lv_at hl 5 rfl) ?_
                have hC : [0, 1, 2, 3, 4, 5, 6, 7, 8, 9, 10, 11].map (fun i => (wCod cI q0 q1 q2 q3 q4 q5 q6 q7 q8 q9 q10 q11 u)[i]?) = (wCod cI q0 q1 q2 q3 q4 q5 q6 q7 q8 q9 q10 q11 u).map some := rfl
                obtain ⟨w1, hc, hf⟩ := bd_o hf
                refine rw_v (va_runU (As := [.int l5]) (rest := []) ⟨hx, hb, hml, hown, hw⟩ (c_Pas_overEnd_C l D cI tJ q0 q1 q2 q3 q4 q5 q6 q7 q8 q9 q10 q11 (dj_sub hd [0, 1, 2, 3, 4, 5, 6, 7, 8, 9, 10, 11] (by decide) rfl) l5 u w1 hc) (va_cwU 1 hw g_41 rfl rfl rfl rfl (by decide +kernel) ⟨Nat.le_of_ble_eq_true rfl, Nat.le_of_ble_eq_true rfl⟩) (pre_VJ (P_sub hC hP) hK rfl rfl (Jt_call hJ hS (ad_sub [0, 1, 2, 3, 4, 5, 6, 7, 8, 9, 10, 11] rfl))) rfl rfl hl.1 rfl (lv_room (Nat.le_of_ble_eq_true rfl)) d_Pas_overAll_128 ⟨Nat.le_of_ble_eq_true rfl, Nat.le_of_ble_eq_true rfl⟩) hS hP (hD _) hC rfl rfl (fun H locs hP hS => ?_)
                obtain ⟨u2, e_u2, hf⟩ := tk_o hf
                have hP : va_P D cls (wCod cI q0 q1 q2 q3 q4 q5 q6 q7 q8 q9 q10 q11 u2) H := by rw [e_u2]; exact hP
                refine lv_iconst (v := 0) hx hb d_Pas_overAll_131 (by decide) ?_
                refine lv_istore_n (lv' := [(2, .int 0), (0, .ref q0), (1, .int l1), (3, .int l3), (4, .int l4), (5, .int l5)]) hx hb d_Pas_overAll_132 rfl hl (by decide) rfl (fun ls hl => ?_)
                obtain ⟨x3, e_x3, hf⟩ := tk_o hf
                refine lv_iinc (v := x3) (lv' := [(4, .int x3), (2, .int 0), (0, .ref q0), (1, .int l1), (3, .int l3), (5, .int l5)]) hx hb d_Pas_overAll_133 hl (k := 4) rfl e_x3.symm (by decide) rfl (fun ls hl => ?_)
                refine lv_goto (tgt := 34) hx hb d_Pas_overAll_136 (by decide) ?_
                exact ih34 _ _ _ l1 0 l3 x3 u2 (lv_sub hl [2, 3, 1, 4, 0] rfl) hP hS hf
              have hf := bq_n hf hc
              obtain ⟨x4, e_x4, hf⟩ := tk_o hf
              refine lv_iinc (v := x4) (lv' := [(3, .int x4), (0, .ref q0), (1, .int l1), (2, .int l2), (4, .int l4), (5, .int l5)]) hx hb d_Pas_overAll_108 hl (k := 3) rfl e_x4.symm (by decide) rfl (fun ls hl => ?_)
              refine lv_aload_n hx hb d_Pas_overAll_111 rfl (lv_at hl 1 rfl) ?_
              refine va_get (D := D) (ci := 3) (v := .ref q8) (C := R_Cod) (T := F_Cod) (N := 11) hx hb hw in_Cod hown hK hP 0 rfl rfl 2 (by decide) (hw _ m_159) (fun _ h9 => h9) rfl d_Pas_overAll_112 ?_
              refine lv_iload hx hb d_Pas_overAll_115 (lv_at hl 5 rfl) ?_
              refine lv_aload_n hx hb d_Pas_overAll_117 rfl (lv_at hl 1 rfl) ?_
              refine va_get (D := D) (ci := 3) (v := .int (u 0 0)) (C := R_Cod) (T := F_Cod) (N := 11) hx hb hw in_Cod hown hK hP 0 rfl rfl 3 (by decide) (hw _ m_174) (fun _ h9 => h9) rfl d_Pas_overAll_118 ?_
              obtain ⟨h5, hf⟩ := gd_o hf
              refine va_iast hx hb hK hP (hD _) hS 8 0 rfl rfl (ix_in h5) d_Pas_overAll_121 (fun H locs hP _ hS => ?_)
              obtain ⟨u6, e_u6, hf⟩ := tk_o hf
              have hP : va_P D cls (wCod cI q0 q1 q2 q3 q4 q5 q6 q7 q8 q9 q10 q11 u6) H := by rw [e_u6]; exact hP
              refine lv_goto (tgt := 133) hx hb d_Pas_overAll_122 (by decide) ?_
              obtain ⟨x7, e_x7, hf⟩ := tk_o hf
              refine lv_iinc (v := x7) (lv' := [(4, .int x7), (3, .int x4), (0, .ref q0), (1, .int l1), (2, .int l2), (5, .int l5)]) hx hb d_Pas_overAll_133 hl (k := 4) rfl e_x7.symm (by decide) rfl (fun ls hl => ?_)
              refine lv_goto (tgt := 34) hx hb d_Pas_overAll_136 (by decide) ?_
              exact ih34 _ _ _ l1 l2 x4 x7 u6 (lv_sub hl [2, 3, 4, 1, 0] rfl) hP hS hf
            have hf := bq_t hf hc
            refine lv_aload_n hx hb d_Pas_overAll_95 rfl (lv_at hl 0 rfl) ?_
            refine lv_iload hx hb d_Pas_overAll_96 (lv_at hl 5 rfl) ?_
            have hC : [0, 1, 2, 3, 4, 5, 6, 7, 8, 9, 10, 11].map (fun i => (wCod cI q0 q1 q2 q3 q4 q5 q6 q7 q8 q9 q10 q11 u)[i]?) = (wCod cI q0 q1 q2 q3 q4 q5 q6 q7 q8 q9 q10 q11 u).map some := rfl
            obtain ⟨w8, hc, hf⟩ := bd_o hf
            refine rw_v (va_runU (As := [.int l5]) (rest := []) ⟨hx, hb, hml, hown, hw⟩ (c_Pas_overRegular_C l D cI tJ q0 q1 q2 q3 q4 q5 q6 q7 q8 q9 q10 q11 (dj_sub hd [0, 1, 2, 3, 4, 5, 6, 7, 8, 9, 10, 11] (by decide) rfl) l5 u w8 hc) (va_cwU 1 hw g_42 rfl rfl rfl rfl (by decide +kernel) ⟨Nat.le_of_ble_eq_true rfl, Nat.le_of_ble_eq_true rfl⟩) (pre_VJ (P_sub hC hP) hK rfl rfl (Jt_call hJ hS (ad_sub [0, 1, 2, 3, 4, 5, 6, 7, 8, 9, 10, 11] rfl))) rfl rfl hl.1 rfl (lv_room (Nat.le_of_ble_eq_true rfl)) d_Pas_overAll_98 ⟨Nat.le_of_ble_eq_true rfl, Nat.le_of_ble_eq_true rfl⟩) hS hP (hD _) hC rfl rfl (fun H locs hP hS => ?_)
            obtain ⟨u9, e_u9, hf⟩ := tk_o hf
            have hP : va_P D cls (wCod cI q0 q1 q2 q3 q4 q5 q6 q7 q8 q9 q10 q11 u9) H := by rw [e_u9]; exact hP
            refine lv_goto (tgt := 133) hx hb d_Pas_overAll_101 (by decide) ?_
            obtain ⟨x10, e_x10, hf⟩ := tk_o hf
            refine lv_iinc (v := x10) (lv' := [(4, .int x10), (0, .ref q0), (1, .int l1), (2, .int l2), (3, .int l3), (5, .int l5)]) hx hb d_Pas_overAll_133 hl (k := 4) rfl e_x10.symm (by decide) rfl (fun ls hl => ?_)
            refine lv_goto (tgt := 34) hx hb d_Pas_overAll_136 (by decide) ?_
            exact ih34 _ _ _ l1 l2 l3 x10 u9 (lv_sub hl [1, 2, 3, 4, 0] rfl) hP hS hf
          intro ls H locs l1 l2 l3 l4 u hl hP hS hf
          rw [L_Pas_overAll_C_34_s] at hf
          refine lv_iload hx hb d_Pas_overAll_34 (lv_at hl 4 rfl) ?_
          refine lv_aload_n hx hb d_Pas_overAll_36 rfl (lv_at hl 0 rfl) ?_
          refine va_get (D := D) (ci := 3) (v := .ref q1) (C := R_Cod) (T := F_Cod) (N := 11) hx hb hw in_Cod hown hK hP 0 rfl rfl 0 (by decide) (hw _ m_165) (fun _ h9 => h9) rfl d_Pas_overAll_37 ?_
          refine va_get (D := D) (ci := 1) (v := .int (u 1 0)) (C := R_Pic) (T := F_Pic) (N := 11) hx hb hw in_Pic hown hK hP 1 rfl rfl 0 (by decide) (hw _ m_166) (fun _ h9 => h9) rfl d_Pas_overAll_40 ?_
          refine lv_icmp_ge (tgt := 139) hx hb d_Pas_overAll_43 (by decide) (fun hc => ?_) (fun hc => ?_)
          · have hf := bq_t hf hc
            obtain ⟨x1, e_x1, hf⟩ := tk_o hf
            refine lv_iinc (v := x1) (lv' := [(1, .int x1), (0, .ref q0), (2, .int l2), (3, .int l3), (4, .int l4)]) hx hb d_Pas_overAll_139 hl (k := 1) rfl e_x1.symm (by decide) rfl (fun ls hl => ?_)
            refine lv_goto (tgt := 16) hx hb d_Pas_overAll_142 (by decide) ?_
            exact ih16 _ _ _ x1 u (lv_sub hl [1, 0] rfl) hP hS hf
          have hf := bq_n hf hc
          refine lv_iload hx hb d_Pas_overAll_46 (lv_at hl 4 rfl) ?_
          refine lv_iload_n hx hb d_Pas_overAll_48 rfl (lv_at hl 1 rfl) ?_
          have hC : ([] : List Nat).map (fun i => (wCod cI q0 q1 q2 q3 q4 q5 q6 q7 q8 q9 q10 q11 u)[i]?) = ([] : va_W).map some := rfl
          obtain ⟨x2, hc, hf⟩ := bd_o hf
          refine ro_i (va_runS (As := [.int l4, .int l1]) (rest := []) ⟨hx, hb, hml, hown, hw⟩ (c_Pic_place l D cI l4 l1 x2 hc) (va_cwS 2 hw g_11 rfl rfl rfl (by decide +kernel) ⟨Nat.le_of_ble_eq_true rfl, Nat.le_of_ble_eq_true rfl⟩) (pre_S (P_sub hC hP) hK) rfl rfl hl.1 rfl (lv_room (Nat.le_of_ble_eq_true rfl)) d_Pas_overAll_49 ⟨Nat.le_of_ble_eq_true rfl, Nat.le_of_ble_eq_true rfl⟩) hS hP (fun H locs hP hS => ?_)
          refine lv_istore (lv' := [(5, .int x2), (0, .ref q0), (1, .int l1), (2, .int l2), (3, .int l3), (4, .int l4)]) hx hb d_Pas_overAll_52 hl (by decide) rfl (fun ls hl => ?_)
          refine lv_aload_n hx hb d_Pas_overAll_54 rfl (lv_at hl 1 rfl) ?_
          refine lv_iload hx hb d_Pas_overAll_55 (lv_at hl 5 rfl) ?_
          refine lv_iload_n hx hb d_Pas_overAll_57 rfl (lv_at hl 2 rfl) ?_
          have hC : [0, 1, 2, 3, 4, 5, 6, 7, 8, 9, 10, 11].map (fun i => (wCod cI q0 q1 q2 q3 q4 q5 q6 q7 q8 q9 q10 q11 u)[i]?) = (wCod cI q0 q1 q2 q3 q4 q5 q6 q7 q8 q9 q10 q11 u).map some := rfl
          obtain ⟨w3, hc, hf⟩ := bd_o hf
          refine rw_v (va_runU (As := [.int l4, .int l1]) (rest := []) ⟨hx, hb, hml, hown, hw⟩ (c_Pas_lookAround_C l D cI q0 q1 q2 q3 q4 q5 q6 q7 q8 q9 q10 q11 (dj_sub hd [0, 1, 2, 3, 4, 5, 6, 7, 8, 9, 10, 11] (by decide) rfl) l4 l1 u w3 hc) (va_cwU 2 hw g_43 rfl rfl rfl rfl (by decide +kernel) ⟨Nat.le_of_ble_eq_true rfl, Nat.le_of_ble_eq_true rfl⟩) (pre_V (P_sub hC hP) hK rfl rfl) rfl rfl hl.1 rfl (lv_room (Nat.le_of_ble_eq_true rfl)) d_Pas_overAll_58 ⟨Nat.le_of_ble_eq_true rfl, Nat.le_of_ble_eq_true rfl⟩) hS hP (hD _) hC rfl rfl (fun H locs hP hS => ?_)
          obtain ⟨u4, e_u4, hf⟩ := tk_o hf
          have hP : va_P D cls (wCod cI q0 q1 q2 q3 q4 q5 q6 q7 q8 q9 q10 q11 u4) H := by rw [e_u4]; exact hP
          refine lv_iload_n hx hb d_Pas_overAll_61 rfl (lv_at hl 3 rfl) ?_
          refine lv_if_ne (tgt := 91) hx hb d_Pas_overAll_62 (by decide) (fun hc => ?_) (fun hc => ?_)
          · have hf := bq_n hf hc
            exact j91 _ _ _ l1 l2 l3 l4 x2 u4 (lv_sub hl [1, 2, 3, 4, 5, 0] rfl) hP hS hf
          have hf := bq_t hf hc
          refine lv_aload_n hx hb d_Pas_overAll_65 rfl (lv_at hl 1 rfl) ?_
          have hC : [0, 1, 2, 3, 4, 5, 6, 7, 8, 9, 10, 11].map (fun i => (wCod cI q0 q1 q2 q3 q4 q5 q6 q7 q8 q9 q10 q11 u4)[i]?) = (wCod cI q0 q1 q2 q3 q4 q5 q6 q7 q8 q9 q10 q11 u4).map some := rfl
          obtain ⟨x5, hc, hf⟩ := bd_o hf
          refine ro_i (va_runU (As := []) (rest := []) ⟨hx, hb, hml, hown, hw⟩ (c_Pas_isEven_C l D cI q0 q1 q2 q3 q4 q5 q6 q7 q8 q9 q10 q11 u4 x5 hc) (va_cwU 0 hw g_44 rfl rfl rfl rfl (by decide +kernel) ⟨Nat.le_of_ble_eq_true rfl, Nat.le_of_ble_eq_true rfl⟩) (pre_V (P_sub hC hP) hK rfl rfl) rfl rfl hl.1 rfl (lv_room (Nat.le_of_ble_eq_true rfl)) d_Pas_overAll_66 ⟨Nat.le_of_ble_eq_true rfl, Nat.le_of_ble_eq_true rfl⟩) hS hP (fun H locs hP hS => ?_)
          refine lv_if_eq (tgt := 91) hx hb d_Pas_overAll_69 (by decide) (fun hc => ?_) (fun hc => ?_)
          · have hf := bq_t hf hc
            exact j91 _ _ _ l1 l2 l3 l4 x2 u4 (lv_sub hl [1, 2, 3, 4, 5, 0] rfl) hP hS hf
          have hf := bq_n hf hc
          refine lv_iconst (v := 1) hx hb d_Pas_overAll_72 (by decide) ?_
          refine lv_istore_n (lv' := [(2, .int 1), (5, .int x2), (0, .ref q0), (1, .int l1), (3, .int l3), (4, .int l4)]) hx hb d_Pas_overAll_73 rfl hl (by decide) rfl (fun ls hl => ?_)
          refine lv_aload_n hx hb d_Pas_overAll_74 rfl (lv_at hl 2 rfl) ?_
          refine lv_iload hx hb d_Pas_overAll_75 (lv_at hl 1 rfl) ?_
          refine lv_aload_n hx hb d_Pas_overAll_77 rfl (lv_at hl 2 rfl) ?_
          refine va_get (D := D) (ci := 3) (v := .ref q1) (C := R_Cod) (T := F_Cod) (N := 11) hx hb hw in_Cod hown hK hP 0 rfl rfl 0 (by decide) (hw _ m_165) (fun _ h9 => h9) rfl d_Pas_overAll_78 ?_
          refine va_get (D := D) (ci := 1) (v := .int (u4 1 0)) (C := R_Pic) (T := F_Pic) (N := 11) hx hb hw in_Pic hown hK hP 1 rfl rfl 0 (by decide) (hw _ m_166) (fun _ h9 => h9) rfl d_Pas_overAll_81 ?_
          refine lv_iload hx hb d_Pas_overAll_84 (lv_at hl 5 rfl) ?_
          refine lv_isub hx hb d_Pas_overAll_86 ?_
          have hC : [0, 1, 2, 3, 4, 5, 6, 7, 8, 9, 10, 11].map (fun i => (wCod cI q0 q1 q2 q3 q4 q5 q6 q7 q8 q9 q10 q11 u4)[i]?) = (wCod cI q0 q1 q2 q3 q4 q5 q6 q7 q8 q9 q10 q11 u4).map some := rfl
          obtain ⟨w6, hc, hf⟩ := bd_o hf
          refine rw_i (va_runU (As := [.int x2, .int ((u4 1 0) - l4)]) (rest := []) ⟨hx, hb, hml, hown, hw⟩ (c_Cod_carryRun l D cI tJ q0 q1 q2 q3 q4 q5 q6 q7 q8 q9 q10 q11 (dj_sub hd [0, 1, 2, 3, 4, 5, 6, 7, 8, 9, 10, 11] (by decide) rfl) x2 ((u4 1 0) - l4) u4 w6.1 w6.2 hc) (va_cwA 2 hw g_45 rfl rfl rfl hJ.2.2.1 (by decide +kernel) ⟨Nat.le_of_ble_eq_true rfl, Nat.le_of_ble_eq_true rfl⟩) (pre_VJ (P_sub hC hP) hK rfl rfl (Jt_call hJ hS (ad_sub [0, 1, 2, 3, 4, 5, 6, 7, 8, 9, 10, 11] rfl))) rfl rfl hl.1 rfl (lv_room (Nat.le_of_ble_eq_true rfl)) d_Pas_overAll_87 ⟨Nat.le_of_ble_eq_true rfl, Nat.le_of_ble_eq_true rfl⟩) hS hP (hD _) hC rfl rfl (fun H locs hP hS => ?_)
          obtain ⟨u7, e_u7, hf⟩ := tk_o hf
          have hP : va_P D cls (wCod cI q0 q1 q2 q3 q4 q5 q6 q7 q8 q9 q10 q11 u7) H := by rw [e_u7]; exact hP
          refine lv_istore_n (lv' := [(3, .int w6.1), (2, .int 1), (5, .int x2), (0, .ref q0), (1, .int l1), (4, .int l4)]) hx hb d_Pas_overAll_90 rfl hl (by decide) rfl (fun ls hl => ?_)
          exact j91 _ _ _ l1 1 w6.1 l4 x2 u7 (lv_sub hl [3, 4, 1, 0, 5, 2] rfl) hP hS hf
      intro ls H locs l1 u hl hP hS hf
      rw [L_Pas_overAll_C_16_s] at hf
      refine lv_iload_n hx hb d_Pas_overAll_16 rfl (lv_at hl 1 rfl) ?_
      refine lv_aload_n hx hb d_Pas_overAll_17 rfl (lv_at hl 0 rfl) ?_
      refine va_get (D := D) (ci := 3) (v := .ref q1) (C := R_Cod) (T := F_Cod) (N := 11) hx hb hw in_Cod hown hK hP 0 rfl rfl 0 (by decide) (hw _ m_165) (fun _ h9 => h9) rfl d_Pas_overAll_18 ?_
      refine va_get (D := D) (ci := 1) (v := .int (u 1 1)) (C := R_Pic) (T := F_Pic) (N := 11) hx hb hw in_Pic hown hK hP 1 rfl rfl 1 (by decide) (hw _ m_329) (fun _ h9 => h9) rfl d_Pas_overAll_21 ?_
      refine lv_icmp_ge (tgt := 145) hx hb d_Pas_overAll_24 (by decide) (fun hc => ?_) (fun hc => ?_)
      · have hf := bq_t hf hc
        exact rt_v (wCod cI q0 q1 q2 q3 q4 q5 q6 q7 q8 q9 q10 q11) hx hb hr hlocks hS hP hf d_Pas_overAll_145
      have hf := bq_n hf hc
      refine lv_iconst (v := 0) hx hb d_Pas_overAll_27 (by decide) ?_
      refine lv_istore_n (lv' := [(2, .int 0), (0, .ref q0), (1, .int l1)]) hx hb d_Pas_overAll_28 rfl hl (by decide) rfl (fun ls hl => ?_)
      refine lv_iconst (v := 0) hx hb d_Pas_overAll_29 (by decide) ?_
      refine lv_istore_n (lv' := [(3, .int 0), (2, .int 0), (0, .ref q0), (1, .int l1)]) hx hb d_Pas_overAll_30 rfl hl (by decide) rfl (fun ls hl => ?_)
      refine lv_iconst (v := 0) hx hb d_Pas_overAll_31 (by decide) ?_
      refine lv_istore (lv' := [(4, .int 0), (3, .int 0), (2, .int 0), (0, .ref q0), (1, .int l1)]) hx hb d_Pas_overAll_32 hl (by decide) rfl (fun ls hl => ?_)
      exact lp34 20 _ _ _ l1 0 0 0 u (lv_sub hl [3, 4, 2, 1, 0] rfl) hP hS hf
  unfold f_Pas_overAll_C at hf
  refine lv_aload_n hx hb d_Pas_overAll_0 rfl (lv_at hl 0 rfl) ?_
  refine va_get (D := D) (ci := 3) (v := .ref q2) (C := R_Cod) (T := F_Cod) (N := 11) hx hb hw in_Cod hown hK hP 0 rfl rfl 1 (by decide) (hw _ m_186) (fun _ h9 => h9) rfl d_Pas_overAll_1 ?_
  refine lv_aload_n hx hb d_Pas_overAll_4 rfl (lv_at hl 0 rfl) ?_
  refine va_get (D := D) (ci := 3) (v := .ref q1) (C := R_Cod) (T := F_Cod) (N := 11) hx hb hw in_Cod hown hK hP 0 rfl rfl 0 (by decide) (hw _ m_165) (fun _ h9 => h9) rfl d_Pas_overAll_5 ?_
  refine va_get (D := D) (ci := 1) (v := .int (u 1 5)) (C := R_Pic) (T := F_Pic) (N := 11) hx hb hw in_Pic hown hK hP 1 rfl rfl 5 (by decide) (hw _ m_330) (fun _ h9 => h9) rfl d_Pas_overAll_8 ?_
  have hC : [2, 3, 4, 5, 6, 7].map (fun i => (wCod cI q0 q1 q2 q3 q4 q5 q6 q7 q8 q9 q10 q11 u)[i]?) = (wCtx cI q2 q3 q4 q5 q6 q7 (sb [2, 3, 4, 5, 6, 7] u)).map some := rfl
  obtain ⟨w1, hc, hf⟩ := bd_o hf
  refine rw_v (va_runV (As := [.int (u 1 5)]) (rest := []) ⟨hx, hb, hml, hown, hw⟩ (c_Ctx_restart l D cI q2 q3 q4 q5 q6 q7 (dj_sub hd [2, 3, 4, 5, 6, 7] (by decide) rfl) (u 1 5) (sb [2, 3, 4, 5, 6, 7] u) w1 hc) (cwV 1 hw g_46 rfl rfl rfl (by decide +kernel) ⟨Nat.le_of_ble_eq_true rfl, Nat.le_of_ble_eq_true rfl⟩) (pre_V (P_sub hC hP) hK rfl rfl) rfl rfl hl.1 rfl (lv_room (Nat.le_of_ble_eq_true rfl)) d_Pas_overAll_11 ⟨Nat.le_of_ble_eq_true rfl, Nat.le_of_ble_eq_true rfl⟩) hS hP (hD _) hC rfl rfl (fun H locs hP hS => ?_)
  obtain ⟨u2, e_u2, hf⟩ := tk_o hf
  have hP : va_P D cls (wCod cI q0 q1 q2 q3 q4 q5 q6 q7 q8 q9 q10 q11 u2) H := by rw [e_u2]; exact hP
  refine lv_iconst (v := 0) hx hb d_Pas_overAll_14 (by decide) ?_
  refine lv_istore_n (lv' := [(1, .int 0), (0, .ref q0)]) hx hb d_Pas_overAll_15 rfl hl (by decide) rfl (fun ls hl => ?_)
  exact lp16 20 _ _ _ 0 u2 (lv_sub hl [1, 0] rfl) hP hS hf
def f_Cod_sampleIn (a0 : Int64) (a2 : Int32) : Option (Int32) := tk (((a0.toUInt64 >>> ((56 - (8 * a2)).toInt64.toUInt64 &&& Int64.toUInt64 63)).toInt64).toInt32) fun x1 => some (x1 &&& 255)
set_option maxHeartbeats 4000000 in
set_option maxRecDepth 100000 in
theorem c_Cod_sampleIn (l : Launch) (D : va_G) (cI : ClassId) (a0 : Int64) (a2 : Int32) (r : Int32) (hf : f_Cod_sampleIn a0 a2 = some r) : Met l y_Cod_sampleIn (.code y_Cod_sampleIn b_Cod_sampleIn 3 (some .int) :: TS) ({ frames := 0, cells := 0, slots := 0, locals := 0 }) (va_Pc [.long a0, .int a2] (fun U => va_P D cls (([] : va_W)) U.heap ∧ va_K D cls [(cI, .int)] U)) (va_Qi (fun x (_ : Unit) => x = r) (fun _ _ => True) (fun _ => False)) 0 0 (fun _ => False) := by
  refine ct_of (by decide +kernel) (Nat.le_of_ble_eq_true rfl) ?_
  intro p e s m below meth c ls hx hb hml hr hlocks hown hw hP hK hl
  have hS : va_S (fun _ => False) s.heap s.heap [] := va_S.rf
  have hl : lv_has ls 3 [(0, .long a0), (2, .int a2)] := hl
  have hP : va_P D cls (([] : va_W)) s.heap := hP
  unfold f_Cod_sampleIn at hf
  refine lv_lload_n hx hb d_Cod_sampleIn_0 rfl (lv_at hl 0 rfl) ?_
  refine lv_bipush (v := 56) hx hb d_Cod_sampleIn_1 (by decide) ?_
  refine lv_bipush (v := 8) hx hb d_Cod_sampleIn_3 (by decide) ?_
  refine lv_iload_n hx hb d_Cod_sampleIn_5 rfl (lv_at hl 1 rfl) ?_
  refine lv_imul hx hb d_Cod_sampleIn_6 ?_
  refine lv_isub hx hb d_Cod_sampleIn_7 ?_
  refine lv_lushr hx hb d_Cod_sampleIn_8 rfl ?_
  refine lv_l2i hx hb d_Cod_sampleIn_9 rfl ?_
  refine lv_topi (fun x1 e_x1 => ?_)
  have hf := tk_e hf e_x1
  refine lv_sipush (v := 255) hx hb d_Cod_sampleIn_10 (by decide) ?_
  refine lv_iand hx hb d_Cod_sampleIn_13 ?_
  exact rt_roi hx hb hr hlocks hS hf d_Cod_sampleIn_14
def L_Cod_takeRow_42 : Nat → Int32 → Int64 → Int32 → gU → Option (Int32 × gU)
  | 0, _, _, _, _ => none
  | n + 1, l1, l2, l4, u => bq ((u 1 0) ≤ l4) (some (1, u)) (bd (f_Pic_place l4 l1) fun x1 => bd (f_Cod_sampleIn l2 l4) fun x2 => gd (ix x1 64) (tk (st2 u 9 (tc x1) x2) fun u4 => tk (l4 + 1) fun x5 => (L_Cod_takeRow_42 n) l1 l2 x5 u4))
theorem L_Cod_takeRow_42_z (l1 : Int32) (l2 : Int64) (l4 : Int32) (u : gU) : L_Cod_takeRow_42 0 l1 l2 l4 u = none := rfl
theorem L_Cod_takeRow_42_s (n : Nat) (l1 : Int32) (l2 : Int64) (l4 : Int32) (u : gU) : L_Cod_takeRow_42 (n + 1) l1 l2 l4 u = bq ((u 1 0) ≤ l4) (some (1, u)) (bd (f_Pic_place l4 l1) fun x1 => bd (f_Cod_sampleIn l2 l4) fun x2 => gd (ix x1 64) (tk (st2 u 9 (tc x1) x2) fun u4 => tk (l4 + 1) fun x5 => (L_Cod_takeRow_42 n) l1 l2 x5 u4)) := rfl
def L_Cod_takeRow_3 : Nat → Int32 → Int64 → Int32 → gU → Option (Int32 × gU)
  | 0, _, _, _, _ => none
  | n + 1, l1, l2, l4, u => bq ((u 1 0) ≤ l4) (L_Cod_takeRow_42 20 l1 l2 0 u) (bd (f_Cod_sampleIn l2 l4) fun x1 => bq (x1 ≤ (u 1 2)) (tk (l4 + 1) fun x2 => (L_Cod_takeRow_3 n) l1 l2 x2 u) (some (0, u)))
theorem L_Cod_takeRow_3_z (l1 : Int32) (l2 : Int64) (l4 : Int32) (u : gU) : L_Cod_takeRow_3 0 l1 l2 l4 u = none := rfl
theorem L_Cod_takeRow_3_s (n : Nat) (l1 : Int32) (l2 : Int64) (l4 : Int32) (u : gU) : L_Cod_takeRow_3 (n + 1) l1 l2 l4 u = bq ((u 1 0) ≤ l4) (L_Cod_takeRow_42 20 l1 l2 0 u) (bd (f_Cod_sampleIn l2 l4) fun x1 => bq (x1 ≤ (u 1 2)) (tk (l4 + 1) fun x2 => (L_Cod_takeRow_3 n) l1 l2 x2 u) (some (0, u))) := rfl
def f_Cod_takeRow (a1 : Int32) (a2 : Int64) (u : gU) : Option (Int32 × gU) := L_Cod_takeRow_3 20 a1 a2 0 u
set_option maxHeartbeats 4000000 in
set_option maxRecDepth 100000 in
theorem c_Cod_takeRow (l : Launch) (D : va_G) (cI : ClassId) (q0 : Nat) (q1 : Nat) (q2 : Nat) (q3 : Nat) (q4 : Nat) (q5 : Nat) (q6 : Nat) (q7 : Nat) (q8 : Nat) (q9 : Nat) (q10 : Nat) (q11 : Nat) (hd : dj [q0, q1, q2, q3, q4, q5, q6, q7, q8, q9, q10, q11]) (a1 : Int32) (a2 : Int64) (u : gU) (r : Int32) (v : gU) (hf : f_Cod_takeRow a1 a2 u = some (r, v)) : Met l y_Cod_takeRow (.code y_Cod_takeRow b_Cod_takeRow 5 (some .boolean) :: TS) ({ frames := 1, cells := 0, slots := 0, locals := 22 }) (va_Pc [.ref q0, .int a1, .long a2] (fun U => va_P D cls (wCod cI q0 q1 q2 q3 q4 q5 q6 q7 q8 q9 q10 q11 u) U.heap ∧ va_K D cls [(cI, .int)] U)) (va_Qi (fun x (_ : Unit) => x = r) (fun _ t => va_P D cls (wCod cI q0 q1 q2 q3 q4 q5 q6 q7 q8 q9 q10 q11 v) t.heap) (ad [q0, q1, q2, q3, q4, q5, q6, q7, q8, q9, q10, q11])) 0 0 (ad [q0, q1, q2, q3, q4, q5, q6, q7, q8, q9, q10, q11]) := by
  refine ct_of (by decide +kernel) (Nat.le_of_ble_eq_true rfl) ?_
  intro p e s m below meth c ls hx hb hml hr hlocks hown hw hP hK hl
  have hS : va_S (ad [q0, q1, q2, q3, q4, q5, q6, q7, q8, q9, q10, q11]) s.heap s.heap [] := va_S.rf
  have hD : ∀ v, va_D (ad [q0, q1, q2, q3, q4, q5, q6, q7, q8, q9, q10, q11]) (wCod cI q0 q1 q2 q3 q4 q5 q6 q7 q8 q9 q10 q11 v) := fun _ => dj_D rfl hd
  have hl : lv_has ls 5 [(0, .ref q0), (1, .int a1), (2, .long a2)] := hl
  have hP : va_P D cls (wCod cI q0 q1 q2 q3 q4 q5 q6 q7 q8 q9 q10 q11 u) s.heap := hP
  have lp42 : ∀ (n42 : Nat), ∀ (ls : Array Slot) (H : Heap) (locs : List Loc) (l1 : Int32) (l2 : Int64) (l4 : Int32) (u : gU), lv_has ls 5 [(0, .ref q0), (1, .int l1), (2, .long l2), (4, .int l4)] → va_P D cls (wCod cI q0 q1 q2 q3 q4 q5 q6 q7 q8 q9 q10 q11 u) H → va_S (ad [q0, q1, q2, q3, q4, q5, q6, q7, q8, q9, q10, q11]) s.heap H locs → L_Cod_takeRow_42 n42 l1 l2 l4 u = some (r, v) → W p l e ({ frames := 1, cells := 0, slots := 0, locals := 22 }) s m [.ref q0, .int a1, .long a2].toArray below meth c H locs 0 0 (MQ below (va_Qi (fun x (_ : Unit) => x = r) (fun _ t => va_P D cls (wCod cI q0 q1 q2 q3 q4 q5 q6 q7 q8 q9 q10 q11 v) t.heap) (ad [q0, q1, q2, q3, q4, q5, q6, q7, q8, q9, q10, q11])) [.ref q0, .int a1, .long a2].toArray s 0 0 (ad [q0, q1, q2, q3, q4, q5, q6, q7, q8, q9, q10, q11])) (F0 m 42 ls []) := by
    intro n42
    induction n42 with
    | zero =>
      intro ls H locs l1 l2 l4 u hl hP hS hf
      rw [L_Cod_takeRow_42_z] at hf
      cases hf
    | succ n42 ih42 =>
      intro ls H locs l1 l2 l4 u hl hP hS hf
      rw [L_Cod_takeRow_42_s] at hf
      refine lv_iload hx hb d_Cod_takeRow_42 (lv_at hl 3 rfl) ?_
      refine lv_aload_n hx hb d_Cod_takeRow_44 rfl (lv_at hl 0 rfl) ?_
      refine va_get (D := D) (ci := 3) (v := .ref q1) (C := R_Cod) (T := F_Cod) (N := 11) hx hb hw in_Cod hown hK hP 0 rfl rfl 0 (by decide) (hw _ m_191) (fun x9 h9 => u_same (hw _ m_192) x9 h9) rfl d_Cod_takeRow_45 ?_
      refine va_get (D := D) (ci := 1) (v := .int (u 1 0)) (C := R_Pic) (T := F_Pic) (N := 11) hx hb hw in_Pic hown hK hP 1 rfl rfl 0 (by decide) (hw _ m_335) (fun _ h9 => h9) rfl d_Cod_takeRow_48 ?_
      refine lv_icmp_ge (tgt := 77) hx hb d_Cod_takeRow_51 (by decide) (fun hc => ?_) (fun hc => ?_)
      · have hf := bq_t hf hc
        refine lv_iconst (v := 1) hx hb d_Cod_takeRow_77 (by decide) ?_
        exact rt_z (wCod cI q0 q1 q2 q3 q4 q5 q6 q7 q8 q9 q10 q11) hx hb hr hlocks (Or.inr rfl) hS hP hf d_Cod_takeRow_78
      have hf := bq_n hf hc
      refine lv_aload_n hx hb d_Cod_takeRow_54 rfl (lv_at hl 0 rfl) ?_
      refine va_get (D := D) (ci := 3) (v := .ref q9) (C := R_Cod) (T := F_Cod) (N := 11) hx hb hw in_Cod hown hK hP 0 rfl rfl 9 (by decide) (hw _ m_195) (fun _ h9 => h9) rfl d_Cod_takeRow_55 ?_
      refine lv_iload hx hb d_Cod_takeRow_58 (lv_at hl 3 rfl) ?_
      refine lv_iload_n hx hb d_Cod_takeRow_60 rfl (lv_at hl 1 rfl) ?_
      have hC : ([] : List Nat).map (fun i => (wCod cI q0 q1 q2 q3 q4 q5 q6 q7 q8 q9 q10 q11 u)[i]?) = ([] : va_W).map some := rfl
      obtain ⟨x1, hc, hf⟩ := bd_o hf
      refine ro_i (va_runS (As := [.int l4, .int l1]) (rest := [.ref q9]) ⟨hx, hb, hml, hown, hw⟩ (c_Pic_place l D cI l4 l1 x1 hc) (va_cwS 2 hw g_47 rfl rfl rfl (by decide +kernel) ⟨Nat.le_of_ble_eq_true rfl, Nat.le_of_ble_eq_true rfl⟩) (pre_S (P_sub hC hP) hK) rfl rfl hl.1 rfl (lv_room (Nat.le_of_ble_eq_true rfl)) d_Cod_takeRow_61 ⟨Nat.le_of_ble_eq_true rfl, Nat.le_of_ble_eq_true rfl⟩) hS hP (fun H locs hP hS => ?_)
      refine lv_lload_n hx hb d_Cod_takeRow_64 rfl (lv_at hl 2 rfl) ?_
      refine lv_iload hx hb d_Cod_takeRow_65 (lv_at hl 3 rfl) ?_
      have hC : ([] : List Nat).map (fun i => (wCod cI q0 q1 q2 q3 q4 q5 q6 q7 q8 q9 q10 q11 u)[i]?) = ([] : va_W).map some := rfl
      obtain ⟨x2, hc, hf⟩ := bd_o hf
      refine ro_i (va_runS (As := [.long l2, .int l4]) (rest := [.int x1, .ref q9]) ⟨hx, hb, hml, hown, hw⟩ (c_Cod_sampleIn l D cI l2 l4 x2 hc) (va_cwS 2 hw g_48 rfl rfl rfl (by decide +kernel) ⟨Nat.le_of_ble_eq_true rfl, Nat.le_of_ble_eq_true rfl⟩) (pre_S (P_sub hC hP) hK) rfl rfl hl.1 rfl (lv_room (Nat.le_of_ble_eq_true rfl)) d_Cod_takeRow_67 ⟨Nat.le_of_ble_eq_true rfl, Nat.le_of_ble_eq_true rfl⟩) hS hP (fun H locs hP hS => ?_)
      obtain ⟨h3, hf⟩ := gd_o hf
      refine va_iast hx hb hK hP (hD _) hS 9 0 rfl rfl (ix_in h3) d_Cod_takeRow_70 (fun H locs hP _ hS => ?_)
      obtain ⟨u4, e_u4, hf⟩ := tk_o hf
      have hP : va_P D cls (wCod cI q0 q1 q2 q3 q4 q5 q6 q7 q8 q9 q10 q11 u4) H := by rw [e_u4]; exact hP
      obtain ⟨x5, e_x5, hf⟩ := tk_o hf
      refine lv_iinc (v := x5) (lv' := [(4, .int x5), (0, .ref q0), (1, .int l1), (2, .long l2)]) hx hb d_Cod_takeRow_71 hl (k := 3) rfl e_x5.symm (by decide) rfl (fun ls hl => ?_)
      refine lv_goto (tgt := 42) hx hb d_Cod_takeRow_74 (by decide) ?_
      exact ih42 _ _ _ l1 l2 x5 u4 (lv_sub hl [1, 2, 3, 0] rfl) hP hS hf
  have lp3 : ∀ (n3 : Nat), ∀ (ls : Array Slot) (H : Heap) (locs : List Loc) (l1 : Int32) (l2 : Int64) (l4 : Int32) (u : gU), lv_has ls 5 [(0, .ref q0), (1, .int l1), (2, .long l2), (4, .int l4)] → va_P D cls (wCod cI q0 q1 q2 q3 q4 q5 q6 q7 q8 q9 q10 q11 u) H → va_S (ad [q0, q1, q2, q3, q4, q5, q6, q7, q8, q9, q10, q11]) s.heap H locs → L_Cod_takeRow_3 n3 l1 l2 l4 u = some (r, v) → W p l e ({ frames := 1, cells := 0, slots := 0, locals := 22 }) s m [.ref q0, .int a1, .long a2].toArray below meth c H locs 0 0 (MQ below (va_Qi (fun x (_ : Unit) => x = r) (fun _ t => va_P D cls (wCod cI q0 q1 q2 q3 q4 q5 q6 q7 q8 q9 q10 q11 v) t.heap) (ad [q0, q1, q2, q3, q4, q5, q6, q7, q8, q9, q10, q11])) [.ref q0, .int a1, .long a2].toArray s 0 0 (ad [q0, q1, q2, q3, q4, q5, q6, q7, q8, q9, q10, q11])) (F0 m 3 ls []) := by
    intro n3
    induction n3 with
    | zero =>
      intro ls H locs l1 l2 l4 u hl hP hS hf
      rw [L_Cod_takeRow_3_z] at hf
      cases hf
    | succ n3 ih3 =>
      intro ls H locs l1 l2 l4 u hl hP hS hf
      rw [L_Cod_takeRow_3_s] at hf
      refine lv_iload hx hb d_Cod_takeRow_3 (lv_at hl 3 rfl) ?_
      refine lv_aload_n hx hb d_Cod_takeRow_5 rfl (lv_at hl 0 rfl) ?_
      refine va_get (D := D) (ci := 3) (v := .ref q1) (C := R_Cod) (T := F_Cod) (N := 11) hx hb hw in_Cod hown hK hP 0 rfl rfl 0 (by decide) (hw _ m_191) (fun x9 h9 => u_same (hw _ m_192) x9 h9) rfl d_Cod_takeRow_6 ?_
      refine va_get (D := D) (ci := 1) (v := .int (u 1 0)) (C := R_Pic) (T := F_Pic) (N := 11) hx hb hw in_Pic hown hK hP 1 rfl rfl 0 (by decide) (hw _ m_335) (fun _ h9 => h9) rfl d_Cod_takeRow_9 ?_
      refine lv_icmp_ge (tgt := 39) hx hb d_Cod_takeRow_12 (by decide) (fun hc => ?_) (fun hc => ?_)
      · have hf := bq_t hf hc
        refine lv_iconst (v := 0) hx hb d_Cod_takeRow_39 (by decide) ?_
        refine lv_istore (lv' := [(4, .int 0), (0, .ref q0), (1, .int l1), (2, .long l2)]) hx hb d_Cod_takeRow_40 hl (by decide) rfl (fun ls hl => ?_)
        exact lp42 20 _ _ _ l1 l2 0 u (lv_sub hl [1, 2, 3, 0] rfl) hP hS hf
      have hf := bq_n hf hc
      refine lv_lload_n hx hb d_Cod_takeRow_15 rfl (lv_at hl 2 rfl) ?_
      refine lv_iload hx hb d_Cod_takeRow_16 (lv_at hl 3 rfl) ?_
      have hC : ([] : List Nat).map (fun i => (wCod cI q0 q1 q2 q3 q4 q5 q6 q7 q8 q9 q10 q11 u)[i]?) = ([] : va_W).map some := rfl
      obtain ⟨x1, hc, hf⟩ := bd_o hf
      refine ro_i (va_runS (As := [.long l2, .int l4]) (rest := []) ⟨hx, hb, hml, hown, hw⟩ (c_Cod_sampleIn l D cI l2 l4 x1 hc) (va_cwS 2 hw g_48 rfl rfl rfl (by decide +kernel) ⟨Nat.le_of_ble_eq_true rfl, Nat.le_of_ble_eq_true rfl⟩) (pre_S (P_sub hC hP) hK) rfl rfl hl.1 rfl (lv_room (Nat.le_of_ble_eq_true rfl)) d_Cod_takeRow_18 ⟨Nat.le_of_ble_eq_true rfl, Nat.le_of_ble_eq_true rfl⟩) hS hP (fun H locs hP hS => ?_)
      refine lv_aload_n hx hb d_Cod_takeRow_21 rfl (lv_at hl 0 rfl) ?_
      refine va_get (D := D) (ci := 3) (v := .ref q1) (C := R_Cod) (T := F_Cod) (N := 11) hx hb hw in_Cod hown hK hP 0 rfl rfl 0 (by decide) (hw _ m_191) (fun x9 h9 => u_same (hw _ m_192) x9 h9) rfl d_Cod_takeRow_22 ?_
      refine va_get (D := D) (ci := 1) (v := .int (u 1 2)) (C := R_Pic) (T := F_Pic) (N := 11) hx hb hw in_Pic hown hK hP 1 rfl rfl 2 (by decide) (hw _ m_340) (fun _ h9 => h9) rfl d_Cod_takeRow_25 ?_
      refine lv_icmp_le (tgt := 33) hx hb d_Cod_takeRow_28 (by decide) (fun hc => ?_) (fun hc => ?_)
      · have hf := bq_t hf hc
        obtain ⟨x2, e_x2, hf⟩ := tk_o hf
        refine lv_iinc (v := x2) (lv' := [(4, .int x2), (0, .ref q0), (1, .int l1), (2, .long l2)]) hx hb d_Cod_takeRow_33 hl (k := 3) rfl e_x2.symm (by decide) rfl (fun ls hl => ?_)
        refine lv_goto (tgt := 3) hx hb d_Cod_takeRow_36 (by decide) ?_
        exact ih3 _ _ _ l1 l2 x2 u (lv_sub hl [1, 2, 3, 0] rfl) hP hS hf
      have hf := bq_n hf hc
      refine lv_iconst (v := 0) hx hb d_Cod_takeRow_31 (by decide) ?_
      exact rt_z (wCod cI q0 q1 q2 q3 q4 q5 q6 q7 q8 q9 q10 q11) hx hb hr hlocks (Or.inl rfl) hS hP hf d_Cod_takeRow_32
  unfold f_Cod_takeRow at hf
  refine lv_iconst (v := 0) hx hb d_Cod_takeRow_0 (by decide) ?_
  refine lv_istore (lv' := [(4, .int 0), (0, .ref q0), (1, .int a1), (2, .long a2)]) hx hb d_Cod_takeRow_1 hl (by decide) rfl (fun ls hl => ?_)
  exact lp3 20 _ _ _ a1 a2 0 u (lv_sub hl [1, 2, 3, 0] rfl) hP hS hf
def f_Cod_writeHead (u : gU) : Option (gU) := bd (f_Wri_restart (sb [10, 11] u)) fun w1 => tk (mg [10, 11] 0 u w1) fun u2 => bd (f_Wri_writeByte 255 (sb [10, 11] u2)) fun w3 => tk (mg [10, 11] 0 u2 w3) fun u4 => bd (f_Wri_writeByte 216 (sb [10, 11] u4)) fun w5 => tk (mg [10, 11] 0 u4 w5) fun u6 => bd (f_Wri_writeByte (u6 1 0) (sb [10, 11] u6)) fun w7 => tk (mg [10, 11] 0 u6 w7) fun u8 => bd (f_Wri_writeByte (u8 1 1) (sb [10, 11] u8)) fun w9 => tk (mg [10, 11] 0 u8 w9) fun u10 => bd (f_Wri_writeByte (u10 1 2) (sb [10, 11] u10)) fun w11 => tk (mg [10, 11] 0 u10 w11) fun u12 => bd (f_Wri_writeByte (u12 1 3) (sb [10, 11] u12)) fun w13 => tk (mg [10, 11] 0 u12 w13) fun u14 => some u14
set_option maxHeartbeats 4000000 in
set_option maxRecDepth 100000 in
theorem c_Cod_writeHead (l : Launch) (D : va_G) (cI : ClassId) (q0 : Nat) (q1 : Nat) (q2 : Nat) (q3 : Nat) (q4 : Nat) (q5 : Nat) (q6 : Nat) (q7 : Nat) (q8 : Nat) (q9 : Nat) (q10 : Nat) (q11 : Nat) (hd : dj [q0, q1, q2, q3, q4, q5, q6, q7, q8, q9, q10, q11]) (u : gU) (v : gU) (hf : f_Cod_writeHead u = some v) : Met l y_Cod_writeHead (.code y_Cod_writeHead b_Cod_writeHead 1 none :: TS) ({ frames := 1, cells := 0, slots := 0, locals := 21 }) (va_Pc [.ref q0] (fun U => va_P D cls (wCod cI q0 q1 q2 q3 q4 q5 q6 q7 q8 q9 q10 q11 u) U.heap ∧ va_K D cls [(cI, .int)] U)) (va_Qv (fun (_ : Unit) => True) (fun _ t => va_P D cls (wCod cI q0 q1 q2 q3 q4 q5 q6 q7 q8 q9 q10 q11 v) t.heap) (ad [q0, q1, q2, q3, q4, q5, q6, q7, q8, q9, q10, q11])) 0 0 (ad [q0, q1, q2, q3, q4, q5, q6, q7, q8, q9, q10, q11]) := by
  refine ct_of (by decide +kernel) (Nat.le_of_ble_eq_true rfl) ?_
  intro p e s m below meth c ls hx hb hml hr hlocks hown hw hP hK hl
  have hS : va_S (ad [q0, q1, q2, q3, q4, q5, q6, q7, q8, q9, q10, q11]) s.heap s.heap [] := va_S.rf
  have hD : ∀ v, va_D (ad [q0, q1, q2, q3, q4, q5, q6, q7, q8, q9, q10, q11]) (wCod cI q0 q1 q2 q3 q4 q5 q6 q7 q8 q9 q10 q11 v) := fun _ => dj_D rfl hd
  have hl : lv_has ls 1 [(0, .ref q0)] := hl
  have hP : va_P D cls (wCod cI q0 q1 q2 q3 q4 q5 q6 q7 q8 q9 q10 q11 u) s.heap := hP
  unfold f_Cod_writeHead at hf
  refine lv_aload_n hx hb d_Cod_writeHead_0 rfl (lv_at hl 0 rfl) ?_
  refine va_get (D := D) (ci := 3) (v := .ref q10) (C := R_Cod) (T := F_Cod) (N := 11) hx hb hw in_Cod hown hK hP 0 rfl rfl 10 (by decide) (hw _ m_216) (fun _ h9 => h9) rfl d_Cod_writeHead_1 ?_
  have hC : [10, 11].map (fun i => (wCod cI q0 q1 q2 q3 q4 q5 q6 q7 q8 q9 q10 q11 u)[i]?) = (wWri cI q10 q11 (sb [10, 11] u)).map some := rfl
  obtain ⟨w1, hc, hf⟩ := bd_o hf
  refine rw_v (va_runV (As := []) (rest := []) ⟨hx, hb, hml, hown, hw⟩ (c_Wri_restart l D cI q10 q11 (dj_sub hd [10, 11] (by decide) rfl) (sb [10, 11] u) w1 hc) (cwV 0 hw g_49 rfl rfl rfl (by decide +kernel) ⟨Nat.le_of_ble_eq_true rfl, Nat.le_of_ble_eq_true rfl⟩) (pre_V (P_sub hC hP) hK rfl rfl) rfl rfl hl.1 rfl (lv_room (Nat.le_of_ble_eq_true rfl)) d_Cod_writeHead_4 ⟨Nat.le_of_ble_eq_true rfl, Nat.le_of_ble_eq_true rfl⟩) hS hP (hD _) hC rfl rfl (fun H locs hP hS => ?_)
  obtain ⟨u2, e_u2, hf⟩ := tk_o hf
  have hP : va_P D cls (wCod cI q0 q1 q2 q3 q4 q5 q6 q7 q8 q9 q10 q11 u2) H := by rw [e_u2]; exact hP
  refine lv_aload_n hx hb d_Cod_writeHead_7 rfl (lv_at hl 0 rfl) ?_
  refine va_get (D := D) (ci := 3) (v := .ref q10) (C := R_Cod) (T := F_Cod) (N := 11) hx hb hw in_Cod hown hK hP 0 rfl rfl 10 (by decide) (hw _ m_216) (fun _ h9 => h9) rfl d_Cod_writeHead_8 ?_
  refine lv_sipush (v := 255) hx hb d_Cod_writeHead_11 (by decide) ?_
  have hC : [10, 11].map (fun i => (wCod cI q0 q1 q2 q3 q4 q5 q6 q7 q8 q9 q10 q11 u2)[i]?) = (wWri cI q10 q11 (sb [10, 11] u2)).map some := rfl
  obtain ⟨w3, hc, hf⟩ := bd_o hf
  refine rw_v (va_runV (As := [.int 255]) (rest := []) ⟨hx, hb, hml, hown, hw⟩ (c_Wri_writeByte l D cI q10 q11 (dj_sub hd [10, 11] (by decide) rfl) 255 (sb [10, 11] u2) w3 hc) (cwV 1 hw g_50 rfl rfl rfl (by decide +kernel) ⟨Nat.le_of_ble_eq_true rfl, Nat.le_of_ble_eq_true rfl⟩) (pre_V (P_sub hC hP) hK rfl rfl) rfl rfl hl.1 rfl (lv_room (Nat.le_of_ble_eq_true rfl)) d_Cod_writeHead_14 ⟨Nat.le_of_ble_eq_true rfl, Nat.le_of_ble_eq_true rfl⟩) hS hP (hD _) hC rfl rfl (fun H locs hP hS => ?_)
  obtain ⟨u4, e_u4, hf⟩ := tk_o hf
  have hP : va_P D cls (wCod cI q0 q1 q2 q3 q4 q5 q6 q7 q8 q9 q10 q11 u4) H := by rw [e_u4]; exact hP
  refine lv_aload_n hx hb d_Cod_writeHead_17 rfl (lv_at hl 0 rfl) ?_
  refine va_get (D := D) (ci := 3) (v := .ref q10) (C := R_Cod) (T := F_Cod) (N := 11) hx hb hw in_Cod hown hK hP 0 rfl rfl 10 (by decide) (hw _ m_216) (fun _ h9 => h9) rfl d_Cod_writeHead_18 ?_
  refine lv_sipush (v := 216) hx hb d_Cod_writeHead_21 (by decide) ?_
  have hC : [10, 11].map (fun i => (wCod cI q0 q1 q2 q3 q4 q5 q6 q7 q8 q9 q10 q11 u4)[i]?) = (wWri cI q10 q11 (sb [10, 11] u4)).map some := rfl
  obtain ⟨w5, hc, hf⟩ := bd_o hf
  refine rw_v (va_runV (As := [.int 216]) (rest := []) ⟨hx, hb, hml, hown, hw⟩ (c_Wri_writeByte l D cI q10 q11 (dj_sub hd [10, 11] (by decide) rfl) 216 (sb [10, 11] u4) w5 hc) (cwV 1 hw g_50 rfl rfl rfl (by decide +kernel) ⟨Nat.le_of_ble_eq_true rfl, Nat.le_of_ble_eq_true rfl⟩) (pre_V (P_sub hC hP) hK rfl rfl) rfl rfl hl.1 rfl (lv_room (Nat.le_of_ble_eq_true rfl)) d_Cod_writeHead_24 ⟨Nat.le_of_ble_eq_true rfl, Nat.le_of_ble_eq_true rfl⟩) hS hP (hD _) hC rfl rfl (fun H locs hP hS => ?_)
  obtain ⟨u6, e_u6, hf⟩ := tk_o hf
  have hP : va_P D cls (wCod cI q0 q1 q2 q3 q4 q5 q6 q7 q8 q9 q10 q11 u6) H := by rw [e_u6]; exact hP
  refine lv_aload_n hx hb d_Cod_writeHead_27 rfl (lv_at hl 0 rfl) ?_
  refine va_get (D := D) (ci := 3) (v := .ref q10) (C := R_Cod) (T := F_Cod) (N := 11) hx hb hw in_Cod hown hK hP 0 rfl rfl 10 (by decide) (hw _ m_216) (fun _ h9 => h9) rfl d_Cod_writeHead_28 ?_
  refine lv_aload_n hx hb d_Cod_writeHead_31 rfl (lv_at hl 0 rfl) ?_
  refine va_get (D := D) (ci := 3) (v := .ref q1) (C := R_Cod) (T := F_Cod) (N := 11) hx hb hw in_Cod hown hK hP 0 rfl rfl 0 (by decide) (hw _ m_191) (fun x9 h9 => u_same (hw _ m_192) x9 h9) rfl d_Cod_writeHead_32 ?_
  refine va_get (D := D) (ci := 1) (v := .int (u6 1 0)) (C := R_Pic) (T := F_Pic) (N := 11) hx hb hw in_Pic hown hK hP 1 rfl rfl 0 (by decide) (hw _ m_335) (fun _ h9 => h9) rfl d_Cod_writeHead_35 ?_
  have hC : [10, 11].map (fun i => (wCod cI q0 q1 q2 q3 q4 q5 q6 q7 q8 q9 q10 q11 u6)[i]?) = (wWri cI q10 q11 (sb [10, 11] u6)).map some := rfl
  obtain ⟨w7, hc, hf⟩ := bd_o hf
  refine rw_v (va_runV (As := [.int (u6 1 0)]) (rest := []) ⟨hx, hb, hml, hown, hw⟩ (c_Wri_writeByte l D cI q10 q11 (dj_sub hd [10, 11] (by decide) rfl) (u6 1 0) (sb [10, 11] u6) w7 hc) (cwV 1 hw g_50 rfl rfl rfl (by decide +kernel) ⟨Nat.le_of_ble_eq_true rfl, Nat.le_of_ble_eq_true rfl⟩) (pre_V (P_sub hC hP) hK rfl rfl) rfl rfl hl.1 rfl (lv_room (Nat.le_of_ble_eq_true rfl)) d_Cod_writeHead_38 ⟨Nat.le_of_ble_eq_true rfl, Nat.le_of_ble_eq_true rfl⟩) hS hP (hD _) hC rfl rfl (fun H locs hP hS => ?_)
  obtain ⟨u8, e_u8, hf⟩ := tk_o hf
  have hP : va_P D cls (wCod cI q0 q1 q2 q3 q4 q5 q6 q7 q8 q9 q10 q11 u8) H := by rw [e_u8]; exact hP
  refine lv_aload_n hx hb d_Cod_writeHead_41 rfl (lv_at hl 0 rfl) ?_
  refine va_get (D := D) (ci := 3) (v := .ref q10) (C := R_Cod) (T := F_Cod) (N := 11) hx hb hw in_Cod hown hK hP 0 rfl rfl 10 (by decide) (hw _ m_216) (fun _ h9 => h9) rfl d_Cod_writeHead_42 ?_
  refine lv_aload_n hx hb d_Cod_writeHead_45 rfl (lv_at hl 0 rfl) ?_
  refine va_get (D := D) (ci := 3) (v := .ref q1) (C := R_Cod) (T := F_Cod) (N := 11) hx hb hw in_Cod hown hK hP 0 rfl rfl 0 (by decide) (hw _ m_191) (fun x9 h9 => u_same (hw _ m_192) x9 h9) rfl d_Cod_writeHead_46 ?_
  refine va_get (D := D) (ci := 1) (v := .int (u8 1 1)) (C := R_Pic) (T := F_Pic) (N := 11) hx hb hw in_Pic hown hK hP 1 rfl rfl 1 (by decide) (hw _ m_346) (fun _ h9 => h9) rfl d_Cod_writeHead_49 ?_
  have hC : [10, 11].map (fun i => (wCod cI q0 q1 q2 q3 q4 q5 q6 q7 q8 q9 q10 q11 u8)[i]?) = (wWri cI q10 q11 (sb [10, 11] u8)).map some := rfl
  obtain ⟨w9, hc, hf⟩ := bd_o hf
  refine rw_v (va_runV (As := [.int (u8 1 1)]) (rest := []) ⟨hx, hb, hml, hown, hw⟩ (c_Wri_writeByte l D cI q10 q11 (dj_sub hd [10, 11] (by decide) rfl) (u8 1 1) (sb [10, 11] u8) w9 hc) (cwV 1 hw g_50 rfl rfl rfl (by decide +kernel) ⟨Nat.le_of_ble_eq_true rfl, Nat.le_of_ble_eq_true rfl⟩) (pre_V (P_sub hC hP) hK rfl rfl) rfl rfl hl.1 rfl (lv_room (Nat.le_of_ble_eq_true rfl)) d_Cod_writeHead_52 ⟨Nat.le_of_ble_eq_true rfl, Nat.le_of_ble_eq_true rfl⟩) hS hP (hD _) hC rfl rfl (fun H locs hP hS => ?_)
  obtain ⟨u10, e_u10, hf⟩ := tk_o hf
  have hP : va_P D cls (wCod cI q0 q1 q2 q3 q4 q5 q6 q7 q8 q9 q10 q11 u10) H := by rw [e_u10]; exact hP
  refine lv_aload_n hx hb d_Cod_writeHead_55 rfl (lv_at hl 0 rfl) ?_
  refine va_get (D := D) (ci := 3) (v := .ref q10) (C := R_Cod) (T := F_Cod) (N := 11) hx hb hw in_Cod hown hK hP 0 rfl rfl 10 (by decide) (hw _ m_216) (fun _ h9 => h9) rfl d_Cod_writeHead_56 ?_
  refine lv_aload_n hx hb d_Cod_writeHead_59 rfl (lv_at hl 0 rfl) ?_
  refine va_get (D := D) (ci := 3) (v := .ref q1) (C := R_Cod) (T := F_Cod) (N := 11) hx hb hw in_Cod hown hK hP 0 rfl rfl 0 (by decide) (hw _ m_191) (fun x9 h9 => u_same (hw _ m_192) x9 h9) rfl d_Cod_writeHead_60 ?_
  refine va_get (D := D) (ci := 1) (v := .int (u10 1 2)) (C := R_Pic) (T := F_Pic) (N := 11) hx hb hw in_Pic hown hK hP 1 rfl rfl 2 (by decide) (hw _ m_340) (fun _ h9 => h9) rfl d_Cod_writeHead_63 ?_
  have hC : [10, 11].map (fun i => (wCod cI q0 q1 q2 q3 q4 q5 q6 q7 q8 q9 q10 q11 u10)[i]?) = (wWri cI q10 q11 (sb [10, 11] u10)).map some := rfl
  obtain ⟨w11, hc, hf⟩ := bd_o hf
  refine rw_v (va_runV (As := [.int (u10 1 2)]) (rest := []) ⟨hx, hb, hml, hown, hw⟩ (c_Wri_writeByte l D cI q10 q11 (dj_sub hd [10, 11] (by decide) rfl) (u10 1 2) (sb [10, 11] u10) w11 hc) (cwV 1 hw g_50 rfl rfl rfl (by decide +kernel) ⟨Nat.le_of_ble_eq_true rfl, Nat.le_of_ble_eq_true rfl⟩) (pre_V (P_sub hC hP) hK rfl rfl) rfl rfl hl.1 rfl (lv_room (Nat.le_of_ble_eq_true rfl)) d_Cod_writeHead_66 ⟨Nat.le_of_ble_eq_true rfl, Nat.le_of_ble_eq_true rfl⟩) hS hP (hD _) hC rfl rfl (fun H locs hP hS => ?_)
  obtain ⟨u12, e_u12, hf⟩ := tk_o hf
  have hP : va_P D cls (wCod cI q0 q1 q2 q3 q4 q5 q6 q7 q8 q9 q10 q11 u12) H := by rw [e_u12]; exact hP
  refine lv_aload_n hx hb d_Cod_writeHead_69 rfl (lv_at hl 0 rfl) ?_
  refine va_get (D := D) (ci := 3) (v := .ref q10) (C := R_Cod) (T := F_Cod) (N := 11) hx hb hw in_Cod hown hK hP 0 rfl rfl 10 (by decide) (hw _ m_216) (fun _ h9 => h9) rfl d_Cod_writeHead_70 ?_
  refine lv_aload_n hx hb d_Cod_writeHead_73 rfl (lv_at hl 0 rfl) ?_
  refine va_get (D := D) (ci := 3) (v := .ref q1) (C := R_Cod) (T := F_Cod) (N := 11) hx hb hw in_Cod hown hK hP 0 rfl rfl 0 (by decide) (hw _ m_191) (fun x9 h9 => u_same (hw _ m_192) x9 h9) rfl d_Cod_writeHead_74 ?_
  refine va_get (D := D) (ci := 1) (v := .int (u12 1 3)) (C := R_Pic) (T := F_Pic) (N := 11) hx hb hw in_Pic hown hK hP 1 rfl rfl 3 (by decide) (hw _ m_347) (fun _ h9 => h9) rfl d_Cod_writeHead_77 ?_
  have hC : [10, 11].map (fun i => (wCod cI q0 q1 q2 q3 q4 q5 q6 q7 q8 q9 q10 q11 u12)[i]?) = (wWri cI q10 q11 (sb [10, 11] u12)).map some := rfl
  obtain ⟨w13, hc, hf⟩ := bd_o hf
  refine rw_v (va_runV (As := [.int (u12 1 3)]) (rest := []) ⟨hx, hb, hml, hown, hw⟩ (c_Wri_writeByte l D cI q10 q11 (dj_sub hd [10, 11] (by decide) rfl) (u12 1 3) (sb [10, 11] u12) w13 hc) (cwV 1 hw g_50 rfl rfl rfl (by decide +kernel) ⟨Nat.le_of_ble_eq_true rfl, Nat.le_of_ble_eq_true rfl⟩) (pre_V (P_sub hC hP) hK rfl rfl) rfl rfl hl.1 rfl (lv_room (Nat.le_of_ble_eq_true rfl)) d_Cod_writeHead_80 ⟨Nat.le_of_ble_eq_true rfl, Nat.le_of_ble_eq_true rfl⟩) hS hP (hD _) hC rfl rfl (fun H locs hP hS => ?_)
  obtain ⟨u14, e_u14, hf⟩ := tk_o hf
  have hP : va_P D cls (wCod cI q0 q1 q2 q3 q4 q5 q6 q7 q8 q9 q10 q11 u14) H := by rw [e_u14]; exact hP
  exact rt_v (wCod cI q0 q1 q2 q3 q4 q5 q6 q7 q8 q9 q10 q11) hx hb hr hlocks hS hP hf d_Cod_writeHead_83
def f_Cod_beginPicture (a1 : Int32) (a2 : Int32) (a3 : Int32) (a4 : Int32) (u : gU) : Option (gU) := bd (f_Pic_become a1 a2 a3 a4 (sb [1] u)) fun w1 => tk (mg [1] 0 u w1) fun u2 => bd (f_Ctx_restart (u2 1 5) (sb [2, 3, 4, 5, 6, 7] u2)) fun w3 => tk (mg [2, 3, 4, 5, 6, 7] 0 u2 w3) fun u4 => bd (f_Arrs_fill_102 64 0 (sb [9] u4)) fun w5 => tk (mg [9] 0 u4 w5) fun u6 => bd (f_Arrs_fill_102 64 0 (sb [8] u6)) fun w7 => tk (mg [8] 0 u6 w7) fun u8 => tk (st2 u8 10 0 0) fun u9 => some u9
set_option maxHeartbeats 4000000 in
set_option maxRecDepth 100000 in
theorem c_Cod_beginPicture (l : Launch) (D : va_G) (cI : ClassId) (q0 : Nat) (q1 : Nat) (q2 : Nat) (q3 : Nat) (q4 : Nat) (q5 : Nat) (q6 : Nat) (q7 : Nat) (q8 : Nat) (q9 : Nat) (q10 : Nat) (q11 : Nat) (hd : dj [q0, q1, q2, q3, q4, q5, q6, q7, q8, q9, q10, q11]) (a1 : Int32) (a2 : Int32) (a3 : Int32) (a4 : Int32) (u : gU) (v : gU) (hf : f_Cod_beginPicture a1 a2 a3 a4 u = some v) : Met l y_Cod_beginPicture (.code y_Cod_beginPicture b_Cod_beginPicture 5 none :: TS) ({ frames := 3, cells := 0, slots := 0, locals := 70 }) (va_Pc [.ref q0, .int a1, .int a2, .int a3, .int a4] (fun U => va_P D cls (wCod cI q0 q1 q2 q3 q4 q5 q6 q7 q8 q9 q10 q11 u) U.heap ∧ va_K D cls [(cI, .int)] U)) (va_Qv (fun (_ : Unit) => True) (fun _ t => va_P D cls (wCod cI q0 q1 q2 q3 q4 q5 q6 q7 q8 q9 q10 q11 v) t.heap) (ad [q0, q1, q2, q3, q4, q5, q6, q7, q8, q9, q10, q11])) 0 0 (ad [q0, q1, q2, q3, q4, q5, q6, q7, q8, q9, q10, q11]) := by
  refine ct_of (by decide +kernel) (Nat.le_of_ble_eq_true rfl) ?_
  intro p e s m below meth c ls hx hb hml hr hlocks hown hw hP hK hl
  have hS : va_S (ad [q0, q1, q2, q3, q4, q5, q6, q7, q8, q9, q10, q11]) s.heap s.heap [] := va_S.rf
  have hD : ∀ v, va_D (ad [q0, q1, q2, q3, q4, q5, q6, q7, q8, q9, q10, q11]) (wCod cI q0 q1 q2 q3 q4 q5 q6 q7 q8 q9 q10 q11 v) := fun _ => dj_D rfl hd
  have hl : lv_has ls 5 [(0, .ref q0), (1, .int a1), (2, .int a2), (3, .int a3), (4, .int a4)] := hl
  have hP : va_P D cls (wCod cI q0 q1 q2 q3 q4 q5 q6 q7 q8 q9 q10 q11 u) s.heap := hP
  unfold f_Cod_beginPicture at hf
  refine lv_aload_n hx hb d_Cod_beginPicture_0 rfl (lv_at hl 0 rfl) ?_
  refine va_get (D := D) (ci := 3) (v := .ref q1) (C := R_Cod) (T := F_Cod) (N := 11) hx hb hw in_Cod hown hK hP 0 rfl rfl 0 (by decide) (hw _ m_191) (fun x9 h9 => u_same (hw _ m_192) x9 h9) rfl d_Cod_beginPicture_1 ?_
  refine lv_iload_n hx hb d_Cod_beginPicture_4 rfl (lv_at hl 1 rfl) ?_
  refine lv_iload_n hx hb d_Cod_beginPicture_5 rfl (lv_at hl 2 rfl) ?_
  refine lv_iload_n hx hb d_Cod_beginPicture_6 rfl (lv_at hl 3 rfl) ?_
  refine lv_iload hx hb d_Cod_beginPicture_7 (lv_at hl 4 rfl) ?_
  have hC : [1].map (fun i => (wCod cI q0 q1 q2 q3 q4 q5 q6 q7 q8 q9 q10 q11 u)[i]?) = (wPic cI q1 (sb [1] u)).map some := rfl
  obtain ⟨w1, hc, hf⟩ := bd_o hf
  refine rw_v (va_runV (As := [.int a1, .int a2, .int a3, .int a4]) (rest := []) ⟨hx, hb, hml, hown, hw⟩ (c_Pic_become l D cI q1 (dj_sub hd [1] (by decide) rfl) a1 a2 a3 a4 (sb [1] u) w1 hc) (cwV 4 hw g_51 rfl rfl rfl (by decide +kernel) ⟨Nat.le_of_ble_eq_true rfl, Nat.le_of_ble_eq_true rfl⟩) (pre_V (P_sub hC hP) hK rfl rfl) rfl rfl hl.1 rfl (lv_room (Nat.le_of_ble_eq_true rfl)) d_Cod_beginPicture_9 ⟨Nat.le_of_ble_eq_true rfl, Nat.le_of_ble_eq_true rfl⟩) hS hP (hD _) hC rfl rfl (fun H locs hP hS => ?_)
  obtain ⟨u2, e_u2, hf⟩ := tk_o hf
  have hP : va_P D cls (wCod cI q0 q1 q2 q3 q4 q5 q6 q7 q8 q9 q10 q11 u2) H := by rw [e_u2]; exact hP
  refine lv_aload_n hx hb d_Cod_beginPicture_12 rfl (lv_at hl 0 rfl) ?_
  refine va_get (D := D) (ci := 3) (v := .ref q2) (C := R_Cod) (T := F_Cod) (N := 11) hx hb hw in_Cod hown hK hP 0 rfl rfl 1 (by decide) (hw _ m_213) (fun x9 h9 => u_same (hw _ m_214) x9 h9) rfl d_Cod_beginPicture_13 ?_
  refine lv_aload_n hx hb d_Cod_beginPicture_16 rfl (lv_at hl 0 rfl) ?_
  refine va_get (D := D) (ci := 3) (v := .ref q1) (C := R_Cod) (T := F_Cod) (N := 11) hx hb hw in_Cod hown hK hP 0 rfl rfl 0 (by decide) (hw _ m_191) (fun x9 h9 => u_same (hw _ m_192) x9 h9) rfl d_Cod_beginPicture_17 ?_
  refine va_get (D := D) (ci := 1) (v := .int (u2 1 5)) (C := R_Pic) (T := F_Pic) (N := 11) hx hb hw in_Pic hown hK hP 1 rfl rfl 5 (by decide) (hw _ m_352) (fun _ h9 => h9) rfl d_Cod_beginPicture_20 ?_
  have hC : [2, 3, 4, 5, 6, 7].map (fun i => (wCod cI q0 q1 q2 q3 q4 q5 q6 q7 q8 q9 q10 q11 u2)[i]?) = (wCtx cI q2 q3 q4 q5 q6 q7 (sb [2, 3, 4, 5, 6, 7] u2)).map some := rfl
  obtain ⟨w3, hc, hf⟩ := bd_o hf
  refine rw_v (va_runV (As := [.int (u2 1 5)]) (rest := []) ⟨hx, hb, hml, hown, hw⟩ (c_Ctx_restart l D cI q2 q3 q4 q5 q6 q7 (dj_sub hd [2, 3, 4, 5, 6, 7] (by decide) rfl) (u2 1 5) (sb [2, 3, 4, 5, 6, 7] u2) w3 hc) (cwV 1 hw g_52 rfl rfl rfl (by decide +kernel) ⟨Nat.le_of_ble_eq_true rfl, Nat.le_of_ble_eq_true rfl⟩) (pre_V (P_sub hC hP) hK rfl rfl) rfl rfl hl.1 rfl (lv_room (Nat.le_of_ble_eq_true rfl)) d_Cod_beginPicture_23 ⟨Nat.le_of_ble_eq_true rfl, Nat.le_of_ble_eq_true rfl⟩) hS hP (hD _) hC rfl rfl (fun H locs hP hS => ?_)
  obtain ⟨u4, e_u4, hf⟩ := tk_o hf
  have hP : va_P D cls (wCod cI q0 q1 q2 q3 q4 q5 q6 q7 q8 q9 q10 q11 u4) H := by rw [e_u4]; exact hP
  refine lv_aload_n hx hb d_Cod_beginPicture_26 rfl (lv_at hl 0 rfl) ?_
  refine va_get (D := D) (ci := 3) (v := .ref q9) (C := R_Cod) (T := F_Cod) (N := 11) hx hb hw in_Cod hown hK hP 0 rfl rfl 9 (by decide) (hw _ m_195) (fun _ h9 => h9) rfl d_Cod_beginPicture_27 ?_
  refine lv_iconst (v := 0) hx hb d_Cod_beginPicture_30 (by decide) ?_
  have hC : [9].map (fun i => (wCod cI q0 q1 q2 q3 q4 q5 q6 q7 q8 q9 q10 q11 u4)[i]?) = (wArrN cI 64 q9 (sb [9] u4)).map some := rfl
  obtain ⟨w5, hc, hf⟩ := bd_o hf
  refine rw_v (va_runS (As := [.ref q9, .int 0]) (rest := []) ⟨hx, hb, hml, hown, hw⟩ (c_Arrs_fill_102 l D cI 64 q9 (dj_sub hd [9] (by decide) rfl) 0 (sb [9] u4) w5 hc) (va_cwS 2 hw g_53 rfl rfl rfl (by decide +kernel) ⟨Nat.le_of_ble_eq_true rfl, Nat.le_of_ble_eq_true rfl⟩) (pre_S (P_sub hC hP) hK) rfl rfl hl.1 rfl (lv_room (Nat.le_of_ble_eq_true rfl)) d_Cod_beginPicture_31 ⟨Nat.le_of_ble_eq_true rfl, Nat.le_of_ble_eq_true rfl⟩) hS hP (hD _) hC rfl rfl (fun H locs hP hS => ?_)
  obtain ⟨u6, e_u6, hf⟩ := tk_o hf
  have hP : va_P D cls (wCod cI q0 q1 q2 q3 q4 q5 q6 q7 q8 q9 q10 q11 u6) H := by rw [e_u6]; exact hP
  refine lv_aload_n hx hb d_Cod_beginPicture_34 rfl (lv_at hl 0 rfl) ?_
  refine va_get (D := D) (ci := 3) (v := .ref q8) (C := R_Cod) (T := F_Cod) (N := 11) hx hb hw in_Cod hown hK hP 0 rfl rfl 2 (by decide) (hw _ m_202) (fun x9 h9 => u_same (hw _ m_203) x9 h9) rfl d_Cod_beginPicture_35 ?_
  refine lv_iconst (v := 0) hx hb d_Cod_beginPicture_38 (by decide) ?_
  have hC : [8].map (fun i => (wCod cI q0 q1 q2 q3 q4 q5 q6 q7 q8 q9 q10 q11 u6)[i]?) = (wArrN cI 64 q8 (sb [8] u6)).map some := rfl
  obtain ⟨w7, hc, hf⟩ := bd_o hf
  refine rw_v (va_runS (As := [.ref q8, .int 0]) (rest := []) ⟨hx, hb, hml, hown, hw⟩ (c_Arrs_fill_102 l D cI 64 q8 (dj_sub hd [8] (by decide) rfl) 0 (sb [8] u6) w7 hc) (va_cwS 2 hw g_53 rfl rfl rfl (by decide +kernel) ⟨Nat.le_of_ble_eq_true rfl, Nat.le_of_ble_eq_true rfl⟩) (pre_S (P_sub hC hP) hK) rfl rfl hl.1 rfl (lv_room (Nat.le_of_ble_eq_true rfl)) d_Cod_beginPicture_39 ⟨Nat.le_of_ble_eq_true rfl, Nat.le_of_ble_eq_true rfl⟩) hS hP (hD _) hC rfl rfl (fun H locs hP hS => ?_)
  obtain ⟨u8, e_u8, hf⟩ := tk_o hf
  have hP : va_P D cls (wCod cI q0 q1 q2 q3 q4 q5 q6 q7 q8 q9 q10 q11 u8) H := by rw [e_u8]; exact hP
  refine lv_aload_n hx hb d_Cod_beginPicture_42 rfl (lv_at hl 0 rfl) ?_
  refine va_get (D := D) (ci := 3) (v := .ref q10) (C := R_Cod) (T := F_Cod) (N := 11) hx hb hw in_Cod hown hK hP 0 rfl rfl 10 (by decide) (hw _ m_216) (fun _ h9 => h9) rfl d_Cod_beginPicture_43 ?_
  refine lv_iconst (v := 0) hx hb d_Cod_beginPicture_46 (by decide) ?_
  refine va_put (D := D) (ci := 5) (v := .int 0) (ty := .int) (C := R_Wri) (T := F_Wri) (N := 3) hx hb hw in_Wri t_Wri t_Wri_ok n_Wri hown hK hP (hD _) hS 10 rfl rfl 1 (by decide) (hw _ m_355) (fun _ h9 => h9) rfl (by decide +kernel) rfl rfl (Nat.le_of_ble_eq_true rfl) d_Cod_beginPicture_47 (fun H locs hP _ hS => ?_)
  obtain ⟨u9, e_u9, hf⟩ := tk_o hf
  have hP : va_P D cls (wCod cI q0 q1 q2 q3 q4 q5 q6 q7 q8 q9 q10 q11 u9) H := by rw [e_u9]; exact hP
  exact rt_v (wCod cI q0 q1 q2 q3 q4 q5 q6 q7 q8 q9 q10 q11) hx hb hr hlocks hS hP hf d_Cod_beginPicture_50
def f_Cod_takeOver (u : gU) : Option (gU) := bd (f_Pic_become (u 13 0) (u 13 1) (u 13 2) (u 13 3) (sb [1] u)) fun w1 => tk (mg [1] 0 u w1) fun u2 => bd (f_Ctx_takeOver (sb [2, 3, 4, 5, 6, 7, 14, 15, 16, 17, 18, 19] u2)) fun w3 => tk (mg [2, 3, 4, 5, 6, 7, 14, 15, 16, 17, 18, 19] 0 u2 w3) fun u4 => tk (st1 u4 8 (va_cpy (u4 20) (u4 8) 0 0 (tc 64))) fun u5 => tk (st1 u5 9 (va_cpy (u5 20) (u5 9) 0 0 (tc 64))) fun u6 => some u6
set_option maxHeartbeats 4000000 in
set_option maxRecDepth 100000 in
theorem c_Cod_takeOver (l : Launch) (D : va_G) (cI : ClassId) (q0 : Nat) (q1 : Nat) (q2 : Nat) (q3 : Nat) (q4 : Nat) (q5 : Nat) (q6 : Nat) (q7 : Nat) (q8 : Nat) (q9 : Nat) (q10 : Nat) (q11 : Nat) (q12 : Nat) (q13 : Nat) (q14 : Nat) (q15 : Nat) (q16 : Nat) (q17 : Nat) (q18 : Nat) (q19 : Nat) (q20 : Nat) (q21 : Nat) (q22 : Nat) (hd : dj [q0, q1, q2, q3, q4, q5, q6, q7, q8, q9, q10, q11, q12, q13, q14, q15, q16, q17, q18, q19, q20, q21, q22]) (u : gU) (v : gU) (hf : f_Cod_takeOver u = some v) : Met l y_Cod_takeOver (.code y_Cod_takeOver b_Cod_takeOver 3 none :: TS) ({ frames := 3, cells := 0, slots := 0, locals := 70 }) (va_Pc [.ref q0, .ref q12] (fun U => va_P D cls (wCodRdg cI q0 q1 q2 q3 q4 q5 q6 q7 q8 q9 q10 q11 q12 q13 q14 q15 q16 q17 q18 q19 q20 q21 q22 u) U.heap ∧ va_K D cls [(cI, .int)] U)) (va_Qv (fun (_ : Unit) => True) (fun _ t => va_P D cls (wCodRdg cI q0 q1 q2 q3 q4 q5 q6 q7 q8 q9 q10 q11 q12 q13 q14 q15 q16 q17 q18 q19 q20 q21 q22 v) t.heap) (ad [q0, q1, q2, q3, q4, q5, q6, q7, q8, q9, q10, q11, q12, q13, q14, q15, q16, q17, q18, q19, q20, q21, q22])) 0 0 (ad [q0, q1, q2, q3, q4, q5, q6, q7, q8, q9, q10, q11, q12, q13, q14, q15, q16, q17, q18, q19, q20, q21, q22]) := by
  refine ct_of (by decide +kernel) (Nat.le_of_ble_eq_true rfl) ?_
  intro p e s m below meth c ls hx hb hml hr hlocks hown hw hP hK hl
  have hS : va_S (ad [q0, q1, q2, q3, q4, q5, q6, q7, q8, q9, q10, q11, q12, q13, q14, q15, q16, q17, q18, q19, q20, q21, q22]) s.heap s.heap [] := va_S.rf
  have hD : ∀ v, va_D (ad [q0, q1, q2, q3, q4, q5, q6, q7, q8, q9, q10, q11, q12, q13, q14, q15, q16, q17, q18, q19, q20, q21, q22]) (wCodRdg cI q0 q1 q2 q3 q4 q5 q6 q7 q8 q9 q10 q11 q12 q13 q14 q15 q16 q17 q18 q19 q20 q21 q22 v) := fun _ => dj_D rfl hd
  have hl : lv_has ls 3 [(0, .ref q0), (1, .ref q12)] := hl
  have hP : va_P D cls (wCodRdg cI q0 q1 q2 q3 q4 q5 q6 q7 q8 q9 q10 q11 q12 q13 q14 q15 q16 q17 q18 q19 q20 q21 q22 u) s.heap := hP
  unfold f_Cod_takeOver at hf
  refine lv_aload_n hx hb d_Cod_takeOver_0 rfl (lv_at hl 1 rfl) ?_
  refine va_get (D := D) (ci := 4) (v := .ref q13) (C := R_Rdg) (T := F_Rdg) (N := 10) hx hb hw in_Rdg hown hK hP 12 rfl rfl 0 (by decide) (hw _ m_356) (fun x9 h9 => u_same (hw _ m_357) x9 h9) rfl d_Cod_takeOver_1 ?_
  refine lv_astore_n (lv' := [(2, .ref q13), (0, .ref q0), (1, .ref q12)]) hx hb d_Cod_takeOver_4 rfl hl (by decide) rfl (fun ls hl => ?_)
  refine lv_aload_n hx hb d_Cod_takeOver_5 rfl (lv_at hl 1 rfl) ?_
  refine va_get (D := D) (ci := 3) (v := .ref q1) (C := R_Cod) (T := F_Cod) (N := 11) hx hb hw in_Cod hown hK hP 0 rfl rfl 0 (by decide) (hw _ m_191) (fun x9 h9 => u_same (hw _ m_192) x9 h9) rfl d_Cod_takeOver_6 ?_
  refine lv_aload_n hx hb d_Cod_takeOver_9 rfl (lv_at hl 0 rfl) ?_
  refine va_get (D := D) (ci := 1) (v := .int (u 13 0)) (C := R_Pic) (T := F_Pic) (N := 11) hx hb hw in_Pic hown hK hP 13 rfl rfl 0 (by decide) (hw _ m_335) (fun _ h9 => h9) rfl d_Cod_takeOver_10 ?_
  refine lv_aload_n hx hb d_Cod_takeOver_13 rfl (lv_at hl 0 rfl) ?_
  refine va_get (D := D) (ci := 1) (v := .int (u 13 1)) (C := R_Pic) (T := F_Pic) (N := 11) hx hb hw in_Pic hown hK hP 13 rfl rfl 1 (by decide) (hw _ m_346) (fun _ h9 => h9) rfl d_Cod_takeOver_14 ?_
  refine lv_aload_n hx hb d_Cod_takeOver_17 rfl (lv_at hl 0 rfl) ?_
  refine va_get (D := D) (ci := 1) (v := .int (u 13 2)) (C := R_Pic) (T := F_Pic) (N := 11) hx hb hw in_Pic hown hK hP 13 rfl rfl 2 (by decide) (hw _ m_340) (fun _ h9 => h9) rfl d_Cod_takeOver_18 ?_
  refine lv_aload_n hx hb d_Cod_takeOver_21 rfl (lv_at hl 0 rfl) ?_
  refine va_get (D := D) (ci := 1) (v := .int (u 13 3)) (C := R_Pic) (T := F_Pic) (N := 11) hx hb hw in_Pic hown hK hP 13 rfl rfl 3 (by decide) (hw _ m_347) (fun _ h9 => h9) rfl d_Cod_takeOver_22 ?_
  have hC : [1].map (fun i => (wCodRdg cI q0 q1 q2 q3 q4 q5 q6 q7 q8 q9 q10 q11 q12 q13 q14 q15 q16 q17 q18 q19 q20 q21 q22 u)[i]?) = (wPic cI q1 (sb [1] u)).map some := rfl
  obtain ⟨w1, hc, hf⟩ := bd_o hf
  refine rw_v (va_runV (As := [.int (u 13 0), .int (u 13 1), .int (u 13 2), .int (u 13 3)]) (rest := []) ⟨hx, hb, hml, hown, hw⟩ (c_Pic_become l D cI q1 (dj_sub hd [1] (by decide) rfl) (u 13 0) (u 13 1) (u 13 2) (u 13 3) (sb [1] u) w1 hc) (cwV 4 hw g_51 rfl rfl rfl (by decide +kernel) ⟨Nat.le_of_ble_eq_true rfl, Nat.le_of_ble_eq_true rfl⟩) (pre_V (P_sub hC hP) hK rfl rfl) rfl rfl hl.1 rfl (lv_room (Nat.le_of_ble_eq_true rfl)) d_Cod_takeOver_25 ⟨Nat.le_of_ble_eq_true rfl, Nat.le_of_ble_eq_true rfl⟩) hS hP (hD _) hC rfl rfl (fun H locs hP hS => ?_)
  obtain ⟨u2, e_u2, hf⟩ := tk_o hf
  have hP : va_P D cls (wCodRdg cI q0 q1 q2 q3 q4 q5 q6 q7 q8 q9 q10 q11 q12 q13 q14 q15 q16 q17 q18 q19 q20 q21 q22 u2) H := by rw [e_u2]; exact hP
  refine lv_aload_n hx hb d_Cod_takeOver_28 rfl (lv_at hl 1 rfl) ?_
  refine va_get (D := D) (ci := 3) (v := .ref q2) (C := R_Cod) (T := F_Cod) (N := 11) hx hb hw in_Cod hown hK hP 0 rfl rfl 1 (by decide) (hw _ m_213) (fun x9 h9 => u_same (hw _ m_214) x9 h9) rfl d_Cod_takeOver_29 ?_
  refine lv_aload_n hx hb d_Cod_takeOver_32 rfl (lv_at hl 2 rfl) ?_
  refine va_get (D := D) (ci := 4) (v := .ref q14) (C := R_Rdg) (T := F_Rdg) (N := 10) hx hb hw in_Rdg hown hK hP 12 rfl rfl 1 (by decide) (hw _ m_358) (fun x9 h9 => u_same (hw _ m_359) x9 h9) rfl d_Cod_takeOver_33 ?_
  have hC : [2, 3, 4, 5, 6, 7, 14, 15, 16, 17, 18, 19].map (fun i => (wCodRdg cI q0 q1 q2 q3 q4 q5 q6 q7 q8 q9 q10 q11 q12 q13 q14 q15 q16 q17 q18 q19 q20 q21 q22 u2)[i]?) = (wCtxCtx cI q2 q3 q4 q5 q6 q7 q14 q15 q16 q17 q18 q19 (sb [2, 3, 4, 5, 6, 7, 14, 15, 16, 17, 18, 19] u2)).map some := rfl
  obtain ⟨w3, hc, hf⟩ := bd_o hf
  refine rw_v (va_runV (As := [.ref q14]) (rest := []) ⟨hx, hb, hml, hown, hw⟩ (c_Ctx_takeOver l D cI q2 q3 q4 q5 q6 q7 q14 q15 q16 q17 q18 q19 (dj_sub hd [2, 3, 4, 5, 6, 7, 14, 15, 16, 17, 18, 19] (by decide) rfl) (sb [2, 3, 4, 5, 6, 7, 14, 15, 16, 17, 18, 19] u2) w3 hc) (cwV 1 hw g_54 rfl rfl rfl (by decide +kernel) ⟨Nat.le_of_ble_eq_true rfl, Nat.le_of_ble_eq_true rfl⟩) (pre_V (P_sub hC hP) hK rfl rfl) rfl rfl hl.1 rfl (lv_room (Nat.le_of_ble_eq_true rfl)) d_Cod_takeOver_36 ⟨Nat.le_of_ble_eq_true rfl, Nat.le_of_ble_eq_true rfl⟩) hS hP (hD _) hC rfl rfl (fun H locs hP hS => ?_)
  obtain ⟨u4, e_u4, hf⟩ := tk_o hf
  have hP : va_P D cls (wCodRdg cI q0 q1 q2 q3 q4 q5 q6 q7 q8 q9 q10 q11 q12 q13 q14 q15 q16 q17 q18 q19 q20 q21 q22 u4) H := by rw [e_u4]; exact hP
  refine lv_aload_n hx hb d_Cod_takeOver_39 rfl (lv_at hl 2 rfl) ?_
  refine va_get (D := D) (ci := 4) (v := .ref q20) (C := R_Rdg) (T := F_Rdg) (N := 10) hx hb hw in_Rdg hown hK hP 12 rfl rfl 2 (by decide) (hw _ m_364) (fun x9 h9 => u_same (hw _ m_365) x9 h9) rfl d_Cod_takeOver_40 ?_
  refine lv_iconst (v := 0) hx hb d_Cod_takeOver_43 (by decide) ?_
  refine lv_aload_n hx hb d_Cod_takeOver_44 rfl (lv_at hl 1 rfl) ?_
  refine va_get (D := D) (ci := 3) (v := .ref q8) (C := R_Cod) (T := F_Cod) (N := 11) hx hb hw in_Cod hown hK hP 0 rfl rfl 2 (by decide) (hw _ m_202) (fun x9 h9 => u_same (hw _ m_203) x9 h9) rfl d_Cod_takeOver_45 ?_
  refine lv_iconst (v := 0) hx hb d_Cod_takeOver_48 (by decide) ?_
  refine lv_bipush (v := 64) hx hb d_Cod_takeOver_49 (by decide) ?_
  refine va_copyi (ty := .int) hx hb (hml.trans hl.1.symm) hown (hw _ m_366) (hw _ m_140) (hw _ m_141) (hw _ m_142) hK hP (hD _) hS 20 8 0 0 rfl rfl rfl rfl rfl (by decide) (by decide) (by decide) (by decide) (by decide) (fun _ _ => rfl) (Nat.le_of_ble_eq_true rfl) (by decide) d_Cod_takeOver_51 (fun H locs hP _ hS => ?_)
  obtain ⟨u5, e_u5, hf⟩ := tk_o hf
  have hP : va_P D cls (wCodRdg cI q0 q1 q2 q3 q4 q5 q6 q7 q8 q9 q10 q11 q12 q13 q14 q15 q16 q17 q18 q19 q20 q21 q22 u5) H := by rw [e_u5]; exact hP
  refine lv_aload_n hx hb d_Cod_takeOver_54 rfl (lv_at hl 2 rfl) ?_
  refine va_get (D := D) (ci := 4) (v := .ref q20) (C := R_Rdg) (T := F_Rdg) (N := 10) hx hb hw in_Rdg hown hK hP 12 rfl rfl 2 (by decide) (hw _ m_364) (fun x9 h9 => u_same (hw _ m_365) x9 h9) rfl d_Cod_takeOver_55 ?_
  refine lv_iconst (v := 0) hx hb d_Cod_takeOver_58 (by decide) ?_
  refine lv_aload_n hx hb d_Cod_takeOver_59 rfl (lv_at hl 1 rfl) ?_
  refine va_get (D := D) (ci := 3) (v := .ref q9) (C := R_Cod) (T := F_Cod) (N := 11) hx hb hw in_Cod hown hK hP 0 rfl rfl 9 (by decide) (hw _ m_195) (fun _ h9 => h9) rfl d_Cod_takeOver_60 ?_
  refine lv_iconst (v := 0) hx hb d_Cod_takeOver_63 (by decide) ?_
  refine lv_bipush (v := 64) hx hb d_Cod_takeOver_64 (by decide) ?_
  refine va_copyi (ty := .int) hx hb (hml.trans hl.1.symm) hown (hw _ m_366) (hw _ m_140) (hw _ m_141) (hw _ m_142) hK hP (hD _) hS 20 9 0 0 rfl rfl rfl rfl rfl (by decide) (by decide) (by decide) (by decide) (by decide) (fun _ _ => rfl) (Nat.le_of_ble_eq_true rfl) (by decide) d_Cod_takeOver_66 (fun H locs hP _ hS => ?_)
  obtain ⟨u6, e_u6, hf⟩ := tk_o hf
  have hP : va_P D cls (wCodRdg cI q0 q1 q2 q3 q4 q5 q6 q7 q8 q9 q10 q11 q12 q13 q14 q15 q16 q17 q18 q19 q20 q21 q22 u6) H := by rw [e_u6]; exact hP
  exact rt_v (wCodRdg cI q0 q1 q2 q3 q4 q5 q6 q7 q8 q9 q10 q11 q12 q13 q14 q15 q16 q17 q18 q19 q20 q21 q22) hx hb hr hlocks hS hP hf d_Cod_takeOver_69
