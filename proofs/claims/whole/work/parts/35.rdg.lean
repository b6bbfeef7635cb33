def f_Pas_rebuiltOrNothing_R (a1 : Int32) (a2 : Int32) (u : gU) : Option (Int32) := bq (0 ≤ a2) (bd (f_Pic_place a1 a2) fun x1 => gd (ix x1 64) (some (u 8 (tc x1)))) (some 0)
set_option maxHeartbeats 4000000 in
set_option maxRecDepth 100000 in
theorem c_Pas_rebuiltOrNothing_R (l : Launch) (D : va_G) (cI : ClassId) (q0 : Nat) (q1 : Nat) (q2 : Nat) (q3 : Nat) (q4 : Nat) (q5 : Nat) (q6 : Nat) (q7 : Nat) (q8 : Nat) (q9 : Nat) (q10 : Nat) (a1 : Int32) (a2 : Int32) (u : gU) (r : Int32) (hf : f_Pas_rebuiltOrNothing_R a1 a2 u = some r) : Met l y_Pas_rebuiltOrNothing (.code y_Pas_rebuiltOrNothing b_Pas_rebuiltOrNothing 3 (some .int) :: TS) ({ frames := 1, cells := 0, slots := 0, locals := 21 }) (va_Pc [.ref q0, .int a1, .int a2] (fun U => va_P D cls (wRdg cI q0 q1 q2 q3 q4 q5 q6 q7 q8 q9 q10 u) U.heap ∧ va_K D cls [(cI, .int)] U)) (va_Qi (fun x (_ : Unit) => x = r) (fun _ _ => True) (fun _ => False)) 0 0 (fun _ => False) := by
  refine ct_of (by decide +kernel) (Nat.le_of_ble_eq_true rfl) ?_
  intro p e s m below meth c ls hx hb hml hr hlocks hown hw hP hK hl
  have hS : va_S (fun _ => False) s.heap s.heap [] := va_S.rf
  have hl : lv_has ls 3 [(0, .ref q0), (1, .int a1), (2, .int a2)] := hl
  have hP : va_P D cls (wRdg cI q0 q1 q2 q3 q4 q5 q6 q7 q8 q9 q10 u) s.heap := hP
  unfold f_Pas_rebuiltOrNothing_R at hf
  refine lv_iload_n hx hb d_Pas_rebuiltOrNothing_0 rfl (lv_at hl 2 rfl) ?_
  refine lv_if_ge (tgt := 8) hx hb d_Pas_rebuiltOrNothing_1 (by decide) (fun hc => ?_) (fun hc => ?_)
  · have hf := bq_t hf hc
    refine lv_aload_n hx hb d_Pas_rebuiltOrNothing_8 rfl (lv_at hl 0 rfl) ?_
    refine va_get (D := D) (ci := 4) (v := .ref q8) (C := R_Rdg) (T := F_Rdg) (N := 10) hx hb hw in_Rdg hown hK hP 0 rfl rfl 2 (by decide) (hw _ m_159) (fun _ h9 => h9) rfl d_Pas_rebuiltOrNothing_9 ?_
    refine lv_iload_n hx hb d_Pas_rebuiltOrNothing_12 rfl (lv_at hl 1 rfl) ?_
    refine lv_iload_n hx hb d_Pas_rebuiltOrNothing_13 rfl (lv_at hl 2 rfl) ?_
    have hC : ([] : List Nat).map (fun i => (wRdg cI q0 q1 q2 q3 q4 q5 q6 q7 q8 q9 q10 u)[i]?) = ([] : va_W).map some := rfl
    obtain ⟨x1, hc, hf⟩ := bd_o hf
    refine ro_i (va_runS (As := [.int a1, .int a2]) (rest := [.ref q8]) ⟨hx, hb, hml, hown, hw⟩ (c_Pic_place l D cI a1 a2 x1 hc) (va_cwS 2 hw g_11 rfl rfl rfl (by decide +kernel) ⟨Nat.le_of_ble_eq_true rfl, Nat.le_of_ble_eq_true rfl⟩) (pre_S (P_sub hC hP) hK) rfl rfl hl.1 rfl (lv_room (Nat.le_of_ble_eq_true rfl)) d_Pas_rebuiltOrNothing_14 ⟨Nat.le_of_ble_eq_true rfl, Nat.le_of_ble_eq_true rfl⟩) hS hP (fun H locs hP hS => ?_)
    obtain ⟨h2, hf⟩ := gd_o hf
    refine va_iald hx hb hK hP 8 0 rfl rfl (ix_in h2) d_Pas_rebuiltOrNothing_17 ?_
    exact rt_roi hx hb hr hlocks hS hf d_Pas_rebuiltOrNothing_18
  have hf := bq_n hf hc
  refine lv_iconst (v := 0) hx hb d_Pas_rebuiltOrNothing_4 (by decide) ?_
  refine lv_goto (tgt := 18) hx hb d_Pas_rebuiltOrNothing_5 (by decide) ?_
  exact rt_roi hx hb hr hlocks hS hf d_Pas_rebuiltOrNothing_18
def J_Pas_lookAround_R_95 (s1 : Int32) (u : gU) : Option (gU) := tk (st2 u 0 3 s1) fun u1 => some u1
def J_Pas_lookAround_R_61 (l1 : Int32) (l2 : Int32) (s1 : Int32) (u : gU) : Option (gU) := tk (st2 u 0 2 s1) fun u1 => bq (((u1 1 0) - 1) ≤ l1) (J_Pas_lookAround_R_95 (u1 0 1) u1) (bd (f_Pas_rebuiltOrNothing_R (l1 + 1) (l2 - 1) u1) fun x2 => J_Pas_lookAround_R_95 x2 u1)
def J_Pas_lookAround_R_32 (l1 : Int32) (l2 : Int32) (s1 : Int32) (u : gU) : Option (gU) := tk (st2 u 0 0 s1) fun u1 => bq (l1 ≤ 0) (bd (f_Pas_rebuiltOrNothing_R l1 (l2 - 2) u1) fun x2 => J_Pas_lookAround_R_61 l1 l2 x2 u1) (bd (f_Pas_rebuiltOrNothing_R (l1 - 1) (l2 - 1) u1) fun x3 => J_Pas_lookAround_R_61 l1 l2 x3 u1)
def f_Pas_lookAround_R (a1 : Int32) (a2 : Int32) (u : gU) : Option (gU) := bd (f_Pas_rebuiltOrNothing_R a1 (a2 - 1) u) fun x1 => tk (st2 u 0 1 x1) fun u2 => bq (a1 ≤ 0) (J_Pas_lookAround_R_32 a1 a2 (u2 0 1) u2) (bd (f_Pas_rebuiltOrNothing_R (a1 - 1) a2 u2) fun x3 => J_Pas_lookAround_R_32 a1 a2 x3 u2)
set_option maxHeartbeats 4000000 in
set_option maxRecDepth 100000 in
theorem c_Pas_lookAround_R (l : Launch) (D : va_G) (cI : ClassId) (q0 : Nat) (q1 : Nat) (q2 : Nat) (q3 : Nat) (q4 : Nat) (q5 : Nat) (q6 : Nat) (q7 : Nat) (q8 : Nat) (q9 : Nat) (q10 : Nat) (hd : dj [q0, q1, q2, q3, q4, q5, q6, q7, q8, q9, q10]) (a1 : Int32) (a2 : Int32) (u : gU) (v : gU) (hf : f_Pas_lookAround_R a1 a2 u = some v) : Met l y_Pas_lookAround (.code y_Pas_lookAround b_Pas_lookAround 3 none :: TS) ({ frames := 2, cells := 0, slots := 0, locals := 43 }) (va_Pc [.ref q0, .int a1, .int a2] (fun U => va_P D cls (wRdg cI q0 q1 q2 q3 q4 q5 q6 q7 q8 q9 q10 u) U.heap ∧ va_K D cls [(cI, .int)] U)) (va_Qv (fun (_ : Unit) => True) (fun _ t => va_P D cls (wRdg cI q0 q1 q2 q3 q4 q5 q6 q7 q8 q9 q10 v) t.heap) (ad [q0, q1, q2, q3, q4, q5, q6, q7, q8, q9, q10])) 0 0 (ad [q0, q1, q2, q3, q4, q5, q6, q7, q8, q9, q10]) := by
  refine ct_of (by decide +kernel) (Nat.le_of_ble_eq_true rfl) ?_
  intro p e s m below meth c ls hx hb hml hr hlocks hown hw hP hK hl
  have hS : va_S (ad [q0, q1, q2, q3, q4, q5, q6, q7, q8, q9, q10]) s.heap s.heap [] := va_S.rf
  have hD : ∀ v, va_D (ad [q0, q1, q2, q3, q4, q5, q6, q7, q8, q9, q10]) (wRdg cI q0 q1 q2 q3 q4 q5 q6 q7 q8 q9 q10 v) := fun _ => dj_D rfl hd
  have hl : lv_has ls 3 [(0, .ref q0), (1, .int a1), (2, .int a2)] := hl
  have hP : va_P D cls (wRdg cI q0 q1 q2 q3 q4 q5 q6 q7 q8 q9 q10 u) s.heap := hP
  have j95 : ∀ (ls : Array Slot) (H : Heap) (locs : List Loc) (s1 : Int32) (u : gU), lv_has ls 3 [] → va_P D cls (wRdg cI q0 q1 q2 q3 q4 q5 q6 q7 q8 q9 q10 u) H → va_S (ad [q0, q1, q2, q3, q4, q5, q6, q7, q8, q9, q10]) s.heap H locs → J_Pas_lookAround_R_95 s1 u = some v → W p l e ({ frames := 2, cells := 0, slots := 0, locals := 43 }) s m [.ref q0, .int a1, .int a2].toArray below meth c H locs 0 0 (MQ below (va_Qv (fun (_ : Unit) => True) (fun _ t => va_P D cls (wRdg cI q0 q1 q2 q3 q4 q5 q6 q7 q8 q9 q10 v) t.heap) (ad [q0, q1, q2, q3, q4, q5, q6, q7, q8, q9, q10])) [.ref q0, .int a1, .int a2].toArray s 0 0 (ad [q0, q1, q2, q3, q4, q5, q6, q7, q8, q9, q10])) (F0 m 95 ls [.int s1, .ref q0]) := by
    intro ls H locs s1 u hl hP hS hf
    unfold J_Pas_lookAround_R_95 at hf
    refine va_put (D := D) (ci := 4) (v := .int s1) (ty := .int) (C := R_Rdg) (T := F_Rdg) (N := 10) hx hb hw in_Rdg t_Rdg t_Rdg_ok n_Rdg hown hK hP (hD _) hS 0 rfl rfl 6 (by decide) (hw _ m_163) (fun _ h9 => h9) rfl (by decide +kernel) rfl rfl (Nat.le_of_ble_eq_true rfl) d_Pas_lookAround_95 (fun H locs hP _ hS => ?_)
    obtain ⟨u1, e_u1, hf⟩ := tk_o hf
    have hP : va_P D cls (wRdg cI q0 q1 q2 q3 q4 q5 q6 q7 q8 q9 q10 u1) H := by rw [e_u1]; exact hP
    exact rt_v (wRdg cI q0 q1 q2 q3 q4 q5 q6 q7 q8 q9 q10) hx hb hr hlocks hS hP hf d_Pas_lookAround_98
  have j61 : ∀ (ls : Array Slot) (H : Heap) (locs : List Loc) (l1 : Int32) (l2 : Int32) (s1 : Int32) (u : gU), lv_has ls 3 [(0, .ref q0), (1, .int l1), (2, .int l2)] → va_P D cls (wRdg cI q0 q1 q2 q3 q4 q5 q6 q7 q8 q9 q10 u) H → va_S (ad [q0, q1, q2, q3, q4, q5, q6, q7, q8, q9, q10]) s.heap H locs → J_Pas_lookAround_R_61 l1 l2 s1 u = some v → W p l e ({ frames := 2, cells := 0, slots := 0, locals := 43 }) s m [.ref q0, .int a1, .int a2].toArray below meth c H locs 0 0 (MQ below (va_Qv (fun (_ : Unit) => True) (fun _ t => va_P D cls (wRdg cI q0 q1 q2 q3 q4 q5 q6 q7 q8 q9 q10 v) t.heap) (ad [q0, q1, q2, q3, q4, q5, q6, q7, q8, q9, q10])) [.ref q0, .int a1, .int a2].toArray s 0 0 (ad [q0, q1, q2, q3, q4, q5, q6, q7, q8, q9, q10])) (F0 m 61 ls [.int s1, .ref q0]) := by
    intro ls H locs l1 l2 s1 u hl hP hS hf
    unfold J_Pas_lookAround_R_61 at hf
    refine va_put (D := D) (ci := 4) (v := .int s1) (ty := .int) (C := R_Rdg) (T := F_Rdg) (N := 10) hx hb hw in_Rdg t_Rdg t_Rdg_ok n_Rdg hown hK hP (hD _) hS 0 rfl rfl 5 (by decide) (hw _ m_164) (fun _ h9 => h9) rfl (by decide +kernel) rfl rfl (Nat.le_of_ble_eq_true rfl) d_Pas_lookAround_61 (fun H locs hP _ hS => ?_)
    obtain ⟨u1, e_u1, hf⟩ := tk_o hf
    have hP : va_P D cls (wRdg cI q0 q1 q2 q3 q4 q5 q6 q7 q8 q9 q10 u1) H := by rw [e_u1]; exact hP
    refine lv_aload_n hx hb d_Pas_lookAround_64 rfl (lv_at hl 0 rfl) ?_
    refine lv_iload_n hx hb d_Pas_lookAround_65 rfl (lv_at hl 1 rfl) ?_
    refine lv_aload_n hx hb d_Pas_lookAround_66 rfl (lv_at hl 0 rfl) ?_
    refine va_get (D := D) (ci := 4) (v := .ref q1) (C := R_Rdg) (T := F_Rdg) (N := 10) hx hb hw in_Rdg hown hK hP 0 rfl rfl 0 (by decide) (hw _ m_165) (fun _ h9 => h9) rfl d_Pas_lookAround_67 ?_
    refine va_get (D := D) (ci := 1) (v := .int (u1 1 0)) (C := R_Pic) (T := F_Pic) (N := 11) hx hb hw in_Pic hown hK hP 1 rfl rfl 0 (by decide) (hw _ m_166) (fun _ h9 => h9) rfl d_Pas_lookAround_70 ?_
    refine lv_iconst (v := 1) hx hb d_Pas_lookAround_73 (by decide) ?_
    refine lv_isub hx hb d_Pas_lookAround_74 ?_
    refine lv_icmp_ge (tgt := 91) hx hb d_Pas_lookAround_75 (by decide) (fun hc => ?_) (fun hc => ?_)
    · have hf := bq_t hf hc
      refine lv_aload_n hx hb d_Pas_lookAround_91 rfl (lv_at hl 0 rfl) ?_
      refine va_get (D := D) (ci := 4) (v := .int (u1 0 1)) (C := R_Rdg) (T := F_Rdg) (N := 10) hx hb hw in_Rdg hown hK hP 0 rfl rfl 4 (by decide) (hw _ m_167) (fun _ h9 => h9) rfl d_Pas_lookAround_92 ?_
      exact j95 _ _ _ (u1 0 1) u1 (lv_sub hl [] rfl) hP hS hf
    have hf := bq_n hf hc
    refine lv_aload_n hx hb d_Pas_lookAround_78 rfl (lv_at hl 0 rfl) ?_
    refine lv_iload_n hx hb d_Pas_lookAround_79 rfl (lv_at hl 1 rfl) ?_
    refine lv_iconst (v := 1) hx hb d_Pas_lookAround_80 (by decide) ?_
    refine lv_iadd hx hb d_Pas_lookAround_81 ?_
    refine lv_iload_n hx hb d_Pas_lookAround_82 rfl (lv_at hl 2 rfl) ?_
    refine lv_iconst (v := 1) hx hb d_Pas_lookAround_83 (by decide) ?_
    refine lv_isub hx hb d_Pas_lookAround_84 ?_
    have hC : [0, 1, 2, 3, 4, 5, 6, 7, 8, 9, 10].map (fun i => (wRdg cI q0 q1 q2 q3 q4 q5 q6 q7 q8 q9 q10 u1)[i]?) = (wRdg cI q0 q1 q2 q3 q4 q5 q6 q7 q8 q9 q10 u1).map some := rfl
    obtain ⟨x2, hc, hf⟩ := bd_o hf
    refine ro_i (va_runU (As := [.int (l1 + 1), .int (l2 - 1)]) (rest := [.ref q0]) ⟨hx, hb, hml, hown, hw⟩ (c_Pas_rebuiltOrNothing_R l D cI q0 q1 q2 q3 q4 q5 q6 q7 q8 q9 q10 (l1 + 1) (l2 - 1) u1 x2 hc) (va_cwU 2 hw g_105 rfl rfl rfl rfl (by decide +kernel) ⟨Nat.le_of_ble_eq_true rfl, Nat.le_of_ble_eq_true rfl⟩) (pre_V (P_sub hC hP) hK rfl rfl) rfl rfl hl.1 rfl (lv_room (Nat.le_of_ble_eq_true rfl)) d_Pas_lookAround_85 ⟨Nat.le_of_ble_eq_true rfl, Nat.le_of_ble_eq_true rfl⟩) hS hP (fun H locs hP hS => ?_)
    refine lv_goto (tgt := 95) hx hb d_Pas_lookAround_88 (by decide) ?_
    exact j95 _ _ _ x2 u1 (lv_sub hl [] rfl) hP hS hf
  have j32 : ∀ (ls : Array Slot) (H : Heap) (locs : List Loc) (l1 : Int32) (l2 : Int32) (s1 : Int32) (u : gU), lv_has ls 3 [(0, .ref q0), (1, .int l1), (2, .int l2)] → va_P D cls (wRdg cI q0 q1 q2 q3 q4 q5 q6 q7 q8 q9 q10 u) H → va_S (ad [q0, q1, q2, q3, q4, q5, q6, q7, q8, q9, q10]) s.heap H locs → J_Pas_lookAround_R_32 l1 l2 s1 u = some v → W p l e ({ frames := 2, cells := 0, slots := 0, locals := 43 }) s m [.ref q0, .int a1, .int a2].toArray below meth c H locs 0 0 (MQ below (va_Qv (fun (_ : Unit) => True) (fun _ t => va_P D cls (wRdg cI q0 q1 q2 q3 q4 q5 q6 q7 q8 q9 q10 v) t.heap) (ad [q0, q1, q2, q3, q4, q5, q6, q7, q8, q9, q10])) [.ref q0, .int a1, .int a2].toArray s 0 0 (ad [q0, q1, q2, q3, q4, q5, q6, q7, q8, q9, q10])) (F0 m 32 ls [.int s1, .ref q0]) := by
    intro ls H locs l1 l2 s1 u hl hP hS hf
    unfold J_Pas_lookAround_R_32 at hf
    refine va_put (D := D) (ci := 4) (v := .int s1) (ty := .int) (C := R_Rdg) (T := F_Rdg) (N := 10) hx hb hw in_Rdg t_Rdg t_Rdg_ok n_Rdg hown hK hP (hD _) hS 0 rfl rfl 3 (by decide) (hw _ m_174) (fun _ h9 => h9) rfl (by decide +kernel) rfl rfl (Nat.le_of_ble_eq_true rfl) d_Pas_lookAround_32 (fun H locs hP _ hS => ?_)
    obtain ⟨u1, e_u1, hf⟩ := tk_o hf
    have hP : va_P D cls (wRdg cI q0 q1 q2 q3 q4 q5 q6 q7 q8 q9 q10 u1) H := by rw [e_u1]; exact hP
    refine lv_aload_n hx hb d_Pas_lookAround_35 rfl (lv_at hl 0 rfl) ?_
    refine lv_iload_n hx hb d_Pas_lookAround_36 rfl (lv_at hl 1 rfl) ?_
    refine lv_if_le (tgt := 53) hx hb d_Pas_lookAround_37 (by decide) (fun hc => ?_) (fun hc => ?_)
    · have hf := bq_t hf hc
      refine lv_aload_n hx hb d_Pas_lookAround_53 rfl (lv_at hl 0 rfl) ?_
      refine lv_iload_n hx hb d_Pas_lookAround_54 rfl (lv_at hl 1 rfl) ?_
      refine lv_iload_n hx hb d_Pas_lookAround_55 rfl (lv_at hl 2 rfl) ?_
      refine lv_iconst (v := 2) hx hb d_Pas_lookAround_56 (by decide) ?_
      refine lv_isub hx hb d_Pas_lookAround_57 ?_
      have hC : [0, 1, 2, 3, 4, 5, 6, 7, 8, 9, 10].map (fun i => (wRdg cI q0 q1 q2 q3 q4 q5 q6 q7 q8 q9 q10 u1)[i]?) = (wRdg cI q0 q1 q2 q3 q4 q5 q6 q7 q8 q9 q10 u1).map some := rfl
      obtain ⟨x2, hc, hf⟩ := bd_o hf
      refine ro_i (va_runU (As := [.int l1, .int (l2 - 2)]) (rest := [.ref q0]) ⟨hx, hb, hml, hown, hw⟩ (c_Pas_rebuiltOrNothing_R l D cI q0 q1 q2 q3 q4 q5 q6 q7 q8 q9 q10 l1 (l2 - 2) u1 x2 hc) (va_cwU 2 hw g_105 rfl rfl rfl rfl (by decide +kernel) ⟨Nat.le_of_ble_eq_true rfl, Nat.le_of_ble_eq_true rfl⟩) (pre_V (P_sub hC hP) hK rfl rfl) rfl rfl hl.1 rfl (lv_room (Nat.le_of_ble_eq_true rfl)) d_Pas_lookAround_58 ⟨Nat.le_of_ble_eq_true rfl, Nat.le_of_ble_eq_true rfl⟩) hS hP (fun H locs hP hS => ?_)
      exact j61 _ _ _ l1 l2 x2 u1 (lv_sub hl [0, 1, 2] rfl) hP hS hf
    have hf := bq_n hf hc
    refine lv_aload_n hx hb d_Pas_lookAround_40 rfl (lv_at hl 0 rfl) ?_
    refine lv_iload_n hx hb d_Pas_lookAround_41 rfl (lv_at hl 1 rfl) ?_
    refine lv_iconst (v := 1) hx hb d_Pas_lookAround_42 (by decide) ?_
    refine lv_isub hx hb d_Pas_lookAround_43 ?_
    refine lv_iload_n hx hb d_Pas_lookAround_44 rfl (lv_at hl 2 rfl) ?_
    refine lv_iconst (v := 1) hx hb d_Pas_lookAround_45 (by decide) ?_
    refine lv_isub hx hb d_Pas_lookAround_46 ?_
    have hC : [0, 1, 2, 3, 4, 5, 6, 7, 8, 9, 10].map (fun i => (wRdg cI q0 q1 q2 q3 q4 q5 q6 q7 q8 q9 q10 u1)[i]?) = (wRdg cI q0 q1 q2 q3 q4 q5 q6 q7 q8 q9 q10 u1).map some := rfl
    obtain ⟨x3, hc, hf⟩ := bd_o hf
    refine ro_i (va_runU (As := [.int (l1 - 1), .int (l2 - 1)]) (rest := [.ref q0]) ⟨hx, hb, hml, hown, hw⟩ (c_Pas_rebuiltOrNothing_R l D cI q0 q1 q2 q3 q4 q5 q6 q7 q8 q9 q10 (l1 - 1) (l2 - 1) u1 x3 hc) (va_cwU 2 hw g_105 rfl rfl rfl rfl (by decide +kernel) ⟨Nat.le_of_ble_eq_true rfl, Nat.le_of_ble_eq_true rfl⟩) (pre_V (P_sub hC hP) hK rfl rfl) rfl rfl hl.1 rfl (lv_room (Nat.le_of_ble_eq_true rfl)) d_Pas_lookAround_47 ⟨Nat.le_of_ble_eq_true rfl, Nat.le_of_ble_eq_true rfl⟩) hS hP (fun H locs hP hS => ?_)
    refine lv_goto (tgt := 61) hx hb d_Pas_lookAround_50 (by decide) ?_
    exact j61 _ _ _ l1 l2 x3 u1 (lv_sub hl [0, 1, 2] rfl) hP hS hf
  unfold f_Pas_lookAround_R at hf
  refine lv_aload_n hx hb d_Pas_lookAround_0 rfl (lv_at hl 0 rfl) ?_
  refine lv_aload_n hx hb d_Pas_lookAround_1 rfl (lv_at hl 0 rfl) ?_
  refine lv_iload_n hx hb d_Pas_lookAround_2 rfl (lv_at hl 1 rfl) ?_
  refine lv_iload_n hx hb d_Pas_lookAround_3 rfl (lv_at hl 2 rfl) ?_
  refine lv_iconst (v := 1) hx hb d_Pas_lookAround_4 (by decide) ?_
  refine lv_isub hx hb d_Pas_lookAround_5 ?_
  have hC : [0, 1, 2, 3, 4, 5, 6, 7, 8, 9, 10].map (fun i => (wRdg cI q0 q1 q2 q3 q4 q5 q6 q7 q8 q9 q10 u)[i]?) = (wRdg cI q0 q1 q2 q3 q4 q5 q6 q7 q8 q9 q10 u).map some := rfl
  obtain ⟨x1, hc, hf⟩ := bd_o hf
  refine ro_i (va_runU (As := [.int a1, .int (a2 - 1)]) (rest := [.ref q0]) ⟨hx, hb, hml, hown, hw⟩ (c_Pas_rebuiltOrNothing_R l D cI q0 q1 q2 q3 q4 q5 q6 q7 q8 q9 q10 a1 (a2 - 1) u x1 hc) (va_cwU 2 hw g_105 rfl rfl rfl rfl (by decide +kernel) ⟨Nat.le_of_ble_eq_true rfl, Nat.le_of_ble_eq_true rfl⟩) (pre_V (P_sub hC hP) hK rfl rfl) rfl rfl hl.1 rfl (lv_room (Nat.le_of_ble_eq_true rfl)) d_Pas_lookAround_6 ⟨Nat.le_of_ble_eq_true rfl, Nat.le_of_ble_eq_true rfl⟩) hS hP (fun H locs hP hS => ?_)
  refine va_put (D := D) (ci := 4) (v := .int x1) (ty := .int) (C := R_Rdg) (T := F_Rdg) (N := 10) hx hb hw in_Rdg t_Rdg t_Rdg_ok n_Rdg hown hK hP (hD _) hS 0 rfl rfl 4 (by decide) (hw _ m_167) (fun _ h9 => h9) rfl (by decide +kernel) rfl rfl (Nat.le_of_ble_eq_true rfl) d_Pas_lookAround_9 (fun H locs hP _ hS => ?_)
  obtain ⟨u2, e_u2, hf⟩ := tk_o hf
  have hP : va_P D cls (wRdg cI q0 q1 q2 q3 q4 q5 q6 q7 q8 q9 q10 u2) H := by rw [e_u2]; exact hP
  refine lv_aload_n hx hb d_Pas_lookAround_12 rfl (lv_at hl 0 rfl) ?_
  refine lv_iload_n hx hb d_Pas_lookAround_13 rfl (lv_at hl 1 rfl) ?_
  refine lv_if_le (tgt := 28) hx hb d_Pas_lookAround_14 (by decide) (fun hc => ?_) (fun hc => ?_)
  · have hf := bq_t hf hc
    refine lv_aload_n hx hb d_Pas_lookAround_28 rfl (lv_at hl 0 rfl) ?_
    refine va_get (D := D) (ci := 4) (v := .int (u2 0 1)) (C := R_Rdg) (T := F_Rdg) (N := 10) hx hb hw in_Rdg hown hK hP 0 rfl rfl 4 (by decide) (hw _ m_167) (fun _ h9 => h9) rfl d_Pas_lookAround_29 ?_
    exact j32 _ _ _ a1 a2 (u2 0 1) u2 (lv_sub hl [0, 1, 2] rfl) hP hS hf
  have hf := bq_n hf hc
  refine lv_aload_n hx hb d_Pas_lookAround_17 rfl (lv_at hl 0 rfl) ?_
  refine lv_iload_n hx hb d_Pas_lookAround_18 rfl (lv_at hl 1 rfl) ?_
  refine lv_iconst (v := 1) hx hb d_Pas_lookAround_19 (by decide) ?_
  refine lv_isub hx hb d_Pas_lookAround_20 ?_
  refine lv_iload_n hx hb d_Pas_lookAround_21 rfl (lv_at hl 2 rfl) ?_
  have hC : [0, 1, 2, 3, 4, 5, 6, 7, 8, 9, 10].map (fun i => (wRdg cI q0 q1 q2 q3 q4 q5 q6 q7 q8 q9 q10 u2)[i]?) = (wRdg cI q0 q1 q2 q3 q4 q5 q6 q7 q8 q9 q10 u2).map some := rfl
  obtain ⟨x3, hc, hf⟩ := bd_o hf
  refine ro_i (va_runU (As := [.int (a1 - 1), .int a2]) (rest := [.ref q0]) ⟨hx, hb, hml, hown, hw⟩ (c_Pas_rebuiltOrNothing_R l D cI q0 q1 q2 q3 q4 q5 q6 q7 q8 q9 q10 (a1 - 1) a2 u2 x3 hc) (va_cwU 2 hw g_105 rfl rfl rfl rfl (by decide +kernel) ⟨Nat.le_of_ble_eq_true rfl, Nat.le_of_ble_eq_true rfl⟩) (pre_V (P_sub hC hP) hK rfl rfl) rfl rfl hl.1 rfl (lv_room (Nat.le_of_ble_eq_true rfl)) d_Pas_lookAround_22 ⟨Nat.le_of_ble_eq_true rfl, Nat.le_of_ble_eq_true rfl⟩) hS hP (fun H locs hP hS => ?_)
  refine lv_goto (tgt := 32) hx hb d_Pas_lookAround_25 (by decide) ?_
  exact j32 _ _ _ a1 a2 x3 u2 (lv_sub hl [0, 1, 2] rfl) hP hS hf
def f_Pas_isEven_R (u : gU) : Option (Int32) := bd (f_Pic_isNear ((u 0 1) - (u 0 3)) (sb [1] u)) fun x1 => bq (x1 = 0) (some 0) (bd (f_Pic_isNear ((u 0 2) - (u 0 1)) (sb [1] u)) fun x2 => bq (x2 = 0) (some 0) (bd (f_Pic_isNear ((u 0 0) - (u 0 2)) (sb [1] u)) fun x3 => bq (x3 = 0) (some 0) (some 1)))
set_option maxHeartbeats 4000000 in
set_option maxRecDepth 100000 in
theorem c_Pas_isEven_R (l : Launch) (D : va_G) (cI : ClassId) (q0 : Nat) (q1 : Nat) (q2 : Nat) (q3 : Nat) (q4 : Nat) (q5 : Nat) (q6 : Nat) (q7 : Nat) (q8 : Nat) (q9 : Nat) (q10 : Nat) (u : gU) (r : Int32) (hf : f_Pas_isEven_R u = some r) : Met l y_Pas_isEven (.code y_Pas_isEven b_Pas_isEven 1 (some .boolean) :: TS) ({ frames := 1, cells := 0, slots := 0, locals := 21 }) (va_Pc [.ref q0] (fun U => va_P D cls (wRdg cI q0 q1 q2 q3 q4 q5 q6 q7 q8 q9 q10 u) U.heap ∧ va_K D cls [(cI, .int)] U)) (va_Qi (fun x (_ : Unit) => x = r) (fun _ _ => True) (fun _ => False)) 0 0 (fun _ => False) := by
  refine ct_of (by decide +kernel) (Nat.le_of_ble_eq_true rfl) ?_
  intro p e s m below meth c ls hx hb hml hr hlocks hown hw hP hK hl
  have hS : va_S (fun _ => False) s.heap s.heap [] := va_S.rf
  have hl : lv_has ls 1 [(0, .ref q0)] := hl
  have hP : va_P D cls (wRdg cI q0 q1 q2 q3 q4 q5 q6 q7 q8 q9 q10 u) s.heap := hP
  unfold f_Pas_isEven_R at hf
  refine lv_aload_n hx hb d_Pas_isEven_0 rfl (lv_at hl 0 rfl) ?_
  refine va_get (D := D) (ci := 4) (v := .ref q1) (C := R_Rdg) (T := F_Rdg) (N := 10) hx hb hw in_Rdg hown hK hP 0 rfl rfl 0 (by decide) (hw _ m_165) (fun _ h9 => h9) rfl d_Pas_isEven_1 ?_
  refine lv_aload_n hx hb d_Pas_isEven_4 rfl (lv_at hl 0 rfl) ?_
  refine va_get (D := D) (ci := 4) (v := .int (u 0 1)) (C := R_Rdg) (T := F_Rdg) (N := 10) hx hb hw in_Rdg hown hK hP 0 rfl rfl 4 (by decide) (hw _ m_167) (fun _ h9 => h9) rfl d_Pas_isEven_5 ?_
  refine lv_aload_n hx hb d_Pas_isEven_8 rfl (lv_at hl 0 rfl) ?_
  refine va_get (D := D) (ci := 4) (v := .int (u 0 3)) (C := R_Rdg) (T := F_Rdg) (N := 10) hx hb hw in_Rdg hown hK hP 0 rfl rfl 6 (by decide) (hw _ m_163) (fun _ h9 => h9) rfl d_Pas_isEven_9 ?_
  refine lv_isub hx hb d_Pas_isEven_12 ?_
  have hC : [1].map (fun i => (wRdg cI q0 q1 q2 q3 q4 q5 q6 q7 q8 q9 q10 u)[i]?) = (wPic cI q1 (sb [1] u)).map some := rfl
  obtain ⟨x1, hc, hf⟩ := bd_o hf
  refine ro_i (va_runV (As := [.int ((u 0 1) - (u 0 3))]) (rest := []) ⟨hx, hb, hml, hown, hw⟩ (c_Pic_isNear l D cI q1 ((u 0 1) - (u 0 3)) (sb [1] u) x1 hc) (cwV 1 hw g_13 rfl rfl rfl (by decide +kernel) ⟨Nat.le_of_ble_eq_true rfl, Nat.le_of_ble_eq_true rfl⟩) (pre_V (P_sub hC hP) hK rfl rfl) rfl rfl hl.1 rfl (lv_room (Nat.le_of_ble_eq_true rfl)) d_Pas_isEven_13 ⟨Nat.le_of_ble_eq_true rfl, Nat.le_of_ble_eq_true rfl⟩) hS hP (fun H locs hP hS => ?_)
  refine lv_if_eq (tgt := 61) hx hb d_Pas_isEven_16 (by decide) (fun hc => ?_) (fun hc => ?_)
  · have hf := bq_t hf hc
    refine lv_iconst (v := 0) hx hb d_Pas_isEven_61 (by decide) ?_
    exact rt_roz hx hb hr hlocks (Or.inl rfl) hS hf d_Pas_isEven_62
  have hf := bq_n hf hc
  refine lv_aload_n hx hb d_Pas_isEven_19 rfl (lv_at hl 0 rfl) ?_
  refine va_get (D := D) (ci := 4) (v := .ref q1) (C := R_Rdg) (T := F_Rdg) (N := 10) hx hb hw in_Rdg hown hK hP 0 rfl rfl 0 (by decide) (hw _ m_165) (fun _ h9 => h9) rfl d_Pas_isEven_20 ?_
  refine lv_aload_n hx hb d_Pas_isEven_23 rfl (lv_at hl 0 rfl) ?_
  refine va_get (D := D) (ci := 4) (v := .int (u 0 2)) (C := R_Rdg) (T := F_Rdg) (N := 10) hx hb hw in_Rdg hown hK hP 0 rfl rfl 5 (by decide) (hw _ m_164) (fun _ h9 => h9) rfl d_Pas_isEven_24 ?_
  refine lv_aload_n hx hb d_Pas_isEven_27 rfl (lv_at hl 0 rfl) ?_
  refine va_get (D := D) (ci := 4) (v := .int (u 0 1)) (C := R_Rdg) (T := F_Rdg) (N := 10) hx hb hw in_Rdg hown hK hP 0 rfl rfl 4 (by decide) (hw _ m_167) (fun _ h9 => h9) rfl d_Pas_isEven_28 ?_
  refine lv_isub hx hb d_Pas_isEven_31 ?_
  have hC : [1].map (fun i => (wRdg cI q0 q1 q2 q3 q4 q5 q6 q7 q8 q9 q10 u)[i]?) = (wPic cI q1 (sb [1] u)).map some := rfl
  obtain ⟨x2, hc, hf⟩ := bd_o hf
  refine ro_i (va_runV (As := [.int ((u 0 2) - (u 0 1))]) (rest := []) ⟨hx, hb, hml, hown, hw⟩ (c_Pic_isNear l D cI q1 ((u 0 2) - (u 0 1)) (sb [1] u) x2 hc) (cwV 1 hw g_13 rfl rfl rfl (by decide +kernel) ⟨Nat.le_of_ble_eq_true rfl, Nat.le_of_ble_eq_true rfl⟩) (pre_V (P_sub hC hP) hK rfl rfl) rfl rfl hl.1 rfl (lv_room (Nat.le_of_ble_eq_true rfl)) d_Pas_isEven_32 ⟨Nat.le_of_ble_eq_true rfl, Nat.le_of_ble_eq_true rfl⟩) hS hP (fun H locs hP hS => ?_)
  refine lv_if_eq (tgt := 61) hx hb d_Pas_isEven_35 (by decide) (fun hc => ?_) (fun hc => ?_)
  · have hf := bq_t hf hc
    refine lv_iconst (v := 0) hx hb d_Pas_isEven_61 (by decide) ?_
    exact rt_roz hx hb hr hlocks (Or.inl rfl) hS hf d_Pas_isEven_62
  have hf := bq_n hf hc
  refine lv_aload_n hx hb d_Pas_isEven_38 rfl (lv_at hl 0 rfl) ?_
  refine va_get (D := D) (ci := 4) (v := .ref q1) (C := R_Rdg) (T := F_Rdg) (N := 10) hx hb hw in_Rdg hown hK hP 0 rfl rfl 0 (by decide) (hw _ m_165) (fun _ h9 => h9) rfl d_Pas_isEven_39 ?_
  refine lv_aload_n hx hb d_Pas_isEven_42 rfl (lv_at hl 0 rfl) ?_
  refine va_get (D := D) (ci := 4) (v := .int (u 0 0)) (C := R_Rdg) (T := F_Rdg) (N := 10) hx hb hw in_Rdg hown hK hP 0 rfl rfl 3 (by decide) (hw _ m_174) (fun _ h9 => h9) rfl d_Pas_isEven_43 ?_
  refine lv_aload_n hx hb d_Pas_isEven_46 rfl (lv_at hl 0 rfl) ?_
  refine va_get (D := D) (ci := 4) (v := .int (u 0 2)) (C := R_Rdg) (T := F_Rdg) (N := 10) hx hb hw in_Rdg hown hK hP 0 rfl rfl 5 (by decide) (hw _ m_164) (fun _ h9 => h9) rfl d_Pas_isEven_47 ?_
  refine lv_isub hx hb d_Pas_isEven_50 ?_
  have hC : [1].map (fun i => (wRdg cI q0 q1 q2 q3 q4 q5 q6 q7 q8 q9 q10 u)[i]?) = (wPic cI q1 (sb [1] u)).map some := rfl
  obtain ⟨x3, hc, hf⟩ := bd_o hf
  refine ro_i (va_runV (As := [.int ((u 0 0) - (u 0 2))]) (rest := []) ⟨hx, hb, hml, hown, hw⟩ (c_Pic_isNear l D cI q1 ((u 0 0) - (u 0 2)) (sb [1] u) x3 hc) (cwV 1 hw g_13 rfl rfl rfl (by decide +kernel) ⟨Nat.le_of_ble_eq_true rfl, Nat.le_of_ble_eq_true rfl⟩) (pre_V (P_sub hC hP) hK rfl rfl) rfl rfl hl.1 rfl (lv_room (Nat.le_of_ble_eq_true rfl)) d_Pas_isEven_51 ⟨Nat.le_of_ble_eq_true rfl, Nat.le_of_ble_eq_true rfl⟩) hS hP (fun H locs hP hS => ?_)
  refine lv_if_eq (tgt := 61) hx hb d_Pas_isEven_54 (by decide) (fun hc => ?_) (fun hc => ?_)
  · have hf := bq_t hf hc
    refine lv_iconst (v := 0) hx hb d_Pas_isEven_61 (by decide) ?_
    exact rt_roz hx hb hr hlocks (Or.inl rfl) hS hf d_Pas_isEven_62
  have hf := bq_n hf hc
  refine lv_iconst (v := 1) hx hb d_Pas_isEven_57 (by decide) ?_
  refine lv_goto (tgt := 62) hx hb d_Pas_isEven_58 (by decide) ?_
  exact rt_roz hx hb hr hlocks (Or.inr rfl) hS hf d_Pas_isEven_62
def f_Pas_signedContext_R (u : gU) : Option (Int32) := bd (f_Pic_level ((u 0 3) - (u 0 1)) (sb [1] u)) fun x1 => bd (f_Pic_level ((u 0 1) - (u 0 2)) (sb [1] u)) fun x2 => bd (f_Pic_level ((u 0 2) - (u 0 0)) (sb [1] u)) fun x3 => some (((81 * x1) + (9 * x2)) + x3)
set_option maxHeartbeats 4000000 in
set_option maxRecDepth 100000 in
theorem c_Pas_signedContext_R (l : Launch) (D : va_G) (cI : ClassId) (q0 : Nat) (q1 : Nat) (q2 : Nat) (q3 : Nat) (q4 : Nat) (q5 : Nat) (q6 : Nat) (q7 : Nat) (q8 : Nat) (q9 : Nat) (q10 : Nat) (u : gU) (r : Int32) (hf : f_Pas_signedContext_R u = some r) : Met l y_Pas_signedContext (.code y_Pas_signedContext b_Pas_signedContext 1 (some .int) :: TS) ({ frames := 1, cells := 0, slots := 0, locals := 21 }) (va_Pc [.ref q0] (fun U => va_P D cls (wRdg cI q0 q1 q2 q3 q4 q5 q6 q7 q8 q9 q10 u) U.heap ∧ va_K D cls [(cI, .int)] U)) (va_Qi (fun x (_ : Unit) => x = r) (fun _ _ => True) (fun _ => False)) 0 0 (fun _ => False) := by
  refine ct_of (by decide +kernel) (Nat.le_of_ble_eq_true rfl) ?_
  intro p e s m below meth c ls hx hb hml hr hlocks hown hw hP hK hl
  have hS : va_S (fun _ => False) s.heap s.heap [] := va_S.rf
  have hl : lv_has ls 1 [(0, .ref q0)] := hl
  have hP : va_P D cls (wRdg cI q0 q1 q2 q3 q4 q5 q6 q7 q8 q9 q10 u) s.heap := hP
  unfold f_Pas_signedContext_R at hf
  refine lv_bipush (v := 81) hx hb d_Pas_signedContext_0 (by decide) ?_
  refine lv_aload_n hx hb d_Pas_signedContext_2 rfl (lv_at hl 0 rfl) ?_
  refine va_get (D := D) (ci := 4) (v := .ref q1) (C := R_Rdg) (T := F_Rdg) (N := 10) hx hb hw in_Rdg hown hK hP 0 rfl rfl 0 (by decide) (hw _ m_165) (fun _ h9 => h9) rfl d_Pas_signedContext_3 ?_
  refine lv_aload_n hx hb d_Pas_signedContext_6 rfl (lv_at hl 0 rfl) ?_
  refine va_get (D := D) (ci := 4) (v := .int (u 0 3)) (C := R_Rdg) (T := F_Rdg) (N := 10) hx hb hw in_Rdg hown hK hP 0 rfl rfl 6 (by decide) (hw _ m_163) (fun _ h9 => h9) rfl d_Pas_signedContext_7 ?_
  refine lv_aload_n hx hb d_Pas_signedContext_10 rfl (lv_at hl 0 rfl) ?_
  refine va_get (D := D) (ci := 4) (v := .int (u 0 1)) (C := R_Rdg) (T := F_Rdg) (N := 10) hx hb hw in_Rdg hown hK hP 0 rfl rfl 4 (by decide) (hw _ m_167) (fun _ h9 => h9) rfl d_Pas_signedContext_11 ?_
  refine lv_isub hx hb d_Pas_signedContext_14 ?_
  have hC : [1].map (fun i => (wRdg cI q0 q1 q2 q3 q4 q5 q6 q7 q8 q9 q10 u)[i]?) = (wPic cI q1 (sb [1] u)).map some := rfl
  obtain ⟨x1, hc, hf⟩ := bd_o hf
  refine ro_i (va_runV (As := [.int ((u 0 3) - (u 0 1))]) (rest := [.int 81]) ⟨hx, hb, hml, hown, hw⟩ (c_Pic_level l D cI q1 ((u 0 3) - (u 0 1)) (sb [1] u) x1 hc) (cwV 1 hw g_14 rfl rfl rfl (by decide +kernel) ⟨Nat.le_of_ble_eq_true rfl, Nat.le_of_ble_eq_true rfl⟩) (pre_V (P_sub hC hP) hK rfl rfl) rfl rfl hl.1 rfl (lv_room (Nat.le_of_ble_eq_true rfl)) d_Pas_signedContext_15 ⟨Nat.le_of_ble_eq_true rfl, Nat.le_of_ble_eq_true rfl⟩) hS hP (fun H locs hP hS => ?_)
  refine lv_imul hx hb d_Pas_signedContext_18 ?_
  refine lv_bipush (v := 9) hx hb d_Pas_signedContext_19 (by decide) ?_
  refine lv_aload_n hx hb d_Pas_signedContext_21 rfl (lv_at hl 0 rfl) ?_
  refine va_get (D := D) (ci := 4) (v := .ref q1) (C := R_Rdg) (T := F_Rdg) (N := 10) hx hb hw in_Rdg hown hK hP 0 rfl rfl 0 (by decide) (hw _ m_165) (fun _ h9 => h9) rfl d_Pas_signedContext_22 ?_
  refine lv_aload_n hx hb d_Pas_signedContext_25 rfl (lv_at hl 0 rfl) ?_
  refine va_get (D := D) (ci := 4) (v := .int (u 0 1)) (C := R_Rdg) (T := F_Rdg) (N := 10) hx hb hw in_Rdg hown hK hP 0 rfl rfl 4 (by decide) (hw _ m_167) (fun _ h9 => h9) rfl d_Pas_signedContext_26 ?_
  refine lv_aload_n hx hb d_Pas_signedContext_29 rfl (lv_at hl 0 rfl) ?_
  refine va_get (D := D) (ci := 4) (v := .int (u 0 2)) (C := R_Rdg) (T := F_Rdg) (N := 10) hx hb hw in_Rdg hown hK hP 0 rfl rfl 5 (by decide) (hw _ m_164) (fun _ h9 => h9) rfl d_Pas_signedContext_30 ?_
  refine lv_isub hx hb d_Pas_signedContext_33 ?_
  have hC : [1].map (fun i => (wRdg cI q0 q1 q2 q3 q4 q5 q6 q7 q8 q9 q10 u)[i]?) = (wPic cI q1 (sb [1] u)).map some := rfl
  obtain ⟨x2, hc, hf⟩ := bd_o hf
  refine ro_i (va_runV (As := [.int ((u 0 1) - (u 0 2))]) (rest := [.int 9, .int (81 * x1)]) ⟨hx, hb, hml, hown, hw⟩ (c_Pic_level l D cI q1 ((u 0 1) - (u 0 2)) (sb [1] u) x2 hc) (cwV 1 hw g_14 rfl rfl rfl (by decide +kernel) ⟨Nat.le_of_ble_eq_true rfl, Nat.le_of_ble_eq_true rfl⟩) (pre_V (P_sub hC hP) hK rfl rfl) rfl rfl hl.1 rfl (lv_room (Nat.le_of_ble_eq_true rfl)) d_Pas_signedContext_34 ⟨Nat.le_of_ble_eq_true rfl, Nat.le_of_ble_eq_true rfl⟩) hS hP (fun H locs hP hS => ?_)
  refine lv_imul hx hb d_Pas_signedContext_37 ?_
  refine lv_iadd hx hb d_Pas_signedContext_38 ?_
  refine lv_aload_n hx hb d_Pas_signedContext_39 rfl (lv_at hl 0 rfl) ?_
  refine va_get (D := D) (ci := 4) (v := .ref q1) (C := R_Rdg) (T := F_Rdg) (N := 10) hx hb hw in_Rdg hown hK hP 0 rfl rfl 0 (by decide) (hw _ m_165) (fun _ h9 => h9) rfl d_Pas_signedContext_40 ?_
  refine lv_aload_n hx hb d_Pas_signedContext_43 rfl (lv_at hl 0 rfl) ?_
  refine va_get (D := D) (ci := 4) (v := .int (u 0 2)) (C := R_Rdg) (T := F_Rdg) (N := 10) hx hb hw in_Rdg hown hK hP 0 rfl rfl 5 (by decide) (hw _ m_164) (fun _ h9 => h9) rfl d_Pas_signedContext_44 ?_
  refine lv_aload_n hx hb d_Pas_signedContext_47 rfl (lv_at hl 0 rfl) ?_
  refine va_get (D := D) (ci := 4) (v := .int (u 0 0)) (C := R_Rdg) (T := F_Rdg) (N := 10) hx hb hw in_Rdg hown hK hP 0 rfl rfl 3 (by decide) (hw _ m_174) (fun _ h9 => h9) rfl d_Pas_signedContext_48 ?_
  refine lv_isub hx hb d_Pas_signedContext_51 ?_
  have hC : [1].map (fun i => (wRdg cI q0 q1 q2 q3 q4 q5 q6 q7 q8 q9 q10 u)[i]?) = (wPic cI q1 (sb [1] u)).map some := rfl
  obtain ⟨x3, hc, hf⟩ := bd_o hf
  refine ro_i (va_runV (As := [.int ((u 0 2) - (u 0 0))]) (rest := [.int ((81 * x1) + (9 * x2))]) ⟨hx, hb, hml, hown, hw⟩ (c_Pic_level l D cI q1 ((u 0 2) - (u 0 0)) (sb [1] u) x3 hc) (cwV 1 hw g_14 rfl rfl rfl (by decide +kernel) ⟨Nat.le_of_ble_eq_true rfl, Nat.le_of_ble_eq_true rfl⟩) (pre_V (P_sub hC hP) hK rfl rfl) rfl rfl hl.1 rfl (lv_room (Nat.le_of_ble_eq_true rfl)) d_Pas_signedContext_52 ⟨Nat.le_of_ble_eq_true rfl, Nat.le_of_ble_eq_true rfl⟩) hS hP (fun H locs hP hS => ?_)
  refine lv_iadd hx hb d_Pas_signedContext_55 ?_
  exact rt_roi hx hb hr hlocks hS hf d_Pas_signedContext_56
def f_Pas_foretoldByNeighbours_R (u : gU) : Option (Int32) := tk (if (u 0 1) < (u 0 0) then (u 0 1) else (u 0 0)) fun x1 => tk (if (u 0 0) < (u 0 1) then (u 0 1) else (u 0 0)) fun x2 => bq ((u 0 2) < x2) (bq (x1 < (u 0 2)) (some (((u 0 0) + (u 0 1)) - (u 0 2))) (some x2)) (some x1)
set_option maxHeartbeats 4000000 in
set_option maxRecDepth 100000 in
theorem c_Pas_foretoldByNeighbours_R (l : Launch) (D : va_G) (cI : ClassId) (q0 : Nat) (q1 : Nat) (q2 : Nat) (q3 : Nat) (q4 : Nat) (q5 : Nat) (q6 : Nat) (q7 : Nat) (q8 : Nat) (q9 : Nat) (q10 : Nat) (u : gU) (r : Int32) (hf : f_Pas_foretoldByNeighbours_R u = some r) : Met l y_Pas_foretoldByNeighbours (.code y_Pas_foretoldByNeighbours b_Pas_foretoldByNeighbours 3 (some .int) :: TS) ({ frames := 1, cells := 0, slots := 0, locals := 24 }) (va_Pc [.ref q0] (fun U => va_P D cls (wRdg cI q0 q1 q2 q3 q4 q5 q6 q7 q8 q9 q10 u) U.heap ∧ va_K D cls [(cI, .int)] U)) (va_Qi (fun x (_ : Unit) => x = r) (fun _ _ => True) (fun _ => False)) 0 0 (fun _ => False) := by
  refine ct_of (by decide +kernel) (Nat.le_of_ble_eq_true rfl) ?_
  intro p e s m below meth c ls hx hb hml hr hlocks hown hw hP hK hl
  have hS : va_S (fun _ => False) s.heap s.heap [] := va_S.rf
  have hl : lv_has ls 3 [(0, .ref q0)] := hl
  have hP : va_P D cls (wRdg cI q0 q1 q2 q3 q4 q5 q6 q7 q8 q9 q10 u) s.heap := hP
  unfold f_Pas_foretoldByNeighbours_R at hf
  refine lv_aload_n hx hb d_Pas_foretoldByNeighbours_0 rfl (lv_at hl 0 rfl) ?_
  refine va_get (D := D) (ci := 4) (v := .int (u 0 0)) (C := R_Rdg) (T := F_Rdg) (N := 10) hx hb hw in_Rdg hown hK hP 0 rfl rfl 3 (by decide) (hw _ m_174) (fun _ h9 => h9) rfl d_Pas_foretoldByNeighbours_1 ?_
  refine lv_aload_n hx hb d_Pas_foretoldByNeighbours_4 rfl (lv_at hl 0 rfl) ?_
  refine va_get (D := D) (ci := 4) (v := .int (u 0 1)) (C := R_Rdg) (T := F_Rdg) (N := 10) hx hb hw in_Rdg hown hK hP 0 rfl rfl 4 (by decide) (hw _ m_167) (fun _ h9 => h9) rfl d_Pas_foretoldByNeighbours_5 ?_
  refine va_mmin hx hb (hml.trans hl.1.symm) hown (hw _ m_183) (hw _ m_107) (hw _ m_87) (hw _ m_108) (Nat.le_of_ble_eq_true rfl) (Nat.le_of_ble_eq_true rfl) (Nat.le_of_ble_eq_true rfl) (Nat.le_of_ble_eq_true rfl) d_Pas_foretoldByNeighbours_8 ?_
  refine lv_topi (fun x1 e_x1 => ?_)
  have hf := tk_e hf e_x1
  refine lv_istore_n (lv' := [(1, .int x1), (0, .ref q0)]) hx hb d_Pas_foretoldByNeighbours_11 rfl hl (by decide) rfl (fun ls hl => ?_)
  refine lv_aload_n hx hb d_Pas_foretoldByNeighbours_12 rfl (lv_at hl 1 rfl) ?_
  refine va_get (D := D) (ci := 4) (v := .int (u 0 0)) (C := R_Rdg) (T := F_Rdg) (N := 10) hx hb hw in_Rdg hown hK hP 0 rfl rfl 3 (by decide) (hw _ m_174) (fun _ h9 => h9) rfl d_Pas_foretoldByNeighbours_13 ?_
  refine lv_aload_n hx hb d_Pas_foretoldByNeighbours_16 rfl (lv_at hl 1 rfl) ?_
  refine va_get (D := D) (ci := 4) (v := .int (u 0 1)) (C := R_Rdg) (T := F_Rdg) (N := 10) hx hb hw in_Rdg hown hK hP 0 rfl rfl 4 (by decide) (hw _ m_167) (fun _ h9 => h9) rfl d_Pas_foretoldByNeighbours_17 ?_
  refine va_mmax hx hb (hml.trans hl.1.symm) hown (hw _ m_184) (hw _ m_86) (hw _ m_87) (hw _ m_88) (Nat.le_of_ble_eq_true rfl) (Nat.le_of_ble_eq_true rfl) (Nat.le_of_ble_eq_true rfl) (Nat.le_of_ble_eq_true rfl) d_Pas_foretoldByNeighbours_20 ?_
  refine lv_topi (fun x2 e_x2 => ?_)
  have hf := tk_e hf e_x2
  refine lv_istore_n (lv' := [(2, .int x2), (1, .int x1), (0, .ref q0)]) hx hb d_Pas_foretoldByNeighbours_23 rfl hl (by decide) rfl (fun ls hl => ?_)
  refine lv_aload_n hx hb d_Pas_foretoldByNeighbours_24 rfl (lv_at hl 2 rfl) ?_
  refine va_get (D := D) (ci := 4) (v := .int (u 0 2)) (C := R_Rdg) (T := F_Rdg) (N := 10) hx hb hw in_Rdg hown hK hP 0 rfl rfl 5 (by decide) (hw _ m_164) (fun _ h9 => h9) rfl d_Pas_foretoldByNeighbours_25 ?_
  refine lv_iload_n hx hb d_Pas_foretoldByNeighbours_28 rfl (lv_at hl 0 rfl) ?_
  refine lv_icmp_lt (tgt := 34) hx hb d_Pas_foretoldByNeighbours_29 (by decide) (fun hc => ?_) (fun hc => ?_)
  · have hf := bq_t hf hc
    refine lv_aload_n hx hb d_Pas_foretoldByNeighbours_34 rfl (lv_at hl 2 rfl) ?_
    refine va_get (D := D) (ci := 4) (v := .int (u 0 2)) (C := R_Rdg) (T := F_Rdg) (N := 10) hx hb hw in_Rdg hown hK hP 0 rfl rfl 5 (by decide) (hw _ m_164) (fun _ h9 => h9) rfl d_Pas_foretoldByNeighbours_35 ?_
    refine lv_iload_n hx hb d_Pas_foretoldByNeighbours_38 rfl (lv_at hl 1 rfl) ?_
    refine lv_icmp_gt (tgt := 46) hx hb d_Pas_foretoldByNeighbours_39 (by decide) (fun hc => ?_) (fun hc => ?_)
    · have hf := bq_t hf hc
      refine lv_aload_n hx hb d_Pas_foretoldByNeighbours_46 rfl (lv_at hl 2 rfl) ?_
      refine va_get (D := D) (ci := 4) (v := .int (u 0 0)) (C := R_Rdg) (T := F_Rdg) (N := 10) hx hb hw in_Rdg hown hK hP 0 rfl rfl 3 (by decide) (hw _ m_174) (fun _ h9 => h9) rfl d_Pas_foretoldByNeighbours_47 ?_
      refine lv_aload_n hx hb d_Pas_foretoldByNeighbours_50 rfl (lv_at hl 2 rfl) ?_
      refine va_get (D := D) (ci := 4) (v := .int (u 0 1)) (C := R_Rdg) (T := F_Rdg) (N := 10) hx hb hw in_Rdg hown hK hP 0 rfl rfl 4 (by decide) (hw _ m_167) (fun _ h9 => h9) rfl d_Pas_foretoldByNeighbours_51 ?_
      refine lv_iadd hx hb d_Pas_foretoldByNeighbours_54 ?_
      refine lv_aload_n hx hb d_Pas_foretoldByNeighbours_55 rfl (lv_at hl 2 rfl) ?_
      refine va_get (D := D) (ci := 4) (v := .int (u 0 2)) (C := R_Rdg) (T := F_Rdg) (N := 10) hx hb hw in_Rdg hown hK hP 0 rfl rfl 5 (by decide) (hw _ m_164) (fun _ h9 => h9) rfl d_Pas_foretoldByNeighbours_56 ?_
      refine lv_isub hx hb d_Pas_foretoldByNeighbours_59 ?_
      exact rt_roi hx hb hr hlocks hS hf d_Pas_foretoldByNeighbours_60
    have hf := bq_n hf hc
    refine lv_iload_n hx hb d_Pas_foretoldByNeighbours_42 rfl (lv_at hl 0 rfl) ?_
    refine lv_goto (tgt := 60) hx hb d_Pas_foretoldByNeighbours_43 (by decide) ?_
    exact rt_roi hx hb hr hlocks hS hf d_Pas_foretoldByNeighbours_60
  have hf := bq_n hf hc
  refine lv_iload_n hx hb d_Pas_foretoldByNeighbours_32 rfl (lv_at hl 1 rfl) ?_
  exact rt_roi hx hb hr hlocks hS hf d_Pas_foretoldByNeighbours_33
def f_Pas_limitOfEnd_R (u : gU) : Option (Int32) := bd (f_Ctx_j (sb [2, 3, 4, 5, 6, 7] u)) fun x1 => some (((u 1 7) - x1) - 1)
set_option maxHeartbeats 4000000 in
set_option maxRecDepth 100000 in
theorem c_Pas_limitOfEnd_R (l : Launch) (D : va_G) (cI : ClassId) (tJ : Nat) (q0 : Nat) (q1 : Nat) (q2 : Nat) (q3 : Nat) (q4 : Nat) (q5 : Nat) (q6 : Nat) (q7 : Nat) (q8 : Nat) (q9 : Nat) (q10 : Nat) (u : gU) (r : Int32) (hf : f_Pas_limitOfEnd_R u = some r) : Met l y_Pas_limitOfEnd (.code y_Pas_limitOfEnd b_Pas_limitOfEnd 1 (some .int) :: TS) ({ frames := 1, cells := 0, slots := 0, locals := 20 }) (va_Pc [.ref q0] (fun U => va_P D cls (wRdg cI q0 q1 q2 q3 q4 q5 q6 q7 q8 q9 q10 u) U.heap ∧ va_K D cls [(cI, .int)] U ∧ Jt tJ (fun _ => False) U)) (va_Qi (fun x (_ : Unit) => x = r) (fun _ _ => True) (fun _ => False)) 0 0 (fun _ => False) := by
  refine ct_ofJ (by decide +kernel) (Nat.le_of_ble_eq_true rfl) ?_
  intro p e s m below meth c ls hx hb hml hr hlocks hown hw hP hK hJ hl
  have hS : va_S (fun _ => False) s.heap s.heap [] := va_S.rf
  have hl : lv_has ls 1 [(0, .ref q0)] := hl
  have hP : va_P D cls (wRdg cI q0 q1 q2 q3 q4 q5 q6 q7 q8 q9 q10 u) s.heap := hP
  unfold f_Pas_limitOfEnd_R at hf
  refine lv_aload_n hx hb d_Pas_limitOfEnd_0 rfl (lv_at hl 0 rfl) ?_
  refine va_get (D := D) (ci := 4) (v := .ref q1) (C := R_Rdg) (T := F_Rdg) (N := 10) hx hb hw in_Rdg hown hK hP 0 rfl rfl 0 (by decide) (hw _ m_165) (fun _ h9 => h9) rfl d_Pas_limitOfEnd_1 ?_
  refine va_get (D := D) (ci := 1) (v := .int (u 1 7)) (C := R_Pic) (T := F_Pic) (N := 11) hx hb hw in_Pic hown hK hP 1 rfl rfl 7 (by decide) (hw _ m_185) (fun _ h9 => h9) rfl d_Pas_limitOfEnd_4 ?_
  refine lv_aload_n hx hb d_Pas_limitOfEnd_7 rfl (lv_at hl 0 rfl) ?_
  refine va_get (D := D) (ci := 4) (v := .ref q2) (C := R_Rdg) (T := F_Rdg) (N := 10) hx hb hw in_Rdg hown hK hP 0 rfl rfl 1 (by decide) (hw _ m_186) (fun _ h9 => h9) rfl d_Pas_limitOfEnd_8 ?_
  have hC : [2, 3, 4, 5, 6, 7].map (fun i => (wRdg cI q0 q1 q2 q3 q4 q5 q6 q7 q8 q9 q10 u)[i]?) = (wCtx cI q2 q3 q4 q5 q6 q7 (sb [2, 3, 4, 5, 6, 7] u)).map some := rfl
  obtain ⟨x1, hc, hf⟩ := bd_o hf
  refine ro_i (va_runV (As := []) (rest := [.int (u 1 7)]) ⟨hx, hb, hml, hown, hw⟩ (c_Ctx_j l D cI tJ q2 q3 q4 q5 q6 q7 (sb [2, 3, 4, 5, 6, 7] u) x1 hc) (cwV 0 hw g_15 rfl rfl rfl (by decide +kernel) ⟨Nat.le_of_ble_eq_true rfl, Nat.le_of_ble_eq_true rfl⟩) (pre_VJ (P_sub hC hP) hK rfl rfl (Jt_call hJ hS (fun _ h => h.elim))) rfl rfl hl.1 rfl (lv_room (Nat.le_of_ble_eq_true rfl)) d_Pas_limitOfEnd_11 ⟨Nat.le_of_ble_eq_true rfl, Nat.le_of_ble_eq_true rfl⟩) hS hP (fun H locs hP hS => ?_)
  refine lv_isub hx hb d_Pas_limitOfEnd_14 ?_
  refine lv_iconst (v := 1) hx hb d_Pas_limitOfEnd_15 (by decide) ?_
  refine lv_isub hx hb d_Pas_limitOfEnd_16 ?_
  exact rt_roi hx hb hr hlocks hS hf d_Pas_limitOfEnd_17
def J_Rdg_readHead_41 (u : gU) : Option (gU ⊕ gU) := some (.inl u)
def f_Rdg_readHead (u : gU) : Option (gU ⊕ gU) := bd (f_Rea_open (u 11 0) (sb [9, 10, 12] u)) fun w1 => bx w1 (fun v2 => some (.inl (mg [9, 10, 12] 0 u v2))) fun w3 => tk (mg [9, 10, 12] 0 u w3) fun u4 => bq ((u4 10 (tc 0)) = 255) (bq ((u4 10 (tc 1)) = 216) (bd (f_Pic_fits (u4 10 (tc 2)) (u4 10 (tc 3)) (u4 10 (tc 4)) (u4 10 (tc 5))) fun x5 => bq (x5 = 0) (some (.inl u4)) (bd (f_Pic_become (u4 10 (tc 2)) (u4 10 (tc 3)) (u4 10 (tc 4)) (u4 10 (tc 5)) (sb [1] u4)) fun w6 => tk (mg [1] 0 u4 w6) fun u7 => some (.inr u7))) (J_Rdg_readHead_41  u4)) (J_Rdg_readHead_41  u4)
set_option maxHeartbeats 4000000 in
set_option maxRecDepth 100000 in
theorem c_Rdg_readHead (l : Launch) (D : va_G) (cI : ClassId) (q0 : Nat) (q1 : Nat) (q2 : Nat) (q3 : Nat) (q4 : Nat) (q5 : Nat) (q6 : Nat) (q7 : Nat) (q8 : Nat) (q9 : Nat) (q10 : Nat) (q11 : Nat) (q12 : Nat) (hd : dj [q0, q1, q2, q3, q4, q5, q6, q7, q8, q9, q10, q11, q12]) (u : gU) (v : gU) (hf : f_Rdg_readHead u = some (.inr v)) : Met l y_Rdg_readHead (.code y_Rdg_readHead b_Rdg_readHead 3 none :: TS) ({ frames := 3, cells := 0, slots := 0, locals := 70 }) (va_Pc [.ref q0, .ref q11] (fun U => va_P D cls (wRdgWri cI q0 q1 q2 q3 q4 q5 q6 q7 q8 q9 q10 q11 q12 u) U.heap ∧ va_K D cls [(cI, .int)] U)) (va_Qv (fun (_ : Unit) => True) (fun _ t => va_P D cls (wRdgWri cI q0 q1 q2 q3 q4 q5 q6 q7 q8 q9 q10 q11 q12 v) t.heap) (ad [q0, q1, q2, q3, q4, q5, q6, q7, q8, q9, q10, q11, q12])) 0 0 (ad [q0, q1, q2, q3, q4, q5, q6, q7, q8, q9, q10, q11, q12]) := by
  refine ct_of (by decide +kernel) (Nat.le_of_ble_eq_true rfl) ?_
  intro p e s m below meth c ls hx hb hml hr hlocks hown hw hP hK hl
  have hS : va_S (ad [q0, q1, q2, q3, q4, q5, q6, q7, q8, q9, q10, q11, q12]) s.heap s.heap [] := va_S.rf
  have hD : ∀ v, va_D (ad [q0, q1, q2, q3, q4, q5, q6, q7, q8, q9, q10, q11, q12]) (wRdgWri cI q0 q1 q2 q3 q4 q5 q6 q7 q8 q9 q10 q11 q12 v) := fun _ => dj_D rfl hd
  have hl : lv_has ls 3 [(0, .ref q0), (1, .ref q11)] := hl
  have hP : va_P D cls (wRdgWri cI q0 q1 q2 q3 q4 q5 q6 q7 q8 q9 q10 q11 q12 u) s.heap := hP
  have j41 : ∀ (ls : Array Slot) (H : Heap) (locs : List Loc) (u : gU), lv_has ls 3 [] → va_P D cls (wRdgWri cI q0 q1 q2 q3 q4 q5 q6 q7 q8 q9 q10 q11 q12 u) H → va_S (ad [q0, q1, q2, q3, q4, q5, q6, q7, q8, q9, q10, q11, q12]) s.heap H locs → J_Rdg_readHead_41 u = some (.inr v) → W p l e ({ frames := 3, cells := 0, slots := 0, locals := 70 }) s m [.ref q0, .ref q11].toArray below meth c H locs 0 0 (MQ below (va_Qv (fun (_ : Unit) => True) (fun _ t => va_P D cls (wRdgWri cI q0 q1 q2 q3 q4 q5 q6 q7 q8 q9 q10 q11 q12 v) t.heap) (ad [q0, q1, q2, q3, q4, q5, q6, q7, q8, q9, q10, q11, q12])) [.ref q0, .ref q11].toArray s 0 0 (ad [q0, q1, q2, q3, q4, q5, q6, q7, q8, q9, q10, q11, q12])) (F0 m 41 ls []) := by
    intro ls H locs u hl hP hS hf
    unfold J_Rdg_readHead_41 at hf
    exact xo hf
  unfold f_Rdg_readHead at hf
  refine lv_aload_n hx hb d_Rdg_readHead_0 rfl (lv_at hl 0 rfl) ?_
  refine va_get (D := D) (ci := 4) (v := .ref q9) (C := R_Rdg) (T := F_Rdg) (N := 10) hx hb hw in_Rdg hown hK hP 0 rfl rfl 9 (by decide) (hw _ m_626) (fun _ h9 => h9) rfl d_Rdg_readHead_1 ?_
  refine lv_aload_n hx hb d_Rdg_readHead_4 rfl (lv_at hl 1 rfl) ?_
  refine va_get (D := D) (ci := 5) (v := .ref q12) (C := R_Wri) (T := F_Wri) (N := 3) hx hb hw in_Wri hown hK hP 11 rfl rfl 0 (by decide) (hw _ m_627) (fun _ h9 => h9) rfl d_Rdg_readHead_5 ?_
  refine lv_aload_n hx hb d_Rdg_readHead_8 rfl (lv_at hl 1 rfl) ?_
  refine va_get (D := D) (ci := 5) (v := .int (u 11 0)) (C := R_Wri) (T := F_Wri) (N := 3) hx hb hw in_Wri hown hK hP 11 rfl rfl 1 (by decide) (hw _ m_628) (fun _ h9 => h9) rfl d_Rdg_readHead_9 ?_
  have hC : [9, 10, 12].map (fun i => (wRdgWri cI q0 q1 q2 q3 q4 q5 q6 q7 q8 q9 q10 q11 q12 u)[i]?) = (wReaArr cI q9 q10 q12 (sb [9, 10, 12] u)).map some := rfl
  obtain ⟨w1, hc, hf⟩ := bd_o hf
  rcases w1 with v2 | w3
  · have hf := bx_l hf
    exact xo hf
  have hf := bx_r hf
  refine rw_v (va_runV (As := [.ref q12, .int (u 11 0)]) (rest := []) ⟨hx, hb, hml, hown, hw⟩ (c_Rea_open l D cI q9 q10 q12 (dj_sub hd [9, 10, 12] (by decide) rfl) (u 11 0) (sb [9, 10, 12] u) w3 hc) (cwV 2 hw g_106 rfl rfl rfl (by decide +kernel) ⟨Nat.le_of_ble_eq_true rfl, Nat.le_of_ble_eq_true rfl⟩) (pre_V (P_sub hC hP) hK rfl rfl) rfl rfl hl.1 rfl (lv_room (Nat.le_of_ble_eq_true rfl)) d_Rdg_readHead_12 ⟨Nat.le_of_ble_eq_true rfl, Nat.le_of_ble_eq_true rfl⟩) hS hP (hD _) hC rfl rfl (fun H locs hP hS => ?_)
  obtain ⟨u4, e_u4, hf⟩ := tk_o hf
  have hP : va_P D cls (wRdgWri cI q0 q1 q2 q3 q4 q5 q6 q7 q8 q9 q10 q11 q12 u4) H := by rw [e_u4]; exact hP
  refine lv_aload_n hx hb d_Rdg_readHead_15 rfl (lv_at hl 0 rfl) ?_
  refine va_get (D := D) (ci := 4) (v := .ref q9) (C := R_Rdg) (T := F_Rdg) (N := 10) hx hb hw in_Rdg hown hK hP 0 rfl rfl 9 (by decide) (hw _ m_626) (fun _ h9 => h9) rfl d_Rdg_readHead_16 ?_
  refine va_get (D := D) (ci := 6) (v := .ref q10) (C := R_Rea) (T := F_Rea) (N := 4) hx hb hw in_Rea hown hK hP 9 rfl rfl 0 (by decide) (hw _ m_633) (fun _ h9 => h9) rfl d_Rdg_readHead_19 ?_
  refine lv_astore_n (lv' := [(2, .ref q10), (0, .ref q0), (1, .ref q11)]) hx hb d_Rdg_readHead_22 rfl hl (by decide) rfl (fun ls hl => ?_)
  refine lv_aload_n hx hb d_Rdg_readHead_23 rfl (lv_at hl 0 rfl) ?_
  refine lv_iconst (v := 0) hx hb d_Rdg_readHead_24 (by decide) ?_
  refine va_iald hx hb hK hP 10 0 rfl rfl (ix_in (by decide)) d_Rdg_readHead_25 ?_
  refine lv_sipush (v := 255) hx hb d_Rdg_readHead_26 (by decide) ?_
  refine lv_icmp_ne (tgt := 41) hx hb d_Rdg_readHead_29 (by decide) (fun hc => ?_) (fun hc => ?_)
  · have hf := bq_n hf hc
    exact j41 _ _ _  u4 (lv_sub hl [] rfl) hP hS hf
  have hf := bq_t hf hc
  refine lv_aload_n hx hb d_Rdg_readHead_32 rfl (lv_at hl 0 rfl) ?_
  refine lv_iconst (v := 1) hx hb d_Rdg_readHead_33 (by decide) ?_
  refine va_iald hx hb hK hP 10 0 rfl rfl (ix_in (by decide)) d_Rdg_readHead_34 ?_
  refine lv_sipush (v := 216) hx hb d_Rdg_readHead_35 (by decide) ?_
  refine lv_icmp_eq (tgt := 51) hx hb d_Rdg_readHead_38 (by decide) (fun hc => ?_) (fun hc => ?_)
  · have hf := bq_t hf hc
    refine lv_aload_n hx hb d_Rdg_readHead_51 rfl (lv_at hl 0 rfl) ?_
    refine lv_iconst (v := 2) hx hb d_Rdg_readHead_52 (by decide) ?_
    refine va_iald hx hb hK hP 10 0 rfl rfl (ix_in (by decide)) d_Rdg_readHead_53 ?_
    refine lv_aload_n hx hb d_Rdg_readHead_54 rfl (lv_at hl 0 rfl) ?_
    refine lv_iconst (v := 3) hx hb d_Rdg_readHead_55 (by decide) ?_
    refine va_iald hx hb hK hP 10 0 rfl rfl (ix_in (by decide)) d_Rdg_readHead_56 ?_
    refine lv_aload_n hx hb d_Rdg_readHead_57 rfl (lv_at hl 0 rfl) ?_
    refine lv_iconst (v := 4) hx hb d_Rdg_readHead_58 (by decide) ?_
    refine va_iald hx hb hK hP 10 0 rfl rfl (ix_in (by decide)) d_Rdg_readHead_59 ?_
    refine lv_aload_n hx hb d_Rdg_readHead_60 rfl (lv_at hl 0 rfl) ?_
    refine lv_iconst (v := 5) hx hb d_Rdg_readHead_61 (by decide) ?_
    refine va_iald hx hb hK hP 10 0 rfl rfl (ix_in (by decide)) d_Rdg_readHead_62 ?_
    have hC : ([] : List Nat).map (fun i => (wRdgWri cI q0 q1 q2 q3 q4 q5 q6 q7 q8 q9 q10 q11 q12 u4)[i]?) = ([] : va_W).map some := rfl
    obtain ⟨x5, hc, hf⟩ := bd_o hf
    refine ro_i (va_runS (As := [.int (u4 10 (tc 2)), .int (u4 10 (tc 3)), .int (u4 10 (tc 4)), .int (u4 10 (tc 5))]) (rest := []) ⟨hx, hb, hml, hown, hw⟩ (c_Pic_fits l D cI (u4 10 (tc 2)) (u4 10 (tc 3)) (u4 10 (tc 4)) (u4 10 (tc 5)) x5 hc) (va_cwS 4 hw g_107 rfl rfl rfl (by decide +kernel) ⟨Nat.le_of_ble_eq_true rfl, Nat.le_of_ble_eq_true rfl⟩) (pre_S (P_sub hC hP) hK) rfl rfl hl.1 rfl (lv_room (Nat.le_of_ble_eq_true rfl)) d_Rdg_readHead_63 ⟨Nat.le_of_ble_eq_true rfl, Nat.le_of_ble_eq_true rfl⟩) hS hP (fun H locs hP hS => ?_)
    refine lv_if_ne (tgt := 79) hx hb d_Rdg_readHead_66 (by decide) (fun hc => ?_) (fun hc => ?_)
    · have hf := bq_n hf hc
      refine lv_aload_n hx hb d_Rdg_readHead_79 rfl (lv_at hl 1 rfl) ?_
      refine va_get (D := D) (ci := 4) (v := .ref q1) (C := R_Rdg) (T := F_Rdg) (N := 10) hx hb hw in_Rdg hown hK hP 0 rfl rfl 0 (by decide) (hw _ m_635) (fun x9 h9 => u_same (hw _ m_357) x9 h9) rfl d_Rdg_readHead_80 ?_
      refine lv_aload_n hx hb d_Rdg_readHead_83 rfl (lv_at hl 0 rfl) ?_
      refine lv_iconst (v := 2) hx hb d_Rdg_readHead_84 (by decide) ?_
      refine va_iald hx hb hK hP 10 0 rfl rfl (ix_in (by decide)) d_Rdg_readHead_85 ?_
      refine lv_aload_n hx hb d_Rdg_readHead_86 rfl (lv_at hl 0 rfl) ?_
      refine lv_iconst (v := 3) hx hb d_Rdg_readHead_87 (by decide) ?_
      refine va_iald hx hb hK hP 10 0 rfl rfl (ix_in (by decide)) d_Rdg_readHead_88 ?_
      refine lv_aload_n hx hb d_Rdg_readHead_89 rfl (lv_at hl 0 rfl) ?_
      refine lv_iconst (v := 4) hx hb d_Rdg_readHead_90 (by decide) ?_
      refine va_iald hx hb hK hP 10 0 rfl rfl (ix_in (by decide)) d_Rdg_readHead_91 ?_
      refine lv_aload_n hx hb d_Rdg_readHead_92 rfl (lv_at hl 0 rfl) ?_
      refine lv_iconst (v := 5) hx hb d_Rdg_readHead_93 (by decide) ?_
      refine va_iald hx hb hK hP 10 0 rfl rfl (ix_in (by decide)) d_Rdg_readHead_94 ?_
      have hC : [1].map (fun i => (wRdgWri cI q0 q1 q2 q3 q4 q5 q6 q7 q8 q9 q10 q11 q12 u4)[i]?) = (wPic cI q1 (sb [1] u4)).map some := rfl
      obtain ⟨w6, hc, hf⟩ := bd_o hf
      refine rw_v (va_runV (As := [.int (u4 10 (tc 2)), .int (u4 10 (tc 3)), .int (u4 10 (tc 4)), .int (u4 10 (tc 5))]) (rest := []) ⟨hx, hb, hml, hown, hw⟩ (c_Pic_become l D cI q1 (dj_sub hd [1] (by decide) rfl) (u4 10 (tc 2)) (u4 10 (tc 3)) (u4 10 (tc 4)) (u4 10 (tc 5)) (sb [1] u4) w6 hc) (cwV 4 hw g_108 rfl rfl rfl (by decide +kernel) ⟨Nat.le_of_ble_eq_true rfl, Nat.le_of_ble_eq_true rfl⟩) (pre_V (P_sub hC hP) hK rfl rfl) rfl rfl hl.1 rfl (lv_room (Nat.le_of_ble_eq_true rfl)) d_Rdg_readHead_95 ⟨Nat.le_of_ble_eq_true rfl, Nat.le_of_ble_eq_true rfl⟩) hS hP (hD _) hC rfl rfl (fun H locs hP hS => ?_)
      obtain ⟨u7, e_u7, hf⟩ := tk_o hf
      have hP : va_P D cls (wRdgWri cI q0 q1 q2 q3 q4 q5 q6 q7 q8 q9 q10 q11 q12 u7) H := by rw [e_u7]; exact hP
      exact rt_v (wRdgWri cI q0 q1 q2 q3 q4 q5 q6 q7 q8 q9 q10 q11 q12) hx hb hr hlocks hS hP (sr hf) d_Rdg_readHead_98
    have hf := bq_t hf hc
    exact xo hf
  have hf := bq_n hf hc
  exact j41 _ _ _  u4 (lv_sub hl [] rfl) hP hS hf
set_option maxHeartbeats 4000000 in
set_option maxRecDepth 100000 in
theorem x_Rdg_readHead (l : Launch) (hfl : l.flags = pinnedFlags ++ [noTraceFlag]) (D : va_G) (cI : ClassId) (tJ : Nat) (q0 : Nat) (q1 : Nat) (q2 : Nat) (q3 : Nat) (q4 : Nat) (q5 : Nat) (q6 : Nat) (q7 : Nat) (q8 : Nat) (q9 : Nat) (q10 : Nat) (q11 : Nat) (q12 : Nat) (hd : dj [q0, q1, q2, q3, q4, q5, q6, q7, q8, q9, q10, q11, q12]) (u : gU) (v : gU) (hf : f_Rdg_readHead u = some (.inl v)) : MetX l y_Rdg_readHead (.code y_Rdg_readHead b_Rdg_readHead 3 none :: TS) ({ frames := 7, cells := 1, slots := 6, locals := 130 }) (va_Pc [.ref q0, .ref q11] (fun U => va_P D cls (wRdgWri cI q0 q1 q2 q3 q4 q5 q6 q7 q8 q9 q10 q11 q12 u) U.heap ∧ va_K D cls [(cI, .int)] U ∧ Jt tJ (ad [q0, q1, q2, q3, q4, q5, q6, q7, q8, q9, q10, q11, q12]) U ∧ Xt (ad [q0, q1, q2, q3, q4, q5, q6, q7, q8, q9, q10, q11, q12]) U)) D cls (wRdgWri cI q0 q1 q2 q3 q4 q5 q6 q7 q8 q9 q10 q11 q12 v) (ad [q0, q1, q2, q3, q4, q5, q6, q7, q8, q9, q10, q11, q12]) := by
  refine ct_ofX hfl (by decide +kernel) (Nat.le_of_ble_eq_true rfl) ?_
  intro p e s m below meth c ls hx hb hml hr hlocks hown hw hP hK hJ hl hX htr hout
  have hS : va_S (ad [q0, q1, q2, q3, q4, q5, q6, q7, q8, q9, q10, q11, q12]) s.heap s.heap [] := va_S.rf
  have hD : ∀ v, va_D (ad [q0, q1, q2, q3, q4, q5, q6, q7, q8, q9, q10, q11, q12]) (wRdgWri cI q0 q1 q2 q3 q4 q5 q6 q7 q8 q9 q10 q11 q12 v) := fun _ => dj_D rfl hd
  have hl : lv_has ls 3 [(0, .ref q0), (1, .ref q11)] := hl
  have hP : va_P D cls (wRdgWri cI q0 q1 q2 q3 q4 q5 q6 q7 q8 q9 q10 q11 q12 u) s.heap := hP
  have j41 : ∀ (ls : Array Slot) (H : Heap) (locs : List Loc) (u : gU), lv_has ls 3 [] → va_P D cls (wRdgWri cI q0 q1 q2 q3 q4 q5 q6 q7 q8 q9 q10 q11 q12 u) H → va_S (ad [q0, q1, q2, q3, q4, q5, q6, q7, q8, q9, q10, q11, q12]) s.heap H locs → J_Rdg_readHead_41 u = some (.inl v) → W p l e ({ frames := 7, cells := 1, slots := 6, locals := 130 }) s m [.ref q0, .ref q11].toArray below meth c H locs 0 0 (MQX below D cls (wRdgWri cI q0 q1 q2 q3 q4 q5 q6 q7 q8 q9 q10 q11 q12 v) (ad [q0, q1, q2, q3, q4, q5, q6, q7, q8, q9, q10, q11, q12]) [.ref q0, .ref q11].toArray s) (F0 m 41 ls []) := by
    intro ls H locs u hl hP hS hf
    unfold J_Rdg_readHead_41 at hf
    exact thr_new (own := R_Rdg) (tx := "the code does not begin with 255, 216") hx hb hml hl.1 hlocks htr hown hw hX hS (by rw [← sl hf]; exact hP) m_637 m_613 m_614 m_638 (List.mem_of_getElem? (i := 5) rfl) hout (Nat.le_of_ble_eq_true rfl) (Nat.le_of_ble_eq_true rfl) (Nat.le_of_ble_eq_true rfl) (Nat.le_of_ble_eq_true rfl) d_Rdg_readHead_41 d_Rdg_readHead_44 d_Rdg_readHead_45 d_Rdg_readHead_47 d_Rdg_readHead_50
  unfold f_Rdg_readHead at hf
  refine lv_aload_n hx hb d_Rdg_readHead_0 rfl (lv_at hl 0 rfl) ?_
  refine va_get (D := D) (ci := 4) (v := .ref q9) (C := R_Rdg) (T := F_Rdg) (N := 10) hx hb hw in_Rdg hown hK hP 0 rfl rfl 9 (by decide) (hw _ m_626) (fun _ h9 => h9) rfl d_Rdg_readHead_1 ?_
  refine lv_aload_n hx hb d_Rdg_readHead_4 rfl (lv_at hl 1 rfl) ?_
  refine va_get (D := D) (ci := 5) (v := .ref q12) (C := R_Wri) (T := F_Wri) (N := 3) hx hb hw in_Wri hown hK hP 11 rfl rfl 0 (by decide) (hw _ m_627) (fun _ h9 => h9) rfl d_Rdg_readHead_5 ?_
  refine lv_aload_n hx hb d_Rdg_readHead_8 rfl (lv_at hl 1 rfl) ?_
  refine va_get (D := D) (ci := 5) (v := .int (u 11 0)) (C := R_Wri) (T := F_Wri) (N := 3) hx hb hw in_Wri hown hK hP 11 rfl rfl 1 (by decide) (hw _ m_628) (fun _ h9 => h9) rfl d_Rdg_readHead_9 ?_
  have hC : [9, 10, 12].map (fun i => (wRdgWri cI q0 q1 q2 q3 q4 q5 q6 q7 q8 q9 q10 q11 q12 u)[i]?) = (wReaArr cI q9 q10 q12 (sb [9, 10, 12] u)).map some := rfl
  obtain ⟨w1, hc, hf⟩ := bd_o hf
  rcases w1 with v2 | w3
  · have hf := bx_l hf
    exact thr_V (As := [.ref q12, .int (u 11 0)]) (rest := []) ⟨hx, hb, hml, hown, hw⟩ (x_Rea_open l hfl D cI tJ q9 q10 q12 (dj_sub hd [9, 10, 12] (by decide) rfl) (u 11 0) (sb [9, 10, 12] u) v2 hc) (cwV 2 hw g_106 rfl rfl rfl (by decide +kernel) ⟨Nat.le_of_ble_eq_true rfl, Nat.le_of_ble_eq_true rfl⟩) (pre_VX (P_sub hC hP) hK rfl rfl hJ hX hS (ad_sub [9, 10, 12] rfl)) rfl hl.1 (Nat.le_of_ble_eq_true rfl) d_Rdg_readHead_12 ⟨Nat.le_of_ble_eq_true rfl, Nat.le_of_ble_eq_true rfl⟩ hlocks hout hS hP (hD _) hC rfl rfl (eq_tr (f := wRdgWri cI q0 q1 q2 q3 q4 q5 q6 q7 q8 q9 q10 q11 q12) (sl hf) rfl)
  have hf := bx_r hf
  refine rw_v (va_runV (As := [.ref q12, .int (u 11 0)]) (rest := []) ⟨hx, hb, hml, hown, hw⟩ (c_Rea_open l D cI q9 q10 q12 (dj_sub hd [9, 10, 12] (by decide) rfl) (u 11 0) (sb [9, 10, 12] u) w3 hc) (cwV 2 hw g_106 rfl rfl rfl (by decide +kernel) ⟨Nat.le_of_ble_eq_true rfl, Nat.le_of_ble_eq_true rfl⟩) (pre_V (P_sub hC hP) hK rfl rfl) rfl rfl hl.1 rfl (lv_room (Nat.le_of_ble_eq_true rfl)) d_Rdg_readHead_12 ⟨Nat.le_of_ble_eq_true rfl, Nat.le_of_ble_eq_true rfl⟩) hS hP (hD _) hC rfl rfl (fun H locs hP hS => ?_)
  obtain ⟨u4, e_u4, hf⟩ := tk_o hf
  have hP : va_P D cls (wRdgWri cI q0 q1 q2 q3 q4 q5 q6 q7 q8 q9 q10 q11 q12 u4) H := by rw [e_u4]; exact hP
  refine lv_aload_n hx hb d_Rdg_readHead_15 rfl (lv_at hl 0 rfl) ?_
  refine va_get (D := D) (ci := 4) (v := .ref q9) (C := R_Rdg) (T := F_Rdg) (N := 10) hx hb hw in_Rdg hown hK hP 0 rfl rfl 9 (by decide) (hw _ m_626) (fun _ h9 => h9) rfl d_Rdg_readHead_16 ?_
  refine va_get (D := D) (ci := 6) (v := .ref q10) (C := R_Rea) (T := F_Rea) (N := 4) hx hb hw in_Rea hown hK hP 9 rfl rfl 0 (by decide) (hw _ m_633) (fun _ h9 => h9) rfl d_Rdg_readHead_19 ?_
  refine lv_astore_n (lv' := [(2, .ref q10), (0, .ref q0), (1, .ref q11)]) hx hb d_Rdg_readHead_22 rfl hl (by decide) rfl (fun ls hl => ?_)
  refine lv_aload_n hx hb d_Rdg_readHead_23 rfl (lv_at hl 0 rfl) ?_
  refine lv_iconst (v := 0) hx hb d_Rdg_readHead_24 (by decide) ?_
  refine va_iald hx hb hK hP 10 0 rfl rfl (ix_in (by decide)) d_Rdg_readHead_25 ?_
  refine lv_sipush (v := 255) hx hb d_Rdg_readHead_26 (by decide) ?_
  refine lv_icmp_ne (tgt := 41) hx hb d_Rdg_readHead_29 (by decide) (fun hc => ?_) (fun hc => ?_)
  · have hf := bq_n hf hc
    exact j41 _ _ _  u4 (lv_sub hl [] rfl) hP hS hf
  have hf := bq_t hf hc
  refine lv_aload_n hx hb d_Rdg_readHead_32 rfl (lv_at hl 0 rfl) ?_
  refine lv_iconst (v := 1) hx hb d_Rdg_readHead_33 (by decide) ?_
  refine va_iald hx hb hK hP 10 0 rfl rfl (ix_in (by decide)) d_Rdg_readHead_34 ?_
  refine lv_sipush (v := 216) hx hb d_Rdg_readHead_35 (by decide) ?_
  refine lv_icmp_eq (tgt := 51) hx hb d_Rdg_readHead_38 (by decide) (fun hc => ?_) (fun hc => ?_)
  · have hf := bq_t hf hc
    refine lv_aload_n hx hb d_Rdg_readHead_51 rfl (lv_at hl 0 rfl) ?_
    refine lv_iconst (v := 2) hx hb d_Rdg_readHead_52 (by decide) ?_
    refine va_iald hx hb hK hP 10 0 rfl rfl (ix_in (by decide)) d_Rdg_readHead_53 ?_
    refine lv_aload_n hx hb d_Rdg_readHead_54 rfl (lv_at hl 0 rfl) ?_
    refine lv_iconst (v := 3) hx hb d_Rdg_readHead_55 (by decide) ?_
    refine va_iald hx hb hK hP 10 0 rfl rfl (ix_in (by decide)) d_Rdg_readHead_56 ?_
    refine lv_aload_n hx hb d_Rdg_readHead_57 rfl (lv_at hl 0 rfl) ?_
    refine lv_iconst (v := 4) hx hb d_Rdg_readHead_58 (by decide) ?_
    refine va_iald hx hb hK hP 10 0 rfl rfl (ix_in (by decide)) d_Rdg_readHead_59 ?_
    refine lv_aload_n hx hb d_Rdg_readHead_60 rfl (lv_at hl 0 rfl) ?_
    refine lv_iconst (v := 5) hx hb d_Rdg_readHead_61 (by decide) ?_
    refine va_iald hx hb hK hP 10 0 rfl rfl (ix_in (by decide)) d_Rdg_readHead_62 ?_
    have hC : ([] : List Nat).map (fun i => (wRdgWri cI q0 q1 q2 q3 q4 q5 q6 q7 q8 q9 q10 q11 q12 u4)[i]?) = ([] : va_W).map some := rfl
    obtain ⟨x5, hc, hf⟩ := bd_o hf
    refine ro_i (va_runS (As := [.int (u4 10 (tc 2)), .int (u4 10 (tc 3)), .int (u4 10 (tc 4)), .int (u4 10 (tc 5))]) (rest := []) ⟨hx, hb, hml, hown, hw⟩ (c_Pic_fits l D cI (u4 10 (tc 2)) (u4 10 (tc 3)) (u4 10 (tc 4)) (u4 10 (tc 5)) x5 hc) (va_cwS 4 hw g_107 rfl rfl rfl (by decide +kernel) ⟨Nat.le_of_ble_eq_true rfl, Nat.le_of_ble_eq_true rfl⟩) (pre_S (P_sub hC hP) hK) rfl rfl hl.1 rfl (lv_room (Nat.le_of_ble_eq_true rfl)) d_Rdg_readHead_63 ⟨Nat.le_of_ble_eq_true rfl, Nat.le_of_ble_eq_true rfl⟩) hS hP (fun H locs hP hS => ?_)
    refine lv_if_ne (tgt := 79) hx hb d_Rdg_readHead_66 (by decide) (fun hc => ?_) (fun hc => ?_)
    · have hf := bq_n hf hc
      refine lv_aload_n hx hb d_Rdg_readHead_79 rfl (lv_at hl 1 rfl) ?_
      refine va_get (D := D) (ci := 4) (v := .ref q1) (C := R_Rdg) (T := F_Rdg) (N := 10) hx hb hw in_Rdg hown hK hP 0 rfl rfl 0 (by decide) (hw _ m_635) (fun x9 h9 => u_same (hw _ m_357) x9 h9) rfl d_Rdg_readHead_80 ?_
      refine lv_aload_n hx hb d_Rdg_readHead_83 rfl (lv_at hl 0 rfl) ?_
      refine lv_iconst (v := 2) hx hb d_Rdg_readHead_84 (by decide) ?_
      refine va_iald hx hb hK hP 10 0 rfl rfl (ix_in (by decide)) d_Rdg_readHead_85 ?_
      refine lv_aload_n hx hb d_Rdg_readHead_86 rfl (lv_at hl 0 rfl) ?_
      refine lv_iconst (v := 3) hx hb d_Rdg_readHead_87 (by decide) ?_
      refine va_iald hx hb hK hP 10 0 rfl rfl (ix_in (by decide)) d_Rdg_readHead_88 ?_
      refine lv_aload_n hx hb d_Rdg_readHead_89 rfl (lv_at hl 0 rfl) ?_
      refine lv_iconst (v := 4) hx hb d_Rdg_readHead_90 (by decide) ?_
      refine va_iald hx hb hK hP 10 0 rfl rfl (ix_in (by decide)) d_Rdg_readHead_91 ?_
      refine lv_aload_n hx hb d_Rdg_readHead_92 rfl (lv_at hl 0 rfl) ?_
      refine lv_iconst (v := 5) hx hb d_Rdg_readHead_93 (by decide) ?_
      refine va_iald hx hb hK hP 10 0 rfl rfl (ix_in (by decide)) d_Rdg_readHead_94 ?_
      have hC : [1].map (fun i => (wRdgWri cI q0 q1 q2 q3 q4 q5 q6 q7 q8 q9 q10 q11 q12 u4)[i]?) = (wPic cI q1 (sb [1] u4)).map some := rfl
      obtain ⟨w6, hc, hf⟩ := bd_o hf
      refine rw_v (va_runV (As := [.int (u4 10 (tc 2)), .int (u4 10 (tc 3)), .int (u4 10 (tc 4)), .int (u4 10 (tc 5))]) (rest := []) ⟨hx, hb, hml, hown, hw⟩ (c_Pic_become l D cI q1 (dj_sub hd [1] (by decide) rfl) (u4 10 (tc 2)) (u4 10 (tc 3)) (u4 10 (tc 4)) (u4 10 (tc 5)) (sb [1] u4) w6 hc) (cwV 4 hw g_108 rfl rfl rfl (by decide +kernel) ⟨Nat.le_of_ble_eq_true rfl, Nat.le_of_ble_eq_true rfl⟩) (pre_V (P_sub hC hP) hK rfl rfl) rfl rfl hl.1 rfl (lv_room (Nat.le_of_ble_eq_true rfl)) d_Rdg_readHead_95 ⟨Nat.le_of_ble_eq_true rfl, Nat.le_of_ble_eq_true rfl⟩) hS hP (hD _) hC rfl rfl (fun H locs hP hS => ?_)
      obtain ⟨u7, e_u7, hf⟩ := tk_o hf
      have hP : va_P D cls (wRdgWri cI q0 q1 q2 q3 q4 q5 q6 q7 q8 q9 q10 q11 q12 u7) H := by rw [e_u7]; exact hP
      exact ox hf
    have hf := bq_t hf hc
    exact thr_new (own := R_Rdg) (tx := "a number of the picture is out of its bounds") hx hb hml hl.1 hlocks htr hown hw hX hS (by rw [← sl hf]; exact hP) m_637 m_613 m_614 m_638 (List.mem_of_getElem? (i := 6) rfl) hout (Nat.le_of_ble_eq_true rfl) (Nat.le_of_ble_eq_true rfl) (Nat.le_of_ble_eq_true rfl) (Nat.le_of_ble_eq_true rfl) d_Rdg_readHead_69 d_Rdg_readHead_72 d_Rdg_readHead_73 d_Rdg_readHead_75 d_Rdg_readHead_78
  have hf := bq_n hf hc
  exact j41 _ _ _  u4 (lv_sub hl [] rfl) hP hS hf
def f_Rdg_readRest (a1 : Int32) (a2 : Int32) (u : gU) : Option (gU ⊕ (Int32 × gU)) := bd (f_Rea_readBits a1 (sb [9, 10] u)) fun w1 => bx w1 (fun v2 => some (.inl (mg [9, 10] 0 u v2))) fun w3 => tk (mg [9, 10] 0 u w3.2) fun u4 => bq (w3.1 < a2) (some (.inr (w3.1, u4))) (some (.inl u4))
set_option maxHeartbeats 4000000 in
set_option maxRecDepth 100000 in
theorem c_Rdg_readRest (l : Launch) (D : va_G) (cI : ClassId) (q0 : Nat) (q1 : Nat) (q2 : Nat) (q3 : Nat) (q4 : Nat) (q5 : Nat) (q6 : Nat) (q7 : Nat) (q8 : Nat) (q9 : Nat) (q10 : Nat) (hd : dj [q0, q1, q2, q3, q4, q5, q6, q7, q8, q9, q10]) (a1 : Int32) (a2 : Int32) (u : gU) (r : Int32) (v : gU) (hf : f_Rdg_readRest a1 a2 u = some (.inr (r, v))) : Met l y_Rdg_readRest (.code y_Rdg_readRest b_Rdg_readRest 4 (some .int) :: TS) ({ frames := 2, cells := 0, slots := 0, locals := 44 }) (va_Pc [.ref q0, .int a1, .int a2] (fun U => va_P D cls (wRdg cI q0 q1 q2 q3 q4 q5 q6 q7 q8 q9 q10 u) U.heap ∧ va_K D cls [(cI, .int)] U)) (va_Qi (fun x (_ : Unit) => x = r) (fun _ t => va_P D cls (wRdg cI q0 q1 q2 q3 q4 q5 q6 q7 q8 q9 q10 v) t.heap) (ad [q0, q1, q2, q3, q4, q5, q6, q7, q8, q9, q10])) 0 0 (ad [q0, q1, q2, q3, q4, q5, q6, q7, q8, q9, q10]) := by
  refine ct_of (by decide +kernel) (Nat.le_of_ble_eq_true rfl) ?_
  intro p e s m below meth c ls hx hb hml hr hlocks hown hw hP hK hl
  have hS : va_S (ad [q0, q1, q2, q3, q4, q5, q6, q7, q8, q9, q10]) s.heap s.heap [] := va_S.rf
  have hD : ∀ v, va_D (ad [q0, q1, q2, q3, q4, q5, q6, q7, q8, q9, q10]) (wRdg cI q0 q1 q2 q3 q4 q5 q6 q7 q8 q9 q10 v) := fun _ => dj_D rfl hd
  have hl : lv_has ls 4 [(0, .ref q0), (1, .int a1), (2, .int a2)] := hl
  have hP : va_P D cls (wRdg cI q0 q1 q2 q3 q4 q5 q6 q7 q8 q9 q10 u) s.heap := hP
  unfold f_Rdg_readRest at hf
  refine lv_aload_n hx hb d_Rdg_readRest_0 rfl (lv_at hl 0 rfl) ?_
  refine va_get (D := D) (ci := 4) (v := .ref q9) (C := R_Rdg) (T := F_Rdg) (N := 10) hx hb hw in_Rdg hown hK hP 0 rfl rfl 9 (by decide) (hw _ m_626) (fun _ h9 => h9) rfl d_Rdg_readRest_1 ?_
  refine lv_iload_n hx hb d_Rdg_readRest_4 rfl (lv_at hl 1 rfl) ?_
  have hC : [9, 10].map (fun i => (wRdg cI q0 q1 q2 q3 q4 q5 q6 q7 q8 q9 q10 u)[i]?) = (wRea cI q9 q10 (sb [9, 10] u)).map some := rfl
  obtain ⟨w1, hc, hf⟩ := bd_o hf
  rcases w1 with v2 | w3
  · have hf := bx_l hf
    exact xo hf
  have hf := bx_r hf
  refine rw_i (va_runV (As := [.int a1]) (rest := []) ⟨hx, hb, hml, hown, hw⟩ (c_Rea_readBits l D cI q9 q10 (dj_sub hd [9, 10] (by decide) rfl) a1 (sb [9, 10] u) w3.1 w3.2 hc) (cwV 1 hw g_109 rfl rfl rfl (by decide +kernel) ⟨Nat.le_of_ble_eq_true rfl, Nat.le_of_ble_eq_true rfl⟩) (pre_V (P_sub hC hP) hK rfl rfl) rfl rfl hl.1 rfl (lv_room (Nat.le_of_ble_eq_true rfl)) d_Rdg_readRest_5 ⟨Nat.le_of_ble_eq_true rfl, Nat.le_of_ble_eq_true rfl⟩) hS hP (hD _) hC rfl rfl (fun H locs hP hS => ?_)
  obtain ⟨u4, e_u4, hf⟩ := tk_o hf
  have hP : va_P D cls (wRdg cI q0 q1 q2 q3 q4 q5 q6 q7 q8 q9 q10 u4) H := by rw [e_u4]; exact hP
  refine lv_istore_n (lv' := [(3, .int w3.1), (0, .ref q0), (1, .int a1), (2, .int a2)]) hx hb d_Rdg_readRest_8 rfl hl (by decide) rfl (fun ls hl => ?_)
  refine lv_iload_n hx hb d_Rdg_readRest_9 rfl (lv_at hl 0 rfl) ?_
  refine lv_iload_n hx hb d_Rdg_readRest_10 rfl (lv_at hl 3 rfl) ?_
  refine lv_icmp_lt (tgt := 24) hx hb d_Rdg_readRest_11 (by decide) (fun hc => ?_) (fun hc => ?_)
  · have hf := bq_t hf hc
    refine lv_iload_n hx hb d_Rdg_readRest_24 rfl (lv_at hl 0 rfl) ?_
    exact rt_i (wRdg cI q0 q1 q2 q3 q4 q5 q6 q7 q8 q9 q10) hx hb hr hlocks hS hP (sr hf) d_Rdg_readRest_25
  have hf := bq_n hf hc
  exact xo hf
set_option maxHeartbeats 4000000 in
set_option maxRecDepth 100000 in
theorem x_Rdg_readRest (l : Launch) (hfl : l.flags = pinnedFlags ++ [noTraceFlag]) (D : va_G) (cI : ClassId) (tJ : Nat) (q0 : Nat) (q1 : Nat) (q2 : Nat) (q3 : Nat) (q4 : Nat) (q5 : Nat) (q6 : Nat) (q7 : Nat) (q8 : Nat) (q9 : Nat) (q10 : Nat) (hd : dj [q0, q1, q2, q3, q4, q5, q6, q7, q8, q9, q10]) (a1 : Int32) (a2 : Int32) (u : gU) (v : gU) (hf : f_Rdg_readRest a1 a2 u = some (.inl v)) : MetX l y_Rdg_readRest (.code y_Rdg_readRest b_Rdg_readRest 4 (some .int) :: TS) ({ frames := 8, cells := 1, slots := 6, locals := 152 }) (va_Pc [.ref q0, .int a1, .int a2] (fun U => va_P D cls (wRdg cI q0 q1 q2 q3 q4 q5 q6 q7 q8 q9 q10 u) U.heap ∧ va_K D cls [(cI, .int)] U ∧ Jt tJ (ad [q0, q1, q2, q3, q4, q5, q6, q7, q8, q9, q10]) U ∧ Xt (ad [q0, q1, q2, q3, q4, q5, q6, q7, q8, q9, q10]) U)) D cls (wRdg cI q0 q1 q2 q3 q4 q5 q6 q7 q8 q9 q10 v) (ad [q0, q1, q2, q3, q4, q5, q6, q7, q8, q9, q10]) := by
  refine ct_ofX hfl (by decide +kernel) (Nat.le_of_ble_eq_true rfl) ?_
  intro p e s m below meth c ls hx hb hml hr hlocks hown hw hP hK hJ hl hX htr hout
  have hS : va_S (ad [q0, q1, q2, q3, q4, q5, q6, q7, q8, q9, q10]) s.heap s.heap [] := va_S.rf
  have hD : ∀ v, va_D (ad [q0, q1, q2, q3, q4, q5, q6, q7, q8, q9, q10]) (wRdg cI q0 q1 q2 q3 q4 q5 q6 q7 q8 q9 q10 v) := fun _ => dj_D rfl hd
  have hl : lv_has ls 4 [(0, .ref q0), (1, .int a1), (2, .int a2)] := hl
  have hP : va_P D cls (wRdg cI q0 q1 q2 q3 q4 q5 q6 q7 q8 q9 q10 u) s.heap := hP
  unfold f_Rdg_readRest at hf
  refine lv_aload_n hx hb d_Rdg_readRest_0 rfl (lv_at hl 0 rfl) ?_
  refine va_get (D := D) (ci := 4) (v := .ref q9) (C := R_Rdg) (T := F_Rdg) (N := 10) hx hb hw in_Rdg hown hK hP 0 rfl rfl 9 (by decide) (hw _ m_626) (fun _ h9 => h9) rfl d_Rdg_readRest_1 ?_
  refine lv_iload_n hx hb d_Rdg_readRest_4 rfl (lv_at hl 1 rfl) ?_
  have hC : [9, 10].map (fun i => (wRdg cI q0 q1 q2 q3 q4 q5 q6 q7 q8 q9 q10 u)[i]?) = (wRea cI q9 q10 (sb [9, 10] u)).map some := rfl
  obtain ⟨w1, hc, hf⟩ := bd_o hf
  rcases w1 with v2 | w3
  · have hf := bx_l hf
    exact thr_V (As := [.int a1]) (rest := []) ⟨hx, hb, hml, hown, hw⟩ (x_Rea_readBits l hfl D cI tJ q9 q10 (dj_sub hd [9, 10] (by decide) rfl) a1 (sb [9, 10] u) v2 hc) (cwV 1 hw g_109 rfl rfl rfl (by decide +kernel) ⟨Nat.le_of_ble_eq_true rfl, Nat.le_of_ble_eq_true rfl⟩) (pre_VX (P_sub hC hP) hK rfl rfl hJ hX hS (ad_sub [9, 10] rfl)) rfl hl.1 (Nat.le_of_ble_eq_true rfl) d_Rdg_readRest_5 ⟨Nat.le_of_ble_eq_true rfl, Nat.le_of_ble_eq_true rfl⟩ hlocks hout hS hP (hD _) hC rfl rfl (eq_tr (f := wRdg cI q0 q1 q2 q3 q4 q5 q6 q7 q8 q9 q10) (sl hf) rfl)
  have hf := bx_r hf
  refine rw_i (va_runV (As := [.int a1]) (rest := []) ⟨hx, hb, hml, hown, hw⟩ (c_Rea_readBits l D cI q9 q10 (dj_sub hd [9, 10] (by decide) rfl) a1 (sb [9, 10] u) w3.1 w3.2 hc) (cwV 1 hw g_109 rfl rfl rfl (by decide +kernel) ⟨Nat.le_of_ble_eq_true rfl, Nat.le_of_ble_eq_true rfl⟩) (pre_V (P_sub hC hP) hK rfl rfl) rfl rfl hl.1 rfl (lv_room (Nat.le_of_ble_eq_true rfl)) d_Rdg_readRest_5 ⟨Nat.le_of_ble_eq_true rfl, Nat.le_of_ble_eq_true rfl⟩) hS hP (hD _) hC rfl rfl (fun H locs hP hS => ?_)
  obtain ⟨u4, e_u4, hf⟩ := tk_o hf
  have hP : va_P D cls (wRdg cI q0 q1 q2 q3 q4 q5 q6 q7 q8 q9 q10 u4) H := by rw [e_u4]; exact hP
  refine lv_istore_n (lv' := [(3, .int w3.1), (0, .ref q0), (1, .int a1), (2, .int a2)]) hx hb d_Rdg_readRest_8 rfl hl (by decide) rfl (fun ls hl => ?_)
  refine lv_iload_n hx hb d_Rdg_readRest_9 rfl (lv_at hl 0 rfl) ?_
  refine lv_iload_n hx hb d_Rdg_readRest_10 rfl (lv_at hl 3 rfl) ?_
  refine lv_icmp_lt (tgt := 24) hx hb d_Rdg_readRest_11 (by decide) (fun hc => ?_) (fun hc => ?_)
  · have hf := bq_t hf hc
    refine lv_iload_n hx hb d_Rdg_readRest_24 rfl (lv_at hl 0 rfl) ?_
    exact ox hf
  have hf := bq_n hf hc
  exact thr_new (own := R_Rdg) (tx := "a run leaves no sample for its end") hx hb hml hl.1 hlocks htr hown hw hX hS (by rw [← sl hf]; exact hP) m_637 m_613 m_614 m_638 (List.mem_of_getElem? (i := 1) rfl) hout (Nat.le_of_ble_eq_true rfl) (Nat.le_of_ble_eq_true rfl) (Nat.le_of_ble_eq_true rfl) (Nat.le_of_ble_eq_true rfl) d_Rdg_readRest_14 d_Rdg_readRest_17 d_Rdg_readRest_18 d_Rdg_readRest_20 d_Rdg_readRest_23
def L_Rdg_carryRun_2 : Nat → Int32 → Int32 → gU → Option (gU ⊕ (Int32 × gU))
  | 0, _, _, _ => none
  | n + 1, l2, l3, u => bq (l2 ≤ l3) (some (.inr (l3, u))) (bd (f_Ctx_j (sb [2, 3, 4, 5, 6, 7] u)) fun x1 => bd (f_Rea_readBit (sb [9, 10] u)) fun w2 => bx w2 (fun v3 => some (.inl (mg [9, 10] 0 u v3))) fun w4 => tk (mg [9, 10] 0 u w4.2) fun u5 => bq (w4.1 = 0) (bd (f_Rdg_readRest x1 (l2 - l3) u5) fun w9 => bx w9 (fun v10 => some (.inl (v10))) fun w11 => tk (w11.2) fun u12 => some (.inr (l3 + w11.1, u12))) (bq ((l2 - l3) < (1 <<< (x1 &&& 31))) ((L_Rdg_carryRun_2 n) l2 l2 u5) (tk (l3 + (1 <<< (x1 &&& 31))) fun x6 => bd (f_Ctx_raiseRunIndex (sb [2, 3, 4, 5, 6, 7] u5)) fun w7 => tk (mg [2, 3, 4, 5, 6, 7] 0 u5 w7) fun u8 => (L_Rdg_carryRun_2 n) l2 x6 u8)))
theorem L_Rdg_carryRun_2_z (l2 : Int32) (l3 : Int32) (u : gU) : L_Rdg_carryRun_2 0 l2 l3 u = none := rfl
theorem L_Rdg_carryRun_2_s (n : Nat) (l2 : Int32) (l3 : Int32) (u : gU) : L_Rdg_carryRun_2 (n + 1) l2 l3 u = bq (l2 ≤ l3) (some (.inr (l3, u))) (bd (f_Ctx_j (sb [2, 3, 4, 5, 6, 7] u)) fun x1 => bd (f_Rea_readBit (sb [9, 10] u)) fun w2 => bx w2 (fun v3 => some (.inl (mg [9, 10] 0 u v3))) fun w4 => tk (mg [9, 10] 0 u w4.2) fun u5 => bq (w4.1 = 0) (bd (f_Rdg_readRest x1 (l2 - l3) u5) fun w9 => bx w9 (fun v10 => some (.inl (v10))) fun w11 => tk (w11.2) fun u12 => some (.inr (l3 + w11.1, u12))) (bq ((l2 - l3) < (1 <<< (x1 &&& 31))) ((L_Rdg_carryRun_2 n) l2 l2 u5) (tk (l3 + (1 <<< (x1 &&& 31))) fun x6 => bd (f_Ctx_raiseRunIndex (sb [2, 3, 4, 5, 6, 7] u5)) fun w7 => tk (mg [2, 3, 4, 5, 6, 7] 0 u5 w7) fun u8 => (L_Rdg_carryRun_2 n) l2 x6 u8))) := rfl
def f_Rdg_carryRun (a1 : Int32) (a2 : Int32) (u : gU) : Option (gU ⊕ (Int32 × gU)) := L_Rdg_carryRun_2 100 a2 0 u
set_option maxHeartbeats 4000000 in
set_option maxRecDepth 100000 in
theorem c_Rdg_carryRun (l : Launch) (D : va_G) (cI : ClassId) (tJ : Nat) (q0 : Nat) (q1 : Nat) (q2 : Nat) (q3 : Nat) (q4 : Nat) (q5 : Nat) (q6 : Nat) (q7 : Nat) (q8 : Nat) (q9 : Nat) (q10 : Nat) (hd : dj [q0, q1, q2, q3, q4, q5, q6, q7, q8, q9, q10]) (a1 : Int32) (a2 : Int32) (u : gU) (r : Int32) (v : gU) (hf : f_Rdg_carryRun a1 a2 u = some (.inr (r, v))) : Met l y_Rdg_carryRun (.code y_Rdg_carryRun b_Rdg_carryRun 5 (some .int) :: TS) ({ frames := 3, cells := 0, slots := 0, locals := 67 }) (va_Pc [.ref q0, .int a1, .int a2] (fun U => va_P D cls (wRdg cI q0 q1 q2 q3 q4 q5 q6 q7 q8 q9 q10 u) U.heap ∧ va_K D cls [(cI, .int)] U ∧ Jt tJ (ad [q0, q1, q2, q3, q4, q5, q6, q7, q8, q9, q10]) U)) (va_Qi (fun x (_ : Unit) => x = r) (fun _ t => va_P D cls (wRdg cI q0 q1 q2 q3 q4 q5 q6 q7 q8 q9 q10 v) t.heap) (ad [q0, q1, q2, q3, q4, q5, q6, q7, q8, q9, q10])) 0 0 (ad [q0, q1, q2, q3, q4, q5, q6, q7, q8, q9, q10]) := by
  refine ct_ofJ (by decide +kernel) (Nat.le_of_ble_eq_true rfl) ?_
  intro p e s m below meth c ls hx hb hml hr hlocks hown hw hP hK hJ hl
  have hS : va_S (ad [q0, q1, q2, q3, q4, q5, q6, q7, q8, q9, q10]) s.heap s.heap [] := va_S.rf
  have hD : ∀ v, va_D (ad [q0, q1, q2, q3, q4, q5, q6, q7, q8, q9, q10]) (wRdg cI q0 q1 q2 q3 q4 q5 q6 q7 q8 q9 q10 v) := fun _ => dj_D rfl hd
  have hl : lv_has ls 5 [(0, .ref q0), (1, .int a1), (2, .int a2)] := hl
  have hP : va_P D cls (wRdg cI q0 q1 q2 q3 q4 q5 q6 q7 q8 q9 q10 u) s.heap := hP
  have lp2 : ∀ (n2 : Nat), ∀ (ls : Array Slot) (H : Heap) (locs : List Loc) (l2 : Int32) (l3 : Int32) (u : gU), lv_has ls 5 [(0, .ref q0), (2, .int l2), (3, .int l3)] → va_P D cls (wRdg cI q0 q1 q2 q3 q4 q5 q6 q7 q8 q9 q10 u) H → va_S (ad [q0, q1, q2, q3, q4, q5, q6, q7, q8, q9, q10]) s.heap H locs → L_Rdg_carryRun_2 n2 l2 l3 u = some (.inr (r, v)) → W p l e ({ frames := 3, cells := 0, slots := 0, locals := 67 }) s m [.ref q0, .int a1, .int a2].toArray below meth c H locs 0 0 (MQ below (va_Qi (fun x (_ : Unit) => x = r) (fun _ t => va_P D cls (wRdg cI q0 q1 q2 q3 q4 q5 q6 q7 q8 q9 q10 v) t.heap) (ad [q0, q1, q2, q3, q4, q5, q6, q7, q8, q9, q10])) [.ref q0, .int a1, .int a2].toArray s 0 0 (ad [q0, q1, q2, q3, q4, q5, q6, q7, q8, q9, q10])) (F0 m 2 ls []) := by
    intro n2
    induction n2 with
    | zero =>
      intro ls H locs l2 l3 u hl hP hS hf
      rw [L_Rdg_carryRun_2_z] at hf
      cases hf
    | succ n2 ih2 =>
      intro ls H locs l2 l3 u hl hP hS hf
      rw [L_Rdg_carryRun_2_s] at hf
      refine lv_iload_n hx hb d_Rdg_carryRun_2 rfl (lv_at hl 2 rfl) ?_
      refine lv_iload_n hx hb d_Rdg_carryRun_3 rfl (lv_at hl 1 rfl) ?_
      refine lv_icmp_ge (tgt := 70) hx hb d_Rdg_carryRun_4 (by decide) (fun hc => ?_) (fun hc => ?_)
      · have hf := bq_t hf hc
        refine lv_iload_n hx hb d_Rdg_carryRun_70 rfl (lv_at hl 2 rfl) ?_
        exact rt_i (wRdg cI q0 q1 q2 q3 q4 q5 q6 q7 q8 q9 q10) hx hb hr hlocks hS hP (sr hf) d_Rdg_carryRun_71
      have hf := bq_n hf hc
      refine lv_aload_n hx hb d_Rdg_carryRun_7 rfl (lv_at hl 0 rfl) ?_
      refine va_get (D := D) (ci := 4) (v := .ref q2) (C := R_Rdg) (T := F_Rdg) (N := 10) hx hb hw in_Rdg hown hK hP 0 rfl rfl 1 (by decide) (hw _ m_640) (fun x9 h9 => u_same (hw _ m_359) x9 h9) rfl d_Rdg_carryRun_8 ?_
      have hC : [2, 3, 4, 5, 6, 7].map (fun i => (wRdg cI q0 q1 q2 q3 q4 q5 q6 q7 q8 q9 q10 u)[i]?) = (wCtx cI q2 q3 q4 q5 q6 q7 (sb [2, 3, 4, 5, 6, 7] u)).map some := rfl
      obtain ⟨x1, hc, hf⟩ := bd_o hf
      refine ro_i (va_runV (As := []) (rest := []) ⟨hx, hb, hml, hown, hw⟩ (c_Ctx_j l D cI tJ q2 q3 q4 q5 q6 q7 (sb [2, 3, 4, 5, 6, 7] u) x1 hc) (cwV 0 hw g_110 rfl rfl rfl (by decide +kernel) ⟨Nat.le_of_ble_eq_true rfl, Nat.le_of_ble_eq_true rfl⟩) (pre_VJ (P_sub hC hP) hK rfl rfl (Jt_call hJ hS (fun _ h => h.elim))) rfl rfl hl.1 rfl (lv_room (Nat.le_of_ble_eq_true rfl)) d_Rdg_carryRun_11 ⟨Nat.le_of_ble_eq_true rfl, Nat.le_of_ble_eq_true rfl⟩) hS hP (fun H locs hP hS => ?_)
      refine lv_istore (lv' := [(4, .int x1), (0, .ref q0), (2, .int l2), (3, .int l3)]) hx hb d_Rdg_carryRun_14 hl (by decide) rfl (fun ls hl => ?_)
      refine lv_aload_n hx hb d_Rdg_carryRun_16 rfl (lv_at hl 1 rfl) ?_
      refine va_get (D := D) (ci := 4) (v := .ref q9) (C := R_Rdg) (T := F_Rdg) (N := 10) hx hb hw in_Rdg hown hK hP 0 rfl rfl 9 (by decide) (hw _ m_626) (fun _ h9 => h9) rfl d_Rdg_carryRun_17 ?_
      have hC : [9, 10].map (fun i => (wRdg cI q0 q1 q2 q3 q4 q5 q6 q7 q8 q9 q10 u)[i]?) = (wRea cI q9 q10 (sb [9, 10] u)).map some := rfl
      obtain ⟨w2, hc, hf⟩ := bd_o hf
      rcases w2 with v3 | w4
      · have hf := bx_l hf
        exact xo hf
      have hf := bx_r hf
      refine rw_i (va_runV (As := []) (rest := []) ⟨hx, hb, hml, hown, hw⟩ (c_Rea_readBit l D cI q9 q10 (dj_sub hd [9, 10] (by decide) rfl) (sb [9, 10] u) w4.1 w4.2 hc) (cwV 0 hw g_111 rfl rfl rfl (by decide +kernel) ⟨Nat.le_of_ble_eq_true rfl, Nat.le_of_ble_eq_true rfl⟩) (pre_V (P_sub hC hP) hK rfl rfl) rfl rfl hl.1 rfl (lv_room (Nat.le_of_ble_eq_true rfl)) d_Rdg_carryRun_20 ⟨Nat.le_of_ble_eq_true rfl, Nat.le_of_ble_eq_true rfl⟩) hS hP (hD _) hC rfl rfl (fun H locs hP hS => ?_)
      obtain ⟨u5, e_u5, hf⟩ := tk_o hf
      have hP : va_P D cls (wRdg cI q0 q1 q2 q3 q4 q5 q6 q7 q8 q9 q10 u5) H := by rw [e_u5]; exact hP
      refine lv_if_ne (tgt := 38) hx hb d_Rdg_carryRun_23 (by decide) (fun hc => ?_) (fun hc => ?_)
      · have hf := bq_n hf hc
        refine lv_iconst (v := 1) hx hb d_Rdg_carryRun_38 (by decide) ?_
        refine lv_iload hx hb d_Rdg_carryRun_39 (lv_at hl 0 rfl) ?_
        refine lv_ishl hx hb d_Rdg_carryRun_41 ?_
        refine lv_iload_n hx hb d_Rdg_carryRun_42 rfl (lv_at hl 2 rfl) ?_
        refine lv_iload_n hx hb d_Rdg_carryRun_43 rfl (lv_at hl 3 rfl) ?_
        refine lv_isub hx hb d_Rdg_carryRun_44 ?_
        refine lv_icmp_gt (tgt := 65) hx hb d_Rdg_carryRun_45 (by decide) (fun hc => ?_) (fun hc => ?_)
        · have hf := bq_t hf hc
          refine lv_iload_n hx hb d_Rdg_carryRun_65 rfl (lv_at hl 2 rfl) ?_
          refine lv_istore_n (lv' := [(3, .int l2), (4, .int x1), (0, .ref q0), (2, .int l2)]) hx hb d_Rdg_carryRun_66 rfl hl (by decide) rfl (fun ls hl => ?_)
          refine lv_goto (tgt := 2) hx hb d_Rdg_carryRun_67 (by decide) ?_
          exact ih2 _ _ _ l2 l2 u5 (lv_sub hl [2, 3, 0] rfl) hP hS hf
        have hf := bq_n hf hc
        refine lv_iload_n hx hb d_Rdg_carryRun_48 rfl (lv_at hl 3 rfl) ?_
        refine lv_iconst (v := 1) hx hb d_Rdg_carryRun_49 (by decide) ?_
        refine lv_iload hx hb d_Rdg_carryRun_50 (lv_at hl 0 rfl) ?_
        refine lv_ishl hx hb d_Rdg_carryRun_52 ?_
        refine lv_iadd hx hb d_Rdg_carryRun_53 ?_
        refine lv_topi (fun x6 e_x6 => ?_)
        have hf := tk_e hf e_x6
        refine lv_istore_n (lv' := [(3, .int x6), (4, .int x1), (0, .ref q0), (2, .int l2)]) hx hb d_Rdg_carryRun_54 rfl hl (by decide) rfl (fun ls hl => ?_)
        refine lv_aload_n hx hb d_Rdg_carryRun_55 rfl (lv_at hl 2 rfl) ?_
        refine va_get (D := D) (ci := 4) (v := .ref q2) (C := R_Rdg) (T := F_Rdg) (N := 10) hx hb hw in_Rdg hown hK hP 0 rfl rfl 1 (by decide) (hw _ m_640) (fun x9 h9 => u_same (hw _ m_359) x9 h9) rfl d_Rdg_carryRun_56 ?_
        have hC : [2, 3, 4, 5, 6, 7].map (fun i => (wRdg cI q0 q1 q2 q3 q4 q5 q6 q7 q8 q9 q10 u5)[i]?) = (wCtx cI q2 q3 q4 q5 q6 q7 (sb [2, 3, 4, 5, 6, 7] u5)).map some := rfl
        obtain ⟨w7, hc, hf⟩ := bd_o hf
        refine rw_v (va_runV (As := []) (rest := []) ⟨hx, hb, hml, hown, hw⟩ (c_Ctx_raiseRunIndex l D cI q2 q3 q4 q5 q6 q7 (dj_sub hd [2, 3, 4, 5, 6, 7] (by decide) rfl) (sb [2, 3, 4, 5, 6, 7] u5) w7 hc) (cwV 0 hw g_112 rfl rfl rfl (by decide +kernel) ⟨Nat.le_of_ble_eq_true rfl, Nat.le_of_ble_eq_true rfl⟩) (pre_V (P_sub hC hP) hK rfl rfl) rfl rfl hl.1 rfl (lv_room (Nat.le_of_ble_eq_true rfl)) d_Rdg_carryRun_59 ⟨Nat.le_of_ble_eq_true rfl, Nat.le_of_ble_eq_true rfl⟩) hS hP (hD _) hC rfl rfl (fun H locs hP hS => ?_)
        obtain ⟨u8, e_u8, hf⟩ := tk_o hf
        have hP : va_P D cls (wRdg cI q0 q1 q2 q3 q4 q5 q6 q7 q8 q9 q10 u8) H := by rw [e_u8]; exact hP
        refine lv_goto (tgt := 67) hx hb d_Rdg_carryRun_62 (by decide) ?_
        refine lv_goto (tgt := 2) hx hb d_Rdg_carryRun_67 (by decide) ?_
        exact ih2 _ _ _ l2 x6 u8 (lv_sub hl [2, 3, 0] rfl) hP hS hf
      have hf := bq_t hf hc
      refine lv_iload_n hx hb d_Rdg_carryRun_26 rfl (lv_at hl 3 rfl) ?_
      refine lv_aload_n hx hb d_Rdg_carryRun_27 rfl (lv_at hl 1 rfl) ?_
      refine lv_iload hx hb d_Rdg_carryRun_28 (lv_at hl 0 rfl) ?_
      refine lv_iload_n hx hb d_Rdg_carryRun_30 rfl (lv_at hl 2 rfl) ?_
      refine lv_iload_n hx hb d_Rdg_carryRun_31 rfl (lv_at hl 3 rfl) ?_
      refine lv_isub hx hb d_Rdg_carryRun_32 ?_
      have hC : [0, 1, 2, 3, 4, 5, 6, 7, 8, 9, 10].map (fun i => (wRdg cI q0 q1 q2 q3 q4 q5 q6 q7 q8 q9 q10 u5)[i]?) = (wRdg cI q0 q1 q2 q3 q4 q5 q6 q7 q8 q9 q10 u5).map some := rfl
      obtain ⟨w9, hc, hf⟩ := bd_o hf
      rcases w9 with v10 | w11
      · have hf := bx_l hf
        exact xo hf
      have hf := bx_r hf
      refine rw_i (va_runV (As := [.int x1, .int (l2 - l3)]) (rest := [.int l3]) ⟨hx, hb, hml, hown, hw⟩ (c_Rdg_readRest l D cI q0 q1 q2 q3 q4 q5 q6 q7 q8 q9 q10 (dj_sub hd [0, 1, 2, 3, 4, 5, 6, 7, 8, 9, 10] (by decide) rfl) x1 (l2 - l3) u5 w11.1 w11.2 hc) (cwV 2 hw g_113 rfl rfl rfl (by decide +kernel) ⟨Nat.le_of_ble_eq_true rfl, Nat.le_of_ble_eq_true rfl⟩) (pre_V (P_sub hC hP) hK rfl rfl) rfl rfl hl.1 rfl (lv_room (Nat.le_of_ble_eq_true rfl)) d_Rdg_carryRun_33 ⟨Nat.le_of_ble_eq_true rfl, Nat.le_of_ble_eq_true rfl⟩) hS hP (hD _) hC rfl rfl (fun H locs hP hS => ?_)
      obtain ⟨u12, e_u12, hf⟩ := tk_o hf
      have hP : va_P D cls (wRdg cI q0 q1 q2 q3 q4 q5 q6 q7 q8 q9 q10 u12) H := by rw [e_u12]; exact hP
      refine lv_iadd hx hb d_Rdg_carryRun_36 ?_
      exact rt_i (wRdg cI q0 q1 q2 q3 q4 q5 q6 q7 q8 q9 q10) hx hb hr hlocks hS hP (sr hf) d_Rdg_carryRun_37
  unfold f_Rdg_carryRun at hf
  refine lv_iconst (v := 0) hx hb d_Rdg_carryRun_0 (by decide) ?_
  refine lv_istore_n (lv' := [(3, .int 0), (0, .ref q0), (1, .int a1), (2, .int a2)]) hx hb d_Rdg_carryRun_1 rfl hl (by decide) rfl (fun ls hl => ?_)
  exact lp2 100 _ _ _ a2 0 u (lv_sub hl [1, 3, 0] rfl) hP hS hf
set_option maxHeartbeats 4000000 in
set_option maxRecDepth 100000 in
theorem x_Rdg_carryRun (l : Launch) (hfl : l.flags = pinnedFlags ++ [noTraceFlag]) (D : va_G) (cI : ClassId) (tJ : Nat) (q0 : Nat) (q1 : Nat) (q2 : Nat) (q3 : Nat) (q4 : Nat) (q5 : Nat) (q6 : Nat) (q7 : Nat) (q8 : Nat) (q9 : Nat) (q10 : Nat) (hd : dj [q0, q1, q2, q3, q4, q5, q6, q7, q8, q9, q10]) (a1 : Int32) (a2 : Int32) (u : gU) (v : gU) (hf : f_Rdg_carryRun a1 a2 u = some (.inl v)) : MetX l y_Rdg_carryRun (.code y_Rdg_carryRun b_Rdg_carryRun 5 (some .int) :: TS) ({ frames := 9, cells := 1, slots := 6, locals := 175 }) (va_Pc [.ref q0, .int a1, .int a2] (fun U => va_P D cls (wRdg cI q0 q1 q2 q3 q4 q5 q6 q7 q8 q9 q10 u) U.heap ∧ va_K D cls [(cI, .int)] U ∧ Jt tJ (ad [q0, q1, q2, q3, q4, q5, q6, q7, q8, q9, q10]) U ∧ Xt (ad [q0, q1, q2, q3, q4, q5, q6, q7, q8, q9, q10]) U)) D cls (wRdg cI q0 q1 q2 q3 q4 q5 q6 q7 q8 q9 q10 v) (ad [q0, q1, q2, q3, q4, q5, q6, q7, q8, q9, q10]) := by
  refine ct_ofX hfl (by decide +kernel) (Nat.le_of_ble_eq_true rfl) ?_
  intro p e s m below meth c ls hx hb hml hr hlocks hown hw hP hK hJ hl hX htr hout
  have hS : va_S (ad [q0, q1, q2, q3, q4, q5, q6, q7, q8, q9, q10]) s.heap s.heap [] := va_S.rf
  have hD : ∀ v, va_D (ad [q0, q1, q2, q3, q4, q5, q6, q7, q8, q9, q10]) (wRdg cI q0 q1 q2 q3 q4 q5 q6 q7 q8 q9 q10 v) := fun _ => dj_D rfl hd
  have hl : lv_has ls 5 [(0, .ref q0), (1, .int a1), (2, .int a2)] := hl
  have hP : va_P D cls (wRdg cI q0 q1 q2 q3 q4 q5 q6 q7 q8 q9 q10 u) s.heap := hP
  have lp2 : ∀ (n2 : Nat), ∀ (ls : Array Slot) (H : Heap) (locs : List Loc) (l2 : Int32) (l3 : Int32) (u : gU), lv_has ls 5 [(0, .ref q0), (2, .int l2), (3, .int l3)] → va_P D cls (wRdg cI q0 q1 q2 q3 q4 q5 q6 q7 q8 q9 q10 u) H → va_S (ad [q0, q1, q2, q3, q4, q5, q6, q7, q8, q9, q10]) s.heap H locs → L_Rdg_carryRun_2 n2 l2 l3 u = some (.inl v) → W p l e ({ frames := 9, cells := 1, slots := 6, locals := 175 }) s m [.ref q0, .int a1, .int a2].toArray below meth c H locs 0 0 (MQX below D cls (wRdg cI q0 q1 q2 q3 q4 q5 q6 q7 q8 q9 q10 v) (ad [q0, q1, q2, q3, q4, q5, q6, q7, q8, q9, q10]) [.ref q0, .int a1, .int a2].toArray s) (F0 m 2 ls []) := by
    intro n2
    induction n2 with
    | zero =>
      intro ls H locs l2 l3 u hl hP hS hf
      rw [L_Rdg_carryRun_2_z] at hf
      cases hf
    | succ n2 ih2 =>
      intro ls H locs l2 l3 u hl hP hS hf
      rw [L_Rdg_carryRun_2_s] at hf
      refine lv_iload_n hx hb d_Rdg_carryRun_2 rfl (lv_at hl 2 rfl) ?_
      refine lv_iload_n hx hb d_Rdg_carryRun_3 rfl (lv_at hl 1 rfl) ?_
      refine lv_icmp_ge (tgt := 70) hx hb d_Rdg_carryRun_4 (by decide) (fun hc => ?_) (fun hc => ?_)
      · have hf := bq_t hf hc
        refine lv_iload_n hx hb d_Rdg_carryRun_70 rfl (lv_at hl 2 rfl) ?_
        exact ox hf
      have hf := bq_n hf hc
      refine lv_aload_n hx hb d_Rdg_carryRun_7 rfl (lv_at hl 0 rfl) ?_
      refine va_get (D := D) (ci := 4) (v := .ref q2) (C := R_Rdg) (T := F_Rdg) (N := 10) hx hb hw in_Rdg hown hK hP 0 rfl rfl 1 (by decide) (hw _ m_640) (fun x9 h9 => u_same (hw _ m_359) x9 h9) rfl d_Rdg_carryRun_8 ?_
      have hC : [2, 3, 4, 5, 6, 7].map (fun i => (wRdg cI q0 q1 q2 q3 q4 q5 q6 q7 q8 q9 q10 u)[i]?) = (wCtx cI q2 q3 q4 q5 q6 q7 (sb [2, 3, 4, 5, 6, 7] u)).map some := rfl
      obtain ⟨x1, hc, hf⟩ := bd_o hf
      refine ro_i (va_runV (As := []) (rest := []) ⟨hx, hb, hml, hown, hw⟩ (c_Ctx_j l D cI tJ q2 q3 q4 q5 q6 q7 (sb [2, 3, 4, 5, 6, 7] u) x1 hc) (cwV 0 hw g_110 rfl rfl rfl (by decide +kernel) ⟨Nat.le_of_ble_eq_true rfl, Nat.le_of_ble_eq_true rfl⟩) (pre_VJ (P_sub hC hP) hK rfl rfl (Jt_call hJ hS (fun _ h => h.elim))) rfl rfl hl.1 rfl (lv_room (Nat.le_of_ble_eq_true rfl)) d_Rdg_carryRun_11 ⟨Nat.le_of_ble_eq_true rfl, Nat.le_of_ble_eq_true rfl⟩) hS hP (fun H locs hP hS => ?_)
      refine lv_istore (lv' := [(4, .int x1), (0, .ref q0), (2, .int l2), (3, .int l3)]) hx hb d_Rdg_carryRun_14 hl (by decide) rfl (fun ls hl => ?_)
      refine lv_aload_n hx hb d_Rdg_carryRun_16 rfl (lv_at hl 1 rfl) ?_
      refine va_get (D := D) (ci := 4) (v := .ref q9) (C := R_Rdg) (T := F_Rdg) (N := 10) hx hb hw in_Rdg hown hK hP 0 rfl rfl 9 (by decide) (hw _ m_626) (fun _ h9 => h9) rfl d_Rdg_carryRun_17 ?_
      have hC : [9, 10].map (fun i => (wRdg cI q0 q1 q2 q3 q4 q5 q6 q7 q8 q9 q10 u)[i]?) = (wRea cI q9 q10 (sb [9, 10] u)).map some := rfl
      obtain ⟨w2, hc, hf⟩ := bd_o hf
      rcases w2 with v3 | w4
      · have hf := bx_l hf
        exact thr_V (As := []) (rest := []) ⟨hx, hb, hml, hown, hw⟩ (x_Rea_readBit l hfl D cI tJ q9 q10 (dj_sub hd [9, 10] (by decide) rfl) (sb [9, 10] u) v3 hc) (cwV 0 hw g_111 rfl rfl rfl (by decide +kernel) ⟨Nat.le_of_ble_eq_true rfl, Nat.le_of_ble_eq_true rfl⟩) (pre_VX (P_sub hC hP) hK rfl rfl hJ hX hS (ad_sub [9, 10] rfl)) rfl hl.1 (Nat.le_of_ble_eq_true rfl) d_Rdg_carryRun_20 ⟨Nat.le_of_ble_eq_true rfl, Nat.le_of_ble_eq_true rfl⟩ hlocks hout hS hP (hD _) hC rfl rfl (eq_tr (f := wRdg cI q0 q1 q2 q3 q4 q5 q6 q7 q8 q9 q10) (sl hf) rfl)
      have hf := bx_r hf
      refine rw_i (va_runV (As := []) (rest := []) ⟨hx, hb, hml, hown, hw⟩ (c_Rea_readBit l D cI q9 q10 (dj_sub hd [9, 10] (by decide) rfl) (sb [9, 10] u) w4.1 w4.2 hc) (cwV 0 hw g_111 rfl rfl rfl (by decide +kernel) ⟨Nat.le_of_ble_eq_true rfl, Nat.le_of_ble_eq_true rfl⟩) (pre_V (P_sub hC hP) hK rfl rfl) rfl rfl hl.1 rfl (lv_room (Nat.le_of_ble_eq_true rfl)) d_Rdg_carryRun_20 ⟨Nat.le_of_ble_eq_true rfl, Nat.le_of_ble_eq_true rfl⟩) hS hP (hD _) hC rfl rfl (fun H locs hP hS => ?_)
      obtain ⟨u5, e_u5, hf⟩ := tk_o hf
      have hP : va_P D cls (wRdg cI q0 q1 q2 q3 q4 q5 q6 q7 q8 q9 q10 u5) H := by rw [e_u5]; exact hP
      refine lv_if_ne (tgt := 38) hx hb d_Rdg_carryRun_23 (by decide) (fun hc => ?_) (fun hc => ?_)
      · have hf := bq_n hf hc
        refine lv_iconst (v := 1) hx hb d_Rdg_carryRun_38 (by decide) ?_
        refine lv_iload hx hb d_Rdg_carryRun_39 (lv_at hl 0 rfl) ?_
        refine lv_ishl hx hb d_Rdg_carryRun_41 ?_
        refine lv_iload_n hx hb d_Rdg_carryRun_42 rfl (lv_at hl 2 rfl) ?_
        refine lv_iload_n hx hb d_Rdg_carryRun_43 rfl (lv_at hl 3 rfl) ?_
        refine lv_isub hx hb d_Rdg_carryRun_44 ?_
        refine lv_icmp_gt (tgt := 65) hx hb d_Rdg_carryRun_45 (by decide) (fun hc => ?_) (fun hc => ?_)
        · have hf := bq_t hf hc
          refine lv_iload_n hx hb d_Rdg_carryRun_65 rfl (lv_at hl 2 rfl) ?_
          refine lv_istore_n (lv' := [(3, .int l2), (4, .int x1), (0, .ref q0), (2, .int l2)]) hx hb d_Rdg_carryRun_66 rfl hl (by decide) rfl (fun ls hl => ?_)
          refine lv_goto (tgt := 2) hx hb d_Rdg_carryRun_67 (by decide) ?_
          exact ih2 _ _ _ l2 l2 u5 (lv_sub hl [2, 3, 0] rfl) hP hS hf
        have hf := bq_n hf hc
        refine lv_iload_n hx hb d_Rdg_carryRun_48 rfl (lv_at hl 3 rfl) ?_
        refine lv_iconst (v := 1) hx hb d_Rdg_carryRun_49 (by decide) ?_
        refine lv_iload hx hb d_Rdg_carryRun_50 (lv_at hl 0 rfl) ?_
        refine lv_ishl hx hb d_Rdg_carryRun_52 ?_
        refine lv_iadd hx hb d_Rdg_carryRun_53 ?_
        refine lv_topi (fun x6 e_x6 => ?_)
        have hf := tk_e hf e_x6
        refine lv_istore_n (lv' := [(3, .int x6), (4, .int x1), (0, .ref q0), (2, .int l2)]) hx hb d_Rdg_carryRun_54 rfl hl (by decide) rfl (fun ls hl => ?_)
        refine lv_aload_n hx hb d_Rdg_carryRun_55 rfl (lv_at hl 2 rfl) ?_
        refine va_get (D := D) (ci := 4) (v := .ref q2) (C := R_Rdg) (T := F_Rdg) (N := 10) hx hb hw in_Rdg hown hK hP 0 rfl rfl 1 (by decide) (hw _ m_640) (fun x9 h9 => u_same (hw _ m_359) x9 h9) rfl d_Rdg_carryRun_56 ?_
        have hC : [2, 3, 4, 5, 6, 7].map (fun i => (wRdg cI q0 q1 q2 q3 q4 q5 q6 q7 q8 q9 q10 u5)[i]?) = (wCtx cI q2 q3 q4 q5 q6 q7 (sb [2, 3, 4, 5, 6, 7] u5)).map some := rfl
        obtain ⟨w7, hc, hf⟩ := bd_o hf
        refine rw_v (va_runV (As := []) (rest := []) ⟨hx, hb, hml, hown, hw⟩ (c_Ctx_raiseRunIndex l D cI q2 q3 q4 q5 q6 q7 (dj_sub hd [2, 3, 4, 5, 6, 7] (by decide) rfl) (sb [2, 3, 4, 5, 6, 7] u5) w7 hc) (cwV 0 hw g_112 rfl rfl rfl (by decide +kernel) ⟨Nat.le_of_ble_eq_true rfl, Nat.le_of_ble_eq_true rfl⟩) (pre_V (P_sub hC hP) hK rfl rfl) rfl rfl hl.1 rfl (lv_room (Nat.le_of_ble_eq_true rfl)) d_Rdg_carryRun_59 ⟨Nat.le_of_ble_eq_true rfl, Nat.le_of_ble_eq_true rfl⟩) hS hP (hD _) hC rfl rfl (fun H locs hP hS => ?_)
        obtain ⟨u8, e_u8, hf⟩ := tk_o hf
        have hP : va_P D cls (wRdg cI q0 q1 q2 q3 q4 q5 q6 q7 q8 q9 q10 u8) H := by rw [e_u8]; exact hP
        refine lv_goto (tgt := 67) hx hb d_Rdg_carryRun_62 (by decide) ?_
        refine lv_goto (tgt := 2) hx hb d_Rdg_carryRun_67 (by decide) ?_
        exact ih2 _ _ _ l2 x6 u8 (lv_sub hl [2, 3, 0] rfl) hP hS hf
      have hf := bq_t hf hc
      refine lv_iload_n hx hb d_Rdg_carryRun_26 rfl (lv_at hl 3 rfl) ?_
      refine lv_aload_n hx hb d_Rdg_carryRun_27 rfl (lv_at hl 1 rfl) ?_
      refine lv_iload hx hb d_Rdg_carryRun_28 (lv_at hl 0 rfl) ?_
      refine lv_iload_n hx hb d_Rdg_carryRun_30 rfl (lv_at hl 2 rfl) ?_
      refine lv_iload_n hx hb d_Rdg_carryRun_31 rfl (lv_at hl 3 rfl) ?_
      refine lv_isub hx hb d_Rdg_carryRun_32 ?_
      have hC : [0, 1, 2, 3, 4, 5, 6, 7, 8, 9, 10].map (fun i => (wRdg cI q0 q1 q2 q3 q4 q5 q6 q7 q8 q9 q10 u5)[i]?) = (wRdg cI q0 q1 q2 q3 q4 q5 q6 q7 q8 q9 q10 u5).map some := rfl
      obtain ⟨w9, hc, hf⟩ := bd_o hf
      rcases w9 with v10 | w11
      · have hf := bx_l hf
        exact thr_V (As := [.int x1, .int (l2 - l3)]) (rest := [.int l3]) ⟨hx, hb, hml, hown, hw⟩ (x_Rdg_readRest l hfl D cI tJ q0 q1 q2 q3 q4 q5 q6 q7 q8 q9 q10 (dj_sub hd [0, 1, 2, 3, 4, 5, 6, 7, 8, 9, 10] (by decide) rfl) x1 (l2 - l3) u5 v10 hc) (cwV 2 hw g_113 rfl rfl rfl (by decide +kernel) ⟨Nat.le_of_ble_eq_true rfl, Nat.le_of_ble_eq_true rfl⟩) (pre_VX (P_sub hC hP) hK rfl rfl hJ hX hS (ad_sub [0, 1, 2, 3, 4, 5, 6, 7, 8, 9, 10] rfl)) rfl hl.1 (Nat.le_of_ble_eq_true rfl) d_Rdg_carryRun_33 ⟨Nat.le_of_ble_eq_true rfl, Nat.le_of_ble_eq_true rfl⟩ hlocks hout hS hP (hD _) hC rfl rfl (eq_tr (f := wRdg cI q0 q1 q2 q3 q4 q5 q6 q7 q8 q9 q10) (sl hf) rfl)
      have hf := bx_r hf
      refine rw_i (va_runV (As := [.int x1, .int (l2 - l3)]) (rest := [.int l3]) ⟨hx, hb, hml, hown, hw⟩ (c_Rdg_readRest l D cI q0 q1 q2 q3 q4 q5 q6 q7 q8 q9 q10 (dj_sub hd [0, 1, 2, 3, 4, 5, 6, 7, 8, 9, 10] (by decide) rfl) x1 (l2 - l3) u5 w11.1 w11.2 hc) (cwV 2 hw g_113 rfl rfl rfl (by decide +kernel) ⟨Nat.le_of_ble_eq_true rfl, Nat.le_of_ble_eq_true rfl⟩) (pre_V (P_sub hC hP) hK rfl rfl) rfl rfl hl.1 rfl (lv_room (Nat.le_of_ble_eq_true rfl)) d_Rdg_carryRun_33 ⟨Nat.le_of_ble_eq_true rfl, Nat.le_of_ble_eq_true rfl⟩) hS hP (hD _) hC rfl rfl (fun H locs hP hS => ?_)
      obtain ⟨u12, e_u12, hf⟩ := tk_o hf
      have hP : va_P D cls (wRdg cI q0 q1 q2 q3 q4 q5 q6 q7 q8 q9 q10 u12) H := by rw [e_u12]; exact hP
      refine lv_iadd hx hb d_Rdg_carryRun_36 ?_
      exact ox hf
  unfold f_Rdg_carryRun at hf
  refine lv_iconst (v := 0) hx hb d_Rdg_carryRun_0 (by decide) ?_
  refine lv_istore_n (lv' := [(3, .int 0), (0, .ref q0), (1, .int a1), (2, .int a2)]) hx hb d_Rdg_carryRun_1 rfl hl (by decide) rfl (fun ls hl => ?_)
  exact lp2 100 _ _ _ a2 0 u (lv_sub hl [1, 3, 0] rfl) hP hS hf
def f_Rdg_rebuild (a1 : Int32) (a2 : Int32) (u : gU) : Option (gU ⊕ gU) := bd (f_Pic_isReduced a2 (sb [1] u)) fun x1 => bq (x1 = 0) (some (.inl u)) (bd (f_Pic_unreduced ((u 0 5) + (((u 0 4) * a2) * (u 1 4))) (sb [1] u)) fun x2 => bd (f_Pic_bounded x2 (sb [1] u)) fun x3 => gd (ix a1 64) (tk (st2 u 8 (tc a1) x3) fun u5 => some (.inr u5)))
set_option maxHeartbeats 4000000 in
set_option maxRecDepth 100000 in
theorem c_Rdg_rebuild (l : Launch) (D : va_G) (cI : ClassId) (q0 : Nat) (q1 : Nat) (q2 : Nat) (q3 : Nat) (q4 : Nat) (q5 : Nat) (q6 : Nat) (q7 : Nat) (q8 : Nat) (q9 : Nat) (q10 : Nat) (hd : dj [q0, q1, q2, q3, q4, q5, q6, q7, q8, q9, q10]) (a1 : Int32) (a2 : Int32) (u : gU) (v : gU) (hf : f_Rdg_rebuild a1 a2 u = some (.inr v)) : Met l y_Rdg_rebuild (.code y_Rdg_rebuild b_Rdg_rebuild 3 none :: TS) ({ frames := 2, cells := 0, slots := 0, locals := 45 }) (va_Pc [.ref q0, .int a1, .int a2] (fun U => va_P D cls (wRdg cI q0 q1 q2 q3 q4 q5 q6 q7 q8 q9 q10 u) U.heap ∧ va_K D cls [(cI, .int)] U)) (va_Qv (fun (_ : Unit) => True) (fun _ t => va_P D cls (wRdg cI q0 q1 q2 q3 q4 q5 q6 q7 q8 q9 q10 v) t.heap) (ad [q0, q1, q2, q3, q4, q5, q6, q7, q8, q9, q10])) 0 0 (ad [q0, q1, q2, q3, q4, q5, q6, q7, q8, q9, q10]) := by
  refine ct_of (by decide +kernel) (Nat.le_of_ble_eq_true rfl) ?_
  intro p e s m below meth c ls hx hb hml hr hlocks hown hw hP hK hl
  have hS : va_S (ad [q0, q1, q2, q3, q4, q5, q6, q7, q8, q9, q10]) s.heap s.heap [] := va_S.rf
  have hD : ∀ v, va_D (ad [q0, q1, q2, q3, q4, q5, q6, q7, q8, q9, q10]) (wRdg cI q0 q1 q2 q3 q4 q5 q6 q7 q8 q9 q10 v) := fun _ => dj_D rfl hd
  have hl : lv_has ls 3 [(0, .ref q0), (1, .int a1), (2, .int a2)] := hl
  have hP : va_P D cls (wRdg cI q0 q1 q2 q3 q4 q5 q6 q7 q8 q9 q10 u) s.heap := hP
  unfold f_Rdg_rebuild at hf
  refine lv_aload_n hx hb d_Rdg_rebuild_0 rfl (lv_at hl 0 rfl) ?_
  refine va_get (D := D) (ci := 4) (v := .ref q1) (C := R_Rdg) (T := F_Rdg) (N := 10) hx hb hw in_Rdg hown hK hP 0 rfl rfl 0 (by decide) (hw _ m_635) (fun x9 h9 => u_same (hw _ m_357) x9 h9) rfl d_Rdg_rebuild_1 ?_
  refine lv_iload_n hx hb d_Rdg_rebuild_4 rfl (lv_at hl 2 rfl) ?_
  have hC : [1].map (fun i => (wRdg cI q0 q1 q2 q3 q4 q5 q6 q7 q8 q9 q10 u)[i]?) = (wPic cI q1 (sb [1] u)).map some := rfl
  obtain ⟨x1, hc, hf⟩ := bd_o hf
  refine ro_i (va_runV (As := [.int a2]) (rest := []) ⟨hx, hb, hml, hown, hw⟩ (c_Pic_isReduced l D cI q1 a2 (sb [1] u) x1 hc) (cwV 1 hw g_114 rfl rfl rfl (by decide +kernel) ⟨Nat.le_of_ble_eq_true rfl, Nat.le_of_ble_eq_true rfl⟩) (pre_V (P_sub hC hP) hK rfl rfl) rfl rfl hl.1 rfl (lv_room (Nat.le_of_ble_eq_true rfl)) d_Rdg_rebuild_5 ⟨Nat.le_of_ble_eq_true rfl, Nat.le_of_ble_eq_true rfl⟩) hS hP (fun H locs hP hS => ?_)
  refine lv_if_ne (tgt := 21) hx hb d_Rdg_rebuild_8 (by decide) (fun hc => ?_) (fun hc => ?_)
  · have hf := bq_n hf hc
    refine lv_aload_n hx hb d_Rdg_rebuild_21 rfl (lv_at hl 0 rfl) ?_
    refine va_get (D := D) (ci := 4) (v := .ref q8) (C := R_Rdg) (T := F_Rdg) (N := 10) hx hb hw in_Rdg hown hK hP 0 rfl rfl 2 (by decide) (hw _ m_653) (fun x9 h9 => u_same (hw _ m_365) x9 h9) rfl d_Rdg_rebuild_22 ?_
    refine lv_iload_n hx hb d_Rdg_rebuild_25 rfl (lv_at hl 1 rfl) ?_
    refine lv_aload_n hx hb d_Rdg_rebuild_26 rfl (lv_at hl 0 rfl) ?_
    refine va_get (D := D) (ci := 4) (v := .ref q1) (C := R_Rdg) (T := F_Rdg) (N := 10) hx hb hw in_Rdg hown hK hP 0 rfl rfl 0 (by decide) (hw _ m_635) (fun x9 h9 => u_same (hw _ m_357) x9 h9) rfl d_Rdg_rebuild_27 ?_
    refine lv_aload_n hx hb d_Rdg_rebuild_30 rfl (lv_at hl 0 rfl) ?_
    refine va_get (D := D) (ci := 4) (v := .ref q1) (C := R_Rdg) (T := F_Rdg) (N := 10) hx hb hw in_Rdg hown hK hP 0 rfl rfl 0 (by decide) (hw _ m_635) (fun x9 h9 => u_same (hw _ m_357) x9 h9) rfl d_Rdg_rebuild_31 ?_
    refine lv_aload_n hx hb d_Rdg_rebuild_34 rfl (lv_at hl 0 rfl) ?_
    refine va_get (D := D) (ci := 4) (v := .int (u 0 5)) (C := R_Rdg) (T := F_Rdg) (N := 10) hx hb hw in_Rdg hown hK hP 0 rfl rfl 8 (by decide) (hw _ m_654) (fun x9 h9 => u_same (hw _ m_655) x9 h9) rfl d_Rdg_rebuild_35 ?_
    refine lv_aload_n hx hb d_Rdg_rebuild_38 rfl (lv_at hl 0 rfl) ?_
    refine va_get (D := D) (ci := 4) (v := .int (u 0 4)) (C := R_Rdg) (T := F_Rdg) (N := 10) hx hb hw in_Rdg hown hK hP 0 rfl rfl 7 (by decide) (hw _ m_656) (fun x9 h9 => u_same (hw _ m_657) x9 h9) rfl d_Rdg_rebuild_39 ?_
    refine lv_iload_n hx hb d_Rdg_rebuild_42 rfl (lv_at hl 2 rfl) ?_
    refine lv_imul hx hb d_Rdg_rebuild_43 ?_
    refine lv_aload_n hx hb d_Rdg_rebuild_44 rfl (lv_at hl 0 rfl) ?_
    refine va_get (D := D) (ci := 4) (v := .ref q1) (C := R_Rdg) (T := F_Rdg) (N := 10) hx hb hw in_Rdg hown hK hP 0 rfl rfl 0 (by decide) (hw _ m_635) (fun x9 h9 => u_same (hw _ m_357) x9 h9) rfl d_Rdg_rebuild_45 ?_
    refine va_get (D := D) (ci := 1) (v := .int (u 1 4)) (C := R_Pic) (T := F_Pic) (N := 11) hx hb hw in_Pic hown hK hP 1 rfl rfl 4 (by decide) (hw _ m_658) (fun _ h9 => h9) rfl d_Rdg_rebuild_48 ?_
    refine lv_imul hx hb d_Rdg_rebuild_51 ?_
    refine lv_iadd hx hb d_Rdg_rebuild_52 ?_
    have hC : [1].map (fun i => (wRdg cI q0 q1 q2 q3 q4 q5 q6 q7 q8 q9 q10 u)[i]?) = (wPic cI q1 (sb [1] u)).map some := rfl
    obtain ⟨x2, hc, hf⟩ := bd_o hf
    refine ro_i (va_runV (As := [.int ((u 0 5) + (((u 0 4) * a2) * (u 1 4)))]) (rest := [.ref q1, .int a1, .ref q8]) ⟨hx, hb, hml, hown, hw⟩ (c_Pic_unreduced l D cI q1 ((u 0 5) + (((u 0 4) * a2) * (u 1 4))) (sb [1] u) x2 hc) (cwV 1 hw g_115 rfl rfl rfl (by decide +kernel) ⟨Nat.le_of_ble_eq_true rfl, Nat.le_of_ble_eq_true rfl⟩) (pre_V (P_sub hC hP) hK rfl rfl) rfl rfl hl.1 rfl (lv_room (Nat.le_of_ble_eq_true rfl)) d_Rdg_rebuild_53 ⟨Nat.le_of_ble_eq_true rfl, Nat.le_of_ble_eq_true rfl⟩) hS hP (fun H locs hP hS => ?_)
    have hC : [1].map (fun i => (wRdg cI q0 q1 q2 q3 q4 q5 q6 q7 q8 q9 q10 u)[i]?) = (wPic cI q1 (sb [1] u)).map some := rfl
    obtain ⟨x3, hc, hf⟩ := bd_o hf
    refine ro_i (va_runV (As := [.int x2]) (rest := [.int a1, .ref q8]) ⟨hx, hb, hml, hown, hw⟩ (c_Pic_bounded l D cI q1 x2 (sb [1] u) x3 hc) (cwV 1 hw g_116 rfl rfl rfl (by decide +kernel) ⟨Nat.le_of_ble_eq_true rfl, Nat.le_of_ble_eq_true rfl⟩) (pre_V (P_sub hC hP) hK rfl rfl) rfl rfl hl.1 rfl (lv_room (Nat.le_of_ble_eq_true rfl)) d_Rdg_rebuild_56 ⟨Nat.le_of_ble_eq_true rfl, Nat.le_of_ble_eq_true rfl⟩) hS hP (fun H locs hP hS => ?_)
    obtain ⟨h4, hf⟩ := gd_o hf
    refine va_iast hx hb hK hP (hD _) hS 8 0 rfl rfl (ix_in h4) d_Rdg_rebuild_59 (fun H locs hP _ hS => ?_)
    obtain ⟨u5, e_u5, hf⟩ := tk_o hf
    have hP : va_P D cls (wRdg cI q0 q1 q2 q3 q4 q5 q6 q7 q8 q9 q10 u5) H := by rw [e_u5]; exact hP
    exact rt_v (wRdg cI q0 q1 q2 q3 q4 q5 q6 q7 q8 q9 q10) hx hb hr hlocks hS hP (sr hf) d_Rdg_rebuild_60
  have hf := bq_t hf hc
  exact xo hf
set_option maxHeartbeats 4000000 in
set_option maxRecDepth 100000 in
theorem x_Rdg_rebuild (l : Launch) (hfl : l.flags = pinnedFlags ++ [noTraceFlag]) (D : va_G) (cI : ClassId) (tJ : Nat) (q0 : Nat) (q1 : Nat) (q2 : Nat) (q3 : Nat) (q4 : Nat) (q5 : Nat) (q6 : Nat) (q7 : Nat) (q8 : Nat) (q9 : Nat) (q10 : Nat) (hd : dj [q0, q1, q2, q3, q4, q5, q6, q7, q8, q9, q10]) (a1 : Int32) (a2 : Int32) (u : gU) (v : gU) (hf : f_Rdg_rebuild a1 a2 u = some (.inl v)) : MetX l y_Rdg_rebuild (.code y_Rdg_rebuild b_Rdg_rebuild 3 none :: TS) ({ frames := 6, cells := 1, slots := 6, locals := 108 }) (va_Pc [.ref q0, .int a1, .int a2] (fun U => va_P D cls (wRdg cI q0 q1 q2 q3 q4 q5 q6 q7 q8 q9 q10 u) U.heap ∧ va_K D cls [(cI, .int)] U ∧ Jt tJ (ad [q0, q1, q2, q3, q4, q5, q6, q7, q8, q9, q10]) U ∧ Xt (ad [q0, q1, q2, q3, q4, q5, q6, q7, q8, q9, q10]) U)) D cls (wRdg cI q0 q1 q2 q3 q4 q5 q6 q7 q8 q9 q10 v) (ad [q0, q1, q2, q3, q4, q5, q6, q7, q8, q9, q10]) := by
  refine ct_ofX hfl (by decide +kernel) (Nat.le_of_ble_eq_true rfl) ?_
  intro p e s m below meth c ls hx hb hml hr hlocks hown hw hP hK hJ hl hX htr hout
  have hS : va_S (ad [q0, q1, q2, q3, q4, q5, q6, q7, q8, q9, q10]) s.heap s.heap [] := va_S.rf
  have hD : ∀ v, va_D (ad [q0, q1, q2, q3, q4, q5, q6, q7, q8, q9, q10]) (wRdg cI q0 q1 q2 q3 q4 q5 q6 q7 q8 q9 q10 v) := fun _ => dj_D rfl hd
  have hl : lv_has ls 3 [(0, .ref q0), (1, .int a1), (2, .int a2)] := hl
  have hP : va_P D cls (wRdg cI q0 q1 q2 q3 q4 q5 q6 q7 q8 q9 q10 u) s.heap := hP
  unfold f_Rdg_rebuild at hf
  refine lv_aload_n hx hb d_Rdg_rebuild_0 rfl (lv_at hl 0 rfl) ?_
  refine va_get (D := D) (ci := 4) (v := .ref q1) (C := R_Rdg) (T := F_Rdg) (N := 10) hx hb hw in_Rdg hown hK hP 0 rfl rfl 0 (by decide) (hw _ m_635) (fun x9 h9 => u_same (hw _ m_357) x9 h9) rfl d_Rdg_rebuild_1 ?_
  refine lv_iload_n hx hb d_Rdg_rebuild_4 rfl (lv_at hl 2 rfl) ?_
  have hC : [1].map (fun i => (wRdg cI q0 q1 q2 q3 q4 q5 q6 q7 q8 q9 q10 u)[i]?) = (wPic cI q1 (sb [1] u)).map some := rfl
  obtain ⟨x1, hc, hf⟩ := bd_o hf
  refine ro_i (va_runV (As := [.int a2]) (rest := []) ⟨hx, hb, hml, hown, hw⟩ (c_Pic_isReduced l D cI q1 a2 (sb [1] u) x1 hc) (cwV 1 hw g_114 rfl rfl rfl (by decide +kernel) ⟨Nat.le_of_ble_eq_true rfl, Nat.le_of_ble_eq_true rfl⟩) (pre_V (P_sub hC hP) hK rfl rfl) rfl rfl hl.1 rfl (lv_room (Nat.le_of_ble_eq_true rfl)) d_Rdg_rebuild_5 ⟨Nat.le_of_ble_eq_true rfl, Nat.le_of_ble_eq_true rfl⟩) hS hP (fun H locs hP hS => ?_)
  refine lv_if_ne (tgt := 21) hx hb d_Rdg_rebuild_8 (by decide) (fun hc => ?_) (fun hc => ?_)
  · have hf := bq_n hf hc
    refine lv_aload_n hx hb d_Rdg_rebuild_21 rfl (lv_at hl 0 rfl) ?_
    refine va_get (D := D) (ci := 4) (v := .ref q8) (C := R_Rdg) (T := F_Rdg) (N := 10) hx hb hw in_Rdg hown hK hP 0 rfl rfl 2 (by decide) (hw _ m_653) (fun x9 h9 => u_same (hw _ m_365) x9 h9) rfl d_Rdg_rebuild_22 ?_
    refine lv_iload_n hx hb d_Rdg_rebuild_25 rfl (lv_at hl 1 rfl) ?_
    refine lv_aload_n hx hb d_Rdg_rebuild_26 rfl (lv_at hl 0 rfl) ?_
    refine va_get (D := D) (ci := 4) (v := .ref q1) (C := R_Rdg) (T := F_Rdg) (N := 10) hx hb hw in_Rdg hown hK hP 0 rfl rfl 0 (by decide) (hw _ m_635) (fun x9 h9 => u_same (hw _ m_357) x9 h9) rfl d_Rdg_rebuild_27 ?_
    refine lv_aload_n hx hb d_Rdg_rebuild_30 rfl (lv_at hl 0 rfl) ?_
    refine va_get (D := D) (ci := 4) (v := .ref q1) (C := R_Rdg) (T := F_Rdg) (N := 10) hx hb hw in_Rdg hown hK hP 0 rfl rfl 0 (by decide) (hw _ m_635) (fun x9 h9 => u_same (hw _ m_357) x9 h9) rfl d_Rdg_rebuild_31 ?_
    refine lv_aload_n hx hb d_Rdg_rebuild_34 rfl (lv_at hl 0 rfl) ?_
    refine va_get (D := D) (ci := 4) (v := .int (u 0 5)) (C := R_Rdg) (T := F_Rdg) (N := 10) hx hb hw in_Rdg hown hK hP 0 rfl rfl 8 (by decide) (hw _ m_654) (fun x9 h9 => u_same (hw _ m_655) x9 h9) rfl d_Rdg_rebuild_35 ?_
    refine lv_aload_n hx hb d_Rdg_rebuild_38 rfl (lv_at hl 0 rfl) ?_
    refine va_get (D := D) (ci := 4) (v := .int (u 0 4)) (C := R_Rdg) (T := F_Rdg) (N := 10) hx hb hw in_Rdg hown hK hP 0 rfl rfl 7 (by decide) (hw _ m_656) (fun x9 h9 => u_same (hw _ m_657) x9 h9) rfl d_Rdg_rebuild_39 ?_
    refine lv_iload_n hx hb d_Rdg_rebuild_42 rfl (lv_at hl 2 rfl) ?_
    refine lv_imul hx hb d_Rdg_rebuild_43 ?_
    refine lv_aload_n hx hb d_Rdg_rebuild_44 rfl (lv_at hl 0 rfl) ?_
    refine va_get (D := D) (ci := 4) (v := .ref q1) (C := R_Rdg) (T := F_Rdg) (N := 10) hx hb hw in_Rdg hown hK hP 0 rfl rfl 0 (by decide) (hw _ m_635) (fun x9 h9 => u_same (hw _ m_357) x9 h9) rfl d_Rdg_rebuild_45 ?_
    refine va_get (D := D) (ci := 1) (v := .int (u 1 4)) (C := R_Pic) (T := F_Pic) (N := 11) hx hb hw in_Pic hown hK hP 1 rfl rfl 4 (by decide) (hw _ m_658) (fun _ h9 => h9) rfl d_Rdg_rebuild_48 ?_
    refine lv_imul hx hb d_Rdg_rebuild_51 ?_
    refine lv_iadd hx hb d_Rdg_rebuild_52 ?_
    have hC : [1].map (fun i => (wRdg cI q0 q1 q2 q3 q4 q5 q6 q7 q8 q9 q10 u)[i]?) = (wPic cI q1 (sb [1] u)).map some := rfl
    obtain ⟨x2, hc, hf⟩ := bd_o hf
    refine ro_i (va_runV (As := [.int ((u 0 5) + (((u 0 4) * a2) * (u 1 4)))]) (rest := [.ref q1, .int a1, .ref q8]) ⟨hx, hb, hml, hown, hw⟩ (c_Pic_unreduced l D cI q1 ((u 0 5) + (((u 0 4) * a2) * (u 1 4))) (sb [1] u) x2 hc) (cwV 1 hw g_115 rfl rfl rfl (by decide +kernel) ⟨Nat.le_of_ble_eq_true rfl, Nat.le_of_ble_eq_true rfl⟩) (pre_V (P_sub hC hP) hK rfl rfl) rfl rfl hl.1 rfl (lv_room (Nat.le_of_ble_eq_true rfl)) d_Rdg_rebuild_53 ⟨Nat.le_of_ble_eq_true rfl, Nat.le_of_ble_eq_true rfl⟩) hS hP (fun H locs hP hS => ?_)
    have hC : [1].map (fun i => (wRdg cI q0 q1 q2 q3 q4 q5 q6 q7 q8 q9 q10 u)[i]?) = (wPic cI q1 (sb [1] u)).map some := rfl
    obtain ⟨x3, hc, hf⟩ := bd_o hf
    refine ro_i (va_runV (As := [.int x2]) (rest := [.int a1, .ref q8]) ⟨hx, hb, hml, hown, hw⟩ (c_Pic_bounded l D cI q1 x2 (sb [1] u) x3 hc) (cwV 1 hw g_116 rfl rfl rfl (by decide +kernel) ⟨Nat.le_of_ble_eq_true rfl, Nat.le_of_ble_eq_true rfl⟩) (pre_V (P_sub hC hP) hK rfl rfl) rfl rfl hl.1 rfl (lv_room (Nat.le_of_ble_eq_true rfl)) d_Rdg_rebuild_56 ⟨Nat.le_of_ble_eq_true rfl, Nat.le_of_ble_eq_true rfl⟩) hS hP (fun H locs hP hS => ?_)
    obtain ⟨h4, hf⟩ := gd_o hf
    refine va_iast hx hb hK hP (hD _) hS 8 0 rfl rfl (ix_in h4) d_Rdg_rebuild_59 (fun H locs hP _ hS => ?_)
    obtain ⟨u5, e_u5, hf⟩ := tk_o hf
    have hP : va_P D cls (wRdg cI q0 q1 q2 q3 q4 q5 q6 q7 q8 q9 q10 u5) H := by rw [e_u5]; exact hP
    exact ox hf
  have hf := bq_t hf hc
  exact thr_new (own := R_Rdg) (tx := "an error is out of its bounds") hx hb hml hl.1 hlocks htr hown hw hX hS (by rw [← sl hf]; exact hP) m_637 m_613 m_614 m_638 (List.mem_of_getElem? (i := 3) rfl) hout (Nat.le_of_ble_eq_true rfl) (Nat.le_of_ble_eq_true rfl) (Nat.le_of_ble_eq_true rfl) (Nat.le_of_ble_eq_true rfl) d_Rdg_rebuild_11 d_Rdg_rebuild_14 d_Rdg_rebuild_15 d_Rdg_rebuild_17 d_Rdg_rebuild_20
def f_Rdg_carryRegular (a1 : Int32) (a2 : Int32) (a3 : Int32) (u : gU) : Option (gU ⊕ (Int32 × gU)) := bd (f_Rea_readNumber a2 (u 1 7) (u 1 6) (sb [9, 10] u)) fun w1 => bx w1 (fun v2 => some (.inl (mg [9, 10] 0 u v2))) fun w3 => tk (mg [9, 10] 0 u w3.2) fun u4 => bd (f_Fol_unfoldRegular w3.1 a3) fun x5 => bd (f_Rdg_rebuild a1 x5 u4) fun w6 => bx w6 (fun v7 => some (.inl (v7))) fun w8 => tk (w8) fun u9 => some (.inr (x5, u9))
set_option maxHeartbeats 4000000 in
set_option maxRecDepth 100000 in
theorem c_Rdg_carryRegular (l : Launch) (D : va_G) (cI : ClassId) (q0 : Nat) (q1 : Nat) (q2 : Nat) (q3 : Nat) (q4 : Nat) (q5 : Nat) (q6 : Nat) (q7 : Nat) (q8 : Nat) (q9 : Nat) (q10 : Nat) (hd : dj [q0, q1, q2, q3, q4, q5, q6, q7, q8, q9, q10]) (a1 : Int32) (a2 : Int32) (a3 : Int32) (u : gU) (r : Int32) (v : gU) (hf : f_Rdg_carryRegular a1 a2 a3 u = some (.inr (r, v))) : Met l y_Rdg_carryRegular (.code y_Rdg_carryRegular b_Rdg_carryRegular 6 (some .int) :: TS) ({ frames := 3, cells := 0, slots := 0, locals := 69 }) (va_Pc [.ref q0, .int a1, .int a2, .int a3] (fun U => va_P D cls (wRdg cI q0 q1 q2 q3 q4 q5 q6 q7 q8 q9 q10 u) U.heap ∧ va_K D cls [(cI, .int)] U)) (va_Qi (fun x (_ : Unit) => x = r) (fun _ t => va_P D cls (wRdg cI q0 q1 q2 q3 q4 q5 q6 q7 q8 q9 q10 v) t.heap) (ad [q0, q1, q2, q3, q4, q5, q6, q7, q8, q9, q10])) 0 0 (ad [q0, q1, q2, q3, q4, q5, q6, q7, q8, q9, q10]) := by
  refine ct_of (by decide +kernel) (Nat.le_of_ble_eq_true rfl) ?_
  intro p e s m below meth c ls hx hb hml hr hlocks hown hw hP hK hl
  have hS : va_S (ad [q0, q1, q2, q3, q4, q5, q6, q7, q8, q9, q10]) s.heap s.heap [] := va_S.rf
  have hD : ∀ v, va_D (ad [q0, q1, q2, q3, q4, q5, q6, q7, q8, q9, q10]) (wRdg cI q0 q1 q2 q3 q4 q5 q6 q7 q8 q9 q10 v) := fun _ => dj_D rfl hd
  have hl : lv_has ls 6 [(0, .ref q0), (1, .int a1), (2, .int a2), (3, .int a3)] := hl
  have hP : va_P D cls (wRdg cI q0 q1 q2 q3 q4 q5 q6 q7 q8 q9 q10 u) s.heap := hP
  unfold f_Rdg_carryRegular at hf
  refine lv_aload_n hx hb d_Rdg_carryRegular_0 rfl (lv_at hl 0 rfl) ?_
  refine va_get (D := D) (ci := 4) (v := .ref q9) (C := R_Rdg) (T := F_Rdg) (N := 10) hx hb hw in_Rdg hown hK hP 0 rfl rfl 9 (by decide) (hw _ m_626) (fun _ h9 => h9) rfl d_Rdg_carryRegular_1 ?_
  refine lv_iload_n hx hb d_Rdg_carryRegular_4 rfl (lv_at hl 2 rfl) ?_
  refine lv_aload_n hx hb d_Rdg_carryRegular_5 rfl (lv_at hl 0 rfl) ?_
  refine va_get (D := D) (ci := 4) (v := .ref q1) (C := R_Rdg) (T := F_Rdg) (N := 10) hx hb hw in_Rdg hown hK hP 0 rfl rfl 0 (by decide) (hw _ m_635) (fun x9 h9 => u_same (hw _ m_357) x9 h9) rfl d_Rdg_carryRegular_6 ?_
  refine va_get (D := D) (ci := 1) (v := .int (u 1 7)) (C := R_Pic) (T := F_Pic) (N := 11) hx hb hw in_Pic hown hK hP 1 rfl rfl 7 (by decide) (hw _ m_664) (fun _ h9 => h9) rfl d_Rdg_carryRegular_9 ?_
  refine lv_aload_n hx hb d_Rdg_carryRegular_12 rfl (lv_at hl 0 rfl) ?_
  refine va_get (D := D) (ci := 4) (v := .ref q1) (C := R_Rdg) (T := F_Rdg) (N := 10) hx hb hw in_Rdg hown hK hP 0 rfl rfl 0 (by decide) (hw _ m_635) (fun x9 h9 => u_same (hw _ m_357) x9 h9) rfl d_Rdg_carryRegular_13 ?_
  refine va_get (D := D) (ci := 1) (v := .int (u 1 6)) (C := R_Pic) (T := F_Pic) (N := 11) hx hb hw in_Pic hown hK hP 1 rfl rfl 6 (by decide) (hw _ m_665) (fun _ h9 => h9) rfl d_Rdg_carryRegular_16 ?_
  have hC : [9, 10].map (fun i => (wRdg cI q0 q1 q2 q3 q4 q5 q6 q7 q8 q9 q10 u)[i]?) = (wRea cI q9 q10 (sb [9, 10] u)).map some := rfl
  obtain ⟨w1, hc, hf⟩ := bd_o hf
  rcases w1 with v2 | w3
  · have hf := bx_l hf
    exact xo hf
  have hf := bx_r hf
  refine rw_i (va_runV (As := [.int a2, .int (u 1 7), .int (u 1 6)]) (rest := []) ⟨hx, hb, hml, hown, hw⟩ (c_Rea_readNumber l D cI q9 q10 (dj_sub hd [9, 10] (by decide) rfl) a2 (u 1 7) (u 1 6) (sb [9, 10] u) w3.1 w3.2 hc) (cwV 3 hw g_117 rfl rfl rfl (by decide +kernel) ⟨Nat.le_of_ble_eq_true rfl, Nat.le_of_ble_eq_true rfl⟩) (pre_V (P_sub hC hP) hK rfl rfl) rfl rfl hl.1 rfl (lv_room (Nat.le_of_ble_eq_true rfl)) d_Rdg_carryRegular_19 ⟨Nat.le_of_ble_eq_true rfl, Nat.le_of_ble_eq_true rfl⟩) hS hP (hD _) hC rfl rfl (fun H locs hP hS => ?_)
  obtain ⟨u4, e_u4, hf⟩ := tk_o hf
  have hP : va_P D cls (wRdg cI q0 q1 q2 q3 q4 q5 q6 q7 q8 q9 q10 u4) H := by rw [e_u4]; exact hP
  refine lv_istore (lv' := [(4, .int w3.1), (0, .ref q0), (1, .int a1), (2, .int a2), (3, .int a3)]) hx hb d_Rdg_carryRegular_22 hl (by decide) rfl (fun ls hl => ?_)
  refine lv_iload hx hb d_Rdg_carryRegular_24 (lv_at hl 0 rfl) ?_
  refine lv_iload_n hx hb d_Rdg_carryRegular_26 rfl (lv_at hl 4 rfl) ?_
  have hC : ([] : List Nat).map (fun i => (wRdg cI q0 q1 q2 q3 q4 q5 q6 q7 q8 q9 q10 u4)[i]?) = ([] : va_W).map some := rfl
  obtain ⟨x5, hc, hf⟩ := bd_o hf
  refine ro_i (va_runS (As := [.int w3.1, .int a3]) (rest := []) ⟨hx, hb, hml, hown, hw⟩ (c_Fol_unfoldRegular l D cI w3.1 a3 x5 hc) (va_cwS 2 hw g_118 rfl rfl rfl (by decide +kernel) ⟨Nat.le_of_ble_eq_true rfl, Nat.le_of_ble_eq_true rfl⟩) (pre_S (P_sub hC hP) hK) rfl rfl hl.1 rfl (lv_room (Nat.le_of_ble_eq_true rfl)) d_Rdg_carryRegular_27 ⟨Nat.le_of_ble_eq_true rfl, Nat.le_of_ble_eq_true rfl⟩) hS hP (fun H locs hP hS => ?_)
  refine lv_istore (lv' := [(5, .int x5), (4, .int w3.1), (0, .ref q0), (1, .int a1), (2, .int a2), (3, .int a3)]) hx hb d_Rdg_carryRegular_30 hl (by decide) rfl (fun ls hl => ?_)
  refine lv_aload_n hx hb d_Rdg_carryRegular_32 rfl (lv_at hl 2 rfl) ?_
  refine lv_iload_n hx hb d_Rdg_carryRegular_33 rfl (lv_at hl 3 rfl) ?_
  refine lv_iload hx hb d_Rdg_carryRegular_34 (lv_at hl 0 rfl) ?_
  have hC : [0, 1, 2, 3, 4, 5, 6, 7, 8, 9, 10].map (fun i => (wRdg cI q0 q1 q2 q3 q4 q5 q6 q7 q8 q9 q10 u4)[i]?) = (wRdg cI q0 q1 q2 q3 q4 q5 q6 q7 q8 q9 q10 u4).map some := rfl
  obtain ⟨w6, hc, hf⟩ := bd_o hf
  rcases w6 with v7 | w8
  · have hf := bx_l hf
    exact xo hf
  have hf := bx_r hf
  refine rw_v (va_runV (As := [.int a1, .int x5]) (rest := []) ⟨hx, hb, hml, hown, hw⟩ (c_Rdg_rebuild l D cI q0 q1 q2 q3 q4 q5 q6 q7 q8 q9 q10 (dj_sub hd [0, 1, 2, 3, 4, 5, 6, 7, 8, 9, 10] (by decide) rfl) a1 x5 u4 w8 hc) (cwV 2 hw g_119 rfl rfl rfl (by decide +kernel) ⟨Nat.le_of_ble_eq_true rfl, Nat.le_of_ble_eq_true rfl⟩) (pre_V (P_sub hC hP) hK rfl rfl) rfl rfl hl.1 rfl (lv_room (Nat.le_of_ble_eq_true rfl)) d_Rdg_carryRegular_36 ⟨Nat.le_of_ble_eq_true rfl, Nat.le_of_ble_eq_true rfl⟩) hS hP (hD _) hC rfl rfl (fun H locs hP hS => ?_)
  obtain ⟨u9, e_u9, hf⟩ := tk_o hf
  have hP : va_P D cls (wRdg cI q0 q1 q2 q3 q4 q5 q6 q7 q8 q9 q10 u9) H := by rw [e_u9]; exact hP
  refine lv_iload hx hb d_Rdg_carryRegular_39 (lv_at hl 0 rfl) ?_
  exact rt_i (wRdg cI q0 q1 q2 q3 q4 q5 q6 q7 q8 q9 q10) hx hb hr hlocks hS hP (sr hf) d_Rdg_carryRegular_41
set_option maxHeartbeats 4000000 in
set_option maxRecDepth 100000 in
theorem x_Rdg_carryRegular (l : Launch) (hfl : l.flags = pinnedFlags ++ [noTraceFlag]) (D : va_G) (cI : ClassId) (tJ : Nat) (q0 : Nat) (q1 : Nat) (q2 : Nat) (q3 : Nat) (q4 : Nat) (q5 : Nat) (q6 : Nat) (q7 : Nat) (q8 : Nat) (q9 : Nat) (q10 : Nat) (hd : dj [q0, q1, q2, q3, q4, q5, q6, q7, q8, q9, q10]) (a1 : Int32) (a2 : Int32) (a3 : Int32) (u : gU) (v : gU) (hf : f_Rdg_carryRegular a1 a2 a3 u = some (.inl v)) : MetX l y_Rdg_carryRegular (.code y_Rdg_carryRegular b_Rdg_carryRegular 6 (some .int) :: TS) ({ frames := 9, cells := 1, slots := 6, locals := 177 }) (va_Pc [.ref q0, .int a1, .int a2, .int a3] (fun U => va_P D cls (wRdg cI q0 q1 q2 q3 q4 q5 q6 q7 q8 q9 q10 u) U.heap ∧ va_K D cls [(cI, .int)] U ∧ Jt tJ (ad [q0, q1, q2, q3, q4, q5, q6, q7, q8, q9, q10]) U ∧ Xt (ad [q0, q1, q2, q3, q4, q5, q6, q7, q8, q9, q10]) U)) D cls (wRdg cI q0 q1 q2 q3 q4 q5 q6 q7 q8 q9 q10 v) (ad [q0, q1, q2, q3, q4, q5, q6, q7, q8, q9, q10]) := by
  refine ct_ofX hfl (by decide +kernel) (Nat.le_of_ble_eq_true rfl) ?_
  intro p e s m below meth c ls hx hb hml hr hlocks hown hw hP hK hJ hl hX htr hout
  have hS : va_S (ad [q0, q1, q2, q3, q4, q5, q6, q7, q8, q9, q10]) s.heap s.heap [] := va_S.rf
  have hD : ∀ v, va_D (ad [q0, q1, q2, q3, q4, q5, q6, q7, q8, q9, q10]) (wRdg cI q0 q1 q2 q3 q4 q5 q6 q7 q8 q9 q10 v) := fun _ => dj_D rfl hd
  have hl : lv_has ls 6 [(0, .ref q0), (1, .int a1), (2, .int a2), (3, .int a3)] := hl
  have hP : va_P D cls (wRdg cI q0 q1 q2 q3 q4 q5 q6 q7 q8 q9 q10 u) s.heap := hP
  unfold f_Rdg_carryRegular at hf
  refine lv_aload_n hx hb d_Rdg_carryRegular_0 rfl (lv_at hl 0 rfl) ?_
  refine va_get (D := D) (ci := 4) (v := .ref q9) (C := R_Rdg) (T := F_Rdg) (N := 10) hx hb hw in_Rdg hown hK hP 0 rfl rfl 9 (by decide) (hw _ m_626) (fun _ h9 => h9) rfl d_Rdg_carryRegular_1 ?_
  refine lv_iload_n hx hb d_Rdg_carryRegular_4 rfl (lv_at hl 2 rfl) ?_
  refine lv_aload_n hx hb d_Rdg_carryRegular_5 rfl (lv_at hl 0 rfl) ?_
  refine va_get (D := D) (ci := 4) (v := .ref q1) (C := R_Rdg) (T := F_Rdg) (N := 10) hx hb hw in_Rdg hown hK hP 0 rfl rfl 0 (by decide) (hw _ m_635) (fun x9 h9 => u_same (hw _ m_357) x9 h9) rfl d_Rdg_carryRegular_6 ?_
  refine va_get (D := D) (ci := 1) (v := .int (u 1 7)) (C := R_Pic) (T := F_Pic) (N := 11) hx hb hw in_Pic hown hK hP 1 rfl rfl 7 (by decide) (hw _ m_664) (fun _ h9 => h9) rfl d_Rdg_carryRegular_9 ?_
  refine lv_aload_n hx hb d_Rdg_carryRegular_12 rfl (lv_at hl 0 rfl) ?_
  refine va_get (D := D) (ci := 4) (v := .ref q1) (C := R_Rdg) (T := F_Rdg) (N := 10) hx hb hw in_Rdg hown hK hP 0 rfl rfl 0 (by decide) (hw _ m_635) (fun x9 h9 => u_same (hw _ m_357) x9 h9) rfl d_Rdg_carryRegular_13 ?_
  refine va_get (D := D) (ci := 1) (v := .int (u 1 6)) (C := R_Pic) (T := F_Pic) (N := 11) hx hb hw in_Pic hown hK hP 1 rfl rfl 6 (by decide) (hw _ m_665) (fun _ h9 => h9) rfl d_Rdg_carryRegular_16 ?_
  have hC : [9, 10].map (fun i => (wRdg cI q0 q1 q2 q3 q4 q5 q6 q7 q8 q9 q10 u)[i]?) = (wRea cI q9 q10 (sb [9, 10] u)).map some := rfl
  obtain ⟨w1, hc, hf⟩ := bd_o hf
  rcases w1 with v2 | w3
  · have hf := bx_l hf
    exact thr_V (As := [.int a2, .int (u 1 7), .int (u 1 6)]) (rest := []) ⟨hx, hb, hml, hown, hw⟩ (x_Rea_readNumber l hfl D cI tJ q9 q10 (dj_sub hd [9, 10] (by decide) rfl) a2 (u 1 7) (u 1 6) (sb [9, 10] u) v2 hc) (cwV 3 hw g_117 rfl rfl rfl (by decide +kernel) ⟨Nat.le_of_ble_eq_true rfl, Nat.le_of_ble_eq_true rfl⟩) (pre_VX (P_sub hC hP) hK rfl rfl hJ hX hS (ad_sub [9, 10] rfl)) rfl hl.1 (Nat.le_of_ble_eq_true rfl) d_Rdg_carryRegular_19 ⟨Nat.le_of_ble_eq_true rfl, Nat.le_of_ble_eq_true rfl⟩ hlocks hout hS hP (hD _) hC rfl rfl (eq_tr (f := wRdg cI q0 q1 q2 q3 q4 q5 q6 q7 q8 q9 q10) (sl hf) rfl)
  have hf := bx_r hf
  refine rw_i (va_runV (As := [.int a2, .int (u 1 7), .int (u 1 6)]) (rest := []) ⟨hx, hb, hml, hown, hw⟩ (c_Rea_readNumber l D cI q9 q10 (dj_sub hd [9, 10] (by decide) rfl) a2 (u 1 7) (u 1 6) (sb [9, 10] u) w3.1 w3.2 hc) (cwV 3 hw g_117 rfl rfl rfl (by decide +kernel) ⟨Nat.le_of_ble_eq_true rfl, Nat.le_of_ble_eq_true rfl⟩) (pre_V (P_sub hC hP) hK rfl rfl) rfl rfl hl.1 rfl (lv_room (Nat.le_of_ble_eq_true rfl)) d_Rdg_carryRegular_19 ⟨Nat.le_of_ble_eq_true rfl, Nat.le_of_ble_eq_true rfl⟩) hS hP (hD _) hC rfl rfl (fun H locs hP hS => ?_)
  obtain ⟨u4, e_u4, hf⟩ := tk_o hf
  have hP : va_P D cls (wRdg cI q0 q1 q2 q3 q4 q5 q6 q7 q8 q9 q10 u4) H := by rw [e_u4]; exact hP
  refine lv_istore (lv' := [(4, .int w3.1), (0, .ref q0), (1, .int a1), (2, .int a2), (3, .int a3)]) hx hb d_Rdg_carryRegular_22 hl (by decide) rfl (fun ls hl => ?_)
  refine lv_iload hx hb d_Rdg_carryRegular_24 (lv_at hl 0 rfl) ?_
  refine lv_iload_n hx hb d_Rdg_carryRegular_26 rfl (lv_at hl 4 rfl) ?_
  have hC : ([] : List Nat).map (fun i => (wRdg cI q0 q1 q2 q3 q4 q5 q6 q7 q8 q9 q10 u4)[i]?) = ([] : va_W).map some := rfl
  obtain ⟨x5, hc, hf⟩ := bd_o hf
  refine ro_i (va_runS (As := [.int w3.1, .int a3]) (rest := []) ⟨hx, hb, hml, hown, hw⟩ (c_Fol_unfoldRegular l D cI w3.1 a3 x5 hc) (va_cwS 2 hw g_118 rfl rfl rfl (by decide +kernel) ⟨Nat.le_of_ble_eq_true rfl, Nat.le_of_ble_eq_true rfl⟩) (pre_S (P_sub hC hP) hK) rfl rfl hl.1 rfl (lv_room (Nat.le_of_ble_eq_true rfl)) d_Rdg_carryRegular_27 ⟨Nat.le_of_ble_eq_true rfl, Nat.le_of_ble_eq_true rfl⟩) hS hP (fun H locs hP hS => ?_)
  refine lv_istore (lv' := [(5, .int x5), (4, .int w3.1), (0, .ref q0), (1, .int a1), (2, .int a2), (3, .int a3)]) hx hb d_Rdg_carryRegular_30 hl (by decide) rfl (fun ls hl => ?_)
  refine lv_aload_n hx hb d_Rdg_carryRegular_32 rfl (lv_at hl 2 rfl) ?_
  refine lv_iload_n hx hb d_Rdg_carryRegular_33 rfl (lv_at hl 3 rfl) ?_
  refine lv_iload hx hb d_Rdg_carryRegular_34 (lv_at hl 0 rfl) ?_
  have hC : [0, 1, 2, 3, 4, 5, 6, 7, 8, 9, 10].map (fun i => (wRdg cI q0 q1 q2 q3 q4 q5 q6 q7 q8 q9 q10 u4)[i]?) = (wRdg cI q0 q1 q2 q3 q4 q5 q6 q7 q8 q9 q10 u4).map some := rfl
  obtain ⟨w6, hc, hf⟩ := bd_o hf
  rcases w6 with v7 | w8
  · have hf := bx_l hf
    exact thr_V (As := [.int a1, .int x5]) (rest := []) ⟨hx, hb, hml, hown, hw⟩ (x_Rdg_rebuild l hfl D cI tJ q0 q1 q2 q3 q4 q5 q6 q7 q8 q9 q10 (dj_sub hd [0, 1, 2, 3, 4, 5, 6, 7, 8, 9, 10] (by decide) rfl) a1 x5 u4 v7 hc) (cwV 2 hw g_119 rfl rfl rfl (by decide +kernel) ⟨Nat.le_of_ble_eq_true rfl, Nat.le_of_ble_eq_true rfl⟩) (pre_VX (P_sub hC hP) hK rfl rfl hJ hX hS (ad_sub [0, 1, 2, 3, 4, 5, 6, 7, 8, 9, 10] rfl)) rfl hl.1 (Nat.le_of_ble_eq_true rfl) d_Rdg_carryRegular_36 ⟨Nat.le_of_ble_eq_true rfl, Nat.le_of_ble_eq_true rfl⟩ hlocks hout hS hP (hD _) hC rfl rfl (eq_tr (f := wRdg cI q0 q1 q2 q3 q4 q5 q6 q7 q8 q9 q10) (sl hf) rfl)
  have hf := bx_r hf
  refine rw_v (va_runV (As := [.int a1, .int x5]) (rest := []) ⟨hx, hb, hml, hown, hw⟩ (c_Rdg_rebuild l D cI q0 q1 q2 q3 q4 q5 q6 q7 q8 q9 q10 (dj_sub hd [0, 1, 2, 3, 4, 5, 6, 7, 8, 9, 10] (by decide) rfl) a1 x5 u4 w8 hc) (cwV 2 hw g_119 rfl rfl rfl (by decide +kernel) ⟨Nat.le_of_ble_eq_true rfl, Nat.le_of_ble_eq_true rfl⟩) (pre_V (P_sub hC hP) hK rfl rfl) rfl rfl hl.1 rfl (lv_room (Nat.le_of_ble_eq_true rfl)) d_Rdg_carryRegular_36 ⟨Nat.le_of_ble_eq_true rfl, Nat.le_of_ble_eq_true rfl⟩) hS hP (hD _) hC rfl rfl (fun H locs hP hS => ?_)
  obtain ⟨u9, e_u9, hf⟩ := tk_o hf
  have hP : va_P D cls (wRdg cI q0 q1 q2 q3 q4 q5 q6 q7 q8 q9 q10 u9) H := by rw [e_u9]; exact hP
  refine lv_iload hx hb d_Rdg_carryRegular_39 (lv_at hl 0 rfl) ?_
  exact ox hf
def f_Rdg_carryEnd (a1 : Int32) (a2 : Int32) (a3 : Int32) (a4 : Int32) (u : gU) : Option (gU ⊕ (Int32 × gU)) := bd (f_Pas_limitOfEnd_R u) fun x1 => bd (f_Rea_readNumber a3 x1 (u 1 6) (sb [9, 10] u)) fun w2 => bx w2 (fun v3 => some (.inl (mg [9, 10] 0 u v3))) fun w4 => tk (mg [9, 10] 0 u w4.2) fun u5 => bd (f_Fol_unfoldEnd w4.1 a2 a4) fun x6 => bd (f_Rdg_rebuild a1 x6 u5) fun w7 => bx w7 (fun v8 => some (.inl (v8))) fun w9 => tk (w9) fun u10 => some (.inr (x6, u10))
set_option maxHeartbeats 4000000 in
set_option maxRecDepth 100000 in
theorem c_Rdg_carryEnd (l : Launch) (D : va_G) (cI : ClassId) (tJ : Nat) (q0 : Nat) (q1 : Nat) (q2 : Nat) (q3 : Nat) (q4 : Nat) (q5 : Nat) (q6 : Nat) (q7 : Nat) (q8 : Nat) (q9 : Nat) (q10 : Nat) (hd : dj [q0, q1, q2, q3, q4, q5, q6, q7, q8, q9, q10]) (a1 : Int32) (a2 : Int32) (a3 : Int32) (a4 : Int32) (u : gU) (r : Int32) (v : gU) (hf : f_Rdg_carryEnd a1 a2 a3 a4 u = some (.inr (r, v))) : Met l y_Rdg_carryEnd (.code y_Rdg_carryEnd b_Rdg_carryEnd 7 (some .int) :: TS) ({ frames := 3, cells := 0, slots := 0, locals := 69 }) (va_Pc [.ref q0, .int a1, .int a2, .int a3, .int a4] (fun U => va_P D cls (wRdg cI q0 q1 q2 q3 q4 q5 q6 q7 q8 q9 q10 u) U.heap ∧ va_K D cls [(cI, .int)] U ∧ Jt tJ (ad [q0, q1, q2, q3, q4, q5, q6, q7, q8, q9, q10]) U)) (va_Qi (fun x (_ : Unit) => x = r) (fun _ t => va_P D cls (wRdg cI q0 q1 q2 q3 q4 q5 q6 q7 q8 q9 q10 v) t.heap) (ad [q0, q1, q2, q3, q4, q5, q6, q7, q8, q9, q10])) 0 0 (ad [q0, q1, q2, q3, q4, q5, q6, q7, q8, q9, q10]) := by
  refine ct_ofJ (by decide +kernel) (Nat.le_of_ble_eq_true rfl) ?_
  intro p e s m below meth c ls hx hb hml hr hlocks hown hw hP hK hJ hl
  have hS : va_S (ad [q0, q1, q2, q3, q4, q5, q6, q7, q8, q9, q10]) s.heap s.heap [] := va_S.rf
  have hD : ∀ v, va_D (ad [q0, q1, q2, q3, q4, q5, q6, q7, q8, q9, q10]) (wRdg cI q0 q1 q2 q3 q4 q5 q6 q7 q8 q9 q10 v) := fun _ => dj_D rfl hd
  have hl : lv_has ls 7 [(0, .ref q0), (1, .int a1), (2, .int a2), (3, .int a3), (4, .int a4)] := hl
  have hP : va_P D cls (wRdg cI q0 q1 q2 q3 q4 q5 q6 q7 q8 q9 q10 u) s.heap := hP
  unfold f_Rdg_carryEnd at hf
  refine lv_aload_n hx hb d_Rdg_carryEnd_0 rfl (lv_at hl 0 rfl) ?_
  refine va_get (D := D) (ci := 4) (v := .ref q9) (C := R_Rdg) (T := F_Rdg) (N := 10) hx hb hw in_Rdg hown hK hP 0 rfl rfl 9 (by decide) (hw _ m_626) (fun _ h9 => h9) rfl d_Rdg_carryEnd_1 ?_
  refine lv_iload_n hx hb d_Rdg_carryEnd_4 rfl (lv_at hl 3 rfl) ?_
  refine lv_aload_n hx hb d_Rdg_carryEnd_5 rfl (lv_at hl 0 rfl) ?_
  have hC : [0, 1, 2, 3, 4, 5, 6, 7, 8, 9, 10].map (fun i => (wRdg cI q0 q1 q2 q3 q4 q5 q6 q7 q8 q9 q10 u)[i]?) = (wRdg cI q0 q1 q2 q3 q4 q5 q6 q7 q8 q9 q10 u).map some := rfl
  obtain ⟨x1, hc, hf⟩ := bd_o hf
  refine ro_i (va_runU (As := []) (rest := [.int a3, .ref q9]) ⟨hx, hb, hml, hown, hw⟩ (c_Pas_limitOfEnd_R l D cI tJ q0 q1 q2 q3 q4 q5 q6 q7 q8 q9 q10 u x1 hc) (va_cwU 0 hw g_120 rfl rfl rfl rfl (by decide +kernel) ⟨Nat.le_of_ble_eq_true rfl, Nat.le_of_ble_eq_true rfl⟩) (pre_VJ (P_sub hC hP) hK rfl rfl (Jt_call hJ hS (fun _ h => h.elim))) rfl rfl hl.1 rfl (lv_room (Nat.le_of_ble_eq_true rfl)) d_Rdg_carryEnd_6 ⟨Nat.le_of_ble_eq_true rfl, Nat.le_of_ble_eq_true rfl⟩) hS hP (fun H locs hP hS => ?_)
  refine lv_aload_n hx hb d_Rdg_carryEnd_9 rfl (lv_at hl 0 rfl) ?_
  refine va_get (D := D) (ci := 4) (v := .ref q1) (C := R_Rdg) (T := F_Rdg) (N := 10) hx hb hw in_Rdg hown hK hP 0 rfl rfl 0 (by decide) (hw _ m_635) (fun x9 h9 => u_same (hw _ m_357) x9 h9) rfl d_Rdg_carryEnd_10 ?_
  refine va_get (D := D) (ci := 1) (v := .int (u 1 6)) (C := R_Pic) (T := F_Pic) (N := 11) hx hb hw in_Pic hown hK hP 1 rfl rfl 6 (by decide) (hw _ m_665) (fun _ h9 => h9) rfl d_Rdg_carryEnd_13 ?_
  have hC : [9, 10].map (fun i => (wRdg cI q0 q1 q2 q3 q4 q5 q6 q7 q8 q9 q10 u)[i]?) = (wRea cI q9 q10 (sb [9, 10] u)).map some := rfl
  obtain ⟨w2, hc, hf⟩ := bd_o hf
  rcases w2 with v3 | w4
  · have hf := bx_l hf
    exact xo hf
  have hf := bx_r hf
  refine rw_i (va_runV (As := [.int a3, .int x1, .int (u 1 6)]) (rest := []) ⟨hx, hb, hml, hown, hw⟩ (c_Rea_readNumber l D cI q9 q10 (dj_sub hd [9, 10] (by decide) rfl) a3 x1 (u 1 6) (sb [9, 10] u) w4.1 w4.2 hc) (cwV 3 hw g_117 rfl rfl rfl (by decide +kernel) ⟨Nat.le_of_ble_eq_true rfl, Nat.le_of_ble_eq_true rfl⟩) (pre_V (P_sub hC hP) hK rfl rfl) rfl rfl hl.1 rfl (lv_room (Nat.le_of_ble_eq_true rfl)) d_Rdg_carryEnd_16 ⟨Nat.le_of_ble_eq_true rfl, Nat.le_of_ble_eq_true rfl⟩) hS hP (hD _) hC rfl rfl (fun H locs hP hS => ?_)
  obtain ⟨u5, e_u5, hf⟩ := tk_o hf
  have hP : va_P D cls (wRdg cI q0 q1 q2 q3 q4 q5 q6 q7 q8 q9 q10 u5) H := by rw [e_u5]; exact hP
  refine lv_istore (lv' := [(5, .int w4.1), (0, .ref q0), (1, .int a1), (2, .int a2), (3, .int a3), (4, .int a4)]) hx hb d_Rdg_carryEnd_19 hl (by decide) rfl (fun ls hl => ?_)
  refine lv_iload hx hb d_Rdg_carryEnd_21 (lv_at hl 0 rfl) ?_
  refine lv_iload_n hx hb d_Rdg_carryEnd_23 rfl (lv_at hl 3 rfl) ?_
  refine lv_iload hx hb d_Rdg_carryEnd_24 (lv_at hl 5 rfl) ?_
  have hC : ([] : List Nat).map (fun i => (wRdg cI q0 q1 q2 q3 q4 q5 q6 q7 q8 q9 q10 u5)[i]?) = ([] : va_W).map some := rfl
  obtain ⟨x6, hc, hf⟩ := bd_o hf
  refine ro_i (va_runS (As := [.int w4.1, .int a2, .int a4]) (rest := []) ⟨hx, hb, hml, hown, hw⟩ (c_Fol_unfoldEnd l D cI w4.1 a2 a4 x6 hc) (va_cwS 3 hw g_121 rfl rfl rfl (by decide +kernel) ⟨Nat.le_of_ble_eq_true rfl, Nat.le_of_ble_eq_true rfl⟩) (pre_S (P_sub hC hP) hK) rfl rfl hl.1 rfl (lv_room (Nat.le_of_ble_eq_true rfl)) d_Rdg_carryEnd_26 ⟨Nat.le_of_ble_eq_true rfl, Nat.le_of_ble_eq_true rfl⟩) hS hP (fun H locs hP hS => ?_)
  refine lv_istore (lv' := [(6, .int x6), (5, .int w4.1), (0, .ref q0), (1, .int a1), (2, .int a2), (3, .int a3), (4, .int a4)]) hx hb d_Rdg_carryEnd_29 hl (by decide) rfl (fun ls hl => ?_)
  refine lv_aload_n hx hb d_Rdg_carryEnd_31 rfl (lv_at hl 2 rfl) ?_
  refine lv_iload_n hx hb d_Rdg_carryEnd_32 rfl (lv_at hl 3 rfl) ?_
  refine lv_iload hx hb d_Rdg_carryEnd_33 (lv_at hl 0 rfl) ?_
  have hC : [0, 1, 2, 3, 4, 5, 6, 7, 8, 9, 10].map (fun i => (wRdg cI q0 q1 q2 q3 q4 q5 q6 q7 q8 q9 q10 u5)[i]?) = (wRdg cI q0 q1 q2 q3 q4 q5 q6 q7 q8 q9 q10 u5).map some := rfl
  obtain ⟨w7, hc, hf⟩ := bd_o hf
  rcases w7 with v8 | w9
  · have hf := bx_l hf
    exact xo hf
  have hf := bx_r hf
  refine rw_v (va_runV (As := [.int a1, .int x6]) (rest := []) ⟨hx, hb, hml, hown, hw⟩ (c_Rdg_rebuild l D cI q0 q1 q2 q3 q4 q5 q6 q7 q8 q9 q10 (dj_sub hd [0, 1, 2, 3, 4, 5, 6, 7, 8, 9, 10] (by decide) rfl) a1 x6 u5 w9 hc) (cwV 2 hw g_119 rfl rfl rfl (by decide +kernel) ⟨Nat.le_of_ble_eq_true rfl, Nat.le_of_ble_eq_true rfl⟩) (pre_V (P_sub hC hP) hK rfl rfl) rfl rfl hl.1 rfl (lv_room (Nat.le_of_ble_eq_true rfl)) d_Rdg_carryEnd_35 ⟨Nat.le_of_ble_eq_true rfl, Nat.le_of_ble_eq_true rfl⟩) hS hP (hD _) hC rfl rfl (fun H locs hP hS => ?_)
  obtain ⟨u10, e_u10, hf⟩ := tk_o hf
  have hP : va_P D cls (wRdg cI q0 q1 q2 q3 q4 q5 q6 q7 q8 q9 q10 u10) H := by rw [e_u10]; exact hP
  refine lv_iload hx hb d_Rdg_carryEnd_38 (lv_at hl 0 rfl) ?_
  exact rt_i (wRdg cI q0 q1 q2 q3 q4 q5 q6 q7 q8 q9 q10) hx hb hr hlocks hS hP (sr hf) d_Rdg_carryEnd_40
set_option maxHeartbeats 4000000 in
set_option maxRecDepth 100000 in
theorem x_Rdg_carryEnd (l : Launch) (hfl : l.flags = pinnedFlags ++ [noTraceFlag]) (D : va_G) (cI : ClassId) (tJ : Nat) (q0 : Nat) (q1 : Nat) (q2 : Nat) (q3 : Nat) (q4 : Nat) (q5 : Nat) (q6 : Nat) (q7 : Nat) (q8 : Nat) (q9 : Nat) (q10 : Nat) (hd : dj [q0, q1, q2, q3, q4, q5, q6, q7, q8, q9, q10]) (a1 : Int32) (a2 : Int32) (a3 : Int32) (a4 : Int32) (u : gU) (v : gU) (hf : f_Rdg_carryEnd a1 a2 a3 a4 u = some (.inl v)) : MetX l y_Rdg_carryEnd (.code y_Rdg_carryEnd b_Rdg_carryEnd 7 (some .int) :: TS) ({ frames := 9, cells := 1, slots := 6, locals := 177 }) (va_Pc [.ref q0, .int a1, .int a2, .int a3, .int a4] (fun U => va_P D cls (wRdg cI q0 q1 q2 q3 q4 q5 q6 q7 q8 q9 q10 u) U.heap ∧ va_K D cls [(cI, .int)] U ∧ Jt tJ (ad [q0, q1, q2, q3, q4, q5, q6, q7, q8, q9, q10]) U ∧ Xt (ad [q0, q1, q2, q3, q4, q5, q6, q7, q8, q9, q10]) U)) D cls (wRdg cI q0 q1 q2 q3 q4 q5 q6 q7 q8 q9 q10 v) (ad [q0, q1, q2, q3, q4, q5, q6, q7, q8, q9, q10]) := by
  refine ct_ofX hfl (by decide +kernel) (Nat.le_of_ble_eq_true rfl) ?_
  intro p e s m below meth c ls hx hb hml hr hlocks hown hw hP hK hJ hl hX htr hout
  have hS : va_S (ad [q0, q1, q2, q3, q4, q5, q6, q7, q8, q9, q10]) s.heap s.heap [] := va_S.rf
  have hD : ∀ v, va_D (ad [q0, q1, q2, q3, q4, q5, q6, q7, q8, q9, q10]) (wRdg cI q0 q1 q2 q3 q4 q5 q6 q7 q8 q9 q10 v) := fun _ => dj_D rfl hd
  have hl : lv_has ls 7 [(0, .ref q0), (1, .int a1), (2, .int a2), (3, .int a3), (4, .int a4)] := hl
  have hP : va_P D cls (wRdg cI q0 q1 q2 q3 q4 q5 q6 q7 q8 q9 q10 u) s.heap := hP
  unfold f_Rdg_carryEnd at hf
  refine lv_aload_n hx hb d_Rdg_carryEnd_0 rfl (lv_at hl 0 rfl) ?_
  refine va_get (D := D) (ci := 4) (v := .ref q9) (C := R_Rdg) (T := F_Rdg) (N := 10) hx hb hw in_Rdg hown hK hP 0 rfl rfl 9 (by decide) (hw _ m_626) (fun _ h9 => h9) rfl d_Rdg_carryEnd_1 ?_
  refine lv_iload_n hx hb d_Rdg_carryEnd_4 rfl (lv_at hl 3 rfl) ?_
  refine lv_aload_n hx hb d_Rdg_carryEnd_5 rfl (lv_at hl 0 rfl) ?_
  have hC : [0, 1, 2, 3, 4, 5, 6, 7, 8, 9, 10].map (fun i => (wRdg cI q0 q1 q2 q3 q4 q5 q6 q7 q8 q9 q10 u)[i]?) = (wRdg cI q0 q1 q2 q3 q4 q5 q6 q7 q8 q9 q10 u).map some := rfl
  obtain ⟨x1, hc, hf⟩ := bd_o hf
  refine ro_i (va_runU (As := []) (rest := [.int a3, .ref q9]) ⟨hx, hb, hml, hown, hw⟩ (c_Pas_limitOfEnd_R l D cI tJ q0 q1 q2 q3 q4 q5 q6 q7 q8 q9 q10 u x1 hc) (va_cwU 0 hw g_120 rfl rfl rfl rfl (by decide +kernel) ⟨Nat.le_of_ble_eq_true rfl, Nat.le_of_ble_eq_true rfl⟩) (pre_VJ (P_sub hC hP) hK rfl rfl (Jt_call hJ hS (fun _ h => h.elim))) rfl rfl hl.1 rfl (lv_room (Nat.le_of_ble_eq_true rfl)) d_Rdg_carryEnd_6 ⟨Nat.le_of_ble_eq_true rfl, Nat.le_of_ble_eq_true rfl⟩) hS hP (fun H locs hP hS => ?_)
  refine lv_aload_n hx hb d_Rdg_carryEnd_9 rfl (lv_at hl 0 rfl) ?_
  refine va_get (D := D) (ci := 4) (v := .ref q1) (C := R_Rdg) (T := F_Rdg) (N := 10) hx hb hw in_Rdg hown hK hP 0 rfl rfl 0 (by decide) (hw _ m_635) (fun x9 h9 => u_same (hw _ m_357) x9 h9) rfl d_Rdg_carryEnd_10 ?_
  refine va_get (D := D) (ci := 1) (v := .int (u 1 6)) (C := R_Pic) (T := F_Pic) (N := 11) hx hb hw in_Pic hown hK hP 1 rfl rfl 6 (by decide) (hw _ m_665) (fun _ h9 => h9) rfl d_Rdg_carryEnd_13 ?_
  have hC : [9, 10].map (fun i => (wRdg cI q0 q1 q2 q3 q4 q5 q6 q7 q8 q9 q10 u)[i]?) = (wRea cI q9 q10 (sb [9, 10] u)).map some := rfl
  obtain ⟨w2, hc, hf⟩ := bd_o hf
  rcases w2 with v3 | w4
  · have hf := bx_l hf
    exact thr_V (As := [.int a3, .int x1, .int (u 1 6)]) (rest := []) ⟨hx, hb, hml, hown, hw⟩ (x_Rea_readNumber l hfl D cI tJ q9 q10 (dj_sub hd [9, 10] (by decide) rfl) a3 x1 (u 1 6) (sb [9, 10] u) v3 hc) (cwV 3 hw g_117 rfl rfl rfl (by decide +kernel) ⟨Nat.le_of_ble_eq_true rfl, Nat.le_of_ble_eq_true rfl⟩) (pre_VX (P_sub hC hP) hK rfl rfl hJ hX hS (ad_sub [9, 10] rfl)) rfl hl.1 (Nat.le_of_ble_eq_true rfl) d_Rdg_carryEnd_16 ⟨Nat.le_of_ble_eq_true rfl, Nat.le_of_ble_eq_true rfl⟩ hlocks hout hS hP (hD _) hC rfl rfl (eq_tr (f := wRdg cI q0 q1 q2 q3 q4 q5 q6 q7 q8 q9 q10) (sl hf) rfl)
  have hf := bx_r hf
  refine rw_i (va_runV (As := [.int a3, .int x1, .int (u 1 6)]) (rest := []) ⟨hx, hb, hml, hown, hw⟩ (c_Rea_readNumber l D cI q9 q10 (dj_sub hd [9, 10] (by decide) rfl) a3 x1 (u 1 6) (sb [9, 10] u) w4.1 w4.2 hc) (cwV 3 hw g_117 rfl rfl rfl (by decide +kernel) ⟨Nat.le_of_ble_eq_true rfl, Nat.le_of_ble_eq_true rfl⟩) (pre_V (P_sub hC hP) hK rfl rfl) rfl rfl hl.1 rfl (lv_room (Nat.le_of_ble_eq_true rfl)) d_Rdg_carryEnd_16 ⟨Nat.le_of_ble_eq_true rfl, Nat.le_of_ble_eq_true rfl⟩) hS hP (hD _) hC rfl rfl (fun H locs hP hS => ?_)
  obtain ⟨u5, e_u5, hf⟩ := tk_o hf
  have hP : va_P D cls (wRdg cI q0 q1 q2 q3 q4 q5 q6 q7 q8 q9 q10 u5) H := by rw [e_u5]; exact hP
  refine lv_istore (lv' := [(5, .int w4.1), (0, .ref q0), (1, .int a1), (2, .int a2), (3, .int a3), (4, .int a4)]) hx hb d_Rdg_carryEnd_19 hl (by decide) rfl (fun ls hl => ?_)
  refine lv_iload hx hb d_Rdg_carryEnd_21 (lv_at hl 0 rfl) ?_
  refine lv_iload_n hx hb d_Rdg_carryEnd_23 rfl (lv_at hl 3 rfl) ?_
  refine lv_iload hx hb d_Rdg_carryEnd_24 (lv_at hl 5 rfl) ?_
  have hC : ([] : List Nat).map (fun i => (wRdg cI q0 q1 q2 q3 q4 q5 q6 q7 q8 q9 q10 u5)[i]?) = ([] : va_W).map some := rfl
  obtain ⟨x6, hc, hf⟩ := bd_o hf
  refine ro_i (va_runS (As := [.int w4.1, .int a2, .int a4]) (rest := []) ⟨hx, hb, hml, hown, hw⟩ (c_Fol_unfoldEnd l D cI w4.1 a2 a4 x6 hc) (va_cwS 3 hw g_121 rfl rfl rfl (by decide +kernel) ⟨Nat.le_of_ble_eq_true rfl, Nat.le_of_ble_eq_true rfl⟩) (pre_S (P_sub hC hP) hK) rfl rfl hl.1 rfl (lv_room (Nat.le_of_ble_eq_true rfl)) d_Rdg_carryEnd_26 ⟨Nat.le_of_ble_eq_true rfl, Nat.le_of_ble_eq_true rfl⟩) hS hP (fun H locs hP hS => ?_)
  refine lv_istore (lv' := [(6, .int x6), (5, .int w4.1), (0, .ref q0), (1, .int a1), (2, .int a2), (3, .int a3), (4, .int a4)]) hx hb d_Rdg_carryEnd_29 hl (by decide) rfl (fun ls hl => ?_)
  refine lv_aload_n hx hb d_Rdg_carryEnd_31 rfl (lv_at hl 2 rfl) ?_
  refine lv_iload_n hx hb d_Rdg_carryEnd_32 rfl (lv_at hl 3 rfl) ?_
  refine lv_iload hx hb d_Rdg_carryEnd_33 (lv_at hl 0 rfl) ?_
  have hC : [0, 1, 2, 3, 4, 5, 6, 7, 8, 9, 10].map (fun i => (wRdg cI q0 q1 q2 q3 q4 q5 q6 q7 q8 q9 q10 u5)[i]?) = (wRdg cI q0 q1 q2 q3 q4 q5 q6 q7 q8 q9 q10 u5).map some := rfl
  obtain ⟨w7, hc, hf⟩ := bd_o hf
  rcases w7 with v8 | w9
  · have hf := bx_l hf
    exact thr_V (As := [.int a1, .int x6]) (rest := []) ⟨hx, hb, hml, hown, hw⟩ (x_Rdg_rebuild l hfl D cI tJ q0 q1 q2 q3 q4 q5 q6 q7 q8 q9 q10 (dj_sub hd [0, 1, 2, 3, 4, 5, 6, 7, 8, 9, 10] (by decide) rfl) a1 x6 u5 v8 hc) (cwV 2 hw g_119 rfl rfl rfl (by decide +kernel) ⟨Nat.le_of_ble_eq_true rfl, Nat.le_of_ble_eq_true rfl⟩) (pre_VX (P_sub hC hP) hK rfl rfl hJ hX hS (ad_sub [0, 1, 2, 3, 4, 5, 6, 7, 8, 9, 10] rfl)) rfl hl.1 (Nat.le_of_ble_eq_true rfl) d_Rdg_carryEnd_35 ⟨Nat.le_of_ble_eq_true rfl, Nat.le_of_ble_eq_true rfl⟩ hlocks hout hS hP (hD _) hC rfl rfl (eq_tr (f := wRdg cI q0 q1 q2 q3 q4 q5 q6 q7 q8 q9 q10) (sl hf) rfl)
  have hf := bx_r hf
  refine rw_v (va_runV (As := [.int a1, .int x6]) (rest := []) ⟨hx, hb, hml, hown, hw⟩ (c_Rdg_rebuild l D cI q0 q1 q2 q3 q4 q5 q6 q7 q8 q9 q10 (dj_sub hd [0, 1, 2, 3, 4, 5, 6, 7, 8, 9, 10] (by decide) rfl) a1 x6 u5 w9 hc) (cwV 2 hw g_119 rfl rfl rfl (by decide +kernel) ⟨Nat.le_of_ble_eq_true rfl, Nat.le_of_ble_eq_true rfl⟩) (pre_V (P_sub hC hP) hK rfl rfl) rfl rfl hl.1 rfl (lv_room (Nat.le_of_ble_eq_true rfl)) d_Rdg_carryEnd_35 ⟨Nat.le_of_ble_eq_true rfl, Nat.le_of_ble_eq_true rfl⟩) hS hP (hD _) hC rfl rfl (fun H locs hP hS => ?_)
  obtain ⟨u10, e_u10, hf⟩ := tk_o hf
  have hP : va_P D cls (wRdg cI q0 q1 q2 q3 q4 q5 q6 q7 q8 q9 q10 u10) H := by rw [e_u10]; exact hP
  refine lv_iload hx hb d_Rdg_carryEnd_38 (lv_at hl 0 rfl) ?_
  exact ox hf
def J_Pas_overRegular_R_94 (l1 : Int32) (l3 : Int32) (l4 : Int32) (s0 : Int32) (u : gU) : Option (gU ⊕ gU) := bd (f_Rdg_carryRegular l1 l4 s0 u) fun w1 => bx w1 (fun v2 => some (.inl (v2))) fun w3 => tk (w3.2) fun u4 => bd (f_Ctx_learnRegular l3 w3.1 (u4 1 4) (sb [2, 3, 4, 5, 6, 7] u4)) fun w5 => tk (mg [2, 3, 4, 5, 6, 7] 0 u4 w5) fun u6 => some (.inr u6)
def J_Pas_overRegular_R_93 (l1 : Int32) (l3 : Int32) (l4 : Int32) (u : gU) : Option (gU ⊕ gU) := J_Pas_overRegular_R_94 l1 l3 l4 0 u
def J_Pas_overRegular_R_15 (l1 : Int32) (l2 : Int32) (s1 : Int32) (u : gU) : Option (gU ⊕ gU) := tk (st2 u 0 4 s1) fun u1 => tk (if 0 ≤ l2 then l2 else 0 - l2) fun x2 => bd (f_Pas_foretoldByNeighbours_R u1) fun x3 => gd (ix x2 367) (bd (f_Pic_bounded (x3 + ((u1 0 4) * (u1 5 (tc x2)))) (sb [1] u1)) fun x5 => tk (st2 u1 0 5 x5) fun u6 => bd (f_Ctx_kOfRegular x2 (sb [2, 3, 4, 5, 6, 7] u6)) fun x7 => bq ((u6 1 3) = 0) (bq (x7 = 0) (bd (f_Ctx_leansDown x2 (sb [2, 3, 4, 5, 6, 7] u6)) fun x8 => bq (x8 = 0) (J_Pas_overRegular_R_93 l1 x2 x7 u6) (J_Pas_overRegular_R_94 l1 x2 x7 1 u6)) (J_Pas_overRegular_R_93 l1 x2 x7 u6)) (J_Pas_overRegular_R_93 l1 x2 x7 u6))
def f_Pas_overRegular_R (a1 : Int32) (u : gU) : Option (gU ⊕ gU) := bd (f_Pas_signedContext_R u) fun x1 => bq (0 ≤ x1) (J_Pas_overRegular_R_15 a1 x1 1 u) (J_Pas_overRegular_R_15 a1 x1 (-1) u)
set_option maxHeartbeats 4000000 in
set_option maxRecDepth 100000 in
theorem c_Pas_overRegular_R (l : Launch) (D : va_G) (cI : ClassId) (tJ : Nat) (q0 : Nat) (q1 : Nat) (q2 : Nat) (q3 : Nat) (q4 : Nat) (q5 : Nat) (q6 : Nat) (q7 : Nat) (q8 : Nat) (q9 : Nat) (q10 : Nat) (hd : dj [q0, q1, q2, q3, q4, q5, q6, q7, q8, q9, q10]) (a1 : Int32) (u : gU) (v : gU) (hf : f_Pas_overRegular_R a1 u = some (.inr v)) : Met l y_Pas_overRegular (.code y_Pas_overRegular b_Pas_overRegular 7 none :: TS) ({ frames := 4, cells := 0, slots := 0, locals := 94 }) (va_Pc [.ref q0, .int a1] (fun U => va_P D cls (wRdg cI q0 q1 q2 q3 q4 q5 q6 q7 q8 q9 q10 u) U.heap ∧ va_K D cls [(cI, .int)] U ∧ Jt tJ (ad [q0, q1, q2, q3, q4, q5, q6, q7, q8, q9, q10]) U)) (va_Qv (fun (_ : Unit) => True) (fun _ t => va_P D cls (wRdg cI q0 q1 q2 q3 q4 q5 q6 q7 q8 q9 q10 v) t.heap) (ad [q0, q1, q2, q3, q4, q5, q6, q7, q8, q9, q10])) 0 0 (ad [q0, q1, q2, q3, q4, q5, q6, q7, q8, q9, q10]) := by
  refine ct_ofJ (by decide +kernel) (Nat.le_of_ble_eq_true rfl) ?_
  intro p e s m below meth c ls hx hb hml hr hlocks hown hw hP hK hJ hl
  have hS : va_S (ad [q0, q1, q2, q3, q4, q5, q6, q7, q8, q9, q10]) s.heap s.heap [] := va_S.rf
  have hD : ∀ v, va_D (ad [q0, q1, q2, q3, q4, q5, q6, q7, q8, q9, q10]) (wRdg cI q0 q1 q2 q3 q4 q5 q6 q7 q8 q9 q10 v) := fun _ => dj_D rfl hd
  have hl : lv_has ls 7 [(0, .ref q0), (1, .int a1)] := hl
  have hP : va_P D cls (wRdg cI q0 q1 q2 q3 q4 q5 q6 q7 q8 q9 q10 u) s.heap := hP
  have j94 : ∀ (ls : Array Slot) (H : Heap) (locs : List Loc) (l1 : Int32) (l3 : Int32) (l4 : Int32) (s0 : Int32) (u : gU), lv_has ls 7 [(0, .ref q0), (1, .int l1), (3, .int l3), (4, .int l4)] → va_P D cls (wRdg cI q0 q1 q2 q3 q4 q5 q6 q7 q8 q9 q10 u) H → va_S (ad [q0, q1, q2, q3, q4, q5, q6, q7, q8, q9, q10]) s.heap H locs → J_Pas_overRegular_R_94 l1 l3 l4 s0 u = some (.inr v) → W p l e ({ frames := 4, cells := 0, slots := 0, locals := 94 }) s m [.ref q0, .int a1].toArray below meth c H locs 0 0 (MQ below (va_Qv (fun (_ : Unit) => True) (fun _ t => va_P D cls (wRdg cI q0 q1 q2 q3 q4 q5 q6 q7 q8 q9 q10 v) t.heap) (ad [q0, q1, q2, q3, q4, q5, q6, q7, q8, q9, q10])) [.ref q0, .int a1].toArray s 0 0 (ad [q0, q1, q2, q3, q4, q5, q6, q7, q8, q9, q10])) (F0 m 94 ls [.int s0]) := by
    intro ls H locs l1 l3 l4 s0 u hl hP hS hf
    unfold J_Pas_overRegular_R_94 at hf
    refine lv_istore (lv' := [(5, .int s0), (0, .ref q0), (1, .int l1), (3, .int l3), (4, .int l4)]) hx hb d_Pas_overRegular_94 hl (by decide) rfl (fun ls hl => ?_)
    refine lv_aload_n hx hb d_Pas_overRegular_96 rfl (lv_at hl 1 rfl) ?_
    refine lv_iload_n hx hb d_Pas_overRegular_97 rfl (lv_at hl 2 rfl) ?_
    refine lv_iload hx hb d_Pas_overRegular_98 (lv_at hl 4 rfl) ?_
    refine lv_iload hx hb d_Pas_overRegular_100 (lv_at hl 0 rfl) ?_
    have hC : [0, 1, 2, 3, 4, 5, 6, 7, 8, 9, 10].map (fun i => (wRdg cI q0 q1 q2 q3 q4 q5 q6 q7 q8 q9 q10 u)[i]?) = (wRdg cI q0 q1 q2 q3 q4 q5 q6 q7 q8 q9 q10 u).map some := rfl
    obtain ⟨w1, hc, hf⟩ := bd_o hf
    rcases w1 with v2 | w3
    · have hf := bx_l hf
      exact xo hf
    have hf := bx_r hf
    refine rw_i (va_runU (As := [.int l1, .int l4, .int s0]) (rest := []) ⟨hx, hb, hml, hown, hw⟩ (c_Rdg_carryRegular l D cI q0 q1 q2 q3 q4 q5 q6 q7 q8 q9 q10 (dj_sub hd [0, 1, 2, 3, 4, 5, 6, 7, 8, 9, 10] (by decide) rfl) l1 l4 s0 u w3.1 w3.2 hc) (va_cwA 3 hw g_122 rfl rfl rfl hJ.2.2.2.1 (by decide +kernel) ⟨Nat.le_of_ble_eq_true rfl, Nat.le_of_ble_eq_true rfl⟩) (pre_V (P_sub hC hP) hK rfl rfl) rfl rfl hl.1 rfl (lv_room (Nat.le_of_ble_eq_true rfl)) d_Pas_overRegular_102 ⟨Nat.le_of_ble_eq_true rfl, Nat.le_of_ble_eq_true rfl⟩) hS hP (hD _) hC rfl rfl (fun H locs hP hS => ?_)
    obtain ⟨u4, e_u4, hf⟩ := tk_o hf
    have hP : va_P D cls (wRdg cI q0 q1 q2 q3 q4 q5 q6 q7 q8 q9 q10 u4) H := by rw [e_u4]; exact hP
    refine lv_istore (lv' := [(6, .int w3.1), (5, .int s0), (0, .ref q0), (1, .int l1), (3, .int l3), (4, .int l4)]) hx hb d_Pas_overRegular_105 hl (by decide) rfl (fun ls hl => ?_)
    refine lv_aload_n hx hb d_Pas_overRegular_107 rfl (lv_at hl 2 rfl) ?_
    refine va_get (D := D) (ci := 4) (v := .ref q2) (C := R_Rdg) (T := F_Rdg) (N := 10) hx hb hw in_Rdg hown hK hP 0 rfl rfl 1 (by decide) (hw _ m_186) (fun _ h9 => h9) rfl d_Pas_overRegular_108 ?_
    refine lv_iload_n hx hb d_Pas_overRegular_111 rfl (lv_at hl 4 rfl) ?_
    refine lv_iload hx hb d_Pas_overRegular_112 (lv_at hl 0 rfl) ?_
    refine lv_aload_n hx hb d_Pas_overRegular_114 rfl (lv_at hl 2 rfl) ?_
    refine va_get (D := D) (ci := 4) (v := .ref q1) (C := R_Rdg) (T := F_Rdg) (N := 10) hx hb hw in_Rdg hown hK hP 0 rfl rfl 0 (by decide) (hw _ m_165) (fun _ h9 => h9) rfl d_Pas_overRegular_115 ?_
    refine va_get (D := D) (ci := 1) (v := .int (u4 1 4)) (C := R_Pic) (T := F_Pic) (N := 11) hx hb hw in_Pic hown hK hP 1 rfl rfl 4 (by decide) (hw _ m_253) (fun _ h9 => h9) rfl d_Pas_overRegular_118 ?_
    have hC : [2, 3, 4, 5, 6, 7].map (fun i => (wRdg cI q0 q1 q2 q3 q4 q5 q6 q7 q8 q9 q10 u4)[i]?) = (wCtx cI q2 q3 q4 q5 q6 q7 (sb [2, 3, 4, 5, 6, 7] u4)).map some := rfl
    obtain ⟨w5, hc, hf⟩ := bd_o hf
    refine rw_v (va_runV (As := [.int l3, .int w3.1, .int (u4 1 4)]) (rest := []) ⟨hx, hb, hml, hown, hw⟩ (c_Ctx_learnRegular l D cI q2 q3 q4 q5 q6 q7 (dj_sub hd [2, 3, 4, 5, 6, 7] (by decide) rfl) l3 w3.1 (u4 1 4) (sb [2, 3, 4, 5, 6, 7] u4) w5 hc) (cwV 3 hw g_29 rfl rfl rfl (by decide +kernel) ⟨Nat.le_of_ble_eq_true rfl, Nat.le_of_ble_eq_true rfl⟩) (pre_V (P_sub hC hP) hK rfl rfl) rfl rfl hl.1 rfl (lv_room (Nat.le_of_ble_eq_true rfl)) d_Pas_overRegular_121 ⟨Nat.le_of_ble_eq_true rfl, Nat.le_of_ble_eq_true rfl⟩) hS hP (hD _) hC rfl rfl (fun H locs hP hS => ?_)
    obtain ⟨u6, e_u6, hf⟩ := tk_o hf
    have hP : va_P D cls (wRdg cI q0 q1 q2 q3 q4 q5 q6 q7 q8 q9 q10 u6) H := by rw [e_u6]; exact hP
    exact rt_v (wRdg cI q0 q1 q2 q3 q4 q5 q6 q7 q8 q9 q10) hx hb hr hlocks hS hP (sr hf) d_Pas_overRegular_124
  have j93 : ∀ (ls : Array Slot) (H : Heap) (locs : List Loc) (l1 : Int32) (l3 : Int32) (l4 : Int32) (u : gU), lv_has ls 7 [(0, .ref q0), (1, .int l1), (3, .int l3), (4, .int l4)] → va_P D cls (wRdg cI q0 q1 q2 q3 q4 q5 q6 q7 q8 q9 q10 u) H → va_S (ad [q0, q1, q2, q3, q4, q5, q6, q7, q8, q9, q10]) s.heap H locs → J_Pas_overRegular_R_93 l1 l3 l4 u = some (.inr v) → W p l e ({ frames := 4, cells := 0, slots := 0, locals := 94 }) s m [.ref q0, .int a1].toArray below meth c H locs 0 0 (MQ below (va_Qv (fun (_ : Unit) => True) (fun _ t => va_P D cls (wRdg cI q0 q1 q2 q3 q4 q5 q6 q7 q8 q9 q10 v) t.heap) (ad [q0, q1, q2, q3, q4, q5, q6, q7, q8, q9, q10])) [.ref q0, .int a1].toArray s 0 0 (ad [q0, q1, q2, q3, q4, q5, q6, q7, q8, q9, q10])) (F0 m 93 ls []) := by
    intro ls H locs l1 l3 l4 u hl hP hS hf
    unfold J_Pas_overRegular_R_93 at hf
    refine lv_iconst (v := 0) hx hb d_Pas_overRegular_93 (by decide) ?_
    exact j94 _ _ _ l1 l3 l4 0 u (lv_sub hl [0, 1, 2, 3] rfl) hP hS hf
  have j15 : ∀ (ls : Array Slot) (H : Heap) (locs : List Loc) (l1 : Int32) (l2 : Int32) (s1 : Int32) (u : gU), lv_has ls 7 [(0, .ref q0), (1, .int l1), (2, .int l2)] → va_P D cls (wRdg cI q0 q1 q2 q3 q4 q5 q6 q7 q8 q9 q10 u) H → va_S (ad [q0, q1, q2, q3, q4, q5, q6, q7, q8, q9, q10]) s.heap H locs → J_Pas_overRegular_R_15 l1 l2 s1 u = some (.inr v) → W p l e ({ frames := 4, cells := 0, slots := 0, locals := 94 }) s m [.ref q0, .int a1].toArray below meth c H locs 0 0 (MQ below (va_Qv (fun (_ : Unit) => True) (fun _ t => va_P D cls (wRdg cI q0 q1 q2 q3 q4 q5 q6 q7 q8 q9 q10 v) t.heap) (ad [q0, q1, q2, q3, q4, q5, q6, q7, q8, q9, q10])) [.ref q0, .int a1].toArray s 0 0 (ad [q0, q1, q2, q3, q4, q5, q6, q7, q8, q9, q10])) (F0 m 15 ls [.int s1, .ref q0]) := by
    intro ls H locs l1 l2 s1 u hl hP hS hf
    unfold J_Pas_overRegular_R_15 at hf
    refine va_put (D := D) (ci := 4) (v := .int s1) (ty := .int) (C := R_Rdg) (T := F_Rdg) (N := 10) hx hb hw in_Rdg t_Rdg t_Rdg_ok n_Rdg hown hK hP (hD _) hS 0 rfl rfl 7 (by decide) (hw _ m_258) (fun _ h9 => h9) rfl (by decide +kernel) rfl rfl (Nat.le_of_ble_eq_true rfl) d_Pas_overRegular_15 (fun H locs hP _ hS => ?_)
    obtain ⟨u1, e_u1, hf⟩ := tk_o hf
    have hP : va_P D cls (wRdg cI q0 q1 q2 q3 q4 q5 q6 q7 q8 q9 q10 u1) H := by rw [e_u1]; exact hP
    refine lv_iload_n hx hb d_Pas_overRegular_18 rfl (lv_at hl 2 rfl) ?_
    refine va_mabs hx hb (hml.trans hl.1.symm) hown (hw _ m_259) (hw _ m_110) (hw _ m_87) (hw _ m_111) (Nat.le_of_ble_eq_true rfl) (Nat.le_of_ble_eq_true rfl) (Nat.le_of_ble_eq_true rfl) (Nat.le_of_ble_eq_true rfl) d_Pas_overRegular_19 ?_
    refine lv_topi (fun x2 e_x2 => ?_)
    have hf := tk_e hf e_x2
    refine lv_istore_n (lv' := [(3, .int x2), (0, .ref q0), (1, .int l1), (2, .int l2)]) hx hb d_Pas_overRegular_22 rfl hl (by decide) rfl (fun ls hl => ?_)
    refine lv_aload_n hx hb d_Pas_overRegular_23 rfl (lv_at hl 1 rfl) ?_
    refine lv_aload_n hx hb d_Pas_overRegular_24 rfl (lv_at hl 1 rfl) ?_
    refine va_get (D := D) (ci := 4) (v := .ref q1) (C := R_Rdg) (T := F_Rdg) (N := 10) hx hb hw in_Rdg hown hK hP 0 rfl rfl 0 (by decide) (hw _ m_165) (fun _ h9 => h9) rfl d_Pas_overRegular_25 ?_
    refine lv_aload_n hx hb d_Pas_overRegular_28 rfl (lv_at hl 1 rfl) ?_
    have hC : [0, 1, 2, 3, 4, 5, 6, 7, 8, 9, 10].map (fun i => (wRdg cI q0 q1 q2 q3 q4 q5 q6 q7 q8 q9 q10 u1)[i]?) = (wRdg cI q0 q1 q2 q3 q4 q5 q6 q7 q8 q9 q10 u1).map some := rfl
    obtain ⟨x3, hc, hf⟩ := bd_o hf
    refine ro_i (va_runU (As := []) (rest := [.ref q1, .ref q0]) ⟨hx, hb, hml, hown, hw⟩ (c_Pas_foretoldByNeighbours_R l D cI q0 q1 q2 q3 q4 q5 q6 q7 q8 q9 q10 u1 x3 hc) (va_cwU 0 hw g_123 rfl rfl rfl rfl (by decide +kernel) ⟨Nat.le_of_ble_eq_true rfl, Nat.le_of_ble_eq_true rfl⟩) (pre_V (P_sub hC hP) hK rfl rfl) rfl rfl hl.1 rfl (lv_room (Nat.le_of_ble_eq_true rfl)) d_Pas_overRegular_29 ⟨Nat.le_of_ble_eq_true rfl, Nat.le_of_ble_eq_true rfl⟩) hS hP (fun H locs hP hS => ?_)
    refine lv_aload_n hx hb d_Pas_overRegular_32 rfl (lv_at hl 1 rfl) ?_
    refine va_get (D := D) (ci := 4) (v := .int (u1 0 4)) (C := R_Rdg) (T := F_Rdg) (N := 10) hx hb hw in_Rdg hown hK hP 0 rfl rfl 7 (by decide) (hw _ m_258) (fun _ h9 => h9) rfl d_Pas_overRegular_33 ?_
    refine lv_aload_n hx hb d_Pas_overRegular_36 rfl (lv_at hl 1 rfl) ?_
    refine va_get (D := D) (ci := 4) (v := .ref q2) (C := R_Rdg) (T := F_Rdg) (N := 10) hx hb hw in_Rdg hown hK hP 0 rfl rfl 1 (by decide) (hw _ m_186) (fun _ h9 => h9) rfl d_Pas_overRegular_37 ?_
    refine va_get (D := D) (ci := 2) (v := .ref q5) (C := R_Ctx) (T := F_Ctx) (N := 6) hx hb hw in_Ctx hown hK hP 2 rfl rfl 2 (by decide) (hw _ m_265) (fun _ h9 => h9) rfl d_Pas_overRegular_40 ?_
    refine lv_iload_n hx hb d_Pas_overRegular_43 rfl (lv_at hl 0 rfl) ?_
    obtain ⟨h4, hf⟩ := gd_o hf
    refine va_iald hx hb hK hP 5 0 rfl rfl (ix_in h4) d_Pas_overRegular_44 ?_
    refine lv_imul hx hb d_Pas_overRegular_45 ?_
    refine lv_iadd hx hb d_Pas_overRegular_46 ?_
    have hC : [1].map (fun i => (wRdg cI q0 q1 q2 q3 q4 q5 q6 q7 q8 q9 q10 u1)[i]?) = (wPic cI q1 (sb [1] u1)).map some := rfl
    obtain ⟨x5, hc, hf⟩ := bd_o hf
    refine ro_i (va_runV (As := [.int (x3 + ((u1 0 4) * (u1 5 (tc x2))))]) (rest := [.ref q0]) ⟨hx, hb, hml, hown, hw⟩ (c_Pic_bounded l D cI q1 (x3 + ((u1 0 4) * (u1 5 (tc x2)))) (sb [1] u1) x5 hc) (cwV 1 hw g_31 rfl rfl rfl (by decide +kernel) ⟨Nat.le_of_ble_eq_true rfl, Nat.le_of_ble_eq_true rfl⟩) (pre_V (P_sub hC hP) hK rfl rfl) rfl rfl hl.1 rfl (lv_room (Nat.le_of_ble_eq_true rfl)) d_Pas_overRegular_47 ⟨Nat.le_of_ble_eq_true rfl, Nat.le_of_ble_eq_true rfl⟩) hS hP (fun H locs hP hS => ?_)
    refine va_put (D := D) (ci := 4) (v := .int x5) (ty := .int) (C := R_Rdg) (T := F_Rdg) (N := 10) hx hb hw in_Rdg t_Rdg t_Rdg_ok n_Rdg hown hK hP (hD _) hS 0 rfl rfl 8 (by decide) (hw _ m_267) (fun _ h9 => h9) rfl (by decide +kernel) rfl rfl (Nat.le_of_ble_eq_true rfl) d_Pas_overRegular_50 (fun H locs hP _ hS => ?_)
    obtain ⟨u6, e_u6, hf⟩ := tk_o hf
    have hP : va_P D cls (wRdg cI q0 q1 q2 q3 q4 q5 q6 q7 q8 q9 q10 u6) H := by rw [e_u6]; exact hP
    refine lv_aload_n hx hb d_Pas_overRegular_53 rfl (lv_at hl 1 rfl) ?_
    refine va_get (D := D) (ci := 4) (v := .ref q2) (C := R_Rdg) (T := F_Rdg) (N := 10) hx hb hw in_Rdg hown hK hP 0 rfl rfl 1 (by decide) (hw _ m_186) (fun _ h9 => h9) rfl d_Pas_overRegular_54 ?_
    refine lv_iload_n hx hb d_Pas_overRegular_57 rfl (lv_at hl 0 rfl) ?_
    have hC : [2, 3, 4, 5, 6, 7].map (fun i => (wRdg cI q0 q1 q2 q3 q4 q5 q6 q7 q8 q9 q10 u6)[i]?) = (wCtx cI q2 q3 q4 q5 q6 q7 (sb [2, 3, 4, 5, 6, 7] u6)).map some := rfl
    obtain ⟨x7, hc, hf⟩ := bd_o hf
    refine ro_i (va_runV (As := [.int x2]) (rest := []) ⟨hx, hb, hml, hown, hw⟩ (c_Ctx_kOfRegular l D cI q2 q3 q4 q5 q6 q7 x2 (sb [2, 3, 4, 5, 6, 7] u6) x7 hc) (cwV 1 hw g_32 rfl rfl rfl (by decide +kernel) ⟨Nat.le_of_ble_eq_true rfl, Nat.le_of_ble_eq_true rfl⟩) (pre_V (P_sub hC hP) hK rfl rfl) rfl rfl hl.1 rfl (lv_room (Nat.le_of_ble_eq_true rfl)) d_Pas_overRegular_58 ⟨Nat.le_of_ble_eq_true rfl, Nat.le_of_ble_eq_true rfl⟩) hS hP (fun H locs hP hS => ?_)
    refine lv_istore (lv' := [(4, .int x7), (3, .int x2), (0, .ref q0), (1, .int l1), (2, .int l2)]) hx hb d_Pas_overRegular_61 hl (by decide) rfl (fun ls hl => ?_)
    refine lv_aload_n hx hb d_Pas_overRegular_63 rfl (lv_at hl 2 rfl) ?_
    refine va_get (D := D) (ci := 4) (v := .ref q1) (C := R_Rdg) (T := F_Rdg) (N := 10) hx hb hw in_Rdg hown hK hP 0 rfl rfl 0 (by decide) (hw _ m_165) (fun _ h9 => h9) rfl d_Pas_overRegular_64 ?_
    refine va_get (D := D) (ci := 1) (v := .int (u6 1 3)) (C := R_Pic) (T := F_Pic) (N := 11) hx hb hw in_Pic hown hK hP 1 rfl rfl 3 (by decide) (hw _ m_272) (fun _ h9 => h9) rfl d_Pas_overRegular_67 ?_
    refine lv_if_ne (tgt := 93) hx hb d_Pas_overRegular_70 (by decide) (fun hc => ?_) (fun hc => ?_)
    · have hf := bq_n hf hc
      exact j93 _ _ _ l1 x2 x7 u6 (lv_sub hl [2, 3, 1, 0] rfl) hP hS hf
    have hf := bq_t hf hc
    refine lv_iload hx hb d_Pas_overRegular_73 (lv_at hl 0 rfl) ?_
    refine lv_if_ne (tgt := 93) hx hb d_Pas_overRegular_75 (by decide) (fun hc => ?_) (fun hc => ?_)
    · have hf := bq_n hf hc
      exact j93 _ _ _ l1 x2 x7 u6 (lv_sub hl [2, 3, 1, 0] rfl) hP hS hf
    have hf := bq_t hf hc
    refine lv_aload_n hx hb d_Pas_overRegular_78 rfl (lv_at hl 2 rfl) ?_
    refine va_get (D := D) (ci := 4) (v := .ref q2) (C := R_Rdg) (T := F_Rdg) (N := 10) hx hb hw in_Rdg hown hK hP 0 rfl rfl 1 (by decide) (hw _ m_186) (fun _ h9 => h9) rfl d_Pas_overRegular_79 ?_
    refine lv_iload_n hx hb d_Pas_overRegular_82 rfl (lv_at hl 1 rfl) ?_
    have hC : [2, 3, 4, 5, 6, 7].map (fun i => (wRdg cI q0 q1 q2 q3 q4 q5 q6 q7 q8 q9 q10 u6)[i]?) = (wCtx cI q2 q3 q4 q5 q6 q7 (sb [2, 3, 4, 5, 6, 7] u6)).map some := rfl
    obtain ⟨x8, hc, hf⟩ := bd_o hf
    refine ro_i (va_runV (As := [.int x2]) (rest := []) ⟨hx, hb, hml, hown, hw⟩ (c_Ctx_leansDown l D cI q2 q3 q4 q5 q6 q7 x2 (sb [2, 3, 4, 5, 6, 7] u6) x8 hc) (cwV 1 hw g_33 rfl rfl rfl (by decide +kernel) ⟨Nat.le_of_ble_eq_true rfl, Nat.le_of_ble_eq_true rfl⟩) (pre_V (P_sub hC hP) hK rfl rfl) rfl rfl hl.1 rfl (lv_room (Nat.le_of_ble_eq_true rfl)) d_Pas_overRegular_83 ⟨Nat.le_of_ble_eq_true rfl, Nat.le_of_ble_eq_true rfl⟩) hS hP (fun H locs hP hS => ?_)
    refine lv_if_eq (tgt := 93) hx hb d_Pas_overRegular_86 (by decide) (fun hc => ?_) (fun hc => ?_)
    · have hf := bq_t hf hc
      exact j93 _ _ _ l1 x2 x7 u6 (lv_sub hl [2, 3, 1, 0] rfl) hP hS hf
    have hf := bq_n hf hc
    refine lv_iconst (v := 1) hx hb d_Pas_overRegular_89 (by decide) ?_
    refine lv_goto (tgt := 94) hx hb d_Pas_overRegular_90 (by decide) ?_
    exact j94 _ _ _ l1 x2 x7 1 u6 (lv_sub hl [2, 3, 1, 0] rfl) hP hS hf
  unfold f_Pas_overRegular_R at hf
  refine lv_aload_n hx hb d_Pas_overRegular_0 rfl (lv_at hl 0 rfl) ?_
  have hC : [0, 1, 2, 3, 4, 5, 6, 7, 8, 9, 10].map (fun i => (wRdg cI q0 q1 q2 q3 q4 q5 q6 q7 q8 q9 q10 u)[i]?) = (wRdg cI q0 q1 q2 q3 q4 q5 q6 q7 q8 q9 q10 u).map some := rfl
  obtain ⟨x1, hc, hf⟩ := bd_o hf
  refine ro_i (va_runU (As := []) (rest := []) ⟨hx, hb, hml, hown, hw⟩ (c_Pas_signedContext_R l D cI q0 q1 q2 q3 q4 q5 q6 q7 q8 q9 q10 u x1 hc) (va_cwU 0 hw g_124 rfl rfl rfl rfl (by decide +kernel) ⟨Nat.le_of_ble_eq_true rfl, Nat.le_of_ble_eq_true rfl⟩) (pre_V (P_sub hC hP) hK rfl rfl) rfl rfl hl.1 rfl (lv_room (Nat.le_of_ble_eq_true rfl)) d_Pas_overRegular_1 ⟨Nat.le_of_ble_eq_true rfl, Nat.le_of_ble_eq_true rfl⟩) hS hP (fun H locs hP hS => ?_)
  refine lv_istore_n (lv' := [(2, .int x1), (0, .ref q0), (1, .int a1)]) hx hb d_Pas_overRegular_4 rfl hl (by decide) rfl (fun ls hl => ?_)
  refine lv_aload_n hx hb d_Pas_overRegular_5 rfl (lv_at hl 1 rfl) ?_
  refine lv_iload_n hx hb d_Pas_overRegular_6 rfl (lv_at hl 0 rfl) ?_
  refine lv_if_ge (tgt := 14) hx hb d_Pas_overRegular_7 (by decide) (fun hc => ?_) (fun hc => ?_)
  · have hf := bq_t hf hc
    refine lv_iconst (v := 1) hx hb d_Pas_overRegular_14 (by decide) ?_
    exact j15 _ _ _ a1 x1 1 u (lv_sub hl [1, 2, 0] rfl) hP hS hf
  have hf := bq_n hf hc
  refine lv_iconst (v := (-1)) hx hb d_Pas_overRegular_10 (by decide) ?_
  refine lv_goto (tgt := 15) hx hb d_Pas_overRegular_11 (by decide) ?_
  exact j15 _ _ _ a1 x1 (-1) u (lv_sub hl [1, 2, 0] rfl) hP hS hf
set_option maxHeartbeats 4000000 in
set_option maxRecDepth 100000 in
theorem x_Pas_overRegular_R (l : Launch) (hfl : l.flags = pinnedFlags ++ [noTraceFlag]) (D : va_G) (cI : ClassId) (tJ : Nat) (q0 : Nat) (q1 : Nat) (q2 : Nat) (q3 : Nat) (q4 : Nat) (q5 : Nat) (q6 : Nat) (q7 : Nat) (q8 : Nat) (q9 : Nat) (q10 : Nat) (hd : dj [q0, q1, q2, q3, q4, q5, q6, q7, q8, q9, q10]) (a1 : Int32) (u : gU) (v : gU) (hf : f_Pas_overRegular_R a1 u = some (.inl v)) : MetX l y_Pas_overRegular (.code y_Pas_overRegular b_Pas_overRegular 7 none :: TS) ({ frames := 10, cells := 1, slots := 6, locals := 202 }) (va_Pc [.ref q0, .int a1] (fun U => va_P D cls (wRdg cI q0 q1 q2 q3 q4 q5 q6 q7 q8 q9 q10 u) U.heap ∧ va_K D cls [(cI, .int)] U ∧ Jt tJ (ad [q0, q1, q2, q3, q4, q5, q6, q7, q8, q9, q10]) U ∧ Xt (ad [q0, q1, q2, q3, q4, q5, q6, q7, q8, q9, q10]) U)) D cls (wRdg cI q0 q1 q2 q3 q4 q5 q6 q7 q8 q9 q10 v) (ad [q0, q1, q2, q3, q4, q5, q6, q7, q8, q9, q10]) := by
  refine ct_ofX hfl (by decide +kernel) (Nat.le_of_ble_eq_true rfl) ?_
  intro p e s m below meth c ls hx hb hml hr hlocks hown hw hP hK hJ hl hX htr hout
  have hS : va_S (ad [q0, q1, q2, q3, q4, q5, q6, q7, q8, q9, q10]) s.heap s.heap [] := va_S.rf
  have hD : ∀ v, va_D (ad [q0, q1, q2, q3, q4, q5, q6, q7, q8, q9, q10]) (wRdg cI q0 q1 q2 q3 q4 q5 q6 q7 q8 q9 q10 v) := fun _ => dj_D rfl hd
  have hl : lv_has ls 7 [(0, .ref q0), (1, .int a1)] := hl
  have hP : va_P D cls (wRdg cI q0 q1 q2 q3 q4 q5 q6 q7 q8 q9 q10 u) s.heap := hP
  have j94 : ∀ (ls : Array Slot) (H : Heap) (locs : List Loc) (l1 : Int32) (l3 : Int32) (l4 : Int32) (s0 : Int32) (u : gU), lv_has ls 7 [(0, .ref q0), (1, .int l1), (3, .int l3), (4, .int l4)] → va_P D cls (wRdg cI q0 q1 q2 q3 q4 q5 q6 q7 q8 q9 q10 u) H → va_S (ad [q0, q1, q2, q3, q4, q5, q6, q7, q8, q9, q10]) s.heap H locs → J_Pas_overRegular_R_94 l1 l3 l4 s0 u = some (.inl v) → W p l e ({ frames := 10, cells := 1, slots := 6, locals := 202 }) s m [.ref q0, .int a1].toArray below meth c H locs 0 0 (MQX below D cls (wRdg cI q0 q1 q2 q3 q4 q5 q6 q7 q8 q9 q10 v) (ad [q0, q1, q2, q3, q4, q5, q6, q7, q8, q9, q10]) [.ref q0, .int a1].toArray s) (F0 m 94 ls [.int s0]) := by
    intro ls H locs l1 l3 l4 s0 u hl hP hS hf
    unfold J_Pas_overRegular_R_94 at hf
    refine lv_istore (lv' := [(5, .int s0), (0, .ref q0), (1, .int l1), (3, .int l3), (4, .int l4)]) hx hb d_Pas_overRegular_94 hl (by decide) rfl (fun ls hl => ?_)
    refine lv_aload_n hx hb d_Pas_overRegular_96 rfl (lv_at hl 1 rfl) ?_
    refine lv_iload_n hx hb d_Pas_overRegular_97 rfl (lv_at hl 2 rfl) ?_
    refine lv_iload hx hb d_Pas_overRegular_98 (lv_at hl 4 rfl) ?_
    refine lv_iload hx hb d_Pas_overRegular_100 (lv_at hl 0 rfl) ?_
    have hC : [0, 1, 2, 3, 4, 5, 6, 7, 8, 9, 10].map (fun i => (wRdg cI q0 q1 q2 q3 q4 q5 q6 q7 q8 q9 q10 u)[i]?) = (wRdg cI q0 q1 q2 q3 q4 q5 q6 q7 q8 q9 q10 u).map some := rfl
    obtain ⟨w1, hc, hf⟩ := bd_o hf
    rcases w1 with v2 | w3
    · have hf := bx_l hf
      exact thr_U (As := [.int l1, .int l4, .int s0]) (rest := []) ⟨hx, hb, hml, hown, hw⟩ (x_Rdg_carryRegular l hfl D cI tJ q0 q1 q2 q3 q4 q5 q6 q7 q8 q9 q10 (dj_sub hd [0, 1, 2, 3, 4, 5, 6, 7, 8, 9, 10] (by decide) rfl) l1 l4 s0 u v2 hc) (va_cwA 3 hw g_122 rfl rfl rfl hJ.2.2.2.1 (by decide +kernel) ⟨Nat.le_of_ble_eq_true rfl, Nat.le_of_ble_eq_true rfl⟩) (pre_VX (P_sub hC hP) hK rfl rfl hJ hX hS (ad_sub [0, 1, 2, 3, 4, 5, 6, 7, 8, 9, 10] rfl)) rfl hl.1 (Nat.le_of_ble_eq_true rfl) d_Pas_overRegular_102 ⟨Nat.le_of_ble_eq_true rfl, Nat.le_of_ble_eq_true rfl⟩ hlocks hout hS hP (hD _) hC rfl rfl (eq_tr (f := wRdg cI q0 q1 q2 q3 q4 q5 q6 q7 q8 q9 q10) (sl hf) rfl)
    have hf := bx_r hf
    refine rw_i (va_runU (As := [.int l1, .int l4, .int s0]) (rest := []) ⟨hx, hb, hml, hown, hw⟩ (c_Rdg_carryRegular l D cI q0 q1 q2 q3 q4 q5 q6 q7 q8 q9 q10 (dj_sub hd [0, 1, 2, 3, 4, 5, 6, 7, 8, 9, 10] (by decide) rfl) l1 l4 s0 u w3.1 w3.2 hc) (va_cwA 3 hw g_122 rfl rfl rfl hJ.2.2.2.1 (by decide +kernel) ⟨Nat.le_of_ble_eq_true rfl, Nat.le_of_ble_eq_true rfl⟩) (pre_V (P_sub hC hP) hK rfl rfl) rfl rfl hl.1 rfl (lv_room (Nat.le_of_ble_eq_true rfl)) d_Pas_overRegular_102 ⟨Nat.le_of_ble_eq_true rfl, Nat.le_of_ble_eq_true rfl⟩) hS hP (hD _) hC rfl rfl (fun H locs hP hS => ?_)
    obtain ⟨u4, e_u4, hf⟩ := tk_o hf
    have hP : va_P D cls (wRdg cI q0 q1 q2 q3 q4 q5 q6 q7 q8 q9 q10 u4) H := by rw [e_u4]; exact hP
    refine lv_istore (lv' := [(6, .int w3.1), (5, .int s0), (0, .ref q0), (1, .int l1), (3, .int l3), (4, .int l4)]) hx hb d_Pas_overRegular_105 hl (by decide) rfl (fun ls hl => ?_)
    refine lv_aload_n hx hb d_Pas_overRegular_107 rfl (lv_at hl 2 rfl) ?_
    refine va_get (D := D) (ci := 4) (v := .ref q2) (C := R_Rdg) (T := F_Rdg) (N := 10) hx hb hw in_Rdg hown hK hP 0 rfl rfl 1 (by decide) (hw _ m_186) (fun _ h9 => h9) rfl d_Pas_overRegular_108 ?_
    refine lv_iload_n hx hb d_Pas_overRegular_111 rfl (lv_at hl 4 rfl) ?_
    refine lv_iload hx hb d_Pas_overRegular_112 (lv_at hl 0 rfl) ?_
    refine lv_aload_n hx hb d_Pas_overRegular_114 rfl (lv_at hl 2 rfl) ?_
    refine va_get (D := D) (ci := 4) (v := .ref q1) (C := R_Rdg) (T := F_Rdg) (N := 10) hx hb hw in_Rdg hown hK hP 0 rfl rfl 0 (by decide) (hw _ m_165) (fun _ h9 => h9) rfl d_Pas_overRegular_115 ?_
    refine va_get (D := D) (ci := 1) (v := .int (u4 1 4)) (C := R_Pic) (T := F_Pic) (N := 11) hx hb hw in_Pic hown hK hP 1 rfl rfl 4 (by decide) (hw _ m_253) (fun _ h9 => h9) rfl d_Pas_overRegular_118 ?_
    have hC : [2, 3, 4, 5, 6, 7].map (fun i => (wRdg cI q0 q1 q2 q3 q4 q5 q6 q7 q8 q9 q10 u4)[i]?) = (wCtx cI q2 q3 q4 q5 q6 q7 (sb [2, 3, 4, 5, 6, 7] u4)).map some := rfl
    obtain ⟨w5, hc, hf⟩ := bd_o hf
    refine rw_v (va_runV (As := [.int l3, .int w3.1, .int (u4 1 4)]) (rest := []) ⟨hx, hb, hml, hown, hw⟩ (c_Ctx_learnRegular l D cI q2 q3 q4 q5 q6 q7 (dj_sub hd [2, 3, 4, 5, 6, 7] (by decide) rfl) l3 w3.1 (u4 1 4) (sb [2, 3, 4, 5, 6, 7] u4) w5 hc) (cwV 3 hw g_29 rfl rfl rfl (by decide +kernel) ⟨Nat.le_of_ble_eq_true rfl, Nat.le_of_ble_eq_true rfl⟩) (pre_V (P_sub hC hP) hK rfl rfl) rfl rfl hl.1 rfl (lv_room (Nat.le_of_ble_eq_true rfl)) d_Pas_overRegular_121 ⟨Nat.le_of_ble_eq_true rfl, Nat.le_of_ble_eq_true rfl⟩) hS hP (hD _) hC rfl rfl (fun H locs hP hS => ?_)
    obtain ⟨u6, e_u6, hf⟩ := tk_o hf
    have hP : va_P D cls (wRdg cI q0 q1 q2 q3 q4 q5 q6 q7 q8 q9 q10 u6) H := by rw [e_u6]; exact hP
    exact ox hf
  have j93 : ∀ (ls : Array Slot) (H : Heap) (locs : List Loc) (l1 : Int32) (l3 : Int32) (l4 : Int32) (u : gU), lv_has ls 7 [(0, .ref q0), (1, .int l1), (3, .int l3), (4, .int l4)] → va_P D cls (wRdg cI q0 q1 q2 q3 q4 q5 q6 q7 q8 q9 q10 u) H → va_S (ad [q0, q1, q2, q3, q4, q5, q6, q7, q8, q9, q10]) s.heap H locs → J_Pas_overRegular_R_93 l1 l3 l4 u = some (.inl v) → W p l e ({ frames := 10, cells := 1, slots := 6, locals := 202 }) s m [.ref q0, .int a1].toArray below meth c H locs 0 0 (MQX below D cls (wRdg cI q0 q1 q2 q3 q4 q5 q6 q7 q8 q9 q10 v) (ad [q0, q1, q2, q3, q4, q5, q6, q7, q8, q9, q10]) [.ref q0, .int a1].toArray s) (F0 m 93 ls []) := by
    intro ls H locs l1 l3 l4 u hl hP hS hf
    unfold J_Pas_overRegular_R_93 at hf
    refine lv_iconst (v := 0) hx hb d_Pas_overRegular_93 (by decide) ?_
    exact j94 _ _ _ l1 l3 l4 0 u (lv_sub hl [0, 1, 2, 3] rfl) hP hS hf
  have j15 : ∀ (ls : Array Slot) (H : Heap) (locs : List Loc) (l1 : Int32) (l2 : Int32) (s1 : Int32) (u : gU), lv_has ls 7 [(0, .ref q0), (1, .int l1), (2, .int l2)] → va_P D cls (wRdg cI q0 q1 q2 q3 q4 q5 q6 q7 q8 q9 q10 u) H → va_S (ad [q0, q1, q2, q3, q4, q5, q6, q7, q8, q9, q10]) s.heap H locs → J_Pas_overRegular_R_15 l1 l2 s1 u = some (.inl v) → W p l e ({ frames := 10, cells := 1, slots := 6, locals := 202 }) s m [.ref q0, .int a1].toArray below meth c H locs 0 0 (MQX below D cls (wRdg cI q0 q1 q2 q3 q4 q5 q6 q7 q8 q9 q10 v) (ad [q0, q1, q2, q3, q4, q5, q6, q7, q8, q9, q10]) [.ref q0, .int a1].toArray s) (F0 m 15 ls [.int s1, .ref q0]) := by
    intro ls H locs l1 l2 s1 u hl hP hS hf
    unfold J_Pas_overRegular_R_15 at hf
    refine va_put (D := D) (ci := 4) (v := .int s1) (ty := .int) (C := R_Rdg) (T := F_Rdg) (N := 10) hx hb hw in_Rdg t_Rdg t_Rdg_ok n_Rdg hown hK hP (hD _) hS 0 rfl rfl 7 (by decide) (hw _ m_258) (fun _ h9 => h9) rfl (by decide +kernel) rfl rfl (Nat.le_of_ble_eq_true rfl) d_Pas_overRegular_15 (fun H locs hP _ hS => ?_)
    obtain ⟨u1, e_u1, hf⟩ := tk_o hf
    have hP : va_P D cls (wRdg cI q0 q1 q2 q3 q4 q5 q6 q7 q8 q9 q10 u1) H := by rw [e_u1]; exact hP
    refine lv_iload_n hx hb d_Pas_overRegular_18 rfl (lv_at hl 2 rfl) ?_
    refine va_mabs hx hb (hml.trans hl.1.symm) hown (hw _ m_259) (hw _ m_110) (hw _ m_87) (hw _ m_111) (Nat.le_of_ble_eq_true rfl) (Nat.le_of_ble_eq_true rfl) (Nat.le_of_ble_eq_true rfl) (Nat.le_of_ble_eq_true rfl) d_Pas_overRegular_19 ?_
    refine lv_topi (fun x2 e_x2 => ?_)
    have hf := tk_e hf e_x2
    refine lv_istore_n (lv' := [(3, .int x2), (0, .ref q0), (1, .int l1), (2, .int l2)]) hx hb d_Pas_overRegular_22 rfl hl (by decide) rfl (fun ls hl => ?_)
    refine lv_aload_n hx hb d_Pas_overRegular_23 rfl (lv_at hl 1 rfl) ?_
    refine lv_aload_n hx hb d_Pas_overRegular_24 rfl (lv_at hl 1 rfl) ?_
    refine va_get (D := D) (ci := 4) (v := .ref q1) (C := R_Rdg) (T := F_Rdg) (N := 10) hx hb hw in_Rdg hown hK hP 0 rfl rfl 0 (by decide) (hw _ m_165) (fun _ h9 => h9) rfl d_Pas_overRegular_25 ?_
    refine lv_aload_n hx hb d_Pas_overRegular_28 rfl (lv_at hl 1 rfl) ?_
    have hC : [0, 1, 2, 3, 4, 5, 6, 7, 8, 9, 10].map (fun i => (wRdg cI q0 q1 q2 q3 q4 q5 q6 q7 q8 q9 q10 u1)[i]?) = (wRdg cI q0 q1 q2 q3 q4 q5 q6 q7 q8 q9 q10 u1).map some := rfl
    obtain ⟨x3, hc, hf⟩ := bd_o hf
    refine ro_i (va_runU (As := []) (rest := [.ref q1, .ref q0]) ⟨hx, hb, hml, hown, hw⟩ (c_Pas_foretoldByNeighbours_R l D cI q0 q1 q2 q3 q4 q5 q6 q7 q8 q9 q10 u1 x3 hc) (va_cwU 0 hw g_123 rfl rfl rfl rfl (by decide +kernel) ⟨Nat.le_of_ble_eq_true rfl, Nat.le_of_ble_eq_true rfl⟩) (pre_V (P_sub hC hP) hK rfl rfl) rfl rfl hl.1 rfl (lv_room (Nat.le_of_ble_eq_true rfl)) d_Pas_overRegular_29 ⟨Nat.le_of_ble_eq_true rfl, Nat.le_of_ble_eq_true rfl⟩) hS hP (fun H locs hP hS => ?_)
    refine lv_aload_n hx hb d_Pas_overRegular_32 rfl (lv_at hl 1 rfl) ?_
    refine va_get (D := D) (ci := 4) (v := .int (u1 0 4)) (C := R_Rdg) (T := F_Rdg) (N := 10) hx hb hw in_Rdg hown hK hP 0 rfl rfl 7 (by decide) (hw _ m_258) (fun _ h9 => h9) rfl d_Pas_overRegular_33 ?_
    refine lv_aload_n hx hb d_Pas_overRegular_36 rfl (lv_at hl 1 rfl) ?_
    refine va_get (D := D) (ci := 4) (v := .ref q2) (C := R_Rdg) (T := F_Rdg) (N := 10) hx hb hw in_Rdg hown hK hP 0 rfl rfl 1 (by decide) (hw _ m_186) (fun _ h9 => h9) rfl d_Pas_overRegular_37 ?_
    refine va_get (D := D) (ci := 2) (v := .ref q5) (C := R_Ctx) (T := F_Ctx) (N := 6) hx hb hw in_Ctx hown hK hP 2 rfl rfl 2 (by decide) (hw _ m_265) (fun _ h9 => h9) rfl d_Pas_overRegular_40 ?_
    refine lv_iload_n hx hb d_Pas_overRegular_43 rfl (lv_at hl 0 rfl) ?_
    obtain ⟨h4, hf⟩ := gd_o hf
    refine va_iald hx hb hK hP 5 0 rfl rfl (ix_in h4) d_Pas_overRegular_44 ?_
    refine lv_imul hx hb d_Pas_overRegular_45 ?_
    refine lv_iadd hx hb d_Pas_overRegular_46 ?_
    have hC : [1].map (fun i => (wRdg cI q0 q1 q2 q3 q4 q5 q6 q7 q8 q9 q10 u1)[i]?) = (wPic cI q1 (sb [1] u1)).map some := rfl
    obtain ⟨x5, hc, hf⟩ := bd_o hf
    refine ro_i (va_runV (As := [.int (x3 + ((u1 0 4) * (u1 5 (tc x2))))]) (rest := [.ref q0]) ⟨hx, hb, hml, hown, hw⟩ (c_Pic_bounded l D cI q1 (x3 + ((u1 0 4) * (u1 5 (tc x2)))) (sb [1] u1) x5 hc) (cwV 1 hw g_31 rfl rfl rfl (by decide +kernel) ⟨Nat.le_of_ble_eq_true rfl, Nat.le_of_ble_eq_true rfl⟩) (pre_V (P_sub hC hP) hK rfl rfl) rfl rfl hl.1 rfl (lv_room (Nat.le_of_ble_eq_true rfl)) d_Pas_overRegular_47 ⟨Nat.le_of_ble_eq_true rfl, Nat.le_of_ble_eq_true rfl⟩) hS hP (fun H locs hP hS => ?_)
    refine va_put (D := D) (ci := 4) (v := .int x5) (ty := .int) (C := R_Rdg) (T := F_Rdg) (N := 10) hx hb hw in_Rdg t_Rdg t_Rdg_ok n_Rdg hown hK hP (hD _) hS 0 rfl rfl 8 (by decide) (hw _ m_267) (fun _ h9 => h9) rfl (by decide +kernel) rfl rfl (Nat.le_of_ble_eq_true rfl) d_Pas_overRegular_50 (fun H locs hP _ hS => ?_)
    obtain ⟨u6, e_u6, hf⟩ := tk_o hf
    have hP : va_P D cls (wRdg cI q0 q1 q2 q3 q4 q5 q6 q7 q8 q9 q10 u6) H := by rw [e_u6]; exact hP
    refine lv_aload_n hx hb d_Pas_overRegular_53 rfl (lv_at hl 1 rfl) ?_
    refine va_get (D := D) (ci := 4) (v := .ref q2) (C := R_Rdg) (T := F_Rdg) (N := 10) hx hb hw in_Rdg hown hK hP 0 rfl rfl 1 (by decide) (hw _ m_186) (fun _ h9 => h9) rfl d_Pas_overRegular_54 ?_
    refine lv_iload_n hx hb d_Pas_overRegular_57 rfl (lv_at hl 0 rfl) ?_
    have hC : [2, 3, 4, 5, 6, 7].map (fun i => (wRdg cI q0 q1 q2 q3 q4 q5 q6 q7 q8 q9 q10 u6)[i]?) = (wCtx cI q2 q3 q4 q5 q6 q7 (sb [2, 3, 4, 5, 6, 7] u6)).map some := rfl
    obtain ⟨x7, hc, hf⟩ := bd_o hf
    refine ro_i (va_runV (As := [.int x2]) (rest := []) ⟨hx, hb, hml, hown, hw⟩ (c_Ctx_kOfRegular l D cI q2 q3 q4 q5 q6 q7 x2 (sb [2, 3, 4, 5, 6, 7] u6) x7 hc) (cwV 1 hw g_32 rfl rfl rfl (by decide +kernel) ⟨Nat.le_of_ble_eq_true rfl, Nat.le_of_ble_eq_true rfl⟩) (pre_V (P_sub hC hP) hK rfl rfl) rfl rfl hl.1 rfl (lv_room (Nat.le_of_ble_eq_true rfl)) d_Pas_overRegular_58 ⟨Nat.le_of_ble_eq_true rfl, Nat.le_of_ble_eq_true rfl⟩) hS hP (fun H locs hP hS => ?_)
    refine lv_istore (lv' := [(4, .int x7), (3, .int x2), (0, .ref q0), (1, .int l1), (2, .int l2)]) hx hb d_Pas_overRegular_61 hl (by decide) rfl (fun ls hl => ?_)
    refine lv_aload_n hx hb d_Pas_overRegular_63 rfl (lv_at hl 2 rfl) ?_
    refine va_get (D := D) (ci := 4) (v := .ref q1) (C := R_Rdg) (T := F_Rdg) (N := 10) hx hb hw in_Rdg hown hK hP 0 rfl rfl 0 (by decide) (hw _ m_165) (fun _ h9 => h9) rfl d_Pas_overRegular_64 ?_
    refine va_get (D := D) (ci := 1) (v := .int (u6 1 3)) (C := R_Pic) (T := F_Pic) (N := 11) hx hb hw in_Pic hown hK hP 1 rfl rfl 3 (by decide) (hw _ m_272) (fun _ h9 => h9) rfl d_Pas_overRegular_67 ?_
    refine lv_if_ne (tgt := 93) hx hb d_Pas_overRegular_70 (by decide) (fun hc => ?_) (fun hc => ?_)
    · have hf := bq_n hf hc
      exact j93 _ _ _ l1 x2 x7 u6 (lv_sub hl [2, 3, 1, 0] rfl) hP hS hf
    have hf := bq_t hf hc
    refine lv_iload hx hb d_Pas_overRegular_73 (lv_at hl 0 rfl) ?_
    refine lv_if_ne (tgt := 93) hx hb d_Pas_overRegular_75 (by decide) (fun hc => ?_) (fun hc => ?_)
    · have hf := bq_n hf hc
      exact j93 _ _ _ l1 x2 x7 u6 (lv_sub hl [2, 3, 1, 0] rfl) hP hS hf
    have hf := bq_t hf hc
    refine lv_aload_n hx hb d_Pas_overRegular_78 rfl (lv_at hl 2 rfl) ?_
    refine va_get (D := D) (ci := 4) (v := .ref q2) (C := R_Rdg) (T := F_Rdg) (N := 10) hx hb hw in_Rdg hown hK hP 0 rfl rfl 1 (by decide) (hw _ m_186) (fun _ h9 => h9) rfl d_Pas_overRegular_79 ?_
    refine lv_iload_n hx hb d_Pas_overRegular_82 rfl (lv_at hl 1 rfl) ?_
    have hC : [2, 3, 4, 5, 6, 7].map (fun i => (wRdg cI q0 q1 q2 q3 q4 q5 q6 q7 q8 q9 q10 u6)[i]?) = (wCtx cI q2 q3 q4 q5 q6 q7 (sb [2, 3, 4, 5, 6, 7] u6)).map some := rfl
    obtain ⟨x8, hc, hf⟩ := bd_o hf
    refine ro_i (va_runV (As := [.int x2]) (rest := []) ⟨hx, hb, hml, hown, hw⟩ (c_Ctx_leansDown l D cI q2 q3 q4 q5 q6 q7 x2 (sb [2, 3, 4, 5, 6, 7] u6) x8 hc) (cwV 1 hw g_33 rfl rfl rfl (by decide +kernel) ⟨Nat.le_of_ble_eq_true rfl, Nat.le_of_ble_eq_true rfl⟩) (pre_V (P_sub hC hP) hK rfl rfl) rfl rfl hl.1 rfl (lv_room (Nat.le_of_ble_eq_true rfl)) d_Pas_overRegular_83 ⟨Nat.le_of_ble_eq_true rfl, Nat.le_of_ble_eq_true rfl⟩) hS hP (fun H locs hP hS => ?_)
    refine lv_if_eq (tgt := 93) hx hb d_Pas_overRegular_86 (by decide) (fun hc => ?_) (fun hc => ?_)
    · have hf := bq_t hf hc
      exact j93 _ _ _ l1 x2 x7 u6 (lv_sub hl [2, 3, 1, 0] rfl) hP hS hf
    have hf := bq_n hf hc
    refine lv_iconst (v := 1) hx hb d_Pas_overRegular_89 (by decide) ?_
    refine lv_goto (tgt := 94) hx hb d_Pas_overRegular_90 (by decide) ?_
    exact j94 _ _ _ l1 x2 x7 1 u6 (lv_sub hl [2, 3, 1, 0] rfl) hP hS hf
  unfold f_Pas_overRegular_R at hf
  refine lv_aload_n hx hb d_Pas_overRegular_0 rfl (lv_at hl 0 rfl) ?_
  have hC : [0, 1, 2, 3, 4, 5, 6, 7, 8, 9, 10].map (fun i => (wRdg cI q0 q1 q2 q3 q4 q5 q6 q7 q8 q9 q10 u)[i]?) = (wRdg cI q0 q1 q2 q3 q4 q5 q6 q7 q8 q9 q10 u).map some := rfl
  obtain ⟨x1, hc, hf⟩ := bd_o hf
  refine ro_i (va_runU (As := []) (rest := []) ⟨hx, hb, hml, hown, hw⟩ (c_Pas_signedContext_R l D cI q0 q1 q2 q3 q4 q5 q6 q7 q8 q9 q10 u x1 hc) (va_cwU 0 hw g_124 rfl rfl rfl rfl (by decide +kernel) ⟨Nat.le_of_ble_eq_true rfl, Nat.le_of_ble_eq_true rfl⟩) (pre_V (P_sub hC hP) hK rfl rfl) rfl rfl hl.1 rfl (lv_room (Nat.le_of_ble_eq_true rfl)) d_Pas_overRegular_1 ⟨Nat.le_of_ble_eq_true rfl, Nat.le_of_ble_eq_true rfl⟩) hS hP (fun H locs hP hS => ?_)
  refine lv_istore_n (lv' := [(2, .int x1), (0, .ref q0), (1, .int a1)]) hx hb d_Pas_overRegular_4 rfl hl (by decide) rfl (fun ls hl => ?_)
  refine lv_aload_n hx hb d_Pas_overRegular_5 rfl (lv_at hl 1 rfl) ?_
  refine lv_iload_n hx hb d_Pas_overRegular_6 rfl (lv_at hl 0 rfl) ?_
  refine lv_if_ge (tgt := 14) hx hb d_Pas_overRegular_7 (by decide) (fun hc => ?_) (fun hc => ?_)
  · have hf := bq_t hf hc
    refine lv_iconst (v := 1) hx hb d_Pas_overRegular_14 (by decide) ?_
    exact j15 _ _ _ a1 x1 1 u (lv_sub hl [1, 2, 0] rfl) hP hS hf
  have hf := bq_n hf hc
  refine lv_iconst (v := (-1)) hx hb d_Pas_overRegular_10 (by decide) ?_
  refine lv_goto (tgt := 15) hx hb d_Pas_overRegular_11 (by decide) ?_
  exact j15 _ _ _ a1 x1 (-1) u (lv_sub hl [1, 2, 0] rfl) hP hS hf
def J_Pas_overEnd_R_106 (l1 : Int32) (l2 : Int32) (l3 : Int32) (l4 : Int32) (s0 : Int32) (u : gU) : Option (gU ⊕ gU) := bd (f_Rdg_carryEnd l1 l2 l4 s0 u) fun w1 => bx w1 (fun v2 => some (.inl (v2))) fun w3 => tk (w3.2) fun u4 => bd (f_Fol_foldEnd w3.1 l2 s0) fun x5 => bd (f_Ctx_learnEnd l3 w3.1 x5 (sb [2, 3, 4, 5, 6, 7] u4)) fun w6 => tk (mg [2, 3, 4, 5, 6, 7] 0 u4 w6) fun u7 => bd (f_Ctx_lowerRunIndex (sb [2, 3, 4, 5, 6, 7] u7)) fun w8 => tk (mg [2, 3, 4, 5, 6, 7] 0 u7 w8) fun u9 => some (.inr u9)
def J_Pas_overEnd_R_101 (l1 : Int32) (l2 : Int32) (l3 : Int32) (l4 : Int32) (u : gU) : Option (gU ⊕ gU) := J_Pas_overEnd_R_106 l1 l2 l3 l4 1 u
def J_Pas_overEnd_R_66 (l1 : Int32) (l2 : Int32) (s1 : Int32) (u : gU) : Option (gU ⊕ gU) := tk (st2 u 0 4 s1) fun u1 => tk (365 + l2) fun x2 => bd (f_Ctx_kOfEnd x2 (sb [2, 3, 4, 5, 6, 7] u1)) fun x3 => bq (x3 = 0) (bd (f_Ctx_isMostlyBelow x2 (sb [2, 3, 4, 5, 6, 7] u1)) fun x4 => bq (x4 = 0) (J_Pas_overEnd_R_106 l1 l2 x2 x3 0 u1) (J_Pas_overEnd_R_101 l1 l2 x2 x3 u1)) (J_Pas_overEnd_R_101 l1 l2 x2 x3 u1)
def J_Pas_overEnd_R_65 (l1 : Int32) (l2 : Int32) (u : gU) : Option (gU ⊕ gU) := J_Pas_overEnd_R_66 l1 l2 1 u
def J_Pas_overEnd_R_42 (l1 : Int32) (l2 : Int32) (s1 : Int32) (u : gU) : Option (gU ⊕ gU) := tk (st2 u 0 5 s1) fun u1 => bq (l2 = 0) (bq ((u1 0 0) ≤ (u1 0 1)) (J_Pas_overEnd_R_65 l1 l2 u1) (J_Pas_overEnd_R_66 l1 l2 (-1) u1)) (J_Pas_overEnd_R_65 l1 l2 u1)
def J_Pas_overEnd_R_24 (l1 : Int32) (s0 : Int32) (u : gU) : Option (gU ⊕ gU) := bq (s0 = 1) (J_Pas_overEnd_R_42 l1 s0 (u 0 0) u) (J_Pas_overEnd_R_42 l1 s0 (u 0 1) u)
def f_Pas_overEnd_R (a1 : Int32) (u : gU) : Option (gU ⊕ gU) := bd (f_Pic_isNear ((u 0 0) - (u 0 1)) (sb [1] u)) fun x1 => bq (x1 = 0) (J_Pas_overEnd_R_24 a1 0 u) (J_Pas_overEnd_R_24 a1 1 u)
set_option maxHeartbeats 4000000 in
set_option maxRecDepth 100000 in
theorem c_Pas_overEnd_R (l : Launch) (D : va_G) (cI : ClassId) (tJ : Nat) (q0 : Nat) (q1 : Nat) (q2 : Nat) (q3 : Nat) (q4 : Nat) (q5 : Nat) (q6 : Nat) (q7 : Nat) (q8 : Nat) (q9 : Nat) (q10 : Nat) (hd : dj [q0, q1, q2, q3, q4, q5, q6, q7, q8, q9, q10]) (a1 : Int32) (u : gU) (v : gU) (hf : f_Pas_overEnd_R a1 u = some (.inr v)) : Met l y_Pas_overEnd (.code y_Pas_overEnd b_Pas_overEnd 7 none :: TS) ({ frames := 4, cells := 0, slots := 0, locals := 95 }) (va_Pc [.ref q0, .int a1] (fun U => va_P D cls (wRdg cI q0 q1 q2 q3 q4 q5 q6 q7 q8 q9 q10 u) U.heap ∧ va_K D cls [(cI, .int)] U ∧ Jt tJ (ad [q0, q1, q2, q3, q4, q5, q6, q7, q8, q9, q10]) U)) (va_Qv (fun (_ : Unit) => True) (fun _ t => va_P D cls (wRdg cI q0 q1 q2 q3 q4 q5 q6 q7 q8 q9 q10 v) t.heap) (ad [q0, q1, q2, q3, q4, q5, q6, q7, q8, q9, q10])) 0 0 (ad [q0, q1, q2, q3, q4, q5, q6, q7, q8, q9, q10]) := by
  refine ct_ofJ (by decide +kernel) (Nat.le_of_ble_eq_true rfl) ?_
  intro p e s m below meth c ls hx hb hml hr hlocks hown hw hP hK hJ hl
  have hS : va_S (ad [q0, q1, q2, q3, q4, q5, q6, q7, q8, q9, q10]) s.heap s.heap [] := va_S.rf
  have hD : ∀ v, va_D (ad [q0, q1, q2, q3, q4, q5, q6, q7, q8, q9, q10]) (wRdg cI q0 q1 q2 q3 q4 q5 q6 q7 q8 q9 q10 v) := fun _ => dj_D rfl hd
  have hl : lv_has ls 7 [(0, .ref q0), (1, .int a1)] := hl
  have hP : va_P D cls (wRdg cI q0 q1 q2 q3 q4 q5 q6 q7 q8 q9 q10 u) s.heap := hP
  have j106 : ∀ (ls : Array Slot) (H : Heap) (locs : List Loc) (l1 : Int32) (l2 : Int32) (l3 : Int32) (l4 : Int32) (s0 : Int32) (u : gU), lv_has ls 7 [(0, .ref q0), (1, .int l1), (2, .int l2), (3, .int l3), (4, .int l4)] → va_P D cls (wRdg cI q0 q1 q2 q3 q4 q5 q6 q7 q8 q9 q10 u) H → va_S (ad [q0, q1, q2, q3, q4, q5, q6, q7, q8, q9, q10]) s.heap H locs → J_Pas_overEnd_R_106 l1 l2 l3 l4 s0 u = some (.inr v) → W p l e ({ frames := 4, cells := 0, slots := 0, locals := 95 }) s m [.ref q0, .int a1].toArray below meth c H locs 0 0 (MQ below (va_Qv (fun (_ : Unit) => True) (fun _ t => va_P D cls (wRdg cI q0 q1 q2 q3 q4 q5 q6 q7 q8 q9 q10 v) t.heap) (ad [q0, q1, q2, q3, q4, q5, q6, q7, q8, q9, q10])) [.ref q0, .int a1].toArray s 0 0 (ad [q0, q1, q2, q3, q4, q5, q6, q7, q8, q9, q10])) (F0 m 106 ls [.int s0]) := by
    intro ls H locs l1 l2 l3 l4 s0 u hl hP hS hf
    unfold J_Pas_overEnd_R_106 at hf
    refine lv_istore (lv' := [(5, .int s0), (0, .ref q0), (1, .int l1), (2, .int l2), (3, .int l3), (4, .int l4)]) hx hb d_Pas_overEnd_106 hl (by decide) rfl (fun ls hl => ?_)
    refine lv_aload_n hx hb d_Pas_overEnd_108 rfl (lv_at hl 1 rfl) ?_
    refine lv_iload_n hx hb d_Pas_overEnd_109 rfl (lv_at hl 2 rfl) ?_
    refine lv_iload_n hx hb d_Pas_overEnd_110 rfl (lv_at hl 3 rfl) ?_
    refine lv_iload hx hb d_Pas_overEnd_111 (lv_at hl 5 rfl) ?_
    refine lv_iload hx hb d_Pas_overEnd_113 (lv_at hl 0 rfl) ?_
    have hC : [0, 1, 2, 3, 4, 5, 6, 7, 8, 9, 10].map (fun i => (wRdg cI q0 q1 q2 q3 q4 q5 q6 q7 q8 q9 q10 u)[i]?) = (wRdg cI q0 q1 q2 q3 q4 q5 q6 q7 q8 q9 q10 u).map some := rfl
    obtain ⟨w1, hc, hf⟩ := bd_o hf
    rcases w1 with v2 | w3
    · have hf := bx_l hf
      exact xo hf
    have hf := bx_r hf
    refine rw_i (va_runU (As := [.int l1, .int l2, .int l4, .int s0]) (rest := []) ⟨hx, hb, hml, hown, hw⟩ (c_Rdg_carryEnd l D cI tJ q0 q1 q2 q3 q4 q5 q6 q7 q8 q9 q10 (dj_sub hd [0, 1, 2, 3, 4, 5, 6, 7, 8, 9, 10] (by decide) rfl) l1 l2 l4 s0 u w3.1 w3.2 hc) (va_cwA 4 hw g_125 rfl rfl rfl hJ.2.2.2.2 (by decide +kernel) ⟨Nat.le_of_ble_eq_true rfl, Nat.le_of_ble_eq_true rfl⟩) (pre_VJ (P_sub hC hP) hK rfl rfl (Jt_call hJ hS (ad_sub [0, 1, 2, 3, 4, 5, 6, 7, 8, 9, 10] rfl))) rfl rfl hl.1 rfl (lv_room (Nat.le_of_ble_eq_true rfl)) d_Pas_overEnd_115 ⟨Nat.le_of_ble_eq_true rfl, Nat.le_of_ble_eq_true rfl⟩) hS hP (hD _) hC rfl rfl (fun H locs hP hS => ?_)
    obtain ⟨u4, e_u4, hf⟩ := tk_o hf
    have hP : va_P D cls (wRdg cI q0 q1 q2 q3 q4 q5 q6 q7 q8 q9 q10 u4) H := by rw [e_u4]; exact hP
    refine lv_istore (lv' := [(6, .int w3.1), (5, .int s0), (0, .ref q0), (1, .int l1), (2, .int l2), (3, .int l3), (4, .int l4)]) hx hb d_Pas_overEnd_118 hl (by decide) rfl (fun ls hl => ?_)
    refine lv_aload_n hx hb d_Pas_overEnd_120 rfl (lv_at hl 2 rfl) ?_
    refine va_get (D := D) (ci := 4) (v := .ref q2) (C := R_Rdg) (T := F_Rdg) (N := 10) hx hb hw in_Rdg hown hK hP 0 rfl rfl 1 (by decide) (hw _ m_186) (fun _ h9 => h9) rfl d_Pas_overEnd_121 ?_
    refine lv_iload_n hx hb d_Pas_overEnd_124 rfl (lv_at hl 5 rfl) ?_
    refine lv_iload hx hb d_Pas_overEnd_125 (lv_at hl 0 rfl) ?_
    refine lv_iload hx hb d_Pas_overEnd_127 (lv_at hl 0 rfl) ?_
    refine lv_iload_n hx hb d_Pas_overEnd_129 rfl (lv_at hl 4 rfl) ?_
    refine lv_iload hx hb d_Pas_overEnd_130 (lv_at hl 1 rfl) ?_
    have hC : ([] : List Nat).map (fun i => (wRdg cI q0 q1 q2 q3 q4 q5 q6 q7 q8 q9 q10 u4)[i]?) = ([] : va_W).map some := rfl
    obtain ⟨x5, hc, hf⟩ := bd_o hf
    refine ro_i (va_runS (As := [.int w3.1, .int l2, .int s0]) (rest := [.int w3.1, .int l3, .ref q2]) ⟨hx, hb, hml, hown, hw⟩ (c_Fol_foldEnd l D cI w3.1 l2 s0 x5 hc) (va_cwS 3 hw g_36 rfl rfl rfl (by decide +kernel) ⟨Nat.le_of_ble_eq_true rfl, Nat.le_of_ble_eq_true rfl⟩) (pre_S (P_sub hC hP) hK) rfl rfl hl.1 rfl (lv_room (Nat.le_of_ble_eq_true rfl)) d_Pas_overEnd_132 ⟨Nat.le_of_ble_eq_true rfl, Nat.le_of_ble_eq_true rfl⟩) hS hP (fun H locs hP hS => ?_)
    have hC : [2, 3, 4, 5, 6, 7].map (fun i => (wRdg cI q0 q1 q2 q3 q4 q5 q6 q7 q8 q9 q10 u4)[i]?) = (wCtx cI q2 q3 q4 q5 q6 q7 (sb [2, 3, 4, 5, 6, 7] u4)).map some := rfl
    obtain ⟨w6, hc, hf⟩ := bd_o hf
    refine rw_v (va_runV (As := [.int l3, .int w3.1, .int x5]) (rest := []) ⟨hx, hb, hml, hown, hw⟩ (c_Ctx_learnEnd l D cI q2 q3 q4 q5 q6 q7 (dj_sub hd [2, 3, 4, 5, 6, 7] (by decide) rfl) l3 w3.1 x5 (sb [2, 3, 4, 5, 6, 7] u4) w6 hc) (cwV 3 hw g_37 rfl rfl rfl (by decide +kernel) ⟨Nat.le_of_ble_eq_true rfl, Nat.le_of_ble_eq_true rfl⟩) (pre_V (P_sub hC hP) hK rfl rfl) rfl rfl hl.1 rfl (lv_room (Nat.le_of_ble_eq_true rfl)) d_Pas_overEnd_135 ⟨Nat.le_of_ble_eq_true rfl, Nat.le_of_ble_eq_true rfl⟩) hS hP (hD _) hC rfl rfl (fun H locs hP hS => ?_)
    obtain ⟨u7, e_u7, hf⟩ := tk_o hf
    have hP : va_P D cls (wRdg cI q0 q1 q2 q3 q4 q5 q6 q7 q8 q9 q10 u7) H := by rw [e_u7]; exact hP
    refine lv_aload_n hx hb d_Pas_overEnd_138 rfl (lv_at hl 2 rfl) ?_
    refine va_get (D := D) (ci := 4) (v := .ref q2) (C := R_Rdg) (T := F_Rdg) (N := 10) hx hb hw in_Rdg hown hK hP 0 rfl rfl 1 (by decide) (hw _ m_186) (fun _ h9 => h9) rfl d_Pas_overEnd_139 ?_
    have hC : [2, 3, 4, 5, 6, 7].map (fun i => (wRdg cI q0 q1 q2 q3 q4 q5 q6 q7 q8 q9 q10 u7)[i]?) = (wCtx cI q2 q3 q4 q5 q6 q7 (sb [2, 3, 4, 5, 6, 7] u7)).map some := rfl
    obtain ⟨w8, hc, hf⟩ := bd_o hf
    refine rw_v (va_runV (As := []) (rest := []) ⟨hx, hb, hml, hown, hw⟩ (c_Ctx_lowerRunIndex l D cI q2 q3 q4 q5 q6 q7 (dj_sub hd [2, 3, 4, 5, 6, 7] (by decide) rfl) (sb [2, 3, 4, 5, 6, 7] u7) w8 hc) (cwV 0 hw g_38 rfl rfl rfl (by decide +kernel) ⟨Nat.le_of_ble_eq_true rfl, Nat.le_of_ble_eq_true rfl⟩) (pre_V (P_sub hC hP) hK rfl rfl) rfl rfl hl.1 rfl (lv_room (Nat.le_of_ble_eq_true rfl)) d_Pas_overEnd_142 ⟨Nat.le_of_ble_eq_true rfl, Nat.le_of_ble_eq_true rfl⟩) hS hP (hD _) hC rfl rfl (fun H locs hP hS => ?_)
    obtain ⟨u9, e_u9, hf⟩ := tk_o hf
    have hP : va_P D cls (wRdg cI q0 q1 q2 q3 q4 q5 q6 q7 q8 q9 q10 u9) H := by rw [e_u9]; exact hP
    exact rt_v (wRdg cI q0 q1 q2 q3 q4 q5 q6 q7 q8 q9 q10) hx hb hr hlocks hS hP (sr hf) d_Pas_overEnd_145
  have j101 : ∀ (ls : Array Slot) (H : Heap) (locs : List Loc) (l1 : Int32) (l2 : Int32) (l3 : Int32) (l4 : Int32) (u : gU), lv_has ls 7 [(0, .ref q0), (1, .int l1), (2, .int l2), (3, .int l3), (4, .int l4)] → va_P D cls (wRdg cI q0 q1 q2 q3 q4 q5 q6 q7 q8 q9 q10 u) H → va_S (ad [q0, q1, q2, q3, q4, q5, q6, q7, q8, q9, q10]) s.heap H locs → J_Pas_overEnd_R_101 l1 l2 l3 l4 u = some (.inr v) → W p l e ({ frames := 4, cells := 0, slots := 0, locals := 95 }) s m [.ref q0, .int a1].toArray below meth c H locs 0 0 (MQ below (va_Qv (fun (_ : Unit) => True) (fun _ t => va_P D cls (wRdg cI q0 q1 q2 q3 q4 q5 q6 q7 q8 q9 q10 v) t.heap) (ad [q0, q1, q2, q3, q4, q5, q6, q7, q8, q9, q10])) [.ref q0, .int a1].toArray s 0 0 (ad [q0, q1, q2, q3, q4, q5, q6, q7, q8, q9, q10])) (F0 m 101 ls []) := by
    intro ls H locs l1 l2 l3 l4 u hl hP hS hf
    unfold J_Pas_overEnd_R_101 at hf
    refine lv_iconst (v := 1) hx hb d_Pas_overEnd_101 (by decide) ?_
    refine lv_goto (tgt := 106) hx hb d_Pas_overEnd_102 (by decide) ?_
    exact j106 _ _ _ l1 l2 l3 l4 1 u (lv_sub hl [0, 1, 2, 3, 4] rfl) hP hS hf
  have j66 : ∀ (ls : Array Slot) (H : Heap) (locs : List Loc) (l1 : Int32) (l2 : Int32) (s1 : Int32) (u : gU), lv_has ls 7 [(0, .ref q0), (1, .int l1), (2, .int l2)] → va_P D cls (wRdg cI q0 q1 q2 q3 q4 q5 q6 q7 q8 q9 q10 u) H → va_S (ad [q0, q1, q2, q3, q4, q5, q6, q7, q8, q9, q10]) s.heap H locs → J_Pas_overEnd_R_66 l1 l2 s1 u = some (.inr v) → W p l e ({ frames := 4, cells := 0, slots := 0, locals := 95 }) s m [.ref q0, .int a1].toArray below meth c H locs 0 0 (MQ below (va_Qv (fun (_ : Unit) => True) (fun _ t => va_P D cls (wRdg cI q0 q1 q2 q3 q4 q5 q6 q7 q8 q9 q10 v) t.heap) (ad [q0, q1, q2, q3, q4, q5, q6, q7, q8, q9, q10])) [.ref q0, .int a1].toArray s 0 0 (ad [q0, q1, q2, q3, q4, q5, q6, q7, q8, q9, q10])) (F0 m 66 ls [.int s1, .ref q0]) := by
    intro ls H locs l1 l2 s1 u hl hP hS hf
    unfold J_Pas_overEnd_R_66 at hf
    refine va_put (D := D) (ci := 4) (v := .int s1) (ty := .int) (C := R_Rdg) (T := F_Rdg) (N := 10) hx hb hw in_Rdg t_Rdg t_Rdg_ok n_Rdg hown hK hP (hD _) hS 0 rfl rfl 7 (by decide) (hw _ m_258) (fun _ h9 => h9) rfl (by decide +kernel) rfl rfl (Nat.le_of_ble_eq_true rfl) d_Pas_overEnd_66 (fun H locs hP _ hS => ?_)
    obtain ⟨u1, e_u1, hf⟩ := tk_o hf
    have hP : va_P D cls (wRdg cI q0 q1 q2 q3 q4 q5 q6 q7 q8 q9 q10 u1) H := by rw [e_u1]; exact hP
    refine lv_sipush (v := 365) hx hb d_Pas_overEnd_69 (by decide) ?_
    refine lv_iload_n hx hb d_Pas_overEnd_72 rfl (lv_at hl 2 rfl) ?_
    refine lv_iadd hx hb d_Pas_overEnd_73 ?_
    refine lv_topi (fun x2 e_x2 => ?_)
    have hf := tk_e hf e_x2
    refine lv_istore_n (lv' := [(3, .int x2), (0, .ref q0), (1, .int l1), (2, .int l2)]) hx hb d_Pas_overEnd_74 rfl hl (by decide) rfl (fun ls hl => ?_)
    refine lv_aload_n hx hb d_Pas_overEnd_75 rfl (lv_at hl 1 rfl) ?_
    refine va_get (D := D) (ci := 4) (v := .ref q2) (C := R_Rdg) (T := F_Rdg) (N := 10) hx hb hw in_Rdg hown hK hP 0 rfl rfl 1 (by decide) (hw _ m_186) (fun _ h9 => h9) rfl d_Pas_overEnd_76 ?_
    refine lv_iload_n hx hb d_Pas_overEnd_79 rfl (lv_at hl 0 rfl) ?_
    have hC : [2, 3, 4, 5, 6, 7].map (fun i => (wRdg cI q0 q1 q2 q3 q4 q5 q6 q7 q8 q9 q10 u1)[i]?) = (wCtx cI q2 q3 q4 q5 q6 q7 (sb [2, 3, 4, 5, 6, 7] u1)).map some := rfl
    obtain ⟨x3, hc, hf⟩ := bd_o hf
    refine ro_i (va_runV (As := [.int x2]) (rest := []) ⟨hx, hb, hml, hown, hw⟩ (c_Ctx_kOfEnd l D cI q2 q3 q4 q5 q6 q7 x2 (sb [2, 3, 4, 5, 6, 7] u1) x3 hc) (cwV 1 hw g_39 rfl rfl rfl (by decide +kernel) ⟨Nat.le_of_ble_eq_true rfl, Nat.le_of_ble_eq_true rfl⟩) (pre_V (P_sub hC hP) hK rfl rfl) rfl rfl hl.1 rfl (lv_room (Nat.le_of_ble_eq_true rfl)) d_Pas_overEnd_80 ⟨Nat.le_of_ble_eq_true rfl, Nat.le_of_ble_eq_true rfl⟩) hS hP (fun H locs hP hS => ?_)
    refine lv_istore (lv' := [(4, .int x3), (3, .int x2), (0, .ref q0), (1, .int l1), (2, .int l2)]) hx hb d_Pas_overEnd_83 hl (by decide) rfl (fun ls hl => ?_)
    refine lv_iload hx hb d_Pas_overEnd_85 (lv_at hl 0 rfl) ?_
    refine lv_if_ne (tgt := 101) hx hb d_Pas_overEnd_87 (by decide) (fun hc => ?_) (fun hc => ?_)
    · have hf := bq_n hf hc
      exact j101 _ _ _ l1 l2 x2 x3 u1 (lv_sub hl [2, 3, 4, 1, 0] rfl) hP hS hf
    have hf := bq_t hf hc
    refine lv_aload_n hx hb d_Pas_overEnd_90 rfl (lv_at hl 2 rfl) ?_
    refine va_get (D := D) (ci := 4) (v := .ref q2) (C := R_Rdg) (T := F_Rdg) (N := 10) hx hb hw in_Rdg hown hK hP 0 rfl rfl 1 (by decide) (hw _ m_186) (fun _ h9 => h9) rfl d_Pas_overEnd_91 ?_
    refine lv_iload_n hx hb d_Pas_overEnd_94 rfl (lv_at hl 1 rfl) ?_
    have hC : [2, 3, 4, 5, 6, 7].map (fun i => (wRdg cI q0 q1 q2 q3 q4 q5 q6 q7 q8 q9 q10 u1)[i]?) = (wCtx cI q2 q3 q4 q5 q6 q7 (sb [2, 3, 4, 5, 6, 7] u1)).map some := rfl
    obtain ⟨x4, hc, hf⟩ := bd_o hf
    refine ro_i (va_runV (As := [.int x2]) (rest := []) ⟨hx, hb, hml, hown, hw⟩ (c_Ctx_isMostlyBelow l D cI q2 q3 q4 q5 q6 q7 x2 (sb [2, 3, 4, 5, 6, 7] u1) x4 hc) (cwV 1 hw g_40 rfl rfl rfl (by decide +kernel) ⟨Nat.le_of_ble_eq_true rfl, Nat.le_of_ble_eq_true rfl⟩) (pre_V (P_sub hC hP) hK rfl rfl) rfl rfl hl.1 rfl (lv_room (Nat.le_of_ble_eq_true rfl)) d_Pas_overEnd_95 ⟨Nat.le_of_ble_eq_true rfl, Nat.le_of_ble_eq_true rfl⟩) hS hP (fun H locs hP hS => ?_)
    refine lv_if_eq (tgt := 105) hx hb d_Pas_overEnd_98 (by decide) (fun hc => ?_) (fun hc => ?_)
    · have hf := bq_t hf hc
      refine lv_iconst (v := 0) hx hb d_Pas_overEnd_105 (by decide) ?_
      exact j106 _ _ _ l1 l2 x2 x3 0 u1 (lv_sub hl [2, 3, 4, 1, 0] rfl) hP hS hf
    have hf := bq_n hf hc
    exact j101 _ _ _ l1 l2 x2 x3 u1 (lv_sub hl [2, 3, 4, 1, 0] rfl) hP hS hf
  have j65 : ∀ (ls : Array Slot) (H : Heap) (locs : List Loc) (l1 : Int32) (l2 : Int32) (u : gU), lv_has ls 7 [(0, .ref q0), (1, .int l1), (2, .int l2)] → va_P D cls (wRdg cI q0 q1 q2 q3 q4 q5 q6 q7 q8 q9 q10 u) H → va_S (ad [q0, q1, q2, q3, q4, q5, q6, q7, q8, q9, q10]) s.heap H locs → J_Pas_overEnd_R_65 l1 l2 u = some (.inr v) → W p l e ({ frames := 4, cells := 0, slots := 0, locals := 95 }) s m [.ref q0, .int a1].toArray below meth c H locs 0 0 (MQ below (va_Qv (fun (_ : Unit) => True) (fun _ t => va_P D cls (wRdg cI q0 q1 q2 q3 q4 q5 q6 q7 q8 q9 q10 v) t.heap) (ad [q0, q1, q2, q3, q4, q5, q6, q7, q8, q9, q10])) [.ref q0, .int a1].toArray s 0 0 (ad [q0, q1, q2, q3, q4, q5, q6, q7, q8, q9, q10])) (F0 m 65 ls [.ref q0]) := by
    intro ls H locs l1 l2 u hl hP hS hf
    unfold J_Pas_overEnd_R_65 at hf
    refine lv_iconst (v := 1) hx hb d_Pas_overEnd_65 (by decide) ?_
    exact j66 _ _ _ l1 l2 1 u (lv_sub hl [0, 1, 2] rfl) hP hS hf
  have j42 : ∀ (ls : Array Slot) (H : Heap) (locs : List Loc) (l1 : Int32) (l2 : Int32) (s1 : Int32) (u : gU), lv_has ls 7 [(0, .ref q0), (1, .int l1), (2, .int l2)] → va_P D cls (wRdg cI q0 q1 q2 q3 q4 q5 q6 q7 q8 q9 q10 u) H → va_S (ad [q0, q1, q2, q3, q4, q5, q6, q7, q8, q9, q10]) s.heap H locs → J_Pas_overEnd_R_42 l1 l2 s1 u = some (.inr v) → W p l e ({ frames := 4, cells := 0, slots := 0, locals := 95 }) s m [.ref q0, .int a1].toArray below meth c H locs 0 0 (MQ below (va_Qv (fun (_ : Unit) => True) (fun _ t => va_P D cls (wRdg cI q0 q1 q2 q3 q4 q5 q6 q7 q8 q9 q10 v) t.heap) (ad [q0, q1, q2, q3, q4, q5, q6, q7, q8, q9, q10])) [.ref q0, .int a1].toArray s 0 0 (ad [q0, q1, q2, q3, q4, q5, q6, q7, q8, q9, q10])) (F0 m 42 ls [.int s1, .ref q0]) := by
    intro ls H locs l1 l2 s1 u hl hP hS hf
    unfold J_Pas_overEnd_R_42 at hf
    refine va_put (D := D) (ci := 4) (v := .int s1) (ty := .int) (C := R_Rdg) (T := F_Rdg) (N := 10) hx hb hw in_Rdg t_Rdg t_Rdg_ok n_Rdg hown hK hP (hD _) hS 0 rfl rfl 8 (by decide) (hw _ m_267) (fun _ h9 => h9) rfl (by decide +kernel) rfl rfl (Nat.le_of_ble_eq_true rfl) d_Pas_overEnd_42 (fun H locs hP _ hS => ?_)
    obtain ⟨u1, e_u1, hf⟩ := tk_o hf
    have hP : va_P D cls (wRdg cI q0 q1 q2 q3 q4 q5 q6 q7 q8 q9 q10 u1) H := by rw [e_u1]; exact hP
    refine lv_aload_n hx hb d_Pas_overEnd_45 rfl (lv_at hl 0 rfl) ?_
    refine lv_iload_n hx hb d_Pas_overEnd_46 rfl (lv_at hl 2 rfl) ?_
    refine lv_if_ne (tgt := 65) hx hb d_Pas_overEnd_47 (by decide) (fun hc => ?_) (fun hc => ?_)
    · have hf := bq_n hf hc
      exact j65 _ _ _ l1 l2 u1 (lv_sub hl [0, 1, 2] rfl) hP hS hf
    have hf := bq_t hf hc
    refine lv_aload_n hx hb d_Pas_overEnd_50 rfl (lv_at hl 0 rfl) ?_
    refine va_get (D := D) (ci := 4) (v := .int (u1 0 0)) (C := R_Rdg) (T := F_Rdg) (N := 10) hx hb hw in_Rdg hown hK hP 0 rfl rfl 3 (by decide) (hw _ m_174) (fun _ h9 => h9) rfl d_Pas_overEnd_51 ?_
    refine lv_aload_n hx hb d_Pas_overEnd_54 rfl (lv_at hl 0 rfl) ?_
    refine va_get (D := D) (ci := 4) (v := .int (u1 0 1)) (C := R_Rdg) (T := F_Rdg) (N := 10) hx hb hw in_Rdg hown hK hP 0 rfl rfl 4 (by decide) (hw _ m_167) (fun _ h9 => h9) rfl d_Pas_overEnd_55 ?_
    refine lv_icmp_le (tgt := 65) hx hb d_Pas_overEnd_58 (by decide) (fun hc => ?_) (fun hc => ?_)
    · have hf := bq_t hf hc
      exact j65 _ _ _ l1 l2 u1 (lv_sub hl [0, 1, 2] rfl) hP hS hf
    have hf := bq_n hf hc
    refine lv_iconst (v := (-1)) hx hb d_Pas_overEnd_61 (by decide) ?_
    refine lv_goto (tgt := 66) hx hb d_Pas_overEnd_62 (by decide) ?_
    exact j66 _ _ _ l1 l2 (-1) u1 (lv_sub hl [0, 1, 2] rfl) hP hS hf
  have j24 : ∀ (ls : Array Slot) (H : Heap) (locs : List Loc) (l1 : Int32) (s0 : Int32) (u : gU), lv_has ls 7 [(0, .ref q0), (1, .int l1)] → va_P D cls (wRdg cI q0 q1 q2 q3 q4 q5 q6 q7 q8 q9 q10 u) H → va_S (ad [q0, q1, q2, q3, q4, q5, q6, q7, q8, q9, q10]) s.heap H locs → J_Pas_overEnd_R_24 l1 s0 u = some (.inr v) → W p l e ({ frames := 4, cells := 0, slots := 0, locals := 95 }) s m [.ref q0, .int a1].toArray below meth c H locs 0 0 (MQ below (va_Qv (fun (_ : Unit) => True) (fun _ t => va_P D cls (wRdg cI q0 q1 q2 q3 q4 q5 q6 q7 q8 q9 q10 v) t.heap) (ad [q0, q1, q2, q3, q4, q5, q6, q7, q8, q9, q10])) [.ref q0, .int a1].toArray s 0 0 (ad [q0, q1, q2, q3, q4, q5, q6, q7, q8, q9, q10])) (F0 m 24 ls [.int s0]) := by
    intro ls H locs l1 s0 u hl hP hS hf
    unfold J_Pas_overEnd_R_24 at hf
    refine lv_istore_n (lv' := [(2, .int s0), (0, .ref q0), (1, .int l1)]) hx hb d_Pas_overEnd_24 rfl hl (by decide) rfl (fun ls hl => ?_)
    refine lv_aload_n hx hb d_Pas_overEnd_25 rfl (lv_at hl 1 rfl) ?_
    refine lv_iload_n hx hb d_Pas_overEnd_26 rfl (lv_at hl 0 rfl) ?_
    refine lv_iconst (v := 1) hx hb d_Pas_overEnd_27 (by decide) ?_
    refine lv_icmp_ne (tgt := 38) hx hb d_Pas_overEnd_28 (by decide) (fun hc => ?_) (fun hc => ?_)
    · have hf := bq_n hf hc
      refine lv_aload_n hx hb d_Pas_overEnd_38 rfl (lv_at hl 1 rfl) ?_
      refine va_get (D := D) (ci := 4) (v := .int (u 0 1)) (C := R_Rdg) (T := F_Rdg) (N := 10) hx hb hw in_Rdg hown hK hP 0 rfl rfl 4 (by decide) (hw _ m_167) (fun _ h9 => h9) rfl d_Pas_overEnd_39 ?_
      exact j42 _ _ _ l1 s0 (u 0 1) u (lv_sub hl [1, 2, 0] rfl) hP hS hf
    have hf := bq_t hf hc
    refine lv_aload_n hx hb d_Pas_overEnd_31 rfl (lv_at hl 1 rfl) ?_
    refine va_get (D := D) (ci := 4) (v := .int (u 0 0)) (C := R_Rdg) (T := F_Rdg) (N := 10) hx hb hw in_Rdg hown hK hP 0 rfl rfl 3 (by decide) (hw _ m_174) (fun _ h9 => h9) rfl d_Pas_overEnd_32 ?_
    refine lv_goto (tgt := 42) hx hb d_Pas_overEnd_35 (by decide) ?_
    exact j42 _ _ _ l1 s0 (u 0 0) u (lv_sub hl [1, 2, 0] rfl) hP hS hf
  unfold f_Pas_overEnd_R at hf
  refine lv_aload_n hx hb d_Pas_overEnd_0 rfl (lv_at hl 0 rfl) ?_
  refine va_get (D := D) (ci := 4) (v := .ref q1) (C := R_Rdg) (T := F_Rdg) (N := 10) hx hb hw in_Rdg hown hK hP 0 rfl rfl 0 (by decide) (hw _ m_165) (fun _ h9 => h9) rfl d_Pas_overEnd_1 ?_
  refine lv_aload_n hx hb d_Pas_overEnd_4 rfl (lv_at hl 0 rfl) ?_
  refine va_get (D := D) (ci := 4) (v := .int (u 0 0)) (C := R_Rdg) (T := F_Rdg) (N := 10) hx hb hw in_Rdg hown hK hP 0 rfl rfl 3 (by decide) (hw _ m_174) (fun _ h9 => h9) rfl d_Pas_overEnd_5 ?_
  refine lv_aload_n hx hb d_Pas_overEnd_8 rfl (lv_at hl 0 rfl) ?_
  refine va_get (D := D) (ci := 4) (v := .int (u 0 1)) (C := R_Rdg) (T := F_Rdg) (N := 10) hx hb hw in_Rdg hown hK hP 0 rfl rfl 4 (by decide) (hw _ m_167) (fun _ h9 => h9) rfl d_Pas_overEnd_9 ?_
  refine lv_isub hx hb d_Pas_overEnd_12 ?_
  have hC : [1].map (fun i => (wRdg cI q0 q1 q2 q3 q4 q5 q6 q7 q8 q9 q10 u)[i]?) = (wPic cI q1 (sb [1] u)).map some := rfl
  obtain ⟨x1, hc, hf⟩ := bd_o hf
  refine ro_i (va_runV (As := [.int ((u 0 0) - (u 0 1))]) (rest := []) ⟨hx, hb, hml, hown, hw⟩ (c_Pic_isNear l D cI q1 ((u 0 0) - (u 0 1)) (sb [1] u) x1 hc) (cwV 1 hw g_13 rfl rfl rfl (by decide +kernel) ⟨Nat.le_of_ble_eq_true rfl, Nat.le_of_ble_eq_true rfl⟩) (pre_V (P_sub hC hP) hK rfl rfl) rfl rfl hl.1 rfl (lv_room (Nat.le_of_ble_eq_true rfl)) d_Pas_overEnd_13 ⟨Nat.le_of_ble_eq_true rfl, Nat.le_of_ble_eq_true rfl⟩) hS hP (fun H locs hP hS => ?_)
  refine lv_if_eq (tgt := 23) hx hb d_Pas_overEnd_16 (by decide) (fun hc => ?_) (fun hc => ?_)
  · have hf := bq_t hf hc
    refine lv_iconst (v := 0) hx hb d_Pas_overEnd_23 (by decide) ?_
    exact j24 _ _ _ a1 0 u (lv_sub hl [0, 1] rfl) hP hS hf
  have hf := bq_n hf hc
  refine lv_iconst (v := 1) hx hb d_Pas_overEnd_19 (by decide) ?_
  refine lv_goto (tgt := 24) hx hb d_Pas_overEnd_20 (by decide) ?_
  exact j24 _ _ _ a1 1 u (lv_sub hl [0, 1] rfl) hP hS hf
set_option maxHeartbeats 4000000 in
set_option maxRecDepth 100000 in
theorem x_Pas_overEnd_R (l : Launch) (hfl : l.flags = pinnedFlags ++ [noTraceFlag]) (D : va_G) (cI : ClassId) (tJ : Nat) (q0 : Nat) (q1 : Nat) (q2 : Nat) (q3 : Nat) (q4 : Nat) (q5 : Nat) (q6 : Nat) (q7 : Nat) (q8 : Nat) (q9 : Nat) (q10 : Nat) (hd : dj [q0, q1, q2, q3, q4, q5, q6, q7, q8, q9, q10]) (a1 : Int32) (u : gU) (v : gU) (hf : f_Pas_overEnd_R a1 u = some (.inl v)) : MetX l y_Pas_overEnd (.code y_Pas_overEnd b_Pas_overEnd 7 none :: TS) ({ frames := 10, cells := 1, slots := 6, locals := 203 }) (va_Pc [.ref q0, .int a1] (fun U => va_P D cls (wRdg cI q0 q1 q2 q3 q4 q5 q6 q7 q8 q9 q10 u) U.heap ∧ va_K D cls [(cI, .int)] U ∧ Jt tJ (ad [q0, q1, q2, q3, q4, q5, q6, q7, q8, q9, q10]) U ∧ Xt (ad [q0, q1, q2, q3, q4, q5, q6, q7, q8, q9, q10]) U)) D cls (wRdg cI q0 q1 q2 q3 q4 q5 q6 q7 q8 q9 q10 v) (ad [q0, q1, q2, q3, q4, q5, q6, q7, q8, q9, q10]) := by
  refine ct_ofX hfl (by decide +kernel) (Nat.le_of_ble_eq_true rfl) ?_
  intro p e s m below meth c ls hx hb hml hr hlocks hown hw hP hK hJ hl hX htr hout
  have hS : va_S (ad [q0, q1, q2, q3, q4, q5, q6, q7, q8, q9, q10]) s.heap s.heap [] := va_S.rf
  have hD : ∀ v, va_D (ad [q0, q1, q2, q3, q4, q5, q6, q7, q8, q9, q10]) (wRdg cI q0 q1 q2 q3 q4 q5 q6 q7 q8 q9 q10 v) := fun _ => dj_D rfl hd
  have hl : lv_has ls 7 [(0, .ref q0), (1, .int a1)] := hl
  have hP : va_P D cls (wRdg cI q0 q1 q2 q3 q4 q5 q6 q7 q8 q9 q10 u) s.heap := hP
  have j106 : ∀ (ls : Array Slot) (H : Heap) (locs : List Loc) (l1 : Int32) (l2 : Int32) (l3 : Int32) (l4 : Int32) (s0 : Int32) (u : gU), lv_has ls 7 [(0, .ref q0), (1, .int l1), (2, .int l2), (3, .int l3), (4, .int l4)] → va_P D cls (wRdg cI q0 q1 q2 q3 q4 q5 q6 q7 q8 q9 q10 u) H → va_S (ad [q0, q1, q2, q3, q4, q5, q6, q7, q8, q9, q10]) s.heap H locs → J_Pas_overEnd_R_106 l1 l2 l3 l4 s0 u = some (.inl v) → W p l e ({ frames := 10, cells := 1, slots := 6, locals := 203 }) s m [.ref q0, .int a1].toArray below meth c H locs 0 0 (MQX below D cls (wRdg cI q0 q1 q2 q3 q4 q5 q6 q7 q8 q9 q10 v) (ad [q0, q1, q2, q3, q4, q5, q6, q7, q8, q9, q10]) [.ref q0, .int a1].toArray s) (F0 m 106 ls [.int s0]) := by
    intro ls H locs l1 l2 l3 l4 s0 u hl hP hS hf
    unfold J_Pas_overEnd_R_106 at hf
    refine lv_istore (lv' := [(5, .int s0), (0, .ref q0), (1, .int l1), (2, .int l2), (3, .int l3), (4, .int l4)]) hx hb d_Pas_overEnd_106 hl (by decide) rfl (fun ls hl => ?_)
    refine lv_aload_n hx hb d_Pas_overEnd_108 rfl (lv_at hl 1 rfl) ?_
    refine lv_iload_n hx hb d_Pas_overEnd_109 rfl (lv_at hl 2 rfl) ?_
    refine lv_iload_n hx hb d_Pas_overEnd_110 rfl (lv_at hl 3 rfl) ?_
    refine lv_iload hx hb d_Pas_overEnd_111 (lv_at hl 5 rfl) ?_
    refine lv_iload hx hb d_Pas_overEnd_113 (lv_at hl 0 rfl) ?_
    have hC : [0, 1, 2, 3, 4, 5, 6, 7, 8, 9, 10].map (fun i => (wRdg cI q0 q1 q2 q3 q4 q5 q6 q7 q8 q9 q10 u)[i]?) = (wRdg cI q0 q1 q2 q3 q4 q5 q6 q7 q8 q9 q10 u).map some := rfl
    obtain ⟨w1, hc, hf⟩ := bd_o hf
    rcases w1 with v2 | w3
    · have hf := bx_l hf
      exact thr_U (As := [.int l1, .int l2, .int l4, .int s0]) (rest := []) ⟨hx, hb, hml, hown, hw⟩ (x_Rdg_carryEnd l hfl D cI tJ q0 q1 q2 q3 q4 q5 q6 q7 q8 q9 q10 (dj_sub hd [0, 1, 2, 3, 4, 5, 6, 7, 8, 9, 10] (by decide) rfl) l1 l2 l4 s0 u v2 hc) (va_cwA 4 hw g_125 rfl rfl rfl hJ.2.2.2.2 (by decide +kernel) ⟨Nat.le_of_ble_eq_true rfl, Nat.le_of_ble_eq_true rfl⟩) (pre_VX (P_sub hC hP) hK rfl rfl hJ hX hS (ad_sub [0, 1, 2, 3, 4, 5, 6, 7, 8, 9, 10] rfl)) rfl hl.1 (Nat.le_of_ble_eq_true rfl) d_Pas_overEnd_115 ⟨Nat.le_of_ble_eq_true rfl, Nat.le_of_ble_eq_true rfl⟩ hlocks hout hS hP (hD _) hC rfl rfl (eq_tr (f := wRdg cI q0 q1 q2 q3 q4 q5 q6 q7 q8 q9 q10) (sl hf) rfl)
    have hf := bx_r hf
    refine rw_i (va_runU (As := [.int l1, .int l2, .int l4, .int s0]) (rest := []) ⟨hx, hb, hml, hown, hw⟩ (c_Rdg_carryEnd l D cI tJ q0 q1 q2 q3 q4 q5 q6 q7 q8 q9 q10 (dj_sub hd [0, 1, 2, 3, 4, 5, 6, 7, 8, 9, 10] (by decide) rfl) l1 l2 l4 s0 u w3.1 w3.2 hc) (va_cwA 4 hw g_125 rfl rfl rfl hJ.2.2.2.2 (by decide +kernel) ⟨Nat.le_of_ble_eq_true rfl, Nat.le_of_ble_eq_true rfl⟩) (pre_VJ (P_sub hC hP) hK rfl rfl (Jt_call hJ hS (ad_sub [0, 1, 2, 3, 4, 5, 6, 7, 8, 9, 10] rfl))) rfl rfl hl.1 rfl (lv_room (Nat.le_of_ble_eq_true rfl)) d_Pas_overEnd_115 ⟨Nat.le_of_ble_eq_true rfl, Nat.le_of_ble_eq_true rfl⟩) hS hP (hD _) hC rfl rfl (fun H locs hP hS => ?_)
    obtain ⟨u4, e_u4, hf⟩ := tk_o hf
    have hP : va_P D cls (wRdg cI q0 q1 q2 q3 q4 q5 q6 q7 q8 q9 q10 u4) H := by rw [e_u4]; exact hP
    refine lv_istore (lv' := [(6, .int w3.1), (5, .int s0), (0, .ref q0), (1, .int l1), (2, .int l2), (3, .int l3), (4, .int l4)]) hx hb d_Pas_overEnd_118 hl (by decide) rfl (fun ls hl => ?_)
    refine lv_aload_n hx hb d_Pas_overEnd_120 rfl (lv_at hl 2 rfl) ?_
    refine va_get (D := D) (ci := 4) (v := .ref q2) (C := R_Rdg) (T := F_Rdg) (N := 10) hx hb hw in_Rdg hown hK hP 0 rfl rfl 1 (by decide) (hw _ m_186) (fun _ h9 => h9) rfl d_Pas_overEnd_121 ?_
    refine lv_iload_n hx hb d_Pas_overEnd_124 rfl (lv_at hl 5 rfl) ?_
    refine lv_iload hx hb d_Pas_overEnd_125 (lv_at hl 0 rfl) ?_
    refine lv_iload hx hb d_Pas_overEnd_127 (lv_at hl 0 rfl) ?_
    refine lv_iload_n hx hb d_Pas_overEnd_129 rfl (lv_at hl 4 rfl) ?_
    refine lv_iload hx hb d_Pas_overEnd_130 (lv_at hl 1 rfl) ?_
    have hC : ([] : List Nat).map (fun i => (wRdg cI q0 q1 q2 q3 q4 q5 q6 q7 q8 q9 q10 u4)[i]?) = ([] : va_W).map some := rfl
    obtain ⟨x5, hc, hf⟩ := bd_o hf
    refine ro_i (va_runS (As := [.int w3.1, .int l2, .int s0]) (rest := [.int w3.1, .int l3, .ref q2]) ⟨hx, hb, hml, hown, hw⟩ (c_Fol_foldEnd l D cI w3.1 l2 s0 x5 hc) (va_cwS 3 hw g_36 rfl rfl rfl (by decide +kernel) ⟨Nat.le_of_ble_eq_true rfl, Nat.le_of_ble_eq_true rfl⟩) (pre_S (P_sub hC hP) hK) rfl rfl hl.1 rfl (lv_room (Nat.le_of_ble_eq_true rfl)) d_Pas_overEnd_132 ⟨Nat.le_of_ble_eq_true rfl, Nat.le_of_ble_eq_true rfl⟩) hS hP (fun H locs hP hS => ?_)
    have hC : [2, 3, 4, 5, 6, 7].map (fun i => (wRdg cI q0 q1 q2 q3 q4 q5 q6 q7 q8 q9 q10 u4)[i]?) = (wCtx cI q2 q3 q4 q5 q6 q7 (sb [2, 3, 4, 5, 6, 7] u4)).map some := rfl
    obtain ⟨w6, hc, hf⟩ := bd_o hf
    refine rw_v (va_runV (As := [.int l3, .int w3.1, .int x5]) (rest := []) ⟨hx, hb, hml, hown, hw⟩ (c_Ctx_learnEnd l D cI q2 q3 q4 q5 q6 q7 (dj_sub hd [2, 3, 4, 5, 6, 7] (by decide) rfl) l3 w3.1 x5 (sb [2, 3, 4, 5, 6, 7] u4) w6 hc) (cwV 3 hw g_37 rfl rfl rfl (by decide +kernel) ⟨Nat.le_of_ble_eq_true rfl, Nat.le_of_ble_eq_true rfl⟩) (pre_V (P_sub hC hP) hK rfl rfl) rfl rfl hl.1 rfl (lv_room (Nat.le_of_ble_eq_true rfl)) d_Pas_overEnd_135 ⟨Nat.le_of_ble_eq_true rfl, Nat.le_of_ble_eq_true rfl⟩) hS hP (hD _) hC rfl rfl (fun H locs hP hS => ?_)
    obtain ⟨u7, e_u7, hf⟩ := tk_o hf
    have hP : va_P D cls (wRdg cI q0 q1 q2 q3 q4 q5 q6 q7 q8 q9 q10 u7) H := by rw [e_u7]; exact hP
    refine lv_aload_n hx hb d_Pas_overEnd_138 rfl (lv_at hl 2 rfl) ?_
    refine va_get (D := D) (ci := 4) (v := .ref q2) (C := R_Rdg) (T := F_Rdg) (N := 10) hx hb hw in_Rdg hown hK hP 0 rfl rfl 1 (by decide) (hw _ m_186) (fun _ h9 => h9) rfl d_Pas_overEnd_139 ?_
    have hC : [2, 3, 4, 5, 6, 7].map (fun i => (wRdg cI q0 q1 q2 q3 q4 q5 q6 q7 q8 q9 q10 u7)[i]?) = (wCtx cI q2 q3 q4 q5 q6 q7 (sb [2, 3, 4, 5, 6, 7] u7)).map some := rfl
    obtain ⟨w8, hc, hf⟩ := bd_o hf
    refine rw_v (va_runV (As := []) (rest := []) ⟨hx, hb, hml, hown, hw⟩ (c_Ctx_lowerRunIndex l D cI q2 q3 q4 q5 q6 q7 (dj_sub hd [2, 3, 4, 5, 6, 7] (by decide) rfl) (sb [2, 3, 4, 5, 6, 7] u7) w8 hc) (cwV 0 hw g_38 rfl rfl rfl (by decide +kernel) ⟨Nat.le_of_ble_eq_true rfl, Nat.le_of_ble_eq_true rfl⟩) (pre_V (P_sub hC hP) hK rfl rfl) rfl rfl hl.1 rfl (lv_room (Nat.le_of_ble_eq_true rfl)) d_Pas_overEnd_142 ⟨Nat.le_of_ble_eq_true rfl, Nat.le_of_ble_eq_true rfl⟩) hS hP (hD _) hC rfl rfl (fun H locs hP hS => ?_)
    obtain ⟨u9, e_u9, hf⟩ := tk_o hf
    have hP : va_P D cls (wRdg cI q0 q1 q2 q3 q4 q5 q6 q7 q8 q9 q10 u9) H := by rw [e_u9]; exact hP
    exact ox hf
  have j101 : ∀ (ls : Array Slot) (H : Heap) (locs : List Loc) (l1 : Int32) (l2 : Int32) (l3 : Int32) (l4 : Int32) (u : gU), lv_has ls 7 [(0, .ref q0), (1, .int l1), (2, .int l2), (3, .int l3), (4, .int l4)] → va_P D cls (wRdg cI q0 q1 q2 q3 q4 q5 q6 q7 q8 q9 q10 u) H → va_S (ad [q0, q1, q2, q3, q4, q5, q6, q7, q8, q9, q10]) s.heap H locs → J_Pas_overEnd_R_101 l1 l2 l3 l4 u = some (.inl v) → W p l e ({ frames := 10, cells := 1, slots := 6, locals := 203 }) s m [.ref q0, .int a1].toArray below meth c H locs 0 0 (MQX below D cls (wRdg cI q0 q1 q2 q3 q4 q5 q6 q7 q8 q9 q10 v) (ad [q0, q1, q2, q3, q4, q5, q6, q7, q8, q9, q10]) [.ref q0, .int a1].toArray s) (F0 m 101 ls []) := by
    intro ls H locs l1 l2 l3 l4 u hl hP hS hf
    unfold J_Pas_overEnd_R_101 at hf
    refine lv_iconst (v := 1) hx hb d_Pas_overEnd_101 (by decide) ?_
    refine lv_goto (tgt := 106) hx hb d_Pas_overEnd_102 (by decide) ?_
    exact j106 _ _ _ l1 l2 l3 l4 1 u (lv_sub hl [0, 1, 2, 3, 4] rfl) hP hS hf
  have j66 : ∀ (ls : Array Slot) (H : Heap) (locs : List Loc) (l1 : Int32) (l2 : Int32) (s1 : Int32) (u : gU), lv_has ls 7 [(0, .ref q0), (1, .int l1), (2, .int l2)] → va_P D cls (wRdg cI q0 q1 q2 q3 q4 q5 q6 q7 q8 q9 q10 u) H → va_S (ad [q0, q1, q2, q3, q4, q5, q6, q7, q8, q9, q10]) s.heap H locs → J_Pas_overEnd_R_66 l1 l2 s1 u = some (.inl v) → W p l e ({ frames := 10, cells := 1, slots := 6, locals := 203 }) s m [.ref q0, .int a1].toArray below meth c H locs 0 0 (MQX below D cls (wRdg cI q0 q1 q2 q3 q4 q5 q6 q7 q8 q9 q10 v) (ad [q0, q1, q2, q3, q4, q5, q6, q7, q8, q9, q10]) [.ref q0, .int a1].toArray s) (F0 m 66 ls [.int s1, .ref q0]) := by
    intro ls H locs l1 l2 s1 u hl hP hS hf
    unfold J_Pas_overEnd_R_66 at hf
    refine va_put (D := D) (ci := 4) (v := .int s1) (ty := .int) (C := R_Rdg) (T := F_Rdg) (N := 10) hx hb hw in_Rdg t_Rdg t_Rdg_ok n_Rdg hown hK hP (hD _) hS 0 rfl rfl 7 (by decide) (hw _ m_258) (fun _ h9 => h9) rfl (by decide +kernel) rfl rfl (Nat.le_of_ble_eq_true rfl) d_Pas_overEnd_66 (fun H locs hP _ hS => ?_)
    obtain ⟨u1, e_u1, hf⟩ := tk_o hf
    have hP : va_P D cls (wRdg cI q0 q1 q2 q3 q4 q5 q6 q7 q8 q9 q10 u1) H := by rw [e_u1]; exact hP
    refine lv_sipush (v := 365) hx hb d_Pas_overEnd_69 (by decide) ?_
    refine lv_iload_n hx hb d_Pas_overEnd_72 rfl (lv_at hl 2 rfl) ?_
    refine lv_iadd hx hb d_Pas_overEnd_73 ?_
    refine lv_topi (fun x2 e_x2 => ?_)
    have hf := tk_e hf e_x2
    refine lv_istore_n (lv' := [(3, .int x2), (0, .ref q0), (1, .int l1), (2, .int l2)]) hx hb d_Pas_overEnd_74 rfl hl (by decide) rfl (fun ls hl => ?_)
    refine lv_aload_n hx hb d_Pas_overEnd_75 rfl (lv_at hl 1 rfl) ?_
    refine va_get (D := D) (ci := 4) (v := .ref q2) (C := R_Rdg) (T := F_Rdg) (N := 10) hx hb hw in_Rdg hown hK hP 0 rfl rfl 1 (by decide) (hw _ m_186) (fun _ h9 => h9) rfl d_Pas_overEnd_76 ?_
    refine lv_iload_n hx hb d_Pas_overEnd_79 rfl (lv_at hl 0 rfl) ?_
    have hC : [2, 3, 4, 5, 6, 7].map (fun i => (wRdg cI q0 q1 q2 q3 q4 q5 q6 q7 q8 q9 q10 u1)[i]?) = (wCtx cI q2 q3 q4 q5 q6 q7 (sb [2, 3, 4, 5, 6, 7] u1)).map some := rfl
    obtain ⟨x3, hc, hf⟩ := bd_o hf
    refine ro_i (va_runV (As := [.int x2]) (rest := []) ⟨hx, hb, hml, hown, hw⟩ (c_Ctx_kOfEnd l D cI q2 q3 q4 q5 q6 q7 x2 (sb [2, 3, 4, 5, 6, 7] u1) x3 hc) (cwV 1 hw g_39 rfl rfl rfl (by decide +kernel) ⟨Nat.le_of_ble_eq_true rfl, Nat.le_of_ble_eq_true rfl⟩) (pre_V (P_sub hC hP) hK rfl rfl) rfl rfl hl.1 rfl (lv_room (Nat.le_of_ble_eq_true rfl)) d_Pas_overEnd_80 ⟨Nat.le_of_ble_eq_true rfl, Nat.le_of_ble_eq_true rfl⟩) hS hP (fun H locs hP hS => ?_)
    refine lv_istore (lv' := [(4, .int x3), (3, .int x2), (0, .ref q0), (1, .int l1), (2, .int l2)]) hx hb d_Pas_overEnd_83 hl (by decide) rfl (fun ls hl => ?_)
    refine lv_iload hx hb d_Pas_overEnd_85 (lv_at hl 0 rfl) ?_
    refine lv_if_ne (tgt := 101) hx hb d_Pas_overEnd_87 (by decide) (fun hc => ?_) (fun hc => ?_)
    · have hf := bq_n hf hc
      exact j101 _ _ _ l1 l2 x2 x3 u1 (lv_sub hl [2, 3, 4, 1, 0] rfl) hP hS hf
    have hf := bq_t hf hc
    refine lv_aload_n hx hb d_Pas_overEnd_90 rfl (lv_at hl 2 rfl) ?_
    refine va_get (D := D) (ci := 4) (v := .ref q2) (C := R_Rdg) (T := F_Rdg) (N := 10) hx hb hw in_Rdg hown hK hP 0 rfl rfl 1 (by decide) (hw _ m_186) (fun _ h9 => h9) rfl d_Pas_overEnd_91 ?_
    refine lv_iload_n hx hb d_Pas_overEnd_94 rfl (lv_at hl 1 rfl) ?_
    have hC : [2, 3, 4, 5, 6, 7].map (fun i => (wRdg cI q0 q1 q2 q3 q4 q5 q6 q7 q8 q9 q10 u1)[i]?) = (wCtx cI q2 q3 q4 q5 q6 q7 (sb [2, 3, 4, 5, 6, 7] u1)).map some := rfl
    obtain ⟨x4, hc, hf⟩ := bd_o hf
    refine ro_i (va_runV (As := [.int x2]) (rest := []) ⟨hx, hb, hml, hown, hw⟩ (c_Ctx_isMostlyBelow l D cI q2 q3 q4 q5 q6 q7 x2 (sb [2, 3, 4, 5, 6, 7] u1) x4 hc) (cwV 1 hw g_40 rfl rfl rfl (by decide +kernel) ⟨Nat.le_of_ble_eq_true rfl, Nat.le_of_ble_eq_true rfl⟩) (pre_V (P_sub hC hP) hK rfl rfl) rfl rfl hl.1 rfl (lv_room (Nat.le_of_ble_eq_true rfl)) d_Pas_overEnd_95 ⟨Nat.le_of_ble_eq_true rfl, Nat.le_of_ble_eq_true rfl⟩) hS hP (fun H locs hP hS => ?_)
    refine lv_if_eq (tgt := 105) hx hb d_Pas_overEnd_98 (by decide) (fun hc => ?_) (fun hc => ?_)
    · have hf := bq_t hf hc
      refine lv_iconst (v := 0) hx hb d_Pas_overEnd_105 (by decide) ?_
      exact j106 _ _ _ l1 l2 x2 x3 0 u1 (lv_sub hl [2, 3, 4, 1, 0] rfl) hP hS hf
    have hf := bq_n hf hc
    exact j101 _ _ _ l1 l2 x2 x3 u1 (lv_sub hl [2, 3, 4, 1, 0] rfl) hP hS hf
  have j65 : ∀ (ls : Array Slot) (H : Heap) (locs : List Loc) (l1 : Int32) (l2 : Int32) (u : gU), lv_has ls 7 [(0, .ref q0), (1, .int l1), (2, .int l2)] → va_P D cls (wRdg cI q0 q1 q2 q3 q4 q5 q6 q7 q8 q9 q10 u) H → va_S (ad [q0, q1, q2, q3, q4, q5, q6, q7, q8, q9, q10]) s.heap H locs → J_Pas_overEnd_R_65 l1 l2 u = some (.inl v) → W p l e ({ frames := 10, cells := 1, slots := 6, locals := 203 }) s m [.ref q0, .int a1].toArray below meth c H locs 0 0 (MQX below D cls (wRdg cI q0 q1 q2 q3 q4 q5 q6 q7 q8 q9 q10 v) (ad [q0, q1, q2, q3, q4, q5, q6, q7, q8, q9, q10]) [.ref q0, .int a1].toArray s) (F0 m 65 ls [.ref q0]) := by
    intro ls H locs l1 l2 u hl hP hS hf
    unfold J_Pas_overEnd_R_65 at hf
    refine lv_iconst (v := 1) hx hb d_Pas_overEnd_65 (by decide) ?_
    exact j66 _ _ _ l1 l2 1 u (lv_sub hl [0, 1, 2] rfl) hP hS hf
  have j42 : ∀ (ls : Array Slot) (H : Heap) (locs : List Loc) (l1 : Int32) (l2 : Int32) (s1 : Int32) (u : gU), lv_has ls 7 [(0, .ref q0), (1, .int l1), (2, .int l2)] → va_P D cls (wRdg cI q0 q1 q2 q3 q4 q5 q6 q7 q8 q9 q10 u) H → va_S (ad [q0, q1, q2, q3, q4, q5, q6, q7, q8, q9, q10]) s.heap H locs → J_Pas_overEnd_R_42 l1 l2 s1 u = some (.inl v) → W p l e ({ frames := 10, cells := 1, slots := 6, locals := 203 }) s m [.ref q0, .int a1].toArray below meth c H locs 0 0 (MQX below D cls (wRdg cI q0 q1 q2 q3 q4 q5 q6 q7 q8 q9 q10 v) (ad [q0, q1, q2, q3, q4, q5, q6, q7, q8, q9, q10]) [.ref q0, .int a1].toArray s) (F0 m 42 ls [.int s1, .ref q0]) := by
    intro ls H locs l1 l2 s1 u hl hP hS hf
    unfold J_Pas_overEnd_R_42 at hf
    refine va_put (D := D) (ci := 4) (v := .int s1) (ty := .int) (C := R_Rdg) (T := F_Rdg) (N := 10) hx hb hw in_Rdg t_Rdg t_Rdg_ok n_Rdg hown hK hP (hD _) hS 0 rfl rfl 8 (by decide) (hw _ m_267) (fun _ h9 => h9) rfl (by decide +kernel) rfl rfl (Nat.le_of_ble_eq_true rfl) d_Pas_overEnd_42 (fun H locs hP _ hS => ?_)
    obtain ⟨u1, e_u1, hf⟩ := tk_o hf
    have hP : va_P D cls (wRdg cI q0 q1 q2 q3 q4 q5 q6 q7 q8 q9 q10 u1) H := by rw [e_u1]; exact hP
    refine lv_aload_n hx hb d_Pas_overEnd_45 rfl (lv_at hl 0 rfl) ?_
    refine lv_iload_n hx hb d_Pas_overEnd_46 rfl (lv_at hl 2 rfl) ?_
    refine lv_if_ne (tgt := 65) hx hb d_Pas_overEnd_47 (by decide) (fun hc => ?_) (fun hc => ?_)
    · have hf := bq_n hf hc
      exact j65 _ _ _ l1 l2 u1 (lv_sub hl [0, 1, 2] rfl) hP hS hf
    have hf := bq_t hf hc
    refine lv_aload_n hx hb d_Pas_overEnd_50 rfl (lv_at hl 0 rfl) ?_
    refine va_get (D := D) (ci := 4) (v := .int (u1 0 0)) (C := R_Rdg) (T := F_Rdg) (N := 10) hx hb hw in_Rdg hown hK hP 0 rfl rfl 3 (by decide) (hw _ m_174) (fun _ h9 => h9) rfl d_Pas_overEnd_51 ?_
    refine lv_aload_n hx hb d_Pas_overEnd_54 rfl (lv_at hl 0 rfl) ?_
    refine va_get (D := D) (ci := 4) (v := .int (u1 0 1)) (C := R_Rdg) (T := F_Rdg) (N := 10) hx hb hw in_Rdg hown hK hP 0 rfl rfl 4 (by decide) (hw _ m_167) (fun _ h9 => h9) rfl d_Pas_overEnd_55 ?_
    refine lv_icmp_le (tgt := 65) hx hb d_Pas_overEnd_58 (by decide) (fun hc => ?_) (fun hc => ?_)
    · have hf := bq_t hf hc
      exact j65 _ _ _ l1 l2 u1 (lv_sub hl [0, 1, 2] rfl) hP hS hf
    have hf := bq_n hf hc
    refine lv_iconst (v := (-1)) hx hb d_Pas_overEnd_61 (by decide) ?_
    refine lv_goto (tgt := 66) hx hb d_Pas_overEnd_62 (by decide) ?_
    exact j66 _ _ _ l1 l2 (-1) u1 (lv_sub hl [0, 1, 2] rfl) hP hS hf
  have j24 : ∀ (ls : Array Slot) (H : Heap) (locs : List Loc) (l1 : Int32) (s0 : Int32) (u : gU), lv_has ls 7 [(0, .ref q0), (1, .int l1)] → va_P D cls (wRdg cI q0 q1 q2 q3 q4 q5 q6 q7 q8 q9 q10 u) H → va_S (ad [q0, q1, q2, q3, q4, q5, q6, q7, q8, q9, q10]) s.heap H locs → J_Pas_overEnd_R_24 l1 s0 u = some (.inl v) → W p l e ({ frames := 10, cells := 1, slots := 6, locals := 203 }) s m [.ref q0, .int a1].toArray below meth c H locs 0 0 (MQX below D cls (wRdg cI q0 q1 q2 q3 q4 q5 q6 q7 q8 q9 q10 v) (ad [q0, q1, q2, q3, q4, q5, q6, q7, q8, q9, q10]) [.ref q0, .int a1].toArray s) (F0 m 24 ls [.int s0]) := by
    intro ls H locs l1 s0 u hl hP hS hf
    unfold J_Pas_overEnd_R_24 at hf
    refine lv_istore_n (lv' := [(2, .int s0), (0, .ref q0), (1, .int l1)]) hx hb d_Pas_overEnd_24 rfl hl (by decide) rfl (fun ls hl => ?_)
    refine lv_aload_n hx hb d_Pas_overEnd_25 rfl (lv_at hl 1 rfl) ?_
    refine lv_iload_n hx hb d_Pas_overEnd_26 rfl (lv_at hl 0 rfl) ?_
    refine lv_iconst (v := 1) hx hb d_Pas_overEnd_27 (by decide) ?_
    refine lv_icmp_ne (tgt := 38) hx hb d_Pas_overEnd_28 (by decide) (fun hc => ?_) (fun hc => ?_)
    · have hf := bq_n hf hc
      refine lv_aload_n hx hb d_Pas_overEnd_38 rfl (lv_at hl 1 rfl) ?_
      refine va_get (D := D) (ci := 4) (v := .int (u 0 1)) (C := R_Rdg) (T := F_Rdg) (N := 10) hx hb hw in_Rdg hown hK hP 0 rfl rfl 4 (by decide) (hw _ m_167) (fun _ h9 => h9) rfl d_Pas_overEnd_39 ?_
      exact j42 _ _ _ l1 s0 (u 0 1) u (lv_sub hl [1, 2, 0] rfl) hP hS hf
    have hf := bq_t hf hc
    refine lv_aload_n hx hb d_Pas_overEnd_31 rfl (lv_at hl 1 rfl) ?_
    refine va_get (D := D) (ci := 4) (v := .int (u 0 0)) (C := R_Rdg) (T := F_Rdg) (N := 10) hx hb hw in_Rdg hown hK hP 0 rfl rfl 3 (by decide) (hw _ m_174) (fun _ h9 => h9) rfl d_Pas_overEnd_32 ?_
    refine lv_goto (tgt := 42) hx hb d_Pas_overEnd_35 (by decide) ?_
    exact j42 _ _ _ l1 s0 (u 0 0) u (lv_sub hl [1, 2, 0] rfl) hP hS hf
  unfold f_Pas_overEnd_R at hf
  refine lv_aload_n hx hb d_Pas_overEnd_0 rfl (lv_at hl 0 rfl) ?_
  refine va_get (D := D) (ci := 4) (v := .ref q1) (C := R_Rdg) (T := F_Rdg) (N := 10) hx hb hw in_Rdg hown hK hP 0 rfl rfl 0 (by decide) (hw _ m_165) (fun _ h9 => h9) rfl d_Pas_overEnd_1 ?_
  refine lv_aload_n hx hb d_Pas_overEnd_4 rfl (lv_at hl 0 rfl) ?_
  refine va_get (D := D) (ci := 4) (v := .int (u 0 0)) (C := R_Rdg) (T := F_Rdg) (N := 10) hx hb hw in_Rdg hown hK hP 0 rfl rfl 3 (by decide) (hw _ m_174) (fun _ h9 => h9) rfl d_Pas_overEnd_5 ?_
  refine lv_aload_n hx hb d_Pas_overEnd_8 rfl (lv_at hl 0 rfl) ?_
  refine va_get (D := D) (ci := 4) (v := .int (u 0 1)) (C := R_Rdg) (T := F_Rdg) (N := 10) hx hb hw in_Rdg hown hK hP 0 rfl rfl 4 (by decide) (hw _ m_167) (fun _ h9 => h9) rfl d_Pas_overEnd_9 ?_
  refine lv_isub hx hb d_Pas_overEnd_12 ?_
  have hC : [1].map (fun i => (wRdg cI q0 q1 q2 q3 q4 q5 q6 q7 q8 q9 q10 u)[i]?) = (wPic cI q1 (sb [1] u)).map some := rfl
  obtain ⟨x1, hc, hf⟩ := bd_o hf
  refine ro_i (va_runV (As := [.int ((u 0 0) - (u 0 1))]) (rest := []) ⟨hx, hb, hml, hown, hw⟩ (c_Pic_isNear l D cI q1 ((u 0 0) - (u 0 1)) (sb [1] u) x1 hc) (cwV 1 hw g_13 rfl rfl rfl (by decide +kernel) ⟨Nat.le_of_ble_eq_true rfl, Nat.le_of_ble_eq_true rfl⟩) (pre_V (P_sub hC hP) hK rfl rfl) rfl rfl hl.1 rfl (lv_room (Nat.le_of_ble_eq_true rfl)) d_Pas_overEnd_13 ⟨Nat.le_of_ble_eq_true rfl, Nat.le_of_ble_eq_true rfl⟩) hS hP (fun H locs hP hS => ?_)
  refine lv_if_eq (tgt := 23) hx hb d_Pas_overEnd_16 (by decide) (fun hc => ?_) (fun hc => ?_)
  · have hf := bq_t hf hc
    refine lv_iconst (v := 0) hx hb d_Pas_overEnd_23 (by decide) ?_
    exact j24 _ _ _ a1 0 u (lv_sub hl [0, 1] rfl) hP hS hf
  have hf := bq_n hf hc
  refine lv_iconst (v := 1) hx hb d_Pas_overEnd_19 (by decide) ?_
  refine lv_goto (tgt := 24) hx hb d_Pas_overEnd_20 (by decide) ?_
  exact j24 _ _ _ a1 1 u (lv_sub hl [0, 1] rfl) hP hS hf
def J_Pas_overAll_R_91 (k16 : Int32 → gU → Option (gU ⊕ gU)) (k34 : Int32 → Int32 → Int32 → Int32 → gU → Option (gU ⊕ gU)) (l1 : Int32) (l2 : Int32) (l3 : Int32) (l4 : Int32) (l5 : Int32) (u : gU) : Option (gU ⊕ gU) := bq (l2 = 0) (bd (f_Pas_overRegular_R l5 u) fun w10 => bx w10 (fun v11 => some (.inl (v11))) fun w12 => tk (w12) fun u13 => tk (l4 + 1) fun x14 => k34 l1 l2 l3 x14 u13) (bq (l3 ≤ 0) (bd (f_Pas_overEnd_R l5 u) fun w1 => bx w1 (fun v2 => some (.inl (v2))) fun w3 => tk (w3) fun u4 => tk (l4 + 1) fun x5 => k34 l1 0 l3 x5 u4) (tk (l3 + (-1)) fun x6 => gd (ix l5 64) (tk (st2 u 8 (tc l5) (u 0 0)) fun u8 => tk (l4 + 1) fun x9 => k34 l1 l2 x6 x9 u8)))
def L_Pas_overAll_R_34 (k16 : Int32 → gU → Option (gU ⊕ gU)) : Nat → Int32 → Int32 → Int32 → Int32 → gU → Option (gU ⊕ gU)
  | 0, _, _, _, _, _ => none
  | n + 1, l1, l2, l3, l4, u => bq ((u 1 0) ≤ l4) (tk (l1 + 1) fun x1 => k16 x1 u) (bd (f_Pic_place l4 l1) fun x2 => bd (f_Pas_lookAround_R l4 l1 u) fun w3 => tk (w3) fun u4 => bq (l2 = 0) (bd (f_Pas_isEven_R u4) fun x5 => bq (x5 = 0) (J_Pas_overAll_R_91 k16 (L_Pas_overAll_R_34 k16 n) l1 l2 l3 l4 x2 u4) (bd (f_Rdg_carryRun x2 ((u4 1 0) - l4) u4) fun w6 => bx w6 (fun v7 => some (.inl (v7))) fun w8 => tk (w8.2) fun u9 => J_Pas_overAll_R_91 k16 (L_Pas_overAll_R_34 k16 n) l1 1 w8.1 l4 x2 u9)) (J_Pas_overAll_R_91 k16 (L_Pas_overAll_R_34 k16 n) l1 l2 l3 l4 x2 u4))
theorem L_Pas_overAll_R_34_z (k16 : Int32 → gU → Option (gU ⊕ gU)) (l1 : Int32) (l2 : Int32) (l3 : Int32) (l4 : Int32) (u : gU) : L_Pas_overAll_R_34 k16 0 l1 l2 l3 l4 u = none := rfl
theorem L_Pas_overAll_R_34_s (k16 : Int32 → gU → Option (gU ⊕ gU)) (n : Nat) (l1 : Int32) (l2 : Int32) (l3 : Int32) (l4 : Int32) (u : gU) : L_Pas_overAll_R_34 k16 (n + 1) l1 l2 l3 l4 u = bq ((u 1 0) ≤ l4) (tk (l1 + 1) fun x1 => k16 x1 u) (bd (f_Pic_place l4 l1) fun x2 => bd (f_Pas_lookAround_R l4 l1 u) fun w3 => tk (w3) fun u4 => bq (l2 = 0) (bd (f_Pas_isEven_R u4) fun x5 => bq (x5 = 0) (J_Pas_overAll_R_91 k16 (L_Pas_overAll_R_34 k16 n) l1 l2 l3 l4 x2 u4) (bd (f_Rdg_carryRun x2 ((u4 1 0) - l4) u4) fun w6 => bx w6 (fun v7 => some (.inl (v7))) fun w8 => tk (w8.2) fun u9 => J_Pas_overAll_R_91 k16 (L_Pas_overAll_R_34 k16 n) l1 1 w8.1 l4 x2 u9)) (J_Pas_overAll_R_91 k16 (L_Pas_overAll_R_34 k16 n) l1 l2 l3 l4 x2 u4)) := rfl
def L_Pas_overAll_R_16 : Nat → Int32 → gU → Option (gU ⊕ gU)
  | 0, _, _ => none
  | n + 1, l1, u => bq ((u 1 1) ≤ l1) (some (.inr u)) (L_Pas_overAll_R_34 (L_Pas_overAll_R_16 n) 20 l1 0 0 0 u)
theorem L_Pas_overAll_R_16_z (l1 : Int32) (u : gU) : L_Pas_overAll_R_16 0 l1 u = none := rfl
theorem L_Pas_overAll_R_16_s (n : Nat) (l1 : Int32) (u : gU) : L_Pas_overAll_R_16 (n + 1) l1 u = bq ((u 1 1) ≤ l1) (some (.inr u)) (L_Pas_overAll_R_34 (L_Pas_overAll_R_16 n) 20 l1 0 0 0 u) := rfl
def f_Pas_overAll_R (u : gU) : Option (gU ⊕ gU) := bd (f_Ctx_restart (u 1 5) (sb [2, 3, 4, 5, 6, 7] u)) fun w1 => tk (mg [2, 3, 4, 5, 6, 7] 0 u w1) fun u2 => L_Pas_overAll_R_16 20 0 u2
set_option maxHeartbeats 4000000 in
set_option maxRecDepth 100000 in
theorem c_Pas_overAll_R (l : Launch) (D : va_G) (cI : ClassId) (tJ : Nat) (q0 : Nat) (q1 : Nat) (q2 : Nat) (q3 : Nat) (q4 : Nat) (q5 : Nat) (q6 : Nat) (q7 : Nat) (q8 : Nat) (q9 : Nat) (q10 : Nat) (hd : dj [q0, q1, q2, q3, q4, q5, q6, q7, q8, q9, q10]) (u : gU) (v : gU) (hf : f_Pas_overAll_R u = some (.inr v)) : Met l y_Pas_overAll (.code y_Pas_overAll b_Pas_overAll 6 none :: TS) ({ frames := 5, cells := 0, slots := 0, locals := 121 }) (va_Pc [.ref q0] (fun U => va_P D cls (wRdg cI q0 q1 q2 q3 q4 q5 q6 q7 q8 q9 q10 u) U.heap ∧ va_K D cls [(cI, .int)] U ∧ Jt tJ (ad [q0, q1, q2, q3, q4, q5, q6, q7, q8, q9, q10]) U)) (va_Qv (fun (_ : Unit) => True) (fun _ t => va_P D cls (wRdg cI q0 q1 q2 q3 q4 q5 q6 q7 q8 q9 q10 v) t.heap) (ad [q0, q1, q2, q3, q4, q5, q6, q7, q8, q9, q10])) 0 0 (ad [q0, q1, q2, q3, q4, q5, q6, q7, q8, q9, q10]) := by
  refine ct_ofJ (by decide +kernel) (Nat.le_of_ble_eq_true rfl) ?_
  intro p e s m below meth c ls hx hb hml hr hlocks hown hw hP hK hJ hl
  have hS : va_S (ad [q0, q1, q2, q3, q4, q5, q6, q7, q8, q9, q10]) s.heap s.heap [] := va_S.rf
  have hD : ∀ v, va_D (ad [q0, q1, q2, q3, q4, q5, q6, q7, q8, q9, q10]) (wRdg cI q0 q1 q2 q3 q4 q5 q6 q7 q8 q9 q10 v) := fun _ => dj_D rfl hd
  have hl : lv_has ls 6 [(0, .ref q0)] := hl
  have hP : va_P D cls (wRdg cI q0 q1 q2 q3 q4 q5 q6 q7 q8 q9 q10 u) s.heap := hP
  have lp16 : ∀ (n16 : Nat), ∀ (ls : Array Slot) (H : Heap) (locs : List Loc) (l1 : Int32) (u : gU), lv_has ls 6 [(0, .ref q0), (1, .int l1)] → va_P D cls (wRdg cI q0 q1 q2 q3 q4 q5 q6 q7 q8 q9 q10 u) H → va_S (ad [q0, q1, q2, q3, q4, q5, q6, q7, q8, q9, q10]) s.heap H locs → L_Pas_overAll_R_16 n16 l1 u = some (.inr v) → W p l e ({ frames := 5, cells := 0, slots := 0, locals := 121 }) s m [.ref q0].toArray below meth c H locs 0 0 (MQ below (va_Qv (fun (_ : Unit) => True) (fun _ t => va_P D cls (wRdg cI q0 q1 q2 q3 q4 q5 q6 q7 q8 q9 q10 v) t.heap) (ad [q0, q1, q2, q3, q4, q5, q6, q7, q8, q9, q10])) [.ref q0].toArray s 0 0 (ad [q0, q1, q2, q3, q4, q5, q6, q7, q8, q9, q10])) (F0 m 16 ls []) := by
    intro n16
    induction n16 with
    | zero =>
      intro ls H locs l1 u hl hP hS hf
      rw [L_Pas_overAll_R_16_z] at hf
      cases hf
    | succ n16 ih16 =>
      have lp34 : ∀ (n34 : Nat), ∀ (ls : Array Slot) (H : Heap) (locs : List Loc) (l1 : Int32) (l2 : Int32) (l3 : Int32) (l4 : Int32) (u : gU), lv_has ls 6 [(0, .ref q0), (1, .int l1), (2, .int l2), (3, .int l3), (4, .int l4)] → va_P D cls (wRdg cI q0 q1 q2 q3 q4 q5 q6 q7 q8 q9 q10 u) H → va_S (ad [q0, q1, q2, q3, q4, q5, q6, q7, q8, q9, q10]) s.heap H locs → L_Pas_overAll_R_34 (L_Pas_overAll_R_16 n16) n34 l1 l2 l3 l4 u = some (.inr v) → W p l e ({ frames := 5, cells := 0, slots := 0, locals := 121 }) s m [.ref q0].toArray below meth c H locs 0 0 (MQ below (va_Qv (fun (_ : Unit) => True) (fun _ t => va_P D cls (wRdg cI q0 q1 q2 q3 q4 q5 q6 q7 q8 q9 q10 v) t.heap) (ad [q0, q1, q2, q3, q4, q5, q6, q7, q8, q9, q10])) [.ref q0].toArray s 0 0 (ad [q0, q1, q2, q3, q4, q5, q6, q7, q8, q9, q10])) (F0 m 34 ls []) := by
        intro n34
        induction n34 with
        | zero =>
          intro ls H locs l1 l2 l3 l4 u hl hP hS hf
          rw [L_Pas_overAll_R_34_z] at hf
          cases hf
        | succ n34 ih34 =>
          have j91 : ∀ (ls : Array Slot) (H : Heap) (locs : List Loc) (l1 : Int32) (l2 : Int32) (l3 : Int32) (l4 : Int32) (l5 : Int32) (u : gU), lv_has ls 6 [(0, .ref q0), (1, .int l1), (2, .int l2), (3, .int l3), (4, .int l4), (5, .int l5)] → va_P D cls (wRdg cI q0 q1 q2 q3 q4 q5 q6 q7 q8 q9 q10 u) H → va_S (ad [q0, q1, q2, q3, q4, q5, q6, q7, q8, q9, q10]) s.heap H locs → J_Pas_overAll_R_91 (L_Pas_overAll_R_16 n16) (L_Pas_overAll_R_34 (L_Pas_overAll_R_16 n16) n34) l1 l2 l3 l4 l5 u = some (.inr v) → W p l e ({ frames := 5, cells := 0, slots := 0, locals := 121 }) s m [.ref q0].toArray below meth c H locs 0 0 (MQ below (va_Qv (fun (_ : Unit) => True) (fun _ t => va_P D cls (wRdg cI q0 q1 q2 q3 q4 q5 q6 q7 q8 q9 q10 v) t.heap) (ad [q0, q1, q2, q3, q4, q5, q6, q7, q8, q9, q10])) [.ref q0].toArray s 0 0 (ad [q0, q1, q2, q3, q4, q5, q6, q7, q8, q9, q10])) (F0 m 91 ls []) := by
            intro ls H locs l1 l2 l3 l4 l5 u hl hP hS hf
            unfold J_Pas_overAll_R_91 at hf
            refine lv_iload_n hx hb d_Pas_overAll_91 rfl (lv_at hl 2 rfl) ?_
            refine lv_if_ne (tgt := 104) hx hb d_Pas_overAll_92 (by decide) (fun hc => ?_) (fun hc => ?_)
            · have hf := bq_n hf hc
              refine lv_iload_n hx hb d_Pas_overAll_104 rfl (lv_at hl 3 rfl) ?_
              refine lv_if_le (tgt := 125) hx hb d_Pas_overAll_105 (by decide) (fun hc => ?_) (fun hc => ?_)
              · have hf := bq_t hf hc
                refine lv_aload_n hx hb d_Pas_overAll_125 rfl (lv_at hl 0 rfl) ?_
                refine lv_iload hx hb d_Pas_overAll_126 (lv_at hl 5 rfl) ?_
                have hC : [0, 1, 2, 3, 4, 5, 6, 7, 8, 9, 10].map (fun i => (wRdg cI q0 q1 q2 q3 q4 q5 q6 q7 q8 q9 q10 u)[i]?) = (wRdg cI q0 q1 q2 q3 q4 q5 q6 q7 q8 q9 q10 u).map some := rfl
                obtain ⟨w1, hc, hf⟩ := bd_o hf
                rcases w1 with v2 | w3
                · have hf := bx_l hf
                  exact xo hf
                have hf := bx_r hf
                refine rw_v (va_runU (As := [.int l5]) (rest := []) ⟨hx, hb, hml, hown, hw⟩ (c_Pas_overEnd_R l D cI tJ q0 q1 q2 q3 q4 q5 q6 q7 q8 q9 q10 (dj_sub hd [0, 1, 2, 3, 4, 5, 6, 7, 8, 9, 10] (by decide) rfl) l5 u w3 hc) (va_cwU 1 hw g_126 rfl rfl rfl rfl (by decide +kernel) ⟨Nat.le_of_ble_eq_true rfl, Nat.le_of_ble_eq_true rfl⟩) (pre_VJ (P_sub hC hP) hK rfl rfl (Jt_call hJ hS (ad_sub [0, 1, 2, 3, 4, 5, 6, 7, 8, 9, 10] rfl))) rfl rfl hl.1 rfl (lv_room (Nat.le_of_ble_eq_true rfl)) d_Pas_overAll_128 ⟨Nat.le_of_ble_eq_true rfl, Nat.le_of_ble_eq_true rfl⟩) hS hP (hD _) hC rfl rfl (fun H locs hP hS => ?_)
                obtain ⟨u4, e_u4, hf⟩ := tk_o hf
                have hP : va_P D cls (wRdg cI q0 q1 q2 q3 q4 q5 q6 q7 q8 q9 q10 u4) H := by rw [e_u4]; exact hP
                refine lv_iconst (v := 0) hx hb d_Pas_overAll_131 (by decide) ?_
                refine lv_istore_n (lv' := [(2, .int 0), (0, .ref q0), (1, .int l1), (3, .int l3), (4, .int l4), (5, .int l5)]) hx hb d_Pas_overAll_132 rfl hl (by decide) rfl (fun ls hl => ?_)
                obtain ⟨x5, e_x5, hf⟩ := tk_o hf
                refine lv_iinc (v := x5) (lv' := [(4, .int x5), (2, .int 0), (0, .ref q0), (1, .int l1), (3, .int l3), (5, .int l5)]) hx hb d_Pas_overAll_133 hl (k := 4) rfl e_x5.symm (by decide) rfl (fun ls hl => ?_)
                refine lv_goto (tgt := 34) hx hb d_Pas_overAll_136 (by decide) ?_
                exact ih34 _ _ _ l1 0 l3 x5 u4 (lv_sub hl [2, 3, 1, 4, 0] rfl) hP hS hf
              have hf := bq_n hf hc
              obtain ⟨x6, e_x6, hf⟩ := tk_o hf
              refine lv_iinc (v := x6) (lv' := [(3, .int x6), (0, .ref q0), (1, .int l1), (2, .int l2), (4, .int l4), (5, .int l5)]) hx hb d_Pas_overAll_108 hl (k := 3) rfl e_x6.symm (by decide) rfl (fun ls hl => ?_)
              refine lv_aload_n hx hb d_Pas_overAll_111 rfl (lv_at hl 1 rfl) ?_
              refine va_get (D := D) (ci := 4) (v := .ref q8) (C := R_Rdg) (T := F_Rdg) (N := 10) hx hb hw in_Rdg hown hK hP 0 rfl rfl 2 (by decide) (hw _ m_159) (fun _ h9 => h9) rfl d_Pas_overAll_112 ?_
              refine lv_iload hx hb d_Pas_overAll_115 (lv_at hl 5 rfl) ?_
              refine lv_aload_n hx hb d_Pas_overAll_117 rfl (lv_at hl 1 rfl) ?_
              refine va_get (D := D) (ci := 4) (v := .int (u 0 0)) (C := R_Rdg) (T := F_Rdg) (N := 10) hx hb hw in_Rdg hown hK hP 0 rfl rfl 3 (by decide) (hw _ m_174) (fun _ h9 => h9) rfl d_Pas_overAll_118 ?_
              obtain ⟨h7, hf⟩ := gd_o hf
              refine va_iast hx hb hK hP (hD _) hS 8 0 rfl rfl (ix_in h7) d_Pas_overAll_121 (fun H locs hP _ hS => ?_)
              obtain ⟨u8, e_u8, hf⟩ := tk_o hf
              have hP : va_P D cls (wRdg cI q0 q1 q2 q3 q4 q5 q6 q7 q8 q9 q10 u8) H := by rw [e_u8]; exact hP
              refine lv_goto (tgt := 133) hx hb d_Pas_overAll_122 (by decide) ?_
              obtain ⟨x9, e_x9, hf⟩ := tk_o hf
              refine lv_iinc (v := x9) (lv' := [(4, .int x9), (3, .int x6), (0, .ref q0), (1, .int l1), (2, .int l2), (5, .int l5)]) hx hb d_Pas_overAll_133 hl (k := 4) rfl e_x9.symm (by decide) rfl (fun ls hl => ?_)
              refine lv_goto (tgt := 34) hx hb d_Pas_overAll_136 (by decide) ?_
              exact ih34 _ _ _ l1 l2 x6 x9 u8 (lv_sub hl [2, 3, 4, 1, 0] rfl) hP hS hf
            have hf := bq_t hf hc
            refine lv_aload_n hx hb d_Pas_overAll_95 rfl (lv_at hl 0 rfl) ?_
            refine lv_iload hx hb d_Pas_overAll_96 (lv_at hl 5 rfl) ?_
            have hC : [0, 1, 2, 3, 4, 5, 6, 7, 8, 9, 10].map (fun i => (wRdg cI q0 q1 q2 q3 q4 q5 q6 q7 q8 q9 q10 u)[i]?) = (wRdg cI q0 q1 q2 q3 q4 q5 q6 q7 q8 q9 q10 u).map some := rfl
            obtain ⟨w10, hc, hf⟩ := bd_o hf
            rcases w10 with v11 | w12
            · have hf := bx_l hf
              exact xo hf
            have hf := bx_r hf
            refine rw_v (va_runU (As := [.int l5]) (rest := []) ⟨hx, hb, hml, hown, hw⟩ (c_Pas_overRegular_R l D cI tJ q0 q1 q2 q3 q4 q5 q6 q7 q8 q9 q10 (dj_sub hd [0, 1, 2, 3, 4, 5, 6, 7, 8, 9, 10] (by decide) rfl) l5 u w12 hc) (va_cwU 1 hw g_127 rfl rfl rfl rfl (by decide +kernel) ⟨Nat.le_of_ble_eq_true rfl, Nat.le_of_ble_eq_true rfl⟩) (pre_VJ (P_sub hC hP) hK rfl rfl (Jt_call hJ hS (ad_sub [0, 1, 2, 3, 4, 5, 6, 7, 8, 9, 10] rfl))) rfl rfl hl.1 rfl (lv_room (Nat.le_of_ble_eq_true rfl)) d_Pas_overAll_98 ⟨Nat.le_of_ble_eq_true rfl, Nat.le_of_ble_eq_true rfl⟩) hS hP (hD _) hC rfl rfl (fun H locs hP hS => ?_)
            obtain ⟨u13, e_u13, hf⟩ := tk_o hf
            have hP : va_P D cls (wRdg cI q0 q1 q2 q3 q4 q5 q6 q7 q8 q9 q10 u13) H := by rw [e_u13]; exact hP
            refine lv_goto (tgt := 133) hx hb d_Pas_overAll_101 (by decide) ?_
            obtain ⟨x14, e_x14, hf⟩ := tk_o hf
            refine lv_iinc (v := x14) (lv' := [(4, .int x14), (0, .ref q0), (1, .int l1), (2, .int l2), (3, .int l3), (5, .int l5)]) hx hb d_Pas_overAll_133 hl (k := 4) rfl e_x14.symm (by decide) rfl (fun ls hl => ?_)
            refine lv_goto (tgt := 34) hx hb d_Pas_overAll_136 (by decide) ?_
            exact ih34 _ _ _ l1 l2 l3 x14 u13 (lv_sub hl [1, 2, 3, 4, 0] rfl) hP hS hf
          intro ls H locs l1 l2 l3 l4 u hl hP hS hf
          rw [L_Pas_overAll_R_34_s] at hf
          refine lv_iload hx hb d_Pas_overAll_34 (lv_at hl 4 rfl) ?_
          refine lv_aload_n hx hb d_Pas_overAll_36 rfl (lv_at hl 0 rfl) ?_
          refine va_get (D := D) (ci := 4) (v := .ref q1) (C := R_Rdg) (T := F_Rdg) (N := 10) hx hb hw in_Rdg hown hK hP 0 rfl rfl 0 (by decide) (hw _ m_165) (fun _ h9 => h9) rfl d_Pas_overAll_37 ?_
          refine va_get (D := D) (ci := 1) (v := .int (u 1 0)) (C := R_Pic) (T := F_Pic) (N := 11) hx hb hw in_Pic hown hK hP 1 rfl rfl 0 (by decide) (hw _ m_166) (fun _ h9 => h9) rfl d_Pas_overAll_40 ?_
          refine lv_icmp_ge (tgt := 139) hx hb d_Pas_overAll_43 (by decide) (fun hc => ?_) (fun hc => ?_)
          · have hf := bq_t hf hc
            obtain ⟨x1, e_x1, hf⟩ := tk_o hf
            refine lv_iinc (v := x1) (lv' := [(1, .int x1), (0, .ref q0), (2, .int l2), (3, .int l3), (4, .int l4)]) hx hb d_Pas_overAll_139 hl (k := 1) rfl e_x1.symm (by decide) rfl (fun ls hl => ?_)
            refine lv_goto (tgt := 16) hx hb d_Pas_overAll_142 (by decide) ?_
            exact ih16 _ _ _ x1 u (lv_sub hl [1, 0] rfl) hP hS hf
          have hf := bq_n hf hc
          refine lv_iload hx hb d_Pas_overAll_46 (lv_at hl 4 rfl) ?_
          refine lv_iload_n hx hb d_Pas_overAll_48 rfl (lv_at hl 1 rfl) ?_
          have hC : ([] : List Nat).map (fun i => (wRdg cI q0 q1 q2 q3 q4 q5 q6 q7 q8 q9 q10 u)[i]?) = ([] : va_W).map some := rfl
          obtain ⟨x2, hc, hf⟩ := bd_o hf
          refine ro_i (va_runS (As := [.int l4, .int l1]) (rest := []) ⟨hx, hb, hml, hown, hw⟩ (c_Pic_place l D cI l4 l1 x2 hc) (va_cwS 2 hw g_11 rfl rfl rfl (by decide +kernel) ⟨Nat.le_of_ble_eq_true rfl, Nat.le_of_ble_eq_true rfl⟩) (pre_S (P_sub hC hP) hK) rfl rfl hl.1 rfl (lv_room (Nat.le_of_ble_eq_true rfl)) d_Pas_overAll_49 ⟨Nat.le_of_ble_eq_true rfl, Nat.le_of_ble_eq_true rfl⟩) hS hP (fun H locs hP hS => ?_)
          refine lv_istore (lv' := [(5, .int x2), (0, .ref q0), (1, .int l1), (2, .int l2), (3, .int l3), (4, .int l4)]) hx hb d_Pas_overAll_52 hl (by decide) rfl (fun ls hl => ?_)
          refine lv_aload_n hx hb d_Pas_overAll_54 rfl (lv_at hl 1 rfl) ?_
          refine lv_iload hx hb d_Pas_overAll_55 (lv_at hl 5 rfl) ?_
          refine lv_iload_n hx hb d_Pas_overAll_57 rfl (lv_at hl 2 rfl) ?_
          have hC : [0, 1, 2, 3, 4, 5, 6, 7, 8, 9, 10].map (fun i => (wRdg cI q0 q1 q2 q3 q4 q5 q6 q7 q8 q9 q10 u)[i]?) = (wRdg cI q0 q1 q2 q3 q4 q5 q6 q7 q8 q9 q10 u).map some := rfl
          obtain ⟨w3, hc, hf⟩ := bd_o hf
          refine rw_v (va_runU (As := [.int l4, .int l1]) (rest := []) ⟨hx, hb, hml, hown, hw⟩ (c_Pas_lookAround_R l D cI q0 q1 q2 q3 q4 q5 q6 q7 q8 q9 q10 (dj_sub hd [0, 1, 2, 3, 4, 5, 6, 7, 8, 9, 10] (by decide) rfl) l4 l1 u w3 hc) (va_cwU 2 hw g_128 rfl rfl rfl rfl (by decide +kernel) ⟨Nat.le_of_ble_eq_true rfl, Nat.le_of_ble_eq_true rfl⟩) (pre_V (P_sub hC hP) hK rfl rfl) rfl rfl hl.1 rfl (lv_room (Nat.le_of_ble_eq_true rfl)) d_Pas_overAll_58 ⟨Nat.le_of_ble_eq_true rfl, Nat.le_of_ble_eq_true rfl⟩) hS hP (hD _) hC rfl rfl (fun H locs hP hS => ?_)
          obtain ⟨u4, e_u4, hf⟩ := tk_o hf
          have hP : va_P D cls (wRdg cI q0 q1 q2 q3 q4 q5 q6 q7 q8 q9 q10 u4) H := by rw [e_u4]; exact hP
          refine lv_iload_n hx hb d_Pas_overAll_61 rfl (lv_at hl 3 rfl) ?_
          refine lv_if_ne (tgt := 91) hx hb d_Pas_overAll_62 (by decide) (fun hc => ?_) (fun hc => ?_)
          · have hf := bq_n hf hc
            exact j91 _ _ _ l1 l2 l3 l4 x2 u4 (lv_sub hl [1, 2, 3, 4, 5, 0] rfl) hP hS hf
          have hf := bq_t hf hc
          refine lv_aload_n hx hb d_Pas_overAll_65 rfl (lv_at hl 1 rfl) ?_
          have hC : [0, 1, 2, 3, 4, 5, 6, 7, 8, 9, 10].map (fun i => (wRdg cI q0 q1 q2 q3 q4 q5 q6 q7 q8 q9 q10 u4)[i]?) = (wRdg cI q0 q1 q2 q3 q4 q5 q6 q7 q8 q9 q10 u4).map some := rfl
          obtain ⟨x5, hc, hf⟩ := bd_o hf
          refine ro_i (va_runU (As := []) (rest := []) ⟨hx, hb, hml, hown, hw⟩ (c_Pas_isEven_R l D cI q0 q1 q2 q3 q4 q5 q6 q7 q8 q9 q10 u4 x5 hc) (va_cwU 0 hw g_129 rfl rfl rfl rfl (by decide +kernel) ⟨Nat.le_of_ble_eq_true rfl, Nat.le_of_ble_eq_true rfl⟩) (pre_V (P_sub hC hP) hK rfl rfl) rfl rfl hl.1 rfl (lv_room (Nat.le_of_ble_eq_true rfl)) d_Pas_overAll_66 ⟨Nat.le_of_ble_eq_true rfl, Nat.le_of_ble_eq_true rfl⟩) hS hP (fun H locs hP hS => ?_)
          refine lv_if_eq (tgt := 91) hx hb d_Pas_overAll_69 (by decide) (fun hc => ?_) (fun hc => ?_)
          · have hf := bq_t hf hc
            exact j91 _ _ _ l1 l2 l3 l4 x2 u4 (lv_sub hl [1, 2, 3, 4, 5, 0] rfl) hP hS hf
          have hf := bq_n hf hc
          refine lv_iconst (v := 1) hx hb d_Pas_overAll_72 (by decide) ?_
          refine lv_istore_n (lv' := [(2, .int 1), (5, .int x2), (0, .ref q0), (1, .int l1), (3, .int l3), (4, .int l4)]) hx hb d_Pas_overAll_73 rfl hl (by decide) rfl (fun ls hl => ?_)
          refine lv_aload_n hx hb d_Pas_overAll_74 rfl (lv_at hl 2 rfl) ?_
          refine lv_iload hx hb d_Pas_overAll_75 (lv_at hl 1 rfl) ?_
          refine lv_aload_n hx hb d_Pas_overAll_77 rfl (lv_at hl 2 rfl) ?_
          refine va_get (D := D) (ci := 4) (v := .ref q1) (C := R_Rdg) (T := F_Rdg) (N := 10) hx hb hw in_Rdg hown hK hP 0 rfl rfl 0 (by decide) (hw _ m_165) (fun _ h9 => h9) rfl d_Pas_overAll_78 ?_
          refine va_get (D := D) (ci := 1) (v := .int (u4 1 0)) (C := R_Pic) (T := F_Pic) (N := 11) hx hb hw in_Pic hown hK hP 1 rfl rfl 0 (by decide) (hw _ m_166) (fun _ h9 => h9) rfl d_Pas_overAll_81 ?_
          refine lv_iload hx hb d_Pas_overAll_84 (lv_at hl 5 rfl) ?_
          refine lv_isub hx hb d_Pas_overAll_86 ?_
          have hC : [0, 1, 2, 3, 4, 5, 6, 7, 8, 9, 10].map (fun i => (wRdg cI q0 q1 q2 q3 q4 q5 q6 q7 q8 q9 q10 u4)[i]?) = (wRdg cI q0 q1 q2 q3 q4 q5 q6 q7 q8 q9 q10 u4).map some := rfl
          obtain ⟨w6, hc, hf⟩ := bd_o hf
          rcases w6 with v7 | w8
          · have hf := bx_l hf
            exact xo hf
          have hf := bx_r hf
          refine rw_i (va_runU (As := [.int x2, .int ((u4 1 0) - l4)]) (rest := []) ⟨hx, hb, hml, hown, hw⟩ (c_Rdg_carryRun l D cI tJ q0 q1 q2 q3 q4 q5 q6 q7 q8 q9 q10 (dj_sub hd [0, 1, 2, 3, 4, 5, 6, 7, 8, 9, 10] (by decide) rfl) x2 ((u4 1 0) - l4) u4 w8.1 w8.2 hc) (va_cwA 2 hw g_130 rfl rfl rfl hJ.2.2.1 (by decide +kernel) ⟨Nat.le_of_ble_eq_true rfl, Nat.le_of_ble_eq_true rfl⟩) (pre_VJ (P_sub hC hP) hK rfl rfl (Jt_call hJ hS (ad_sub [0, 1, 2, 3, 4, 5, 6, 7, 8, 9, 10] rfl))) rfl rfl hl.1 rfl (lv_room (Nat.le_of_ble_eq_true rfl)) d_Pas_overAll_87 ⟨Nat.le_of_ble_eq_true rfl, Nat.le_of_ble_eq_true rfl⟩) hS hP (hD _) hC rfl rfl (fun H locs hP hS => ?_)
          obtain ⟨u9, e_u9, hf⟩ := tk_o hf
          have hP : va_P D cls (wRdg cI q0 q1 q2 q3 q4 q5 q6 q7 q8 q9 q10 u9) H := by rw [e_u9]; exact hP
          refine lv_istore_n (lv' := [(3, .int w8.1), (2, .int 1), (5, .int x2), (0, .ref q0), (1, .int l1), (4, .int l4)]) hx hb d_Pas_overAll_90 rfl hl (by decide) rfl (fun ls hl => ?_)
          exact j91 _ _ _ l1 1 w8.1 l4 x2 u9 (lv_sub hl [3, 4, 1, 0, 5, 2] rfl) hP hS hf
      intro ls H locs l1 u hl hP hS hf
      rw [L_Pas_overAll_R_16_s] at hf
      refine lv_iload_n hx hb d_Pas_overAll_16 rfl (lv_at hl 1 rfl) ?_
      refine lv_aload_n hx hb d_Pas_overAll_17 rfl (lv_at hl 0 rfl) ?_
      refine va_get (D := D) (ci := 4) (v := .ref q1) (C := R_Rdg) (T := F_Rdg) (N := 10) hx hb hw in_Rdg hown hK hP 0 rfl rfl 0 (by decide) (hw _ m_165) (fun _ h9 => h9) rfl d_Pas_overAll_18 ?_
      refine va_get (D := D) (ci := 1) (v := .int (u 1 1)) (C := R_Pic) (T := F_Pic) (N := 11) hx hb hw in_Pic hown hK hP 1 rfl rfl 1 (by decide) (hw _ m_329) (fun _ h9 => h9) rfl d_Pas_overAll_21 ?_
      refine lv_icmp_ge (tgt := 145) hx hb d_Pas_overAll_24 (by decide) (fun hc => ?_) (fun hc => ?_)
      · have hf := bq_t hf hc
        exact rt_v (wRdg cI q0 q1 q2 q3 q4 q5 q6 q7 q8 q9 q10) hx hb hr hlocks hS hP (sr hf) d_Pas_overAll_145
      have hf := bq_n hf hc
      refine lv_iconst (v := 0) hx hb d_Pas_overAll_27 (by decide) ?_
      refine lv_istore_n (lv' := [(2, .int 0), (0, .ref q0), (1, .int l1)]) hx hb d_Pas_overAll_28 rfl hl (by decide) rfl (fun ls hl => ?_)
      refine lv_iconst (v := 0) hx hb d_Pas_overAll_29 (by decide) ?_
      refine lv_istore_n (lv' := [(3, .int 0), (2, .int 0), (0, .ref q0), (1, .int l1)]) hx hb d_Pas_overAll_30 rfl hl (by decide) rfl (fun ls hl => ?_)
      refine lv_iconst (v := 0) hx hb d_Pas_overAll_31 (by decide) ?_
      refine lv_istore (lv' := [(4, .int 0), (3, .int 0), (2, .int 0), (0, .ref q0), (1, .int l1)]) hx hb d_Pas_overAll_32 hl (by decide) rfl (fun ls hl => ?_)
      exact lp34 20 _ _ _ l1 0 0 0 u (lv_sub hl [3, 4, 2, 1, 0] rfl) hP hS hf
  unfold f_Pas_overAll_R at hf
  refine lv_aload_n hx hb d_Pas_overAll_0 rfl (lv_at hl 0 rfl) ?_
  refine va_get (D := D) (ci := 4) (v := .ref q2) (C := R_Rdg) (T := F_Rdg) (N := 10) hx hb hw in_Rdg hown hK hP 0 rfl rfl 1 (by decide) (hw _ m_186) (fun _ h9 => h9) rfl d_Pas_overAll_1 ?_
  refine lv_aload_n hx hb d_Pas_overAll_4 rfl (lv_at hl 0 rfl) ?_
  refine va_get (D := D) (ci := 4) (v := .ref q1) (C := R_Rdg) (T := F_Rdg) (N := 10) hx hb hw in_Rdg hown hK hP 0 rfl rfl 0 (by decide) (hw _ m_165) (fun _ h9 => h9) rfl d_Pas_overAll_5 ?_
  refine va_get (D := D) (ci := 1) (v := .int (u 1 5)) (C := R_Pic) (T := F_Pic) (N := 11) hx hb hw in_Pic hown hK hP 1 rfl rfl 5 (by decide) (hw _ m_330) (fun _ h9 => h9) rfl d_Pas_overAll_8 ?_
  have hC : [2, 3, 4, 5, 6, 7].map (fun i => (wRdg cI q0 q1 q2 q3 q4 q5 q6 q7 q8 q9 q10 u)[i]?) = (wCtx cI q2 q3 q4 q5 q6 q7 (sb [2, 3, 4, 5, 6, 7] u)).map some := rfl
  obtain ⟨w1, hc, hf⟩ := bd_o hf
  refine rw_v (va_runV (As := [.int (u 1 5)]) (rest := []) ⟨hx, hb, hml, hown, hw⟩ (c_Ctx_restart l D cI q2 q3 q4 q5 q6 q7 (dj_sub hd [2, 3, 4, 5, 6, 7] (by decide) rfl) (u 1 5) (sb [2, 3, 4, 5, 6, 7] u) w1 hc) (cwV 1 hw g_46 rfl rfl rfl (by decide +kernel) ⟨Nat.le_of_ble_eq_true rfl, Nat.le_of_ble_eq_true rfl⟩) (pre_V (P_sub hC hP) hK rfl rfl) rfl rfl hl.1 rfl (lv_room (Nat.le_of_ble_eq_true rfl)) d_Pas_overAll_11 ⟨Nat.le_of_ble_eq_true rfl, Nat.le_of_ble_eq_true rfl⟩) hS hP (hD _) hC rfl rfl (fun H locs hP hS => ?_)
  obtain ⟨u2, e_u2, hf⟩ := tk_o hf
  have hP : va_P D cls (wRdg cI q0 q1 q2 q3 q4 q5 q6 q7 q8 q9 q10 u2) H := by rw [e_u2]; exact hP
  refine lv_iconst (v := 0) hx hb d_Pas_overAll_14 (by decide) ?_
  refine lv_istore_n (lv' := [(1, .int 0), (0, .ref q0)]) hx hb d_Pas_overAll_15 rfl hl (by decide) rfl (fun ls hl => ?_)
  exact lp16 20 _ _ _ 0 u2 (lv_sub hl [1, 0] rfl) hP hS hf
set_option maxHeartbeats 4000000 in
set_option maxRecDepth 100000 in
theorem x_Pas_overAll_R (l : Launch) (hfl : l.flags = pinnedFlags ++ [noTraceFlag]) (D : va_G) (cI : ClassId) (tJ : Nat) (q0 : Nat) (q1 : Nat) (q2 : Nat) (q3 : Nat) (q4 : Nat) (q5 : Nat) (q6 : Nat) (q7 : Nat) (q8 : Nat) (q9 : Nat) (q10 : Nat) (hd : dj [q0, q1, q2, q3, q4, q5, q6, q7, q8, q9, q10]) (u : gU) (v : gU) (hf : f_Pas_overAll_R u = some (.inl v)) : MetX l y_Pas_overAll (.code y_Pas_overAll b_Pas_overAll 6 none :: TS) ({ frames := 11, cells := 1, slots := 6, locals := 229 }) (va_Pc [.ref q0] (fun U => va_P D cls (wRdg cI q0 q1 q2 q3 q4 q5 q6 q7 q8 q9 q10 u) U.heap ∧ va_K D cls [(cI, .int)] U ∧ Jt tJ (ad [q0, q1, q2, q3, q4, q5, q6, q7, q8, q9, q10]) U ∧ Xt (ad [q0, q1, q2, q3, q4, q5, q6, q7, q8, q9, q10]) U)) D cls (wRdg cI q0 q1 q2 q3 q4 q5 q6 q7 q8 q9 q10 v) (ad [q0, q1, q2, q3, q4, q5, q6, q7, q8, q9, q10]) := by
  refine ct_ofX hfl (by decide +kernel) (Nat.le_of_ble_eq_true rfl) ?_
  intro p e s m below meth c ls hx hb hml hr hlocks hown hw hP hK hJ hl hX htr hout
  have hS : va_S (ad [q0, q1, q2, q3, q4, q5, q6, q7, q8, q9, q10]) s.heap s.heap [] := va_S.rf
  have hD : ∀ v, va_D (ad [q0, q1, q2, q3, q4, q5, q6, q7, q8, q9, q10]) (wRdg cI q0 q1 q2 q3 q4 q5 q6 q7 q8 q9 q10 v) := fun _ => dj_D rfl hd
  have hl : lv_has ls 6 [(0, .ref q0)] := hl
  have hP : va_P D cls (wRdg cI q0 q1 q2 q3 q4 q5 q6 q7 q8 q9 q10 u) s.heap := hP
  have lp16 : ∀ (n16 : Nat), ∀ (ls : Array Slot) (H : Heap) (locs : List Loc) (l1 : Int32) (u : gU), lv_has ls 6 [(0, .ref q0), (1, .int l1)] → va_P D cls (wRdg cI q0 q1 q2 q3 q4 q5 q6 q7 q8 q9 q10 u) H → va_S (ad [q0, q1, q2, q3, q4, q5, q6, q7, q8, q9, q10]) s.heap H locs → L_Pas_overAll_R_16 n16 l1 u = some (.inl v) → W p l e ({ frames := 11, cells := 1, slots := 6, locals := 229 }) s m [.ref q0].toArray below meth c H locs 0 0 (MQX below D cls (wRdg cI q0 q1 q2 q3 q4 q5 q6 q7 q8 q9 q10 v) (ad [q0, q1, q2, q3, q4, q5, q6, q7, q8, q9, q10]) [.ref q0].toArray s) (F0 m 16 ls []) := by
    intro n16
    induction n16 with
    | zero =>
      intro ls H locs l1 u hl hP hS hf
      rw [L_Pas_overAll_R_16_z] at hf
      cases hf
    | succ n16 ih16 =>
      have lp34 : ∀ (n34 : Nat), ∀ (ls : Array Slot) (H : Heap) (locs : List Loc) (l1 : Int32) (l2 : Int32) (l3 : Int32) (l4 : Int32) (u : gU), lv_has ls 6 [(0, .ref q0), (1, .int l1), (2, .int l2), (3, .int l3), (4, .int l4)] → va_P D cls (wRdg cI q0 q1 q2 q3 q4 q5 q6 q7 q8 q9 q10 u) H → va_S (ad [q0, q1, q2, q3, q4, q5, q6, q7, q8, q9, q10]) s.heap H locs → L_Pas_overAll_R_34 (L_Pas_overAll_R_16 n16) n34 l1 l2 l3 l4 u = some (.inl v) → W p l e ({ frames := 11, cells := 1, slots := 6, locals := 229 }) s m [.ref q0].toArray below meth c H locs 0 0 (MQX below D cls (wRdg cI q0 q1 q2 q3 q4 q5 q6 q7 q8 q9 q10 v) (ad [q0, q1, q2, q3, q4, q5, q6, q7, q8, q9, q10]) [.ref q0].toArray s) (F0 m 34 ls []) := by
        intro n34
        induction n34 with
        | zero =>
          intro ls H locs l1 l2 l3 l4 u hl hP hS hf
          rw [L_Pas_overAll_R_34_z] at hf
          cases hf
        | succ n34 ih34 =>
          have j91 : ∀ (ls : Array Slot) (H : Heap) (locs : List Loc) (l1 : Int32) (l2 : Int32) (l3 : Int32) (l4 : Int32) (l5 : Int32) (u : gU), lv_has ls 6 [(0, .ref q0), (1, .int l1), (2, .int l2), (3, .int l3), (4, .int l4), (5, .int l5)] → va_P D cls (wRdg cI q0 q1 q2 q3 q4 q5 q6 q7 q8 q9 q10 u) H → va_S (ad [q0, q1, q2, q3, q4, q5, q6, q7, q8, q9, q10]) s.heap H locs → J_Pas_overAll_R_91 (L_Pas_overAll_R_16 n16) (L_Pas_overAll_R_34 (L_Pas_overAll_R_16 n16) n34) l1 l2 l3 l4 l5 u = some (.inl v) → W p l e ({ frames := 11, cells := 1, slots := 6, locals := 229 }) s m [.ref q0].toArray below meth c H locs 0 0 (MQX below D cls (wRdg cI q0 q1 q2 q3 q4 q5 q6 q7 q8 q9 q10 v) (ad [q0, q1, q2, q3, q4, q5, q6, q7, q8, q9, q10]) [.ref q0].toArray s) (F0 m 91 ls []) := by
            intro ls H locs l1 l2 l3 l4 l5 u hl hP hS hf
            unfold J_Pas_overAll_R_91 at hf
            refine lv_iload_n hx hb d_Pas_overAll_91 rfl (lv_at hl 2 rfl) ?_
            refine lv_if_ne (tgt := 104) hx hb d_Pas_overAll_92 (by decide) (fun hc => ?_) (fun hc => ?_)
            · have hf := bq_n hf hc
              refine lv_iload_n hx hb d_Pas_overAll_104 rfl (lv_at hl 3 rfl) ?_
              refine lv_if_le (tgt := 125) hx hb d_Pas_overAll_105 (by decide) (fun hc => ?_) (fun hc => ?_)
              · have hf := bq_t hf hc
                refine lv_aload_n hx hb d_Pas_overAll_125 rfl (lv_at hl 0 rfl) ?_
                refine lv_iload hx hb d_Pas_overAll_126 (lv_at hl 5 rfl) ?_
                have hC : [0, 1, 2, 3, 4, 5, 6, 7, 8, 9, 10].map (fun i => (wRdg cI q0 q1 q2 q3 q4 q5 q6 q7 q8 q9 q10 u)[i]?) = (wRdg cI q0 q1 q2 q3 q4 q5 q6 q7 q8 q9 q10 u).map some := rfl
                obtain ⟨w1, hc, hf⟩ := bd_o hf
                rcases w1 with v2 | w3
                · have hf := bx_l hf
                  exact thr_U (As := [.int l5]) (rest := []) ⟨hx, hb, hml, hown, hw⟩ (x_Pas_overEnd_R l hfl D cI tJ q0 q1 q2 q3 q4 q5 q6 q7 q8 q9 q10 (dj_sub hd [0, 1, 2, 3, 4, 5, 6, 7, 8, 9, 10] (by decide) rfl) l5 u v2 hc) (va_cwU 1 hw g_126 rfl rfl rfl rfl (by decide +kernel) ⟨Nat.le_of_ble_eq_true rfl, Nat.le_of_ble_eq_true rfl⟩) (pre_VX (P_sub hC hP) hK rfl rfl hJ hX hS (ad_sub [0, 1, 2, 3, 4, 5, 6, 7, 8, 9, 10] rfl)) rfl hl.1 (Nat.le_of_ble_eq_true rfl) d_Pas_overAll_128 ⟨Nat.le_of_ble_eq_true rfl, Nat.le_of_ble_eq_true rfl⟩ hlocks hout hS hP (hD _) hC rfl rfl (eq_tr (f := wRdg cI q0 q1 q2 q3 q4 q5 q6 q7 q8 q9 q10) (sl hf) rfl)
                have hf := bx_r hf
                refine rw_v (va_runU (As := [.int l5]) (rest := []) ⟨hx, hb, hml, hown, hw⟩ (c_Pas_overEnd_R l D cI tJ q0 q1 q2 q3 q4 q5 q6 q7 q8 q9 q10 (dj_sub hd [0, 1, 2, 3, 4, 5, 6, 7, 8, 9, 10] (by decide) rfl) l5 u w3 hc) (va_cwU 1 hw g_126 rfl rfl rfl rfl (by decide +kernel) ⟨Nat.le_of_ble_eq_true rfl, Nat.le_of_ble_eq_true rfl⟩) (pre_VJ (P_sub hC hP) hK rfl rfl (Jt_call hJ hS (ad_sub [0, 1, 2, 3, 4, 5, 6, 7, 8, 9, 10] rfl))) rfl rfl hl.1 rfl (lv_room (Nat.le_of_ble_eq_true rfl)) d_Pas_overAll_128 ⟨Nat.le_of_ble_eq_true rfl, Nat.le_of_ble_eq_true rfl⟩) hS hP (hD _) hC rfl rfl (fun H locs hP hS => ?_)
                obtain ⟨u4, e_u4, hf⟩ := tk_o hf
                have hP : va_P D cls (wRdg cI q0 q1 q2 q3 q4 q5 q6 q7 q8 q9 q10 u4) H := by rw [e_u4]; exact hP
                refine lv_iconst (v := 0) hx hb d_Pas_overAll_131 (by decide) ?_
                refine lv_istore_n (lv' := [(2, .int 0), (0, .ref q0), (1, .int l1), (3, .int l3), (4, .int l4), (5, .int l5)]) hx hb d_Pas_overAll_132 rfl hl (by decide) rfl (fun ls hl => ?_)
                obtain ⟨x5, e_x5, hf⟩ := tk_o hf
                refine lv_iinc (v := x5) (lv' := [(4, .int x5), (2, .int 0), (0, .ref q0), (1, .int l1), (3, .int l3), (5, .int l5)]) hx hb d_Pas_overAll_133 hl (k := 4) rfl e_x5.symm (by decide) rfl (fun ls hl => ?_)
                refine lv_goto (tgt := 34) hx hb d_Pas_overAll_136 (by decide) ?_
                exact ih34 _ _ _ l1 0 l3 x5 u4 (lv_sub hl [2, 3, 1, 4, 0] rfl) hP hS hf
              have hf := bq_n hf hc
              obtain ⟨x6, e_x6, hf⟩ := tk_o hf
              refine lv_iinc (v := x6) (lv' := [(3, .int x6), (0, .ref q0), (1, .int l1), (2, .int l2), (4, .int l4), (5, .int l5)]) hx hb d_Pas_overAll_108 hl (k := 3) rfl e_x6.symm (by decide) rfl (fun ls hl => ?_)
              refine lv_aload_n hx hb d_Pas_overAll_111 rfl (lv_at hl 1 rfl) ?_
              refine va_get (D := D) (ci := 4) (v := .ref q8) (C := R_Rdg) (T := F_Rdg) (N := 10) hx hb hw in_Rdg hown hK hP 0 rfl rfl 2 (by decide) (hw _ m_159) (fun _ h9 => h9) rfl d_Pas_overAll_112 ?_
              refine lv_iload hx hb d_Pas_overAll_115 (lv_at hl 5 rfl) ?_
              refine lv_aload_n hx hb d_Pas_overAll_117 rfl (lv_at hl 1 rfl) ?_
              refine va_get (D := D) (ci := 4) (v := .int (u 0 0)) (C := R_Rdg) (T := F_Rdg) (N := 10) hx hb hw in_Rdg hown hK hP 0 rfl rfl 3 (by decide) (hw _ m_174) (fun _ h9 => h9) rfl d_Pas_overAll_118 ?_
              obtain ⟨h7, hf⟩ := gd_o hf
              refine va_iast hx hb hK hP (hD _) hS 8 0 rfl rfl (ix_in h7) d_Pas_overAll_121 (fun H locs hP _ hS => ?_)
              obtain ⟨u8, e_u8, hf⟩ := tk_o hf
              have hP : va_P D cls (wRdg cI q0 q1 q2 q3 q4 q5 q6 q7 q8 q9 q10 u8) H := by rw [e_u8]; exact hP
              refine lv_goto (tgt := 133) hx hb d_Pas_overAll_122 (by decide) ?_
              obtain ⟨x9, e_x9, hf⟩ := tk_o hf
              refine lv_iinc (v := x9) (lv' := [(4, .int x9), (3, .int x6), (0, .ref q0), (1, .int l1), (2, .int l2), (5, .int l5)]) hx hb d_Pas_overAll_133 hl (k := 4) rfl e_x9.symm (by decide) rfl (fun ls hl => ?_)
              refine lv_goto (tgt := 34) hx hb d_Pas_overAll_136 (by decide) ?_
              exact ih34 _ _ _ l1 l2 x6 x9 u8 (lv_sub hl [2, 3, 4, 1, 0] rfl) hP hS hf
            have hf := bq_t hf hc
            refine lv_aload_n hx hb d_Pas_overAll_95 rfl (lv_at hl 0 rfl) ?_
            refine lv_iload hx hb d_Pas_overAll_96 (lv_at hl 5 rfl) ?_
            have hC : [0, 1, 2, 3, 4, 5, 6, 7, 8, 9, 10].map (fun i => (wRdg cI q0 q1 q2 q3 q4 q5 q6 q7 q8 q9 q10 u)[i]?) = (wRdg cI q0 q1 q2 q3 q4 q5 q6 q7 q8 q9 q10 u).map some := rfl
            obtain ⟨w10, hc, hf⟩ := bd_o hf
            rcases w10 with v11 | w12
            · have hf := bx_l hf
              exact thr_U (As := [.int l5]) (rest := []) ⟨hx, hb, hml, hown, hw⟩ (x_Pas_overRegular_R l hfl D cI tJ q0 q1 q2 q3 q4 q5 q6 q7 q8 q9 q10 (dj_sub hd [0, 1, 2, 3, 4, 5, 6, 7, 8, 9, 10] (by decide) rfl) l5 u v11 hc) (va_cwU 1 hw g_127 rfl rfl rfl rfl (by decide +kernel) ⟨Nat.le_of_ble_eq_true rfl, Nat.le_of_ble_eq_true rfl⟩) (pre_VX (P_sub hC hP) hK rfl rfl hJ hX hS (ad_sub [0, 1, 2, 3, 4, 5, 6, 7, 8, 9, 10] rfl)) rfl hl.1 (Nat.le_of_ble_eq_true rfl) d_Pas_overAll_98 ⟨Nat.le_of_ble_eq_true rfl, Nat.le_of_ble_eq_true rfl⟩ hlocks hout hS hP (hD _) hC rfl rfl (eq_tr (f := wRdg cI q0 q1 q2 q3 q4 q5 q6 q7 q8 q9 q10) (sl hf) rfl)
            have hf := bx_r hf
            refine rw_v (va_runU (As := [.int l5]) (rest := []) ⟨hx, hb, hml, hown, hw⟩ (c_Pas_overRegular_R l D cI tJ q0 q1 q2 q3 q4 q5 q6 q7 q8 q9 q10 (dj_sub hd [0, 1, 2, 3, 4, 5, 6, 7, 8, 9, 10] (by decide) rfl) l5 u w12 hc) (va_cwU 1 hw g_127 rfl rfl rfl rfl (by decide +kernel) ⟨Nat.le_of_ble_eq_true rfl, Nat.le_of_ble_eq_true rfl⟩) (pre_VJ (P_sub hC hP) hK rfl rfl (Jt_call hJ hS (ad_sub [0, 1, 2, 3, 4, 5, 6, 7, 8, 9, 10] rfl))) rfl rfl hl.1 rfl (lv_room (Nat.le_of_ble_eq_true rfl)) d_Pas_overAll_98 ⟨Nat.le_of_ble_eq_true rfl, Nat.le_of_ble_eq_true rfl⟩) hS hP (hD _) hC rfl rfl (fun H locs hP hS => ?_)
            obtain ⟨u13, e_u13, hf⟩ := tk_o hf
            have hP : va_P D cls (wRdg cI q0 q1 q2 q3 q4 q5 q6 q7 q8 q9 q10 u13) H := by rw [e_u13]; exact hP
            refine lv_goto (tgt := 133) hx hb d_Pas_overAll_101 (by decide) ?_
            obtain ⟨x14, e_x14, hf⟩ := tk_o hf
            refine lv_iinc (v := x14) (lv' := [(4, .int x14), (0, .ref q0), (1, .int l1), (2, .int l2), (3, .int l3), (5, .int l5)]) hx hb d_Pas_overAll_133 hl (k := 4) rfl e_x14.symm (by decide) rfl (fun ls hl => ?_)
            refine lv_goto (tgt := 34) hx hb d_Pas_overAll_136 (by decide) ?_
            exact ih34 _ _ _ l1 l2 l3 x14 u13 (lv_sub hl [1, 2, 3, 4, 0] rfl) hP hS hf
          intro ls H locs l1 l2 l3 l4 u hl hP hS hf
          rw [L_Pas_overAll_R_34_s] at hf
          refine lv_iload hx hb d_Pas_overAll_34 (lv_at hl 4 rfl) ?_
          refine lv_aload_n hx hb d_Pas_overAll_36 rfl (lv_at hl 0 rfl) ?_
          refine va_get (D := D) (ci := 4) (v := .ref q1) (C := R_Rdg) (T := F_Rdg) (N := 10) hx hb hw in_Rdg hown hK hP 0 rfl rfl 0 (by decide) (hw _ m_165) (fun _ h9 => h9) rfl d_Pas_overAll_37 ?_
          refine va_get (D := D) (ci := 1) (v := .int (u 1 0)) (C := R_Pic) (T := F_Pic) (N := 11) hx hb hw in_Pic hown hK hP 1 rfl rfl 0 (by decide) (hw _ m_166) (fun _ h9 => h9) rfl d_Pas_overAll_40 ?_
          refine lv_icmp_ge (tgt := 139) hx hb d_Pas_overAll_43 (by decide) (fun hc => ?_) (fun hc => ?_)
          · have hf := bq_t hf hc
            obtain ⟨x1, e_x1, hf⟩ := tk_o hf
            refine lv_iinc (v := x1) (lv' := [(1, .int x1), (0, .ref q0), (2, .int l2), (3, .int l3), (4, .int l4)]) hx hb d_Pas_overAll_139 hl (k := 1) rfl e_x1.symm (by decide) rfl (fun ls hl => ?_)
            refine lv_goto (tgt := 16) hx hb d_Pas_overAll_142 (by decide) ?_
            exact ih16 _ _ _ x1 u (lv_sub hl [1, 0] rfl) hP hS hf
          have hf := bq_n hf hc
          refine lv_iload hx hb d_Pas_overAll_46 (lv_at hl 4 rfl) ?_
          refine lv_iload_n hx hb d_Pas_overAll_48 rfl (lv_at hl 1 rfl) ?_
          have hC : ([] : List Nat).map (fun i => (wRdg cI q0 q1 q2 q3 q4 q5 q6 q7 q8 q9 q10 u)[i]?) = ([] : va_W).map some := rfl
          obtain ⟨x2, hc, hf⟩ := bd_o hf
          refine ro_i (va_runS (As := [.int l4, .int l1]) (rest := []) ⟨hx, hb, hml, hown, hw⟩ (c_Pic_place l D cI l4 l1 x2 hc) (va_cwS 2 hw g_11 rfl rfl rfl (by decide +kernel) ⟨Nat.le_of_ble_eq_true rfl, Nat.le_of_ble_eq_true rfl⟩) (pre_S (P_sub hC hP) hK) rfl rfl hl.1 rfl (lv_room (Nat.le_of_ble_eq_true rfl)) d_Pas_overAll_49 ⟨Nat.le_of_ble_eq_true rfl, Nat.le_of_ble_eq_true rfl⟩) hS hP (fun H locs hP hS => ?_)
          refine lv_istore (lv' := [(5, .int x2), (0, .ref q0), (1, .int l1), (2, .int l2), (3, .int l3), (4, .int l4)]) hx hb d_Pas_overAll_52 hl (by decide) rfl (fun ls hl => ?_)
          refine lv_aload_n hx hb d_Pas_overAll_54 rfl (lv_at hl 1 rfl) ?_
          refine lv_iload hx hb d_Pas_overAll_55 (lv_at hl 5 rfl) ?_
          refine lv_iload_n hx hb d_Pas_overAll_57 rfl (lv_at hl 2 rfl) ?_
          have hC : [0, 1, 2, 3, 4, 5, 6, 7, 8, 9, 10].map (fun i => (wRdg cI q0 q1 q2 q3 q4 q5 q6 q7 q8 q9 q10 u)[i]?) = (wRdg cI q0 q1 q2 q3 q4 q5 q6 q7 q8 q9 q10 u).map some := rfl
          obtain ⟨w3, hc, hf⟩ := bd_o hf
          refine rw_v (va_runU (As := [.int l4, .int l1]) (rest := []) ⟨hx, hb, hml, hown, hw⟩ (c_Pas_lookAround_R l D cI q0 q1 q2 q3 q4 q5 q6 q7 q8 q9 q10 (dj_sub hd [0, 1, 2, 3, 4, 5, 6, 7, 8, 9, 10] (by decide) rfl) l4 l1 u w3 hc) (va_cwU 2 hw g_128 rfl rfl rfl rfl (by decide +kernel) ⟨Nat.le_of_ble_eq_true rfl, Nat.le_of_ble_eq_true rfl⟩) (pre_V (P_sub hC hP) hK rfl rfl) rfl rfl hl.1 rfl (lv_room (Nat.le_of_ble_eq_true rfl)) d_Pas_overAll_58 ⟨Nat.le_of_ble_eq_true rfl, Nat.le_of_ble_eq_true rfl⟩) hS hP (hD _) hC rfl rfl (fun H locs hP hS => ?_)
          obtain ⟨u4, e_u4, hf⟩ := tk_o hf
          have hP : va_P D cls (wRdg cI q0 q1 q2 q3 q4 q5 q6 q7 q8 q9 q10 u4) H := by rw [e_u4]; exact hP
          refine lv_iload_n hx hb d_Pas_overAll_61 rfl (lv_at hl 3 rfl) ?_
          refine lv_if_ne (tgt := 91) hx hb d_Pas_overAll_62 (by decide) (fun hc => ?_) (fun hc => ?_)
          · have hf := bq_n hf hc
            exact j91 _ _ _ l1 l2 l3 l4 x2 u4 (lv_sub hl [1, 2, 3, 4, 5, 0] rfl) hP hS hf
          have hf := bq_t hf hc
          refine lv_aload_n hx hb d_Pas_overAll_65 rfl (lv_at hl 1 rfl) ?_
          have hC : [0, 1, 2, 3, 4, 5, 6, 7, 8, 9, 10].map (fun i => (wRdg cI q0 q1 q2 q3 q4 q5 q6 q7 q8 q9 q10 u4)[i]?) = (wRdg cI q0 q1 q2 q3 q4 q5 q6 q7 q8 q9 q10 u4).map some := rfl
          obtain ⟨x5, hc, hf⟩ := bd_o hf
          refine ro_i (va_runU (As := []) (rest := []) ⟨hx, hb, hml, hown, hw⟩ (c_Pas_isEven_R l D cI q0 q1 q2 q3 q4 q5 q6 q7 q8 q9 q10 u4 x5 hc) (va_cwU 0 hw g_129 rfl rfl rfl rfl (by decide +kernel) ⟨Nat.le_of_ble_eq_true rfl, Nat.le_of_ble_eq_true rfl⟩) (pre_V (P_sub hC hP) hK rfl rfl) rfl rfl hl.1 rfl (lv_room (Nat.le_of_ble_eq_true rfl)) d_Pas_overAll_66 ⟨Nat.le_of_ble_eq_true rfl, Nat.le_of_ble_eq_true rfl⟩) hS hP (fun H locs hP hS => ?_)
          refine lv_if_eq (tgt := 91) hx hb d_Pas_overAll_69 (by decide) (fun hc => ?_) (fun hc => ?_)
          · have hf := bq_t hf hc
            exact j91 _ _ _ l1 l2 l3 l4 x2 u4 (lv_sub hl [1, 2, 3, 4, 5, 0] rfl) hP hS hf
          have hf := bq_n hf hc
          refine lv_iconst (v := 1) hx hb d_Pas_overAll_72 (by decide) ?_
          refine lv_istore_n (lv' := [(2, .int 1), (5, .int x2), (0, .ref q0), (1, .int l1), (3, .int l3), (4, .int l4)]) hx hb d_Pas_overAll_73 rfl hl (by decide) rfl (fun ls hl => ?_)
          refine lv_aload_n hx hb d_Pas_overAll_74 rfl (lv_at hl 2 rfl) ?_
          refine lv_iload hx hb d_Pas_overAll_75 (lv_at hl 1 rfl) ?_
          refine lv_aload_n hx hb d_Pas_overAll_77 rfl (lv_at hl 2 rfl) ?_
          refine va_get (D := D) (ci := 4) (v := .ref q1) (C := R_Rdg) (T := F_Rdg) (N := 10) hx hb hw in_Rdg hown hK hP 0 rfl rfl 0 (by decide) (hw _ m_165) (fun _ h9 => h9) rfl d_Pas_overAll_78 ?_
          refine va_get (D := D) (ci := 1) (v := .int (u4 1 0)) (C := R_Pic) (T := F_Pic) (N := 11) hx hb hw in_Pic hown hK hP 1 rfl rfl 0 (by decide) (hw _ m_166) (fun _ h9 => h9) rfl d_Pas_overAll_81 ?_
          refine lv_iload hx hb d_Pas_overAll_84 (lv_at hl 5 rfl) ?_
          refine lv_isub hx hb d_Pas_overAll_86 ?_
          have hC : [0, 1, 2, 3, 4, 5, 6, 7, 8, 9, 10].map (fun i => (wRdg cI q0 q1 q2 q3 q4 q5 q6 q7 q8 q9 q10 u4)[i]?) = (wRdg cI q0 q1 q2 q3 q4 q5 q6 q7 q8 q9 q10 u4).map some := rfl
          obtain ⟨w6, hc, hf⟩ := bd_o hf
          rcases w6 with v7 | w8
          · have hf := bx_l hf
            exact thr_U (As := [.int x2, .int ((u4 1 0) - l4)]) (rest := []) ⟨hx, hb, hml, hown, hw⟩ (x_Rdg_carryRun l hfl D cI tJ q0 q1 q2 q3 q4 q5 q6 q7 q8 q9 q10 (dj_sub hd [0, 1, 2, 3, 4, 5, 6, 7, 8, 9, 10] (by decide) rfl) x2 ((u4 1 0) - l4) u4 v7 hc) (va_cwA 2 hw g_130 rfl rfl rfl hJ.2.2.1 (by decide +kernel) ⟨Nat.le_of_ble_eq_true rfl, Nat.le_of_ble_eq_true rfl⟩) (pre_VX (P_sub hC hP) hK rfl rfl hJ hX hS (ad_sub [0, 1, 2, 3, 4, 5, 6, 7, 8, 9, 10] rfl)) rfl hl.1 (Nat.le_of_ble_eq_true rfl) d_Pas_overAll_87 ⟨Nat.le_of_ble_eq_true rfl, Nat.le_of_ble_eq_true rfl⟩ hlocks hout hS hP (hD _) hC rfl rfl (eq_tr (f := wRdg cI q0 q1 q2 q3 q4 q5 q6 q7 q8 q9 q10) (sl hf) rfl)
          have hf := bx_r hf
          refine rw_i (va_runU (As := [.int x2, .int ((u4 1 0) - l4)]) (rest := []) ⟨hx, hb, hml, hown, hw⟩ (c_Rdg_carryRun l D cI tJ q0 q1 q2 q3 q4 q5 q6 q7 q8 q9 q10 (dj_sub hd [0, 1, 2, 3, 4, 5, 6, 7, 8, 9, 10] (by decide) rfl) x2 ((u4 1 0) - l4) u4 w8.1 w8.2 hc) (va_cwA 2 hw g_130 rfl rfl rfl hJ.2.2.1 (by decide +kernel) ⟨Nat.le_of_ble_eq_true rfl, Nat.le_of_ble_eq_true rfl⟩) (pre_VJ (P_sub hC hP) hK rfl rfl (Jt_call hJ hS (ad_sub [0, 1, 2, 3, 4, 5, 6, 7, 8, 9, 10] rfl))) rfl rfl hl.1 rfl (lv_room (Nat.le_of_ble_eq_true rfl)) d_Pas_overAll_87 ⟨Nat.le_of_ble_eq_true rfl, Nat.le_of_ble_eq_true rfl⟩) hS hP (hD _) hC rfl rfl (fun H locs hP hS => ?_)
          obtain ⟨u9, e_u9, hf⟩ := tk_o hf
          have hP : va_P D cls (wRdg cI q0 q1 q2 q3 q4 q5 q6 q7 q8 q9 q10 u9) H := by rw [e_u9]; exact hP
          refine lv_istore_n (lv' := [(3, .int w8.1), (2, .int 1), (5, .int x2), (0, .ref q0), (1, .int l1), (4, .int l4)]) hx hb d_Pas_overAll_90 rfl hl (by decide) rfl (fun ls hl => ?_)
          exact j91 _ _ _ l1 1 w8.1 l4 x2 u9 (lv_sub hl [3, 4, 1, 0, 5, 2] rfl) hP hS hf
      intro ls H locs l1 u hl hP hS hf
      rw [L_Pas_overAll_R_16_s] at hf
      refine lv_iload_n hx hb d_Pas_overAll_16 rfl (lv_at hl 1 rfl) ?_
      refine lv_aload_n hx hb d_Pas_overAll_17 rfl (lv_at hl 0 rfl) ?_
      refine va_get (D := D) (ci := 4) (v := .ref q1) (C := R_Rdg) (T := F_Rdg) (N := 10) hx hb hw in_Rdg hown hK hP 0 rfl rfl 0 (by decide) (hw _ m_165) (fun _ h9 => h9) rfl d_Pas_overAll_18 ?_
      refine va_get (D := D) (ci := 1) (v := .int (u 1 1)) (C := R_Pic) (T := F_Pic) (N := 11) hx hb hw in_Pic hown hK hP 1 rfl rfl 1 (by decide) (hw _ m_329) (fun _ h9 => h9) rfl d_Pas_overAll_21 ?_
      refine lv_icmp_ge (tgt := 145) hx hb d_Pas_overAll_24 (by decide) (fun hc => ?_) (fun hc => ?_)
      · have hf := bq_t hf hc
        exact ox hf
      have hf := bq_n hf hc
      refine lv_iconst (v := 0) hx hb d_Pas_overAll_27 (by decide) ?_
      refine lv_istore_n (lv' := [(2, .int 0), (0, .ref q0), (1, .int l1)]) hx hb d_Pas_overAll_28 rfl hl (by decide) rfl (fun ls hl => ?_)
      refine lv_iconst (v := 0) hx hb d_Pas_overAll_29 (by decide) ?_
      refine lv_istore_n (lv' := [(3, .int 0), (2, .int 0), (0, .ref q0), (1, .int l1)]) hx hb d_Pas_overAll_30 rfl hl (by decide) rfl (fun ls hl => ?_)
      refine lv_iconst (v := 0) hx hb d_Pas_overAll_31 (by decide) ?_
      refine lv_istore (lv' := [(4, .int 0), (3, .int 0), (2, .int 0), (0, .ref q0), (1, .int l1)]) hx hb d_Pas_overAll_32 hl (by decide) rfl (fun ls hl => ?_)
      exact lp34 20 _ _ _ l1 0 0 0 u (lv_sub hl [3, 4, 2, 1, 0] rfl) hP hS hf
  unfold f_Pas_overAll_R at hf
  refine lv_aload_n hx hb d_Pas_overAll_0 rfl (lv_at hl 0 rfl) ?_
  refine va_get (D := D) (ci := 4) (v := .ref q2) (C := R_Rdg) (T := F_Rdg) (N := 10) hx hb hw in_Rdg hown hK hP 0 rfl rfl 1 (by decide) (hw _ m_186) (fun _ h9 => h9) rfl d_Pas_overAll_1 ?_
  refine lv_aload_n hx hb d_Pas_overAll_4 rfl (lv_at hl 0 rfl) ?_
  refine va_get (D := D) (ci := 4) (v := .ref q1) (C := R_Rdg) (T := F_Rdg) (N := 10) hx hb hw in_Rdg hown hK hP 0 rfl rfl 0 (by decide) (hw _ m_165) (fun _ h9 => h9) rfl d_Pas_overAll_5 ?_
  refine va_get (D := D) (ci := 1) (v := .int (u 1 5)) (C := R_Pic) (T := F_Pic) (N := 11) hx hb hw in_Pic hown hK hP 1 rfl rfl 5 (by decide) (hw _ m_330) (fun _ h9 => h9) rfl d_Pas_overAll_8 ?_
  have hC : [2, 3, 4, 5, 6, 7].map (fun i => (wRdg cI q0 q1 q2 q3 q4 q5 q6 q7 q8 q9 q10 u)[i]?) = (wCtx cI q2 q3 q4 q5 q6 q7 (sb [2, 3, 4, 5, 6, 7] u)).map some := rfl
  obtain ⟨w1, hc, hf⟩ := bd_o hf
  refine rw_v (va_runV (As := [.int (u 1 5)]) (rest := []) ⟨hx, hb, hml, hown, hw⟩ (c_Ctx_restart l D cI q2 q3 q4 q5 q6 q7 (dj_sub hd [2, 3, 4, 5, 6, 7] (by decide) rfl) (u 1 5) (sb [2, 3, 4, 5, 6, 7] u) w1 hc) (cwV 1 hw g_46 rfl rfl rfl (by decide +kernel) ⟨Nat.le_of_ble_eq_true rfl, Nat.le_of_ble_eq_true rfl⟩) (pre_V (P_sub hC hP) hK rfl rfl) rfl rfl hl.1 rfl (lv_room (Nat.le_of_ble_eq_true rfl)) d_Pas_overAll_11 ⟨Nat.le_of_ble_eq_true rfl, Nat.le_of_ble_eq_true rfl⟩) hS hP (hD _) hC rfl rfl (fun H locs hP hS => ?_)
  obtain ⟨u2, e_u2, hf⟩ := tk_o hf
  have hP : va_P D cls (wRdg cI q0 q1 q2 q3 q4 q5 q6 q7 q8 q9 q10 u2) H := by rw [e_u2]; exact hP
  refine lv_iconst (v := 0) hx hb d_Pas_overAll_14 (by decide) ?_
  refine lv_istore_n (lv' := [(1, .int 0), (0, .ref q0)]) hx hb d_Pas_overAll_15 rfl hl (by decide) rfl (fun ls hl => ?_)
  exact lp16 20 _ _ _ 0 u2 (lv_sub hl [1, 0] rfl) hP hS hf
