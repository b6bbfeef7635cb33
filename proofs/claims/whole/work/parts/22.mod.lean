def J_Mod_encode_103 (u : gU) : Option (Int32 × gU) := bd (f_Mod_say 255 u) fun w1 => tk (w1) fun u2 => bd (f_Mod_say 217 u2) fun w3 => tk (w3) fun u4 => some (u4 0 13, u4)
def f_Mod_encode (u : gU) : Option (Int32 × gU) := tk (st2 u 0 0 0) fun u1 => bd (f_Mod_forget u1) fun w2 => tk (w2) fun u3 => tk (st2 u3 0 13 0) fun u4 => bd (f_Mod_say 255 u4) fun w5 => tk (w5) fun u6 => bd (f_Mod_say 216 u6) fun w7 => tk (w7) fun u8 => bd (f_Mod_say (u8 0 1) u8) fun w9 => tk (w9) fun u10 => bd (f_Mod_say (u10 0 2) u10) fun w11 => tk (w11) fun u12 => bd (f_Mod_say (u12 0 3) u12) fun w13 => tk (w13) fun u14 => bd (f_Mod_say (u14 0 4) u14) fun w15 => tk (w15) fun u16 => tk (st2 u16 0 14 0) fun u17 => tk (st2 u17 0 15 0) fun u18 => tk (st2 u18 0 16 0) fun u19 => tk (st2 u19 0 20 1) fun u20 => bd (f_Mod_walk u20) fun w21 => tk (w21) fun u22 => bq ((u22 0 15) ≤ 0) (J_Mod_encode_103  u22) (bd (f_Mod_putMany 0 (8 - (u22 0 15)) u22) fun w23 => tk (w23) fun u24 => J_Mod_encode_103  u24)
set_option maxHeartbeats 4000000 in
set_option maxRecDepth 100000 in
theorem c_Mod_encode (l : Launch) (D : va_G) (cI : ClassId) (q0 : Nat) (q1 : Nat) (q2 : Nat) (q3 : Nat) (q4 : Nat) (q5 : Nat) (q6 : Nat) (q7 : Nat) (hd : dj [q0, q1, q2, q3, q4, q5, q6, q7]) (u : gU) (r : Int32) (v : gU) (hf : f_Mod_encode u = some (r, v)) : Met l y_Mod_encode (.code y_Mod_encode b_Mod_encode 1 (some .int) :: TS) ({ frames := 7, cells := 0, slots := 0, locals := 178 }) (va_Pc [.ref q0] (fun U => va_P D cls (wMod cI q0 q1 q2 q3 q4 q5 q6 q7 u) U.heap ∧ va_K D cls [(cI, .int)] U)) (va_Qi (fun x (_ : Unit) => x = r) (fun _ t => va_P D cls (wMod cI q0 q1 q2 q3 q4 q5 q6 q7 v) t.heap) (ad [q0, q1, q2, q3, q4, q5, q6, q7])) 0 0 (ad [q0, q1, q2, q3, q4, q5, q6, q7]) := by
  refine ct_of (by decide +kernel) (Nat.le_of_ble_eq_true rfl) ?_
  intro p e s m below meth c ls hx hb hml hr hlocks hown hw hP hK hl
  have hS : va_S (ad [q0, q1, q2, q3, q4, q5, q6, q7]) s.heap s.heap [] := va_S.rf
  have hD : ∀ v, va_D (ad [q0, q1, q2, q3, q4, q5, q6, q7]) (wMod cI q0 q1 q2 q3 q4 q5 q6 q7 v) := fun _ => dj_D rfl hd
  have hl : lv_has ls 1 [(0, .ref q0)] := hl
  have hP : va_P D cls (wMod cI q0 q1 q2 q3 q4 q5 q6 q7 u) s.heap := hP
  have j103 : ∀ (ls : Array Slot) (H : Heap) (locs : List Loc) (u : gU), lv_has ls 1 [(0, .ref q0)] → va_P D cls (wMod cI q0 q1 q2 q3 q4 q5 q6 q7 u) H → va_S (ad [q0, q1, q2, q3, q4, q5, q6, q7]) s.heap H locs → J_Mod_encode_103 u = some (r, v) → W p l e ({ frames := 7, cells := 0, slots := 0, locals := 178 }) s m [.ref q0].toArray below meth c H locs 0 0 (MQ below (va_Qi (fun x (_ : Unit) => x = r) (fun _ t => va_P D cls (wMod cI q0 q1 q2 q3 q4 q5 q6 q7 v) t.heap) (ad [q0, q1, q2, q3, q4, q5, q6, q7])) [.ref q0].toArray s 0 0 (ad [q0, q1, q2, q3, q4, q5, q6, q7])) (F0 m 103 ls []) := by
    intro ls H locs u hl hP hS hf
    unfold J_Mod_encode_103 at hf
    refine lv_aload_n hx hb d_Mod_encode_103 rfl (lv_at hl 0 rfl) ?_
    refine lv_sipush (v := 255) hx hb d_Mod_encode_104 (by decide) ?_
    have hC : [0, 1, 2, 3, 4, 5, 6, 7].map (fun i => (wMod cI q0 q1 q2 q3 q4 q5 q6 q7 u)[i]?) = (wMod cI q0 q1 q2 q3 q4 q5 q6 q7 u).map some := rfl
    obtain ⟨w1, hc, hf⟩ := bd_o hf
    refine rw_v (va_runV (As := [.int 255]) (rest := []) ⟨hx, hb, hml, hown, hw⟩ (c_Mod_say l D cI q0 q1 q2 q3 q4 q5 q6 q7 (dj_sub hd [0, 1, 2, 3, 4, 5, 6, 7] (by decide) rfl) 255 u w1 hc) (cwV 1 hw g_70 rfl rfl rfl (by decide +kernel) ⟨Nat.le_of_ble_eq_true rfl, Nat.le_of_ble_eq_true rfl⟩) (pre_V (P_sub hC hP) hK rfl rfl) rfl rfl hl.1 rfl (lv_room (Nat.le_of_ble_eq_true rfl)) d_Mod_encode_107 ⟨Nat.le_of_ble_eq_true rfl, Nat.le_of_ble_eq_true rfl⟩) hS hP (hD _) hC rfl rfl (fun H locs hP hS => ?_)
    obtain ⟨u2, e_u2, hf⟩ := tk_o hf
    have hP : va_P D cls (wMod cI q0 q1 q2 q3 q4 q5 q6 q7 u2) H := by rw [e_u2]; exact hP
    refine lv_aload_n hx hb d_Mod_encode_110 rfl (lv_at hl 0 rfl) ?_
    refine lv_sipush (v := 217) hx hb d_Mod_encode_111 (by decide) ?_
    have hC : [0, 1, 2, 3, 4, 5, 6, 7].map (fun i => (wMod cI q0 q1 q2 q3 q4 q5 q6 q7 u2)[i]?) = (wMod cI q0 q1 q2 q3 q4 q5 q6 q7 u2).map some := rfl
    obtain ⟨w3, hc, hf⟩ := bd_o hf
    refine rw_v (va_runV (As := [.int 217]) (rest := []) ⟨hx, hb, hml, hown, hw⟩ (c_Mod_say l D cI q0 q1 q2 q3 q4 q5 q6 q7 (dj_sub hd [0, 1, 2, 3, 4, 5, 6, 7] (by decide) rfl) 217 u2 w3 hc) (cwV 1 hw g_70 rfl rfl rfl (by decide +kernel) ⟨Nat.le_of_ble_eq_true rfl, Nat.le_of_ble_eq_true rfl⟩) (pre_V (P_sub hC hP) hK rfl rfl) rfl rfl hl.1 rfl (lv_room (Nat.le_of_ble_eq_true rfl)) d_Mod_encode_114 ⟨Nat.le_of_ble_eq_true rfl, Nat.le_of_ble_eq_true rfl⟩) hS hP (hD _) hC rfl rfl (fun H locs hP hS => ?_)
    obtain ⟨u4, e_u4, hf⟩ := tk_o hf
    have hP : va_P D cls (wMod cI q0 q1 q2 q3 q4 q5 q6 q7 u4) H := by rw [e_u4]; exact hP
    refine lv_aload_n hx hb d_Mod_encode_117 rfl (lv_at hl 0 rfl) ?_
    refine va_get (D := D) (ci := 7) (v := .int (u4 0 13)) (C := R_Mod) (T := F_Mod) (N := 28) hx hb hw in_Mod hown hK hP 0 rfl rfl 17 (by decide) (hw _ m_450) (fun _ h9 => h9) rfl d_Mod_encode_118 ?_
    exact rt_i (wMod cI q0 q1 q2 q3 q4 q5 q6 q7) hx hb hr hlocks hS hP hf d_Mod_encode_121
  unfold f_Mod_encode at hf
  refine lv_aload_n hx hb d_Mod_encode_0 rfl (lv_at hl 0 rfl) ?_
  refine lv_iconst (v := 0) hx hb d_Mod_encode_1 (by decide) ?_
  refine va_put (D := D) (ci := 7) (v := .int 0) (ty := .int) (C := R_Mod) (T := F_Mod) (N := 28) hx hb hw in_Mod t_Mod t_Mod_ok n_Mod hown hK hP (hD _) hS 0 rfl rfl 0 (by decide) (hw _ m_426) (fun _ h9 => h9) rfl (by decide +kernel) rfl rfl (Nat.le_of_ble_eq_true rfl) d_Mod_encode_2 (fun H locs hP _ hS => ?_)
  obtain ⟨u1, e_u1, hf⟩ := tk_o hf
  have hP : va_P D cls (wMod cI q0 q1 q2 q3 q4 q5 q6 q7 u1) H := by rw [e_u1]; exact hP
  refine lv_aload_n hx hb d_Mod_encode_5 rfl (lv_at hl 0 rfl) ?_
  have hC : [0, 1, 2, 3, 4, 5, 6, 7].map (fun i => (wMod cI q0 q1 q2 q3 q4 q5 q6 q7 u1)[i]?) = (wMod cI q0 q1 q2 q3 q4 q5 q6 q7 u1).map some := rfl
  obtain ⟨w2, hc, hf⟩ := bd_o hf
  refine rw_v (va_runV (As := []) (rest := []) ⟨hx, hb, hml, hown, hw⟩ (c_Mod_forget l D cI q0 q1 q2 q3 q4 q5 q6 q7 (dj_sub hd [0, 1, 2, 3, 4, 5, 6, 7] (by decide) rfl) u1 w2 hc) (cwV 0 hw g_69 rfl rfl rfl (by decide +kernel) ⟨Nat.le_of_ble_eq_true rfl, Nat.le_of_ble_eq_true rfl⟩) (pre_V (P_sub hC hP) hK rfl rfl) rfl rfl hl.1 rfl (lv_room (Nat.le_of_ble_eq_true rfl)) d_Mod_encode_6 ⟨Nat.le_of_ble_eq_true rfl, Nat.le_of_ble_eq_true rfl⟩) hS hP (hD _) hC rfl rfl (fun H locs hP hS => ?_)
  obtain ⟨u3, e_u3, hf⟩ := tk_o hf
  have hP : va_P D cls (wMod cI q0 q1 q2 q3 q4 q5 q6 q7 u3) H := by rw [e_u3]; exact hP
  refine lv_aload_n hx hb d_Mod_encode_9 rfl (lv_at hl 0 rfl) ?_
  refine lv_iconst (v := 0) hx hb d_Mod_encode_10 (by decide) ?_
  refine va_put (D := D) (ci := 7) (v := .int 0) (ty := .int) (C := R_Mod) (T := F_Mod) (N := 28) hx hb hw in_Mod t_Mod t_Mod_ok n_Mod hown hK hP (hD _) hS 0 rfl rfl 17 (by decide) (hw _ m_450) (fun _ h9 => h9) rfl (by decide +kernel) rfl rfl (Nat.le_of_ble_eq_true rfl) d_Mod_encode_11 (fun H locs hP _ hS => ?_)
  obtain ⟨u4, e_u4, hf⟩ := tk_o hf
  have hP : va_P D cls (wMod cI q0 q1 q2 q3 q4 q5 q6 q7 u4) H := by rw [e_u4]; exact hP
  refine lv_aload_n hx hb d_Mod_encode_14 rfl (lv_at hl 0 rfl) ?_
  refine lv_sipush (v := 255) hx hb d_Mod_encode_15 (by decide) ?_
  have hC : [0, 1, 2, 3, 4, 5, 6, 7].map (fun i => (wMod cI q0 q1 q2 q3 q4 q5 q6 q7 u4)[i]?) = (wMod cI q0 q1 q2 q3 q4 q5 q6 q7 u4).map some := rfl
  obtain ⟨w5, hc, hf⟩ := bd_o hf
  refine rw_v (va_runV (As := [.int 255]) (rest := []) ⟨hx, hb, hml, hown, hw⟩ (c_Mod_say l D cI q0 q1 q2 q3 q4 q5 q6 q7 (dj_sub hd [0, 1, 2, 3, 4, 5, 6, 7] (by decide) rfl) 255 u4 w5 hc) (cwV 1 hw g_70 rfl rfl rfl (by decide +kernel) ⟨Nat.le_of_ble_eq_true rfl, Nat.le_of_ble_eq_true rfl⟩) (pre_V (P_sub hC hP) hK rfl rfl) rfl rfl hl.1 rfl (lv_room (Nat.le_of_ble_eq_true rfl)) d_Mod_encode_18 ⟨Nat.le_of_ble_eq_true rfl, Nat.le_of_ble_eq_true rfl⟩) hS hP (hD _) hC rfl rfl (fun H locs hP hS => ?_)
  obtain ⟨u6, e_u6, hf⟩ := tk_o hf
  have hP : va_P D cls (wMod cI q0 q1 q2 q3 q4 q5 q6 q7 u6) H := by rw [e_u6]; exact hP
  refine lv_aload_n hx hb d_Mod_encode_21 rfl (lv_at hl 0 rfl) ?_
  refine lv_sipush (v := 216) hx hb d_Mod_encode_22 (by decide) ?_
  have hC : [0, 1, 2, 3, 4, 5, 6, 7].map (fun i => (wMod cI q0 q1 q2 q3 q4 q5 q6 q7 u6)[i]?) = (wMod cI q0 q1 q2 q3 q4 q5 q6 q7 u6).map some := rfl
  obtain ⟨w7, hc, hf⟩ := bd_o hf
  refine rw_v (va_runV (As := [.int 216]) (rest := []) ⟨hx, hb, hml, hown, hw⟩ (c_Mod_say l D cI q0 q1 q2 q3 q4 q5 q6 q7 (dj_sub hd [0, 1, 2, 3, 4, 5, 6, 7] (by decide) rfl) 216 u6 w7 hc) (cwV 1 hw g_70 rfl rfl rfl (by decide +kernel) ⟨Nat.le_of_ble_eq_true rfl, Nat.le_of_ble_eq_true rfl⟩) (pre_V (P_sub hC hP) hK rfl rfl) rfl rfl hl.1 rfl (lv_room (Nat.le_of_ble_eq_true rfl)) d_Mod_encode_25 ⟨Nat.le_of_ble_eq_true rfl, Nat.le_of_ble_eq_true rfl⟩) hS hP (hD _) hC rfl rfl (fun H locs hP hS => ?_)
  obtain ⟨u8, e_u8, hf⟩ := tk_o hf
  have hP : va_P D cls (wMod cI q0 q1 q2 q3 q4 q5 q6 q7 u8) H := by rw [e_u8]; exact hP
  refine lv_aload_n hx hb d_Mod_encode_28 rfl (lv_at hl 0 rfl) ?_
  refine lv_aload_n hx hb d_Mod_encode_29 rfl (lv_at hl 0 rfl) ?_
  refine va_get (D := D) (ci := 7) (v := .int (u8 0 1)) (C := R_Mod) (T := F_Mod) (N := 28) hx hb hw in_Mod hown hK hP 0 rfl rfl 1 (by decide) (hw _ m_455) (fun _ h9 => h9) rfl d_Mod_encode_30 ?_
  have hC : [0, 1, 2, 3, 4, 5, 6, 7].map (fun i => (wMod cI q0 q1 q2 q3 q4 q5 q6 q7 u8)[i]?) = (wMod cI q0 q1 q2 q3 q4 q5 q6 q7 u8).map some := rfl
  obtain ⟨w9, hc, hf⟩ := bd_o hf
  refine rw_v (va_runV (As := [.int (u8 0 1)]) (rest := []) ⟨hx, hb, hml, hown, hw⟩ (c_Mod_say l D cI q0 q1 q2 q3 q4 q5 q6 q7 (dj_sub hd [0, 1, 2, 3, 4, 5, 6, 7] (by decide) rfl) (u8 0 1) u8 w9 hc) (cwV 1 hw g_70 rfl rfl rfl (by decide +kernel) ⟨Nat.le_of_ble_eq_true rfl, Nat.le_of_ble_eq_true rfl⟩) (pre_V (P_sub hC hP) hK rfl rfl) rfl rfl hl.1 rfl (lv_room (Nat.le_of_ble_eq_true rfl)) d_Mod_encode_33 ⟨Nat.le_of_ble_eq_true rfl, Nat.le_of_ble_eq_true rfl⟩) hS hP (hD _) hC rfl rfl (fun H locs hP hS => ?_)
  obtain ⟨u10, e_u10, hf⟩ := tk_o hf
  have hP : va_P D cls (wMod cI q0 q1 q2 q3 q4 q5 q6 q7 u10) H := by rw [e_u10]; exact hP
  refine lv_aload_n hx hb d_Mod_encode_36 rfl (lv_at hl 0 rfl) ?_
  refine lv_aload_n hx hb d_Mod_encode_37 rfl (lv_at hl 0 rfl) ?_
  refine va_get (D := D) (ci := 7) (v := .int (u10 0 2)) (C := R_Mod) (T := F_Mod) (N := 28) hx hb hw in_Mod hown hK hP 0 rfl rfl 2 (by decide) (hw _ m_456) (fun _ h9 => h9) rfl d_Mod_encode_38 ?_
  have hC : [0, 1, 2, 3, 4, 5, 6, 7].map (fun i => (wMod cI q0 q1 q2 q3 q4 q5 q6 q7 u10)[i]?) = (wMod cI q0 q1 q2 q3 q4 q5 q6 q7 u10).map some := rfl
  obtain ⟨w11, hc, hf⟩ := bd_o hf
  refine rw_v (va_runV (As := [.int (u10 0 2)]) (rest := []) ⟨hx, hb, hml, hown, hw⟩ (c_Mod_say l D cI q0 q1 q2 q3 q4 q5 q6 q7 (dj_sub hd [0, 1, 2, 3, 4, 5, 6, 7] (by decide) rfl) (u10 0 2) u10 w11 hc) (cwV 1 hw g_70 rfl rfl rfl (by decide +kernel) ⟨Nat.le_of_ble_eq_true rfl, Nat.le_of_ble_eq_true rfl⟩) (pre_V (P_sub hC hP) hK rfl rfl) rfl rfl hl.1 rfl (lv_room (Nat.le_of_ble_eq_true rfl)) d_Mod_encode_41 ⟨Nat.le_of_ble_eq_true rfl, Nat.le_of_ble_eq_true rfl⟩) hS hP (hD _) hC rfl rfl (fun H locs hP hS => ?_)
  obtain ⟨u12, e_u12, hf⟩ := tk_o hf
  have hP : va_P D cls (wMod cI q0 q1 q2 q3 q4 q5 q6 q7 u12) H := by rw [e_u12]; exact hP
  refine lv_aload_n hx hb d_Mod_encode_44 rfl (lv_at hl 0 rfl) ?_
  refine lv_aload_n hx hb d_Mod_encode_45 rfl (lv_at hl 0 rfl) ?_
  refine va_get (D := D) (ci := 7) (v := .int (u12 0 3)) (C := R_Mod) (T := F_Mod) (N := 28) hx hb hw in_Mod hown hK hP 0 rfl rfl 3 (by decide) (hw _ m_427) (fun _ h9 => h9) rfl d_Mod_encode_46 ?_
  have hC : [0, 1, 2, 3, 4, 5, 6, 7].map (fun i => (wMod cI q0 q1 q2 q3 q4 q5 q6 q7 u12)[i]?) = (wMod cI q0 q1 q2 q3 q4 q5 q6 q7 u12).map some := rfl
  obtain ⟨w13, hc, hf⟩ := bd_o hf
  refine rw_v (va_runV (As := [.int (u12 0 3)]) (rest := []) ⟨hx, hb, hml, hown, hw⟩ (c_Mod_say l D cI q0 q1 q2 q3 q4 q5 q6 q7 (dj_sub hd [0, 1, 2, 3, 4, 5, 6, 7] (by decide) rfl) (u12 0 3) u12 w13 hc) (cwV 1 hw g_70 rfl rfl rfl (by decide +kernel) ⟨Nat.le_of_ble_eq_true rfl, Nat.le_of_ble_eq_true rfl⟩) (pre_V (P_sub hC hP) hK rfl rfl) rfl rfl hl.1 rfl (lv_room (Nat.le_of_ble_eq_true rfl)) d_Mod_encode_49 ⟨Nat.le_of_ble_eq_true rfl, Nat.le_of_ble_eq_true rfl⟩) hS hP (hD _) hC rfl rfl (fun H locs hP hS => ?_)
  obtain ⟨u14, e_u14, hf⟩ := tk_o hf
  have hP : va_P D cls (wMod cI q0 q1 q2 q3 q4 q5 q6 q7 u14) H := by rw [e_u14]; exact hP
  refine lv_aload_n hx hb d_Mod_encode_52 rfl (lv_at hl 0 rfl) ?_
  refine lv_aload_n hx hb d_Mod_encode_53 rfl (lv_at hl 0 rfl) ?_
  refine va_get (D := D) (ci := 7) (v := .int (u14 0 4)) (C := R_Mod) (T := F_Mod) (N := 28) hx hb hw in_Mod hown hK hP 0 rfl rfl 4 (by decide) (hw _ m_428) (fun _ h9 => h9) rfl d_Mod_encode_54 ?_
  have hC : [0, 1, 2, 3, 4, 5, 6, 7].map (fun i => (wMod cI q0 q1 q2 q3 q4 q5 q6 q7 u14)[i]?) = (wMod cI q0 q1 q2 q3 q4 q5 q6 q7 u14).map some := rfl
  obtain ⟨w15, hc, hf⟩ := bd_o hf
  refine rw_v (va_runV (As := [.int (u14 0 4)]) (rest := []) ⟨hx, hb, hml, hown, hw⟩ (c_Mod_say l D cI q0 q1 q2 q3 q4 q5 q6 q7 (dj_sub hd [0, 1, 2, 3, 4, 5, 6, 7] (by decide) rfl) (u14 0 4) u14 w15 hc) (cwV 1 hw g_70 rfl rfl rfl (by decide +kernel) ⟨Nat.le_of_ble_eq_true rfl, Nat.le_of_ble_eq_true rfl⟩) (pre_V (P_sub hC hP) hK rfl rfl) rfl rfl hl.1 rfl (lv_room (Nat.le_of_ble_eq_true rfl)) d_Mod_encode_57 ⟨Nat.le_of_ble_eq_true rfl, Nat.le_of_ble_eq_true rfl⟩) hS hP (hD _) hC rfl rfl (fun H locs hP hS => ?_)
  obtain ⟨u16, e_u16, hf⟩ := tk_o hf
  have hP : va_P D cls (wMod cI q0 q1 q2 q3 q4 q5 q6 q7 u16) H := by rw [e_u16]; exact hP
  refine lv_aload_n hx hb d_Mod_encode_60 rfl (lv_at hl 0 rfl) ?_
  refine lv_iconst (v := 0) hx hb d_Mod_encode_61 (by decide) ?_
  refine va_put (D := D) (ci := 7) (v := .int 0) (ty := .int) (C := R_Mod) (T := F_Mod) (N := 28) hx hb hw in_Mod t_Mod t_Mod_ok n_Mod hown hK hP (hD _) hS 0 rfl rfl 18 (by decide) (hw _ m_468) (fun _ h9 => h9) rfl (by decide +kernel) rfl rfl (Nat.le_of_ble_eq_true rfl) d_Mod_encode_62 (fun H locs hP _ hS => ?_)
  obtain ⟨u17, e_u17, hf⟩ := tk_o hf
  have hP : va_P D cls (wMod cI q0 q1 q2 q3 q4 q5 q6 q7 u17) H := by rw [e_u17]; exact hP
  refine lv_aload_n hx hb d_Mod_encode_65 rfl (lv_at hl 0 rfl) ?_
  refine lv_iconst (v := 0) hx hb d_Mod_encode_66 (by decide) ?_
  refine va_put (D := D) (ci := 7) (v := .int 0) (ty := .int) (C := R_Mod) (T := F_Mod) (N := 28) hx hb hw in_Mod t_Mod t_Mod_ok n_Mod hown hK hP (hD _) hS 0 rfl rfl 19 (by decide) (hw _ m_467) (fun _ h9 => h9) rfl (by decide +kernel) rfl rfl (Nat.le_of_ble_eq_true rfl) d_Mod_encode_67 (fun H locs hP _ hS => ?_)
  obtain ⟨u18, e_u18, hf⟩ := tk_o hf
  have hP : va_P D cls (wMod cI q0 q1 q2 q3 q4 q5 q6 q7 u18) H := by rw [e_u18]; exact hP
  refine lv_aload_n hx hb d_Mod_encode_70 rfl (lv_at hl 0 rfl) ?_
  refine lv_iconst (v := 0) hx hb d_Mod_encode_71 (by decide) ?_
  refine va_put (D := D) (ci := 7) (v := .int 0) (ty := .boolean) (C := R_Mod) (T := F_Mod) (N := 28) hx hb hw in_Mod t_Mod t_Mod_ok n_Mod hown hK hP (hD _) hS 0 rfl rfl 20 (by decide) (hw _ m_532) (fun _ h9 => h9) rfl (by decide +kernel) rfl rfl (Nat.le_of_ble_eq_true rfl) d_Mod_encode_72 (fun H locs hP _ hS => ?_)
  obtain ⟨u19, e_u19, hf⟩ := tk_o hf
  have hP : va_P D cls (wMod cI q0 q1 q2 q3 q4 q5 q6 q7 u19) H := by rw [e_u19]; exact hP
  refine lv_aload_n hx hb d_Mod_encode_75 rfl (lv_at hl 0 rfl) ?_
  refine lv_iconst (v := 1) hx hb d_Mod_encode_76 (by decide) ?_
  refine va_put (D := D) (ci := 7) (v := .int 1) (ty := .boolean) (C := R_Mod) (T := F_Mod) (N := 28) hx hb hw in_Mod t_Mod t_Mod_ok n_Mod hown hK hP (hD _) hS 0 rfl rfl 24 (by decide) (hw _ m_480) (fun _ h9 => h9) rfl (by decide +kernel) rfl rfl (Nat.le_of_ble_eq_true rfl) d_Mod_encode_77 (fun H locs hP _ hS => ?_)
  obtain ⟨u20, e_u20, hf⟩ := tk_o hf
  have hP : va_P D cls (wMod cI q0 q1 q2 q3 q4 q5 q6 q7 u20) H := by rw [e_u20]; exact hP
  refine lv_aload_n hx hb d_Mod_encode_80 rfl (lv_at hl 0 rfl) ?_
  have hC : [0, 1, 2, 3, 4, 5, 6, 7].map (fun i => (wMod cI q0 q1 q2 q3 q4 q5 q6 q7 u20)[i]?) = (wMod cI q0 q1 q2 q3 q4 q5 q6 q7 u20).map some := rfl
  obtain ⟨w21, hc, hf⟩ := bd_o hf
  refine rw_v (va_runV (As := []) (rest := []) ⟨hx, hb, hml, hown, hw⟩ (c_Mod_walk l D cI q0 q1 q2 q3 q4 q5 q6 q7 (dj_sub hd [0, 1, 2, 3, 4, 5, 6, 7] (by decide) rfl) u20 w21 hc) (cwV 0 hw g_98 rfl rfl rfl (by decide +kernel) ⟨Nat.le_of_ble_eq_true rfl, Nat.le_of_ble_eq_true rfl⟩) (pre_V (P_sub hC hP) hK rfl rfl) rfl rfl hl.1 rfl (lv_room (Nat.le_of_ble_eq_true rfl)) d_Mod_encode_81 ⟨Nat.le_of_ble_eq_true rfl, Nat.le_of_ble_eq_true rfl⟩) hS hP (hD _) hC rfl rfl (fun H locs hP hS => ?_)
  obtain ⟨u22, e_u22, hf⟩ := tk_o hf
  have hP : va_P D cls (wMod cI q0 q1 q2 q3 q4 q5 q6 q7 u22) H := by rw [e_u22]; exact hP
  refine lv_aload_n hx hb d_Mod_encode_84 rfl (lv_at hl 0 rfl) ?_
  refine va_get (D := D) (ci := 7) (v := .int (u22 0 15)) (C := R_Mod) (T := F_Mod) (N := 28) hx hb hw in_Mod hown hK hP 0 rfl rfl 19 (by decide) (hw _ m_467) (fun _ h9 => h9) rfl d_Mod_encode_85 ?_
  refine lv_if_le (tgt := 103) hx hb d_Mod_encode_88 (by decide) (fun hc => ?_) (fun hc => ?_)
  · have hf := bq_t hf hc
    exact j103 _ _ _  u22 (lv_sub hl [0] rfl) hP hS hf
  have hf := bq_n hf hc
  refine lv_aload_n hx hb d_Mod_encode_91 rfl (lv_at hl 0 rfl) ?_
  refine lv_iconst (v := 0) hx hb d_Mod_encode_92 (by decide) ?_
  refine lv_bipush (v := 8) hx hb d_Mod_encode_93 (by decide) ?_
  refine lv_aload_n hx hb d_Mod_encode_95 rfl (lv_at hl 0 rfl) ?_
  refine va_get (D := D) (ci := 7) (v := .int (u22 0 15)) (C := R_Mod) (T := F_Mod) (N := 28) hx hb hw in_Mod hown hK hP 0 rfl rfl 19 (by decide) (hw _ m_467) (fun _ h9 => h9) rfl d_Mod_encode_96 ?_
  refine lv_isub hx hb d_Mod_encode_99 ?_
  have hC : [0, 1, 2, 3, 4, 5, 6, 7].map (fun i => (wMod cI q0 q1 q2 q3 q4 q5 q6 q7 u22)[i]?) = (wMod cI q0 q1 q2 q3 q4 q5 q6 q7 u22).map some := rfl
  obtain ⟨w23, hc, hf⟩ := bd_o hf
  refine rw_v (va_runV (As := [.int 0, .int (8 - (u22 0 15))]) (rest := []) ⟨hx, hb, hml, hown, hw⟩ (c_Mod_putMany l D cI q0 q1 q2 q3 q4 q5 q6 q7 (dj_sub hd [0, 1, 2, 3, 4, 5, 6, 7] (by decide) rfl) 0 (8 - (u22 0 15)) u22 w23 hc) (cwV 2 hw g_73 rfl rfl rfl (by decide +kernel) ⟨Nat.le_of_ble_eq_true rfl, Nat.le_of_ble_eq_true rfl⟩) (pre_V (P_sub hC hP) hK rfl rfl) rfl rfl hl.1 rfl (lv_room (Nat.le_of_ble_eq_true rfl)) d_Mod_encode_100 ⟨Nat.le_of_ble_eq_true rfl, Nat.le_of_ble_eq_true rfl⟩) hS hP (hD _) hC rfl rfl (fun H locs hP hS => ?_)
  obtain ⟨u24, e_u24, hf⟩ := tk_o hf
  have hP : va_P D cls (wMod cI q0 q1 q2 q3 q4 q5 q6 q7 u24) H := by rw [e_u24]; exact hP
  exact j103 _ _ _  u24 (lv_sub hl [0] rfl) hP hS hf
def L_Mod_keep_40 : Nat → Int32 → gU → Option (gU)
  | 0, _, _ => none
  | n + 1, l1, u => bq (1835 ≤ l1) (some u) (gd (ix l1 1835) (gd (ix l1 1835) (tk (st2 u 7 (tc l1) (u 3 (tc l1))) fun u3 => tk (l1 + 1) fun x4 => (L_Mod_keep_40 n) x4 u3)))
theorem L_Mod_keep_40_z (l1 : Int32) (u : gU) : L_Mod_keep_40 0 l1 u = none := rfl
theorem L_Mod_keep_40_s (n : Nat) (l1 : Int32) (u : gU) : L_Mod_keep_40 (n + 1) l1 u = bq (1835 ≤ l1) (some u) (gd (ix l1 1835) (gd (ix l1 1835) (tk (st2 u 7 (tc l1) (u 3 (tc l1))) fun u3 => tk (l1 + 1) fun x4 => (L_Mod_keep_40 n) x4 u3))) := rfl
def L_Mod_keep_2 : Nat → Int32 → gU → Option (gU)
  | 0, _, _ => none
  | n + 1, l1, u => bq (64 ≤ l1) (L_Mod_keep_40 2000 0 u) (gd (ix l1 64) (gd (ix l1 64) (tk (st2 u 5 (tc l1) (u 1 (tc l1))) fun u3 => gd (ix l1 64) (gd (ix l1 64) (tk (st2 u3 6 (tc l1) (u3 2 (tc l1))) fun u6 => tk (l1 + 1) fun x7 => (L_Mod_keep_2 n) x7 u6)))))
theorem L_Mod_keep_2_z (l1 : Int32) (u : gU) : L_Mod_keep_2 0 l1 u = none := rfl
theorem L_Mod_keep_2_s (n : Nat) (l1 : Int32) (u : gU) : L_Mod_keep_2 (n + 1) l1 u = bq (64 ≤ l1) (L_Mod_keep_40 2000 0 u) (gd (ix l1 64) (gd (ix l1 64) (tk (st2 u 5 (tc l1) (u 1 (tc l1))) fun u3 => gd (ix l1 64) (gd (ix l1 64) (tk (st2 u3 6 (tc l1) (u3 2 (tc l1))) fun u6 => tk (l1 + 1) fun x7 => (L_Mod_keep_2 n) x7 u6))))) := rfl
def f_Mod_keep (u : gU) : Option (gU) := L_Mod_keep_2 2000 0 u
set_option maxHeartbeats 4000000 in
set_option maxRecDepth 100000 in
theorem c_Mod_keep (l : Launch) (D : va_G) (cI : ClassId) (q0 : Nat) (q1 : Nat) (q2 : Nat) (q3 : Nat) (q4 : Nat) (q5 : Nat) (q6 : Nat) (q7 : Nat) (hd : dj [q0, q1, q2, q3, q4, q5, q6, q7]) (u : gU) (v : gU) (hf : f_Mod_keep u = some v) : Met l y_Mod_keep (.code y_Mod_keep b_Mod_keep 2 none :: TS) ({ frames := 0, cells := 0, slots := 0, locals := 0 }) (va_Pc [.ref q0] (fun U => va_P D cls (wMod cI q0 q1 q2 q3 q4 q5 q6 q7 u) U.heap ∧ va_K D cls [(cI, .int)] U)) (va_Qv (fun (_ : Unit) => True) (fun _ t => va_P D cls (wMod cI q0 q1 q2 q3 q4 q5 q6 q7 v) t.heap) (ad [q0, q1, q2, q3, q4, q5, q6, q7])) 0 0 (ad [q0, q1, q2, q3, q4, q5, q6, q7]) := by
  refine ct_of (by decide +kernel) (Nat.le_of_ble_eq_true rfl) ?_
  intro p e s m below meth c ls hx hb hml hr hlocks hown hw hP hK hl
  have hS : va_S (ad [q0, q1, q2, q3, q4, q5, q6, q7]) s.heap s.heap [] := va_S.rf
  have hD : ∀ v, va_D (ad [q0, q1, q2, q3, q4, q5, q6, q7]) (wMod cI q0 q1 q2 q3 q4 q5 q6 q7 v) := fun _ => dj_D rfl hd
  have hl : lv_has ls 2 [(0, .ref q0)] := hl
  have hP : va_P D cls (wMod cI q0 q1 q2 q3 q4 q5 q6 q7 u) s.heap := hP
  have lp40 : ∀ (n40 : Nat), ∀ (ls : Array Slot) (H : Heap) (locs : List Loc) (l1 : Int32) (u : gU), lv_has ls 2 [(0, .ref q0), (1, .int l1)] → va_P D cls (wMod cI q0 q1 q2 q3 q4 q5 q6 q7 u) H → va_S (ad [q0, q1, q2, q3, q4, q5, q6, q7]) s.heap H locs → L_Mod_keep_40 n40 l1 u = some v → W p l e ({ frames := 0, cells := 0, slots := 0, locals := 0 }) s m [.ref q0].toArray below meth c H locs 0 0 (MQ below (va_Qv (fun (_ : Unit) => True) (fun _ t => va_P D cls (wMod cI q0 q1 q2 q3 q4 q5 q6 q7 v) t.heap) (ad [q0, q1, q2, q3, q4, q5, q6, q7])) [.ref q0].toArray s 0 0 (ad [q0, q1, q2, q3, q4, q5, q6, q7])) (F0 m 40 ls []) := by
    intro n40
    induction n40 with
    | zero =>
      intro ls H locs l1 u hl hP hS hf
      rw [L_Mod_keep_40_z] at hf
      cases hf
    | succ n40 ih40 =>
      intro ls H locs l1 u hl hP hS hf
      rw [L_Mod_keep_40_s] at hf
      refine lv_iload_n hx hb d_Mod_keep_40 rfl (lv_at hl 1 rfl) ?_
      refine lv_sipush (v := 1835) hx hb d_Mod_keep_41 (by decide) ?_
      refine lv_icmp_ge (tgt := 65) hx hb d_Mod_keep_44 (by decide) (fun hc => ?_) (fun hc => ?_)
      · have hf := bq_t hf hc
        exact rt_v (wMod cI q0 q1 q2 q3 q4 q5 q6 q7) hx hb hr hlocks hS hP hf d_Mod_keep_65
      have hf := bq_n hf hc
      refine lv_aload_n hx hb d_Mod_keep_47 rfl (lv_at hl 0 rfl) ?_
      refine va_get (D := D) (ci := 7) (v := .ref q7) (C := R_Mod) (T := F_Mod) (N := 28) hx hb hw in_Mod hown hK hP 0 rfl rfl 27 (by decide) (hw _ m_587) (fun _ h9 => h9) rfl d_Mod_keep_48 ?_
      refine lv_iload_n hx hb d_Mod_keep_51 rfl (lv_at hl 1 rfl) ?_
      refine lv_aload_n hx hb d_Mod_keep_52 rfl (lv_at hl 0 rfl) ?_
      refine va_get (D := D) (ci := 7) (v := .ref q3) (C := R_Mod) (T := F_Mod) (N := 28) hx hb hw in_Mod hown hK hP 0 rfl rfl 14 (by decide) (hw _ m_449) (fun _ h9 => h9) rfl d_Mod_keep_53 ?_
      refine lv_iload_n hx hb d_Mod_keep_56 rfl (lv_at hl 1 rfl) ?_
      obtain ⟨h1, hf⟩ := gd_o hf
      refine va_iald hx hb hK hP 3 0 rfl rfl (ix_in h1) d_Mod_keep_57 ?_
      obtain ⟨h2, hf⟩ := gd_o hf
      refine va_iast hx hb hK hP (hD _) hS 7 0 rfl rfl (ix_in h2) d_Mod_keep_58 (fun H locs hP _ hS => ?_)
      obtain ⟨u3, e_u3, hf⟩ := tk_o hf
      have hP : va_P D cls (wMod cI q0 q1 q2 q3 q4 q5 q6 q7 u3) H := by rw [e_u3]; exact hP
      obtain ⟨x4, e_x4, hf⟩ := tk_o hf
      refine lv_iinc (v := x4) (lv' := [(1, .int x4), (0, .ref q0)]) hx hb d_Mod_keep_59 hl (k := 1) rfl e_x4.symm (by decide) rfl (fun ls hl => ?_)
      refine lv_goto (tgt := 40) hx hb d_Mod_keep_62 (by decide) ?_
      exact ih40 _ _ _ x4 u3 (lv_sub hl [1, 0] rfl) hP hS hf
  have lp2 : ∀ (n2 : Nat), ∀ (ls : Array Slot) (H : Heap) (locs : List Loc) (l1 : Int32) (u : gU), lv_has ls 2 [(0, .ref q0), (1, .int l1)] → va_P D cls (wMod cI q0 q1 q2 q3 q4 q5 q6 q7 u) H → va_S (ad [q0, q1, q2, q3, q4, q5, q6, q7]) s.heap H locs → L_Mod_keep_2 n2 l1 u = some v → W p l e ({ frames := 0, cells := 0, slots := 0, locals := 0 }) s m [.ref q0].toArray below meth c H locs 0 0 (MQ below (va_Qv (fun (_ : Unit) => True) (fun _ t => va_P D cls (wMod cI q0 q1 q2 q3 q4 q5 q6 q7 v) t.heap) (ad [q0, q1, q2, q3, q4, q5, q6, q7])) [.ref q0].toArray s 0 0 (ad [q0, q1, q2, q3, q4, q5, q6, q7])) (F0 m 2 ls []) := by
    intro n2
    induction n2 with
    | zero =>
      intro ls H locs l1 u hl hP hS hf
      rw [L_Mod_keep_2_z] at hf
      cases hf
    | succ n2 ih2 =>
      intro ls H locs l1 u hl hP hS hf
      rw [L_Mod_keep_2_s] at hf
      refine lv_iload_n hx hb d_Mod_keep_2 rfl (lv_at hl 1 rfl) ?_
      refine lv_bipush (v := 64) hx hb d_Mod_keep_3 (by decide) ?_
      refine lv_icmp_ge (tgt := 38) hx hb d_Mod_keep_5 (by decide) (fun hc => ?_) (fun hc => ?_)
      · have hf := bq_t hf hc
        refine lv_iconst (v := 0) hx hb d_Mod_keep_38 (by decide) ?_
        refine lv_istore_n (lv' := [(1, .int 0), (0, .ref q0)]) hx hb d_Mod_keep_39 rfl hl (by decide) rfl (fun ls hl => ?_)
        exact lp40 2000 _ _ _ 0 u (lv_sub hl [1, 0] rfl) hP hS hf
      have hf := bq_n hf hc
      refine lv_aload_n hx hb d_Mod_keep_8 rfl (lv_at hl 0 rfl) ?_
      refine va_get (D := D) (ci := 7) (v := .ref q5) (C := R_Mod) (T := F_Mod) (N := 28) hx hb hw in_Mod hown hK hP 0 rfl rfl 25 (by decide) (hw _ m_588) (fun _ h9 => h9) rfl d_Mod_keep_9 ?_
      refine lv_iload_n hx hb d_Mod_keep_12 rfl (lv_at hl 1 rfl) ?_
      refine lv_aload_n hx hb d_Mod_keep_13 rfl (lv_at hl 0 rfl) ?_
      refine va_get (D := D) (ci := 7) (v := .ref q1) (C := R_Mod) (T := F_Mod) (N := 28) hx hb hw in_Mod hown hK hP 0 rfl rfl 12 (by decide) (hw _ m_451) (fun _ h9 => h9) rfl d_Mod_keep_14 ?_
      refine lv_iload_n hx hb d_Mod_keep_17 rfl (lv_at hl 1 rfl) ?_
      obtain ⟨h1, hf⟩ := gd_o hf
      refine va_iald hx hb hK hP 1 0 rfl rfl (ix_in h1) d_Mod_keep_18 ?_
      obtain ⟨h2, hf⟩ := gd_o hf
      refine va_iast hx hb hK hP (hD _) hS 5 0 rfl rfl (ix_in h2) d_Mod_keep_19 (fun H locs hP _ hS => ?_)
      obtain ⟨u3, e_u3, hf⟩ := tk_o hf
      have hP : va_P D cls (wMod cI q0 q1 q2 q3 q4 q5 q6 q7 u3) H := by rw [e_u3]; exact hP
      refine lv_aload_n hx hb d_Mod_keep_20 rfl (lv_at hl 0 rfl) ?_
      refine va_get (D := D) (ci := 7) (v := .ref q6) (C := R_Mod) (T := F_Mod) (N := 28) hx hb hw in_Mod hown hK hP 0 rfl rfl 26 (by decide) (hw _ m_589) (fun _ h9 => h9) rfl d_Mod_keep_21 ?_
      refine lv_iload_n hx hb d_Mod_keep_24 rfl (lv_at hl 1 rfl) ?_
      refine lv_aload_n hx hb d_Mod_keep_25 rfl (lv_at hl 0 rfl) ?_
      refine va_get (D := D) (ci := 7) (v := .ref q2) (C := R_Mod) (T := F_Mod) (N := 28) hx hb hw in_Mod hown hK hP 0 rfl rfl 13 (by decide) (hw _ m_447) (fun _ h9 => h9) rfl d_Mod_keep_26 ?_
      refine lv_iload_n hx hb d_Mod_keep_29 rfl (lv_at hl 1 rfl) ?_
      obtain ⟨h4, hf⟩ := gd_o hf
      refine va_iald hx hb hK hP 2 0 rfl rfl (ix_in h4) d_Mod_keep_30 ?_
      obtain ⟨h5, hf⟩ := gd_o hf
      refine va_iast hx hb hK hP (hD _) hS 6 0 rfl rfl (ix_in h5) d_Mod_keep_31 (fun H locs hP _ hS => ?_)
      obtain ⟨u6, e_u6, hf⟩ := tk_o hf
      have hP : va_P D cls (wMod cI q0 q1 q2 q3 q4 q5 q6 q7 u6) H := by rw [e_u6]; exact hP
      obtain ⟨x7, e_x7, hf⟩ := tk_o hf
      refine lv_iinc (v := x7) (lv' := [(1, .int x7), (0, .ref q0)]) hx hb d_Mod_keep_32 hl (k := 1) rfl e_x7.symm (by decide) rfl (fun ls hl => ?_)
      refine lv_goto (tgt := 2) hx hb d_Mod_keep_35 (by decide) ?_
      exact ih2 _ _ _ x7 u6 (lv_sub hl [1, 0] rfl) hP hS hf
  unfold f_Mod_keep at hf
  refine lv_iconst (v := 0) hx hb d_Mod_keep_0 (by decide) ?_
  refine lv_istore_n (lv' := [(1, .int 0), (0, .ref q0)]) hx hb d_Mod_keep_1 rfl hl (by decide) rfl (fun ls hl => ?_)
  exact lp2 2000 _ _ _ 0 u (lv_sub hl [1, 0] rfl) hP hS hf
def L_Mod_putBack_78 : Nat → Int32 → gU → Option (gU)
  | 0, _, _ => none
  | n + 1, l6, u => bq (1835 ≤ l6) (some u) (gd (ix l6 1835) (gd (ix l6 1835) (tk (st2 u 3 (tc l6) (u 7 (tc l6))) fun u3 => tk (l6 + 1) fun x4 => (L_Mod_putBack_78 n) x4 u3)))
theorem L_Mod_putBack_78_z (l6 : Int32) (u : gU) : L_Mod_putBack_78 0 l6 u = none := rfl
theorem L_Mod_putBack_78_s (n : Nat) (l6 : Int32) (u : gU) : L_Mod_putBack_78 (n + 1) l6 u = bq (1835 ≤ l6) (some u) (gd (ix l6 1835) (gd (ix l6 1835) (tk (st2 u 3 (tc l6) (u 7 (tc l6))) fun u3 => tk (l6 + 1) fun x4 => (L_Mod_putBack_78 n) x4 u3))) := rfl
def L_Mod_putBack_34 : Nat → Int32 → gU → Option (gU)
  | 0, _, _ => none
  | n + 1, l6, u => bq (64 ≤ l6) (L_Mod_putBack_78 2000 0 u) (gd (ix l6 64) (gd (ix l6 64) (tk (st2 u 1 (tc l6) (u 5 (tc l6))) fun u3 => gd (ix l6 64) (gd (ix l6 64) (tk (st2 u3 2 (tc l6) (u3 6 (tc l6))) fun u6 => tk (l6 + 1) fun x7 => (L_Mod_putBack_34 n) x7 u6)))))
theorem L_Mod_putBack_34_z (l6 : Int32) (u : gU) : L_Mod_putBack_34 0 l6 u = none := rfl
theorem L_Mod_putBack_34_s (n : Nat) (l6 : Int32) (u : gU) : L_Mod_putBack_34 (n + 1) l6 u = bq (64 ≤ l6) (L_Mod_putBack_78 2000 0 u) (gd (ix l6 64) (gd (ix l6 64) (tk (st2 u 1 (tc l6) (u 5 (tc l6))) fun u3 => gd (ix l6 64) (gd (ix l6 64) (tk (st2 u3 2 (tc l6) (u3 6 (tc l6))) fun u6 => tk (l6 + 1) fun x7 => (L_Mod_putBack_34 n) x7 u6))))) := rfl
def f_Mod_putBack (a1 : Int32) (a2 : Int32) (a3 : Int32) (a4 : Int32) (a5 : Int32) (u : gU) : Option (gU) := tk (st2 u 0 1 a1) fun u1 => tk (st2 u1 0 2 a2) fun u2 => tk (st2 u2 0 3 a3) fun u3 => tk (st2 u3 0 4 a4) fun u4 => bd (f_Mod_prepare u4) fun w5 => tk (w5) fun u6 => tk (st2 u6 0 12 a5) fun u7 => L_Mod_putBack_34 2000 0 u7
set_option maxHeartbeats 4000000 in
set_option maxRecDepth 100000 in
theorem c_Mod_putBack (l : Launch) (D : va_G) (cI : ClassId) (q0 : Nat) (q1 : Nat) (q2 : Nat) (q3 : Nat) (q4 : Nat) (q5 : Nat) (q6 : Nat) (q7 : Nat) (hd : dj [q0, q1, q2, q3, q4, q5, q6, q7]) (a1 : Int32) (a2 : Int32) (a3 : Int32) (a4 : Int32) (a5 : Int32) (u : gU) (v : gU) (hf : f_Mod_putBack a1 a2 a3 a4 a5 u = some v) : Met l y_Mod_putBack (.code y_Mod_putBack b_Mod_putBack 7 none :: TS) ({ frames := 2, cells := 0, slots := 0, locals := 44 }) (va_Pc [.ref q0, .int a1, .int a2, .int a3, .int a4, .int a5] (fun U => va_P D cls (wMod cI q0 q1 q2 q3 q4 q5 q6 q7 u) U.heap ∧ va_K D cls [(cI, .int)] U)) (va_Qv (fun (_ : Unit) => True) (fun _ t => va_P D cls (wMod cI q0 q1 q2 q3 q4 q5 q6 q7 v) t.heap) (ad [q0, q1, q2, q3, q4, q5, q6, q7])) 0 0 (ad [q0, q1, q2, q3, q4, q5, q6, q7]) := by
  refine ct_of (by decide +kernel) (Nat.le_of_ble_eq_true rfl) ?_
  intro p e s m below meth c ls hx hb hml hr hlocks hown hw hP hK hl
  have hS : va_S (ad [q0, q1, q2, q3, q4, q5, q6, q7]) s.heap s.heap [] := va_S.rf
  have hD : ∀ v, va_D (ad [q0, q1, q2, q3, q4, q5, q6, q7]) (wMod cI q0 q1 q2 q3 q4 q5 q6 q7 v) := fun _ => dj_D rfl hd
  have hl : lv_has ls 7 [(0, .ref q0), (1, .int a1), (2, .int a2), (3, .int a3), (4, .int a4), (5, .int a5)] := hl
  have hP : va_P D cls (wMod cI q0 q1 q2 q3 q4 q5 q6 q7 u) s.heap := hP
  have lp78 : ∀ (n78 : Nat), ∀ (ls : Array Slot) (H : Heap) (locs : List Loc) (l6 : Int32) (u : gU), lv_has ls 7 [(0, .ref q0), (6, .int l6)] → va_P D cls (wMod cI q0 q1 q2 q3 q4 q5 q6 q7 u) H → va_S (ad [q0, q1, q2, q3, q4, q5, q6, q7]) s.heap H locs → L_Mod_putBack_78 n78 l6 u = some v → W p l e ({ frames := 2, cells := 0, slots := 0, locals := 44 }) s m [.ref q0, .int a1, .int a2, .int a3, .int a4, .int a5].toArray below meth c H locs 0 0 (MQ below (va_Qv (fun (_ : Unit) => True) (fun _ t => va_P D cls (wMod cI q0 q1 q2 q3 q4 q5 q6 q7 v) t.heap) (ad [q0, q1, q2, q3, q4, q5, q6, q7])) [.ref q0, .int a1, .int a2, .int a3, .int a4, .int a5].toArray s 0 0 (ad [q0, q1, q2, q3, q4, q5, q6, q7])) (F0 m 78 ls []) := by
    intro n78
    induction n78 with
    | zero =>
      intro ls H locs l6 u hl hP hS hf
      rw [L_Mod_putBack_78_z] at hf
      cases hf
    | succ n78 ih78 =>
      intro ls H locs l6 u hl hP hS hf
      rw [L_Mod_putBack_78_s] at hf
      refine lv_iload hx hb d_Mod_putBack_78 (lv_at hl 1 rfl) ?_
      refine lv_sipush (v := 1835) hx hb d_Mod_putBack_80 (by decide) ?_
      refine lv_icmp_ge (tgt := 106) hx hb d_Mod_putBack_83 (by decide) (fun hc => ?_) (fun hc => ?_)
      · have hf := bq_t hf hc
        exact rt_v (wMod cI q0 q1 q2 q3 q4 q5 q6 q7) hx hb hr hlocks hS hP hf d_Mod_putBack_106
      have hf := bq_n hf hc
      refine lv_aload_n hx hb d_Mod_putBack_86 rfl (lv_at hl 0 rfl) ?_
      refine va_get (D := D) (ci := 7) (v := .ref q3) (C := R_Mod) (T := F_Mod) (N := 28) hx hb hw in_Mod hown hK hP 0 rfl rfl 14 (by decide) (hw _ m_449) (fun _ h9 => h9) rfl d_Mod_putBack_87 ?_
      refine lv_iload hx hb d_Mod_putBack_90 (lv_at hl 1 rfl) ?_
      refine lv_aload_n hx hb d_Mod_putBack_92 rfl (lv_at hl 0 rfl) ?_
      refine va_get (D := D) (ci := 7) (v := .ref q7) (C := R_Mod) (T := F_Mod) (N := 28) hx hb hw in_Mod hown hK hP 0 rfl rfl 27 (by decide) (hw _ m_587) (fun _ h9 => h9) rfl d_Mod_putBack_93 ?_
      refine lv_iload hx hb d_Mod_putBack_96 (lv_at hl 1 rfl) ?_
      obtain ⟨h1, hf⟩ := gd_o hf
      refine va_iald hx hb hK hP 7 0 rfl rfl (ix_in h1) d_Mod_putBack_98 ?_
      obtain ⟨h2, hf⟩ := gd_o hf
      refine va_iast hx hb hK hP (hD _) hS 3 0 rfl rfl (ix_in h2) d_Mod_putBack_99 (fun H locs hP _ hS => ?_)
      obtain ⟨u3, e_u3, hf⟩ := tk_o hf
      have hP : va_P D cls (wMod cI q0 q1 q2 q3 q4 q5 q6 q7 u3) H := by rw [e_u3]; exact hP
      obtain ⟨x4, e_x4, hf⟩ := tk_o hf
      refine lv_iinc (v := x4) (lv' := [(6, .int x4), (0, .ref q0)]) hx hb d_Mod_putBack_100 hl (k := 1) rfl e_x4.symm (by decide) rfl (fun ls hl => ?_)
      refine lv_goto (tgt := 78) hx hb d_Mod_putBack_103 (by decide) ?_
      exact ih78 _ _ _ x4 u3 (lv_sub hl [1, 0] rfl) hP hS hf
  have lp34 : ∀ (n34 : Nat), ∀ (ls : Array Slot) (H : Heap) (locs : List Loc) (l6 : Int32) (u : gU), lv_has ls 7 [(0, .ref q0), (6, .int l6)] → va_P D cls (wMod cI q0 q1 q2 q3 q4 q5 q6 q7 u) H → va_S (ad [q0, q1, q2, q3, q4, q5, q6, q7]) s.heap H locs → L_Mod_putBack_34 n34 l6 u = some v → W p l e ({ frames := 2, cells := 0, slots := 0, locals := 44 }) s m [.ref q0, .int a1, .int a2, .int a3, .int a4, .int a5].toArray below meth c H locs 0 0 (MQ below (va_Qv (fun (_ : Unit) => True) (fun _ t => va_P D cls (wMod cI q0 q1 q2 q3 q4 q5 q6 q7 v) t.heap) (ad [q0, q1, q2, q3, q4, q5, q6, q7])) [.ref q0, .int a1, .int a2, .int a3, .int a4, .int a5].toArray s 0 0 (ad [q0, q1, q2, q3, q4, q5, q6, q7])) (F0 m 34 ls []) := by
    intro n34
    induction n34 with
    | zero =>
      intro ls H locs l6 u hl hP hS hf
      rw [L_Mod_putBack_34_z] at hf
      cases hf
    | succ n34 ih34 =>
      intro ls H locs l6 u hl hP hS hf
      rw [L_Mod_putBack_34_s] at hf
      refine lv_iload hx hb d_Mod_putBack_34 (lv_at hl 1 rfl) ?_
      refine lv_bipush (v := 64) hx hb d_Mod_putBack_36 (by decide) ?_
      refine lv_icmp_ge (tgt := 75) hx hb d_Mod_putBack_38 (by decide) (fun hc => ?_) (fun hc => ?_)
      · have hf := bq_t hf hc
        refine lv_iconst (v := 0) hx hb d_Mod_putBack_75 (by decide) ?_
        refine lv_istore (lv' := [(6, .int 0), (0, .ref q0)]) hx hb d_Mod_putBack_76 hl (by decide) rfl (fun ls hl => ?_)
        exact lp78 2000 _ _ _ 0 u (lv_sub hl [1, 0] rfl) hP hS hf
      have hf := bq_n hf hc
      refine lv_aload_n hx hb d_Mod_putBack_41 rfl (lv_at hl 0 rfl) ?_
      refine va_get (D := D) (ci := 7) (v := .ref q1) (C := R_Mod) (T := F_Mod) (N := 28) hx hb hw in_Mod hown hK hP 0 rfl rfl 12 (by decide) (hw _ m_451) (fun _ h9 => h9) rfl d_Mod_putBack_42 ?_
      refine lv_iload hx hb d_Mod_putBack_45 (lv_at hl 1 rfl) ?_
      refine lv_aload_n hx hb d_Mod_putBack_47 rfl (lv_at hl 0 rfl) ?_
      refine va_get (D := D) (ci := 7) (v := .ref q5) (C := R_Mod) (T := F_Mod) (N := 28) hx hb hw in_Mod hown hK hP 0 rfl rfl 25 (by decide) (hw _ m_588) (fun _ h9 => h9) rfl d_Mod_putBack_48 ?_
      refine lv_iload hx hb d_Mod_putBack_51 (lv_at hl 1 rfl) ?_
      obtain ⟨h1, hf⟩ := gd_o hf
      refine va_iald hx hb hK hP 5 0 rfl rfl (ix_in h1) d_Mod_putBack_53 ?_
      obtain ⟨h2, hf⟩ := gd_o hf
      refine va_iast hx hb hK hP (hD _) hS 1 0 rfl rfl (ix_in h2) d_Mod_putBack_54 (fun H locs hP _ hS => ?_)
      obtain ⟨u3, e_u3, hf⟩ := tk_o hf
      have hP : va_P D cls (wMod cI q0 q1 q2 q3 q4 q5 q6 q7 u3) H := by rw [e_u3]; exact hP
      refine lv_aload_n hx hb d_Mod_putBack_55 rfl (lv_at hl 0 rfl) ?_
      refine va_get (D := D) (ci := 7) (v := .ref q2) (C := R_Mod) (T := F_Mod) (N := 28) hx hb hw in_Mod hown hK hP 0 rfl rfl 13 (by decide) (hw _ m_447) (fun _ h9 => h9) rfl d_Mod_putBack_56 ?_
      refine lv_iload hx hb d_Mod_putBack_59 (lv_at hl 1 rfl) ?_
      refine lv_aload_n hx hb d_Mod_putBack_61 rfl (lv_at hl 0 rfl) ?_
      refine va_get (D := D) (ci := 7) (v := .ref q6) (C := R_Mod) (T := F_Mod) (N := 28) hx hb hw in_Mod hown hK hP 0 rfl rfl 26 (by decide) (hw _ m_589) (fun _ h9 => h9) rfl d_Mod_putBack_62 ?_
      refine lv_iload hx hb d_Mod_putBack_65 (lv_at hl 1 rfl) ?_
      obtain ⟨h4, hf⟩ := gd_o hf
      refine va_iald hx hb hK hP 6 0 rfl rfl (ix_in h4) d_Mod_putBack_67 ?_
      obtain ⟨h5, hf⟩ := gd_o hf
      refine va_iast hx hb hK hP (hD _) hS 2 0 rfl rfl (ix_in h5) d_Mod_putBack_68 (fun H locs hP _ hS => ?_)
      obtain ⟨u6, e_u6, hf⟩ := tk_o hf
      have hP : va_P D cls (wMod cI q0 q1 q2 q3 q4 q5 q6 q7 u6) H := by rw [e_u6]; exact hP
      obtain ⟨x7, e_x7, hf⟩ := tk_o hf
      refine lv_iinc (v := x7) (lv' := [(6, .int x7), (0, .ref q0)]) hx hb d_Mod_putBack_69 hl (k := 1) rfl e_x7.symm (by decide) rfl (fun ls hl => ?_)
      refine lv_goto (tgt := 34) hx hb d_Mod_putBack_72 (by decide) ?_
      exact ih34 _ _ _ x7 u6 (lv_sub hl [1, 0] rfl) hP hS hf
  unfold f_Mod_putBack at hf
  refine lv_aload_n hx hb d_Mod_putBack_0 rfl (lv_at hl 0 rfl) ?_
  refine lv_iload_n hx hb d_Mod_putBack_1 rfl (lv_at hl 1 rfl) ?_
  refine va_put (D := D) (ci := 7) (v := .int a1) (ty := .int) (C := R_Mod) (T := F_Mod) (N := 28) hx hb hw in_Mod t_Mod t_Mod_ok n_Mod hown hK hP (hD _) hS 0 rfl rfl 1 (by decide) (hw _ m_455) (fun _ h9 => h9) rfl (by decide +kernel) rfl rfl (Nat.le_of_ble_eq_true rfl) d_Mod_putBack_2 (fun H locs hP _ hS => ?_)
  obtain ⟨u1, e_u1, hf⟩ := tk_o hf
  have hP : va_P D cls (wMod cI q0 q1 q2 q3 q4 q5 q6 q7 u1) H := by rw [e_u1]; exact hP
  refine lv_aload_n hx hb d_Mod_putBack_5 rfl (lv_at hl 0 rfl) ?_
  refine lv_iload_n hx hb d_Mod_putBack_6 rfl (lv_at hl 2 rfl) ?_
  refine va_put (D := D) (ci := 7) (v := .int a2) (ty := .int) (C := R_Mod) (T := F_Mod) (N := 28) hx hb hw in_Mod t_Mod t_Mod_ok n_Mod hown hK hP (hD _) hS 0 rfl rfl 2 (by decide) (hw _ m_456) (fun _ h9 => h9) rfl (by decide +kernel) rfl rfl (Nat.le_of_ble_eq_true rfl) d_Mod_putBack_7 (fun H locs hP _ hS => ?_)
  obtain ⟨u2, e_u2, hf⟩ := tk_o hf
  have hP : va_P D cls (wMod cI q0 q1 q2 q3 q4 q5 q6 q7 u2) H := by rw [e_u2]; exact hP
  refine lv_aload_n hx hb d_Mod_putBack_10 rfl (lv_at hl 0 rfl) ?_
  refine lv_iload_n hx hb d_Mod_putBack_11 rfl (lv_at hl 3 rfl) ?_
  refine va_put (D := D) (ci := 7) (v := .int a3) (ty := .int) (C := R_Mod) (T := F_Mod) (N := 28) hx hb hw in_Mod t_Mod t_Mod_ok n_Mod hown hK hP (hD _) hS 0 rfl rfl 3 (by decide) (hw _ m_427) (fun _ h9 => h9) rfl (by decide +kernel) rfl rfl (Nat.le_of_ble_eq_true rfl) d_Mod_putBack_12 (fun H locs hP _ hS => ?_)
  obtain ⟨u3, e_u3, hf⟩ := tk_o hf
  have hP : va_P D cls (wMod cI q0 q1 q2 q3 q4 q5 q6 q7 u3) H := by rw [e_u3]; exact hP
  refine lv_aload_n hx hb d_Mod_putBack_15 rfl (lv_at hl 0 rfl) ?_
  refine lv_iload hx hb d_Mod_putBack_16 (lv_at hl 4 rfl) ?_
  refine va_put (D := D) (ci := 7) (v := .int a4) (ty := .int) (C := R_Mod) (T := F_Mod) (N := 28) hx hb hw in_Mod t_Mod t_Mod_ok n_Mod hown hK hP (hD _) hS 0 rfl rfl 4 (by decide) (hw _ m_428) (fun _ h9 => h9) rfl (by decide +kernel) rfl rfl (Nat.le_of_ble_eq_true rfl) d_Mod_putBack_18 (fun H locs hP _ hS => ?_)
  obtain ⟨u4, e_u4, hf⟩ := tk_o hf
  have hP : va_P D cls (wMod cI q0 q1 q2 q3 q4 q5 q6 q7 u4) H := by rw [e_u4]; exact hP
  refine lv_aload_n hx hb d_Mod_putBack_21 rfl (lv_at hl 0 rfl) ?_
  have hC : [0, 1, 2, 3, 4, 5, 6, 7].map (fun i => (wMod cI q0 q1 q2 q3 q4 q5 q6 q7 u4)[i]?) = (wMod cI q0 q1 q2 q3 q4 q5 q6 q7 u4).map some := rfl
  obtain ⟨w5, hc, hf⟩ := bd_o hf
  refine rw_v (va_runV (As := []) (rest := []) ⟨hx, hb, hml, hown, hw⟩ (c_Mod_prepare l D cI q0 q1 q2 q3 q4 q5 q6 q7 (dj_sub hd [0, 1, 2, 3, 4, 5, 6, 7] (by decide) rfl) u4 w5 hc) (cwV 0 hw g_68 rfl rfl rfl (by decide +kernel) ⟨Nat.le_of_ble_eq_true rfl, Nat.le_of_ble_eq_true rfl⟩) (pre_V (P_sub hC hP) hK rfl rfl) rfl rfl hl.1 rfl (lv_room (Nat.le_of_ble_eq_true rfl)) d_Mod_putBack_22 ⟨Nat.le_of_ble_eq_true rfl, Nat.le_of_ble_eq_true rfl⟩) hS hP (hD _) hC rfl rfl (fun H locs hP hS => ?_)
  obtain ⟨u6, e_u6, hf⟩ := tk_o hf
  have hP : va_P D cls (wMod cI q0 q1 q2 q3 q4 q5 q6 q7 u6) H := by rw [e_u6]; exact hP
  refine lv_aload_n hx hb d_Mod_putBack_25 rfl (lv_at hl 0 rfl) ?_
  refine lv_iload hx hb d_Mod_putBack_26 (lv_at hl 5 rfl) ?_
  refine va_put (D := D) (ci := 7) (v := .int a5) (ty := .int) (C := R_Mod) (T := F_Mod) (N := 28) hx hb hw in_Mod t_Mod t_Mod_ok n_Mod hown hK hP (hD _) hS 0 rfl rfl 15 (by decide) (hw _ m_448) (fun _ h9 => h9) rfl (by decide +kernel) rfl rfl (Nat.le_of_ble_eq_true rfl) d_Mod_putBack_28 (fun H locs hP _ hS => ?_)
  obtain ⟨u7, e_u7, hf⟩ := tk_o hf
  have hP : va_P D cls (wMod cI q0 q1 q2 q3 q4 q5 q6 q7 u7) H := by rw [e_u7]; exact hP
  refine lv_iconst (v := 0) hx hb d_Mod_putBack_31 (by decide) ?_
  refine lv_istore (lv' := [(6, .int 0), (0, .ref q0), (1, .int a1), (2, .int a2), (3, .int a3), (4, .int a4), (5, .int a5)]) hx hb d_Mod_putBack_32 hl (by decide) rfl (fun ls hl => ?_)
  exact lp34 2000 _ _ _ 0 u7 (lv_sub hl [1, 0] rfl) hP hS hf
def J_Mod_endsWell_64 (u : gU) : Option (Int32 × gU) := bq ((u 0 17) = ((u 0 13) - 2)) (gd (ix (u 0 17) 600) (bq ((u 4 (tc (u 0 17))) = 255) (gd (ix ((u 0 17) + 1) 600) (bq ((u 4 (tc ((u 0 17) + 1))) = 217) (some (1, u)) (some (0, u)))) (some (0, u)))) (some (0, u))
def L_Mod_endsWell_0 : Nat → gU → Option (Int32 × gU)
  | 0, _ => none
  | n + 1, u => bq ((u 0 19) ≤ 0) (bq ((u 0 18) = 255) (bq (((u 0 13) - 2) ≤ (u 0 17)) (some (0, u)) (gd (ix (u 0 17) 600) (bq ((u 4 (tc (u 0 17))) = 0) (tk (st2 u 0 17 ((u 0 17) + 1)) fun u2 => J_Mod_endsWell_64  u2) (some (0, u))))) (J_Mod_endsWell_64  u)) (bd (f_Mod_get u) fun w3 => tk (w3.2) fun u4 => bq (w3.1 = 1) (some (0, u4)) ((L_Mod_endsWell_0 n)  u4))
theorem L_Mod_endsWell_0_z (u : gU) : L_Mod_endsWell_0 0 u = none := rfl
theorem L_Mod_endsWell_0_s (n : Nat) (u : gU) : L_Mod_endsWell_0 (n + 1) u = bq ((u 0 19) ≤ 0) (bq ((u 0 18) = 255) (bq (((u 0 13) - 2) ≤ (u 0 17)) (some (0, u)) (gd (ix (u 0 17) 600) (bq ((u 4 (tc (u 0 17))) = 0) (tk (st2 u 0 17 ((u 0 17) + 1)) fun u2 => J_Mod_endsWell_64  u2) (some (0, u))))) (J_Mod_endsWell_64  u)) (bd (f_Mod_get u) fun w3 => tk (w3.2) fun u4 => bq (w3.1 = 1) (some (0, u4)) ((L_Mod_endsWell_0 n)  u4)) := rfl
def f_Mod_endsWell (u : gU) : Option (Int32 × gU) := L_Mod_endsWell_0 2000  u
set_option maxHeartbeats 4000000 in
set_option maxRecDepth 100000 in
theorem c_Mod_endsWell (l : Launch) (D : va_G) (cI : ClassId) (q0 : Nat) (q1 : Nat) (q2 : Nat) (q3 : Nat) (q4 : Nat) (q5 : Nat) (q6 : Nat) (q7 : Nat) (hd : dj [q0, q1, q2, q3, q4, q5, q6, q7]) (u : gU) (r : Int32) (v : gU) (hf : f_Mod_endsWell u = some (r, v)) : Met l y_Mod_endsWell (.code y_Mod_endsWell b_Mod_endsWell 1 (some .boolean) :: TS) ({ frames := 1, cells := 0, slots := 0, locals := 21 }) (va_Pc [.ref q0] (fun U => va_P D cls (wMod cI q0 q1 q2 q3 q4 q5 q6 q7 u) U.heap ∧ va_K D cls [(cI, .int)] U)) (va_Qi (fun x (_ : Unit) => x = r) (fun _ t => va_P D cls (wMod cI q0 q1 q2 q3 q4 q5 q6 q7 v) t.heap) (ad [q0, q1, q2, q3, q4, q5, q6, q7])) 0 0 (ad [q0, q1, q2, q3, q4, q5, q6, q7]) := by
  refine ct_of (by decide +kernel) (Nat.le_of_ble_eq_true rfl) ?_
  intro p e s m below meth c ls hx hb hml hr hlocks hown hw hP hK hl
  have hS : va_S (ad [q0, q1, q2, q3, q4, q5, q6, q7]) s.heap s.heap [] := va_S.rf
  have hD : ∀ v, va_D (ad [q0, q1, q2, q3, q4, q5, q6, q7]) (wMod cI q0 q1 q2 q3 q4 q5 q6 q7 v) := fun _ => dj_D rfl hd
  have hl : lv_has ls 1 [(0, .ref q0)] := hl
  have hP : va_P D cls (wMod cI q0 q1 q2 q3 q4 q5 q6 q7 u) s.heap := hP
  have j64 : ∀ (ls : Array Slot) (H : Heap) (locs : List Loc) (u : gU), lv_has ls 1 [(0, .ref q0)] → va_P D cls (wMod cI q0 q1 q2 q3 q4 q5 q6 q7 u) H → va_S (ad [q0, q1, q2, q3, q4, q5, q6, q7]) s.heap H locs → J_Mod_endsWell_64 u = some (r, v) → W p l e ({ frames := 1, cells := 0, slots := 0, locals := 21 }) s m [.ref q0].toArray below meth c H locs 0 0 (MQ below (va_Qi (fun x (_ : Unit) => x = r) (fun _ t => va_P D cls (wMod cI q0 q1 q2 q3 q4 q5 q6 q7 v) t.heap) (ad [q0, q1, q2, q3, q4, q5, q6, q7])) [.ref q0].toArray s 0 0 (ad [q0, q1, q2, q3, q4, q5, q6, q7])) (F0 m 64 ls []) := by
    intro ls H locs u hl hP hS hf
    unfold J_Mod_endsWell_64 at hf
    refine lv_aload_n hx hb d_Mod_endsWell_64 rfl (lv_at hl 0 rfl) ?_
    refine va_get (D := D) (ci := 7) (v := .int (u 0 17)) (C := R_Mod) (T := F_Mod) (N := 28) hx hb hw in_Mod hown hK hP 0 rfl rfl 21 (by decide) (hw _ m_479) (fun _ h9 => h9) rfl d_Mod_endsWell_65 ?_
    refine lv_aload_n hx hb d_Mod_endsWell_68 rfl (lv_at hl 0 rfl) ?_
    refine va_get (D := D) (ci := 7) (v := .int (u 0 13)) (C := R_Mod) (T := F_Mod) (N := 28) hx hb hw in_Mod hown hK hP 0 rfl rfl 17 (by decide) (hw _ m_450) (fun _ h9 => h9) rfl d_Mod_endsWell_69 ?_
    refine lv_iconst (v := 2) hx hb d_Mod_endsWell_72 (by decide) ?_
    refine lv_isub hx hb d_Mod_endsWell_73 ?_
    refine lv_icmp_ne (tgt := 113) hx hb d_Mod_endsWell_74 (by decide) (fun hc => ?_) (fun hc => ?_)
    · have hf := bq_n hf hc
      refine lv_iconst (v := 0) hx hb d_Mod_endsWell_113 (by decide) ?_
      exact rt_z (wMod cI q0 q1 q2 q3 q4 q5 q6 q7) hx hb hr hlocks (Or.inl rfl) hS hP hf d_Mod_endsWell_114
    have hf := bq_t hf hc
    refine lv_aload_n hx hb d_Mod_endsWell_77 rfl (lv_at hl 0 rfl) ?_
    refine va_get (D := D) (ci := 7) (v := .ref q4) (C := R_Mod) (T := F_Mod) (N := 28) hx hb hw in_Mod hown hK hP 0 rfl rfl 16 (by decide) (hw _ m_466) (fun _ h9 => h9) rfl d_Mod_endsWell_78 ?_
    refine lv_aload_n hx hb d_Mod_endsWell_81 rfl (lv_at hl 0 rfl) ?_
    refine va_get (D := D) (ci := 7) (v := .int (u 0 17)) (C := R_Mod) (T := F_Mod) (N := 28) hx hb hw in_Mod hown hK hP 0 rfl rfl 21 (by decide) (hw _ m_479) (fun _ h9 => h9) rfl d_Mod_endsWell_82 ?_
    obtain ⟨h1, hf⟩ := gd_o hf
    refine va_iald hx hb hK hP 4 0 rfl rfl (ix_in h1) d_Mod_endsWell_85 ?_
    refine lv_sipush (v := 255) hx hb d_Mod_endsWell_86 (by decide) ?_
    refine lv_icmp_ne (tgt := 113) hx hb d_Mod_endsWell_89 (by decide) (fun hc => ?_) (fun hc => ?_)
    · have hf := bq_n hf hc
      refine lv_iconst (v := 0) hx hb d_Mod_endsWell_113 (by decide) ?_
      exact rt_z (wMod cI q0 q1 q2 q3 q4 q5 q6 q7) hx hb hr hlocks (Or.inl rfl) hS hP hf d_Mod_endsWell_114
    have hf := bq_t hf hc
    refine lv_aload_n hx hb d_Mod_endsWell_92 rfl (lv_at hl 0 rfl) ?_
    refine va_get (D := D) (ci := 7) (v := .ref q4) (C := R_Mod) (T := F_Mod) (N := 28) hx hb hw in_Mod hown hK hP 0 rfl rfl 16 (by decide) (hw _ m_466) (fun _ h9 => h9) rfl d_Mod_endsWell_93 ?_
    refine lv_aload_n hx hb d_Mod_endsWell_96 rfl (lv_at hl 0 rfl) ?_
    refine va_get (D := D) (ci := 7) (v := .int (u 0 17)) (C := R_Mod) (T := F_Mod) (N := 28) hx hb hw in_Mod hown hK hP 0 rfl rfl 21 (by decide) (hw _ m_479) (fun _ h9 => h9) rfl d_Mod_endsWell_97 ?_
    refine lv_iconst (v := 1) hx hb d_Mod_endsWell_100 (by decide) ?_
    refine lv_iadd hx hb d_Mod_endsWell_101 ?_
    obtain ⟨h2, hf⟩ := gd_o hf
    refine va_iald hx hb hK hP 4 0 rfl rfl (ix_in h2) d_Mod_endsWell_102 ?_
    refine lv_sipush (v := 217) hx hb d_Mod_endsWell_103 (by decide) ?_
    refine lv_icmp_ne (tgt := 113) hx hb d_Mod_endsWell_106 (by decide) (fun hc => ?_) (fun hc => ?_)
    · have hf := bq_n hf hc
      refine lv_iconst (v := 0) hx hb d_Mod_endsWell_113 (by decide) ?_
      exact rt_z (wMod cI q0 q1 q2 q3 q4 q5 q6 q7) hx hb hr hlocks (Or.inl rfl) hS hP hf d_Mod_endsWell_114
    have hf := bq_t hf hc
    refine lv_iconst (v := 1) hx hb d_Mod_endsWell_109 (by decide) ?_
    refine lv_goto (tgt := 114) hx hb d_Mod_endsWell_110 (by decide) ?_
    exact rt_z (wMod cI q0 q1 q2 q3 q4 q5 q6 q7) hx hb hr hlocks (Or.inr rfl) hS hP hf d_Mod_endsWell_114
  have lp0 : ∀ (n0 : Nat), ∀ (ls : Array Slot) (H : Heap) (locs : List Loc) (u : gU), lv_has ls 1 [(0, .ref q0)] → va_P D cls (wMod cI q0 q1 q2 q3 q4 q5 q6 q7 u) H → va_S (ad [q0, q1, q2, q3, q4, q5, q6, q7]) s.heap H locs → L_Mod_endsWell_0 n0 u = some (r, v) → W p l e ({ frames := 1, cells := 0, slots := 0, locals := 21 }) s m [.ref q0].toArray below meth c H locs 0 0 (MQ below (va_Qi (fun x (_ : Unit) => x = r) (fun _ t => va_P D cls (wMod cI q0 q1 q2 q3 q4 q5 q6 q7 v) t.heap) (ad [q0, q1, q2, q3, q4, q5, q6, q7])) [.ref q0].toArray s 0 0 (ad [q0, q1, q2, q3, q4, q5, q6, q7])) (F0 m 0 ls []) := by
    intro n0
    induction n0 with
    | zero =>
      intro ls H locs u hl hP hS hf
      rw [L_Mod_endsWell_0_z] at hf
      cases hf
    | succ n0 ih0 =>
      intro ls H locs u hl hP hS hf
      rw [L_Mod_endsWell_0_s] at hf
      refine lv_aload_n hx hb d_Mod_endsWell_0 rfl (lv_at hl 0 rfl) ?_
      refine va_get (D := D) (ci := 7) (v := .int (u 0 19)) (C := R_Mod) (T := F_Mod) (N := 28) hx hb hw in_Mod hown hK hP 0 rfl rfl 23 (by decide) (hw _ m_477) (fun _ h9 => h9) rfl d_Mod_endsWell_1 ?_
      refine lv_if_le (tgt := 17) hx hb d_Mod_endsWell_4 (by decide) (fun hc => ?_) (fun hc => ?_)
      · have hf := bq_t hf hc
        refine lv_aload_n hx hb d_Mod_endsWell_17 rfl (lv_at hl 0 rfl) ?_
        refine va_get (D := D) (ci := 7) (v := .int (u 0 18)) (C := R_Mod) (T := F_Mod) (N := 28) hx hb hw in_Mod hown hK hP 0 rfl rfl 22 (by decide) (hw _ m_478) (fun _ h9 => h9) rfl d_Mod_endsWell_18 ?_
        refine lv_sipush (v := 255) hx hb d_Mod_endsWell_21 (by decide) ?_
        refine lv_icmp_ne (tgt := 64) hx hb d_Mod_endsWell_24 (by decide) (fun hc => ?_) (fun hc => ?_)
        · have hf := bq_n hf hc
          exact j64 _ _ _  u (lv_sub hl [0] rfl) hP hS hf
        have hf := bq_t hf hc
        refine lv_aload_n hx hb d_Mod_endsWell_27 rfl (lv_at hl 0 rfl) ?_
        refine va_get (D := D) (ci := 7) (v := .int (u 0 17)) (C := R_Mod) (T := F_Mod) (N := 28) hx hb hw in_Mod hown hK hP 0 rfl rfl 21 (by decide) (hw _ m_479) (fun _ h9 => h9) rfl d_Mod_endsWell_28 ?_
        refine lv_aload_n hx hb d_Mod_endsWell_31 rfl (lv_at hl 0 rfl) ?_
        refine va_get (D := D) (ci := 7) (v := .int (u 0 13)) (C := R_Mod) (T := F_Mod) (N := 28) hx hb hw in_Mod hown hK hP 0 rfl rfl 17 (by decide) (hw _ m_450) (fun _ h9 => h9) rfl d_Mod_endsWell_32 ?_
        refine lv_iconst (v := 2) hx hb d_Mod_endsWell_35 (by decide) ?_
        refine lv_isub hx hb d_Mod_endsWell_36 ?_
        refine lv_icmp_ge (tgt := 52) hx hb d_Mod_endsWell_37 (by decide) (fun hc => ?_) (fun hc => ?_)
        · have hf := bq_t hf hc
          refine lv_iconst (v := 0) hx hb d_Mod_endsWell_52 (by decide) ?_
          exact rt_z (wMod cI q0 q1 q2 q3 q4 q5 q6 q7) hx hb hr hlocks (Or.inl rfl) hS hP hf d_Mod_endsWell_53
        have hf := bq_n hf hc
        refine lv_aload_n hx hb d_Mod_endsWell_40 rfl (lv_at hl 0 rfl) ?_
        refine va_get (D := D) (ci := 7) (v := .ref q4) (C := R_Mod) (T := F_Mod) (N := 28) hx hb hw in_Mod hown hK hP 0 rfl rfl 16 (by decide) (hw _ m_466) (fun _ h9 => h9) rfl d_Mod_endsWell_41 ?_
        refine lv_aload_n hx hb d_Mod_endsWell_44 rfl (lv_at hl 0 rfl) ?_
        refine va_get (D := D) (ci := 7) (v := .int (u 0 17)) (C := R_Mod) (T := F_Mod) (N := 28) hx hb hw in_Mod hown hK hP 0 rfl rfl 21 (by decide) (hw _ m_479) (fun _ h9 => h9) rfl d_Mod_endsWell_45 ?_
        obtain ⟨h1, hf⟩ := gd_o hf
        refine va_iald hx hb hK hP 4 0 rfl rfl (ix_in h1) d_Mod_endsWell_48 ?_
        refine lv_if_eq (tgt := 54) hx hb d_Mod_endsWell_49 (by decide) (fun hc => ?_) (fun hc => ?_)
        · have hf := bq_t hf hc
          refine lv_aload_n hx hb d_Mod_endsWell_54 rfl (lv_at hl 0 rfl) ?_
          refine lv_dup hx hb d_Mod_endsWell_55 rfl ?_
          refine va_get (D := D) (ci := 7) (v := .int (u 0 17)) (C := R_Mod) (T := F_Mod) (N := 28) hx hb hw in_Mod hown hK hP 0 rfl rfl 21 (by decide) (hw _ m_479) (fun _ h9 => h9) rfl d_Mod_endsWell_56 ?_
          refine lv_iconst (v := 1) hx hb d_Mod_endsWell_59 (by decide) ?_
          refine lv_iadd hx hb d_Mod_endsWell_60 ?_
          refine va_put (D := D) (ci := 7) (v := .int ((u 0 17) + 1)) (ty := .int) (C := R_Mod) (T := F_Mod) (N := 28) hx hb hw in_Mod t_Mod t_Mod_ok n_Mod hown hK hP (hD _) hS 0 rfl rfl 21 (by decide) (hw _ m_479) (fun _ h9 => h9) rfl (by decide +kernel) rfl rfl (Nat.le_of_ble_eq_true rfl) d_Mod_endsWell_61 (fun H locs hP _ hS => ?_)
          obtain ⟨u2, e_u2, hf⟩ := tk_o hf
          have hP : va_P D cls (wMod cI q0 q1 q2 q3 q4 q5 q6 q7 u2) H := by rw [e_u2]; exact hP
          exact j64 _ _ _  u2 (lv_sub hl [0] rfl) hP hS hf
        have hf := bq_n hf hc
        refine lv_iconst (v := 0) hx hb d_Mod_endsWell_52 (by decide) ?_
        exact rt_z (wMod cI q0 q1 q2 q3 q4 q5 q6 q7) hx hb hr hlocks (Or.inl rfl) hS hP hf d_Mod_endsWell_53
      have hf := bq_n hf hc
      refine lv_aload_n hx hb d_Mod_endsWell_7 rfl (lv_at hl 0 rfl) ?_
      have hC : [0, 1, 2, 3, 4, 5, 6, 7].map (fun i => (wMod cI q0 q1 q2 q3 q4 q5 q6 q7 u)[i]?) = (wMod cI q0 q1 q2 q3 q4 q5 q6 q7 u).map some := rfl
      obtain ⟨w3, hc, hf⟩ := bd_o hf
      refine rw_i (va_runV (As := []) (rest := []) ⟨hx, hb, hml, hown, hw⟩ (c_Mod_get l D cI q0 q1 q2 q3 q4 q5 q6 q7 (dj_sub hd [0, 1, 2, 3, 4, 5, 6, 7] (by decide) rfl) u w3.1 w3.2 hc) (cwV 0 hw g_72 rfl rfl rfl (by decide +kernel) ⟨Nat.le_of_ble_eq_true rfl, Nat.le_of_ble_eq_true rfl⟩) (pre_V (P_sub hC hP) hK rfl rfl) rfl rfl hl.1 rfl (lv_room (Nat.le_of_ble_eq_true rfl)) d_Mod_endsWell_8 ⟨Nat.le_of_ble_eq_true rfl, Nat.le_of_ble_eq_true rfl⟩) hS hP (hD _) hC rfl rfl (fun H locs hP hS => ?_)
      obtain ⟨u4, e_u4, hf⟩ := tk_o hf
      have hP : va_P D cls (wMod cI q0 q1 q2 q3 q4 q5 q6 q7 u4) H := by rw [e_u4]; exact hP
      refine lv_iconst (v := 1) hx hb d_Mod_endsWell_11 (by decide) ?_
      refine lv_icmp_ne (tgt := 0) hx hb d_Mod_endsWell_12 (by decide) (fun hc => ?_) (fun hc => ?_)
      · have hf := bq_n hf hc
        exact ih0 _ _ _  u4 (lv_sub hl [0] rfl) hP hS hf
      have hf := bq_t hf hc
      refine lv_iconst (v := 0) hx hb d_Mod_endsWell_15 (by decide) ?_
      exact rt_z (wMod cI q0 q1 q2 q3 q4 q5 q6 q7) hx hb hr hlocks (Or.inl rfl) hS hP hf d_Mod_endsWell_16
  unfold f_Mod_endsWell at hf
  exact lp0 2000 _ _ _  u (lv_sub hl [0] rfl) hP hS hf
def J_Mod_decode_233 (l2 : Int32) (l3 : Int32) (l4 : Int32) (l5 : Int32) (l6 : Int32) (u : gU) : Option (Int32 × gU) := bd (f_Mod_putBack l2 l3 l4 l5 l6 u) fun w1 => tk (w1) fun u2 => tk (st2 u2 0 0 1) fun u3 => some (0, u3)
def L_Mod_decode_168 : Nat → Int32 → Int32 → Int32 → Int32 → Int32 → Int32 → gU → Option (Int32 × gU)
  | 0, _, _, _, _, _, _, _ => none
  | n + 1, l2, l3, l4, l5, l6, l7, u => bq (64 ≤ l7) (tk (st2 u 0 16 1) fun u1 => tk (st2 u1 0 20 1) fun u2 => tk (st2 u2 0 17 6) fun u3 => tk (st2 u3 0 18 0) fun u4 => tk (st2 u4 0 19 0) fun u5 => bd (f_Mod_walk u5) fun w6 => tk (w6) fun u7 => bq ((u7 0 20) = 0) (J_Mod_decode_233 l2 l3 l4 l5 l6 u7) (bd (f_Mod_endsWell u7) fun w8 => tk (w8.2) fun u9 => bq (w8.1 = 0) (J_Mod_decode_233 l2 l3 l4 l5 l6 u9) (some ((u9 0 1) * (u9 0 2), u9)))) (gd (ix l7 64) (tk (st2 u 1 (tc l7) 0) fun u11 => tk (l7 + 1) fun x12 => (L_Mod_decode_168 n) l2 l3 l4 l5 l6 x12 u11))
theorem L_Mod_decode_168_z (l2 : Int32) (l3 : Int32) (l4 : Int32) (l5 : Int32) (l6 : Int32) (l7 : Int32) (u : gU) : L_Mod_decode_168 0 l2 l3 l4 l5 l6 l7 u = none := rfl
theorem L_Mod_decode_168_s (n : Nat) (l2 : Int32) (l3 : Int32) (l4 : Int32) (l5 : Int32) (l6 : Int32) (l7 : Int32) (u : gU) : L_Mod_decode_168 (n + 1) l2 l3 l4 l5 l6 l7 u = bq (64 ≤ l7) (tk (st2 u 0 16 1) fun u1 => tk (st2 u1 0 20 1) fun u2 => tk (st2 u2 0 17 6) fun u3 => tk (st2 u3 0 18 0) fun u4 => tk (st2 u4 0 19 0) fun u5 => bd (f_Mod_walk u5) fun w6 => tk (w6) fun u7 => bq ((u7 0 20) = 0) (J_Mod_decode_233 l2 l3 l4 l5 l6 u7) (bd (f_Mod_endsWell u7) fun w8 => tk (w8.2) fun u9 => bq (w8.1 = 0) (J_Mod_decode_233 l2 l3 l4 l5 l6 u9) (some ((u9 0 1) * (u9 0 2), u9)))) (gd (ix l7 64) (tk (st2 u 1 (tc l7) 0) fun u11 => tk (l7 + 1) fun x12 => (L_Mod_decode_168 n) l2 l3 l4 l5 l6 x12 u11)) := rfl
def J_Mod_decode_73 (s0 : Int32) (u : gU) : Option (Int32 × gU) := bq (s0 = 0) (tk (st2 u 0 0 1) fun u16 => some (0, u16)) (bd (f_Mod_keep u) fun w1 => tk (w1) fun u2 => tk (u2 0 1) fun x3 => tk (u2 0 2) fun x4 => tk (u2 0 3) fun x5 => tk (u2 0 4) fun x6 => tk (u2 0 12) fun x7 => tk (st2 u2 0 1 (u2 4 (tc 2))) fun u8 => tk (st2 u8 0 2 (u8 4 (tc 3))) fun u9 => tk (st2 u9 0 3 (u9 4 (tc 4))) fun u10 => tk (st2 u10 0 4 (u10 4 (tc 5))) fun u11 => bd (f_Mod_prepare u11) fun w12 => tk (w12) fun u13 => bd (f_Mod_forget u13) fun w14 => tk (w14) fun u15 => L_Mod_decode_168 2000 x3 x4 x5 x6 x7 0 u15)
def J_Mod_decode_72 (u : gU) : Option (Int32 × gU) := J_Mod_decode_73 0 u
def f_Mod_decode (u : gU) : Option (Int32 × gU) := tk (st2 u 0 0 0) fun u1 => bq ((u1 0 13) < 8) (J_Mod_decode_72  u1) (bq ((u1 4 (tc 0)) = 255) (bq ((u1 4 (tc 1)) = 216) (bd (f_Mod_fits (u1 4 (tc 2)) (u1 4 (tc 3)) (u1 4 (tc 4)) (u1 4 (tc 5))) fun x2 => bq (x2 = 0) (J_Mod_decode_72  u1) (J_Mod_decode_73 1 u1)) (J_Mod_decode_72  u1)) (J_Mod_decode_72  u1))
set_option maxHeartbeats 4000000 in
set_option maxRecDepth 100000 in
theorem c_Mod_decode (l : Launch) (D : va_G) (cI : ClassId) (q0 : Nat) (q1 : Nat) (q2 : Nat) (q3 : Nat) (q4 : Nat) (q5 : Nat) (q6 : Nat) (q7 : Nat) (hd : dj [q0, q1, q2, q3, q4, q5, q6, q7]) (u : gU) (r : Int32) (v : gU) (hf : f_Mod_decode u = some (r, v)) : Met l y_Mod_decode (.code y_Mod_decode b_Mod_decode 8 (some .int) :: TS) ({ frames := 7, cells := 0, slots := 0, locals := 178 }) (va_Pc [.ref q0] (fun U => va_P D cls (wMod cI q0 q1 q2 q3 q4 q5 q6 q7 u) U.heap ∧ va_K D cls [(cI, .int)] U)) (va_Qi (fun x (_ : Unit) => x = r) (fun _ t => va_P D cls (wMod cI q0 q1 q2 q3 q4 q5 q6 q7 v) t.heap) (ad [q0, q1, q2, q3, q4, q5, q6, q7])) 0 0 (ad [q0, q1, q2, q3, q4, q5, q6, q7]) := by
  refine ct_of (by decide +kernel) (Nat.le_of_ble_eq_true rfl) ?_
  intro p e s m below meth c ls hx hb hml hr hlocks hown hw hP hK hl
  have hS : va_S (ad [q0, q1, q2, q3, q4, q5, q6, q7]) s.heap s.heap [] := va_S.rf
  have hD : ∀ v, va_D (ad [q0, q1, q2, q3, q4, q5, q6, q7]) (wMod cI q0 q1 q2 q3 q4 q5 q6 q7 v) := fun _ => dj_D rfl hd
  have hl : lv_has ls 8 [(0, .ref q0)] := hl
  have hP : va_P D cls (wMod cI q0 q1 q2 q3 q4 q5 q6 q7 u) s.heap := hP
  have j233 : ∀ (ls : Array Slot) (H : Heap) (locs : List Loc) (l2 : Int32) (l3 : Int32) (l4 : Int32) (l5 : Int32) (l6 : Int32) (u : gU), lv_has ls 8 [(0, .ref q0), (2, .int l2), (3, .int l3), (4, .int l4), (5, .int l5), (6, .int l6)] → va_P D cls (wMod cI q0 q1 q2 q3 q4 q5 q6 q7 u) H → va_S (ad [q0, q1, q2, q3, q4, q5, q6, q7]) s.heap H locs → J_Mod_decode_233 l2 l3 l4 l5 l6 u = some (r, v) → W p l e ({ frames := 7, cells := 0, slots := 0, locals := 178 }) s m [.ref q0].toArray below meth c H locs 0 0 (MQ below (va_Qi (fun x (_ : Unit) => x = r) (fun _ t => va_P D cls (wMod cI q0 q1 q2 q3 q4 q5 q6 q7 v) t.heap) (ad [q0, q1, q2, q3, q4, q5, q6, q7])) [.ref q0].toArray s 0 0 (ad [q0, q1, q2, q3, q4, q5, q6, q7])) (F0 m 233 ls []) := by
    intro ls H locs l2 l3 l4 l5 l6 u hl hP hS hf
    unfold J_Mod_decode_233 at hf
    refine lv_aload_n hx hb d_Mod_decode_233 rfl (lv_at hl 0 rfl) ?_
    refine lv_iload_n hx hb d_Mod_decode_234 rfl (lv_at hl 1 rfl) ?_
    refine lv_iload_n hx hb d_Mod_decode_235 rfl (lv_at hl 2 rfl) ?_
    refine lv_iload hx hb d_Mod_decode_236 (lv_at hl 3 rfl) ?_
    refine lv_iload hx hb d_Mod_decode_238 (lv_at hl 4 rfl) ?_
    refine lv_iload hx hb d_Mod_decode_240 (lv_at hl 5 rfl) ?_
    have hC : [0, 1, 2, 3, 4, 5, 6, 7].map (fun i => (wMod cI q0 q1 q2 q3 q4 q5 q6 q7 u)[i]?) = (wMod cI q0 q1 q2 q3 q4 q5 q6 q7 u).map some := rfl
    obtain ⟨w1, hc, hf⟩ := bd_o hf
    refine rw_v (va_runV (As := [.int l2, .int l3, .int l4, .int l5, .int l6]) (rest := []) ⟨hx, hb, hml, hown, hw⟩ (c_Mod_putBack l D cI q0 q1 q2 q3 q4 q5 q6 q7 (dj_sub hd [0, 1, 2, 3, 4, 5, 6, 7] (by decide) rfl) l2 l3 l4 l5 l6 u w1 hc) (cwV 5 hw g_99 rfl rfl rfl (by decide +kernel) ⟨Nat.le_of_ble_eq_true rfl, Nat.le_of_ble_eq_true rfl⟩) (pre_V (P_sub hC hP) hK rfl rfl) rfl rfl hl.1 rfl (lv_room (Nat.le_of_ble_eq_true rfl)) d_Mod_decode_242 ⟨Nat.le_of_ble_eq_true rfl, Nat.le_of_ble_eq_true rfl⟩) hS hP (hD _) hC rfl rfl (fun H locs hP hS => ?_)
    obtain ⟨u2, e_u2, hf⟩ := tk_o hf
    have hP : va_P D cls (wMod cI q0 q1 q2 q3 q4 q5 q6 q7 u2) H := by rw [e_u2]; exact hP
    refine lv_aload_n hx hb d_Mod_decode_245 rfl (lv_at hl 0 rfl) ?_
    refine lv_iconst (v := 1) hx hb d_Mod_decode_246 (by decide) ?_
    refine va_put (D := D) (ci := 7) (v := .int 1) (ty := .int) (C := R_Mod) (T := F_Mod) (N := 28) hx hb hw in_Mod t_Mod t_Mod_ok n_Mod hown hK hP (hD _) hS 0 rfl rfl 0 (by decide) (hw _ m_426) (fun _ h9 => h9) rfl (by decide +kernel) rfl rfl (Nat.le_of_ble_eq_true rfl) d_Mod_decode_247 (fun H locs hP _ hS => ?_)
    obtain ⟨u3, e_u3, hf⟩ := tk_o hf
    have hP : va_P D cls (wMod cI q0 q1 q2 q3 q4 q5 q6 q7 u3) H := by rw [e_u3]; exact hP
    refine lv_iconst (v := 0) hx hb d_Mod_decode_250 (by decide) ?_
    exact rt_i (wMod cI q0 q1 q2 q3 q4 q5 q6 q7) hx hb hr hlocks hS hP hf d_Mod_decode_251
  have lp168 : ∀ (n168 : Nat), ∀ (ls : Array Slot) (H : Heap) (locs : List Loc) (l2 : Int32) (l3 : Int32) (l4 : Int32) (l5 : Int32) (l6 : Int32) (l7 : Int32) (u : gU), lv_has ls 8 [(0, .ref q0), (2, .int l2), (3, .int l3), (4, .int l4), (5, .int l5), (6, .int l6), (7, .int l7)] → va_P D cls (wMod cI q0 q1 q2 q3 q4 q5 q6 q7 u) H → va_S (ad [q0, q1, q2, q3, q4, q5, q6, q7]) s.heap H locs → L_Mod_decode_168 n168 l2 l3 l4 l5 l6 l7 u = some (r, v) → W p l e ({ frames := 7, cells := 0, slots := 0, locals := 178 }) s m [.ref q0].toArray below meth c H locs 0 0 (MQ below (va_Qi (fun x (_ : Unit) => x = r) (fun _ t => va_P D cls (wMod cI q0 q1 q2 q3 q4 q5 q6 q7 v) t.heap) (ad [q0, q1, q2, q3, q4, q5, q6, q7])) [.ref q0].toArray s 0 0 (ad [q0, q1, q2, q3, q4, q5, q6, q7])) (F0 m 168 ls []) := by
    intro n168
    induction n168 with
    | zero =>
      intro ls H locs l2 l3 l4 l5 l6 l7 u hl hP hS hf
      rw [L_Mod_decode_168_z] at hf
      cases hf
    | succ n168 ih168 =>
      intro ls H locs l2 l3 l4 l5 l6 l7 u hl hP hS hf
      rw [L_Mod_decode_168_s] at hf
      refine lv_iload hx hb d_Mod_decode_168 (lv_at hl 6 rfl) ?_
      refine lv_bipush (v := 64) hx hb d_Mod_decode_170 (by decide) ?_
      refine lv_icmp_ge (tgt := 189) hx hb d_Mod_decode_172 (by decide) (fun hc => ?_) (fun hc => ?_)
      · have hf := bq_t hf hc
        refine lv_aload_n hx hb d_Mod_decode_189 rfl (lv_at hl 0 rfl) ?_
        refine lv_iconst (v := 1) hx hb d_Mod_decode_190 (by decide) ?_
        refine va_put (D := D) (ci := 7) (v := .int 1) (ty := .boolean) (C := R_Mod) (T := F_Mod) (N := 28) hx hb hw in_Mod t_Mod t_Mod_ok n_Mod hown hK hP (hD _) hS 0 rfl rfl 20 (by decide) (hw _ m_532) (fun _ h9 => h9) rfl (by decide +kernel) rfl rfl (Nat.le_of_ble_eq_true rfl) d_Mod_decode_191 (fun H locs hP _ hS => ?_)
        obtain ⟨u1, e_u1, hf⟩ := tk_o hf
        have hP : va_P D cls (wMod cI q0 q1 q2 q3 q4 q5 q6 q7 u1) H := by rw [e_u1]; exact hP
        refine lv_aload_n hx hb d_Mod_decode_194 rfl (lv_at hl 0 rfl) ?_
        refine lv_iconst (v := 1) hx hb d_Mod_decode_195 (by decide) ?_
        refine va_put (D := D) (ci := 7) (v := .int 1) (ty := .boolean) (C := R_Mod) (T := F_Mod) (N := 28) hx hb hw in_Mod t_Mod t_Mod_ok n_Mod hown hK hP (hD _) hS 0 rfl rfl 24 (by decide) (hw _ m_480) (fun _ h9 => h9) rfl (by decide +kernel) rfl rfl (Nat.le_of_ble_eq_true rfl) d_Mod_decode_196 (fun H locs hP _ hS => ?_)
        obtain ⟨u2, e_u2, hf⟩ := tk_o hf
        have hP : va_P D cls (wMod cI q0 q1 q2 q3 q4 q5 q6 q7 u2) H := by rw [e_u2]; exact hP
        refine lv_aload_n hx hb d_Mod_decode_199 rfl (lv_at hl 0 rfl) ?_
        refine lv_bipush (v := 6) hx hb d_Mod_decode_200 (by decide) ?_
        refine va_put (D := D) (ci := 7) (v := .int 6) (ty := .int) (C := R_Mod) (T := F_Mod) (N := 28) hx hb hw in_Mod t_Mod t_Mod_ok n_Mod hown hK hP (hD _) hS 0 rfl rfl 21 (by decide) (hw _ m_479) (fun _ h9 => h9) rfl (by decide +kernel) rfl rfl (Nat.le_of_ble_eq_true rfl) d_Mod_decode_202 (fun H locs hP _ hS => ?_)
        obtain ⟨u3, e_u3, hf⟩ := tk_o hf
        have hP : va_P D cls (wMod cI q0 q1 q2 q3 q4 q5 q6 q7 u3) H := by rw [e_u3]; exact hP
        refine lv_aload_n hx hb d_Mod_decode_205 rfl (lv_at hl 0 rfl) ?_
        refine lv_iconst (v := 0) hx hb d_Mod_decode_206 (by decide) ?_
        refine va_put (D := D) (ci := 7) (v := .int 0) (ty := .int) (C := R_Mod) (T := F_Mod) (N := 28) hx hb hw in_Mod t_Mod t_Mod_ok n_Mod hown hK hP (hD _) hS 0 rfl rfl 22 (by decide) (hw _ m_478) (fun _ h9 => h9) rfl (by decide +kernel) rfl rfl (Nat.le_of_ble_eq_true rfl) d_Mod_decode_207 (fun H locs hP _ hS => ?_)
        obtain ⟨u4, e_u4, hf⟩ := tk_o hf
        have hP : va_P D cls (wMod cI q0 q1 q2 q3 q4 q5 q6 q7 u4) H := by rw [e_u4]; exact hP
        refine lv_aload_n hx hb d_Mod_decode_210 rfl (lv_at hl 0 rfl) ?_
        refine lv_iconst (v := 0) hx hb d_Mod_decode_211 (by decide) ?_
        refine va_put (D := D) (ci := 7) (v := .int 0) (ty := .int) (C := R_Mod) (T := F_Mod) (N := 28) hx hb hw in_Mod t_Mod t_Mod_ok n_Mod hown hK hP (hD _) hS 0 rfl rfl 23 (by decide) (hw _ m_477) (fun _ h9 => h9) rfl (by decide +kernel) rfl rfl (Nat.le_of_ble_eq_true rfl) d_Mod_decode_212 (fun H locs hP _ hS => ?_)
        obtain ⟨u5, e_u5, hf⟩ := tk_o hf
        have hP : va_P D cls (wMod cI q0 q1 q2 q3 q4 q5 q6 q7 u5) H := by rw [e_u5]; exact hP
        refine lv_aload_n hx hb d_Mod_decode_215 rfl (lv_at hl 0 rfl) ?_
        have hC : [0, 1, 2, 3, 4, 5, 6, 7].map (fun i => (wMod cI q0 q1 q2 q3 q4 q5 q6 q7 u5)[i]?) = (wMod cI q0 q1 q2 q3 q4 q5 q6 q7 u5).map some := rfl
        obtain ⟨w6, hc, hf⟩ := bd_o hf
        refine rw_v (va_runV (As := []) (rest := []) ⟨hx, hb, hml, hown, hw⟩ (c_Mod_walk l D cI q0 q1 q2 q3 q4 q5 q6 q7 (dj_sub hd [0, 1, 2, 3, 4, 5, 6, 7] (by decide) rfl) u5 w6 hc) (cwV 0 hw g_98 rfl rfl rfl (by decide +kernel) ⟨Nat.le_of_ble_eq_true rfl, Nat.le_of_ble_eq_true rfl⟩) (pre_V (P_sub hC hP) hK rfl rfl) rfl rfl hl.1 rfl (lv_room (Nat.le_of_ble_eq_true rfl)) d_Mod_decode_216 ⟨Nat.le_of_ble_eq_true rfl, Nat.le_of_ble_eq_true rfl⟩) hS hP (hD _) hC rfl rfl (fun H locs hP hS => ?_)
        obtain ⟨u7, e_u7, hf⟩ := tk_o hf
        have hP : va_P D cls (wMod cI q0 q1 q2 q3 q4 q5 q6 q7 u7) H := by rw [e_u7]; exact hP
        refine lv_aload_n hx hb d_Mod_decode_219 rfl (lv_at hl 0 rfl) ?_
        refine va_get (D := D) (ci := 7) (v := .int (u7 0 20)) (C := R_Mod) (T := F_Mod) (N := 28) hx hb hw in_Mod hown hK hP 0 rfl rfl 24 (by decide) (hw _ m_480) (fun _ h9 => h9) rfl d_Mod_decode_220 ?_
        refine lv_if_eq (tgt := 233) hx hb d_Mod_decode_223 (by decide) (fun hc => ?_) (fun hc => ?_)
        · have hf := bq_t hf hc
          exact j233 _ _ _ l2 l3 l4 l5 l6 u7 (lv_sub hl [0, 1, 2, 3, 4, 5] rfl) hP hS hf
        have hf := bq_n hf hc
        refine lv_aload_n hx hb d_Mod_decode_226 rfl (lv_at hl 0 rfl) ?_
        have hC : [0, 1, 2, 3, 4, 5, 6, 7].map (fun i => (wMod cI q0 q1 q2 q3 q4 q5 q6 q7 u7)[i]?) = (wMod cI q0 q1 q2 q3 q4 q5 q6 q7 u7).map some := rfl
        obtain ⟨w8, hc, hf⟩ := bd_o hf
        refine rw_i (va_runV (As := []) (rest := []) ⟨hx, hb, hml, hown, hw⟩ (c_Mod_endsWell l D cI q0 q1 q2 q3 q4 q5 q6 q7 (dj_sub hd [0, 1, 2, 3, 4, 5, 6, 7] (by decide) rfl) u7 w8.1 w8.2 hc) (cwV 0 hw g_100 rfl rfl rfl (by decide +kernel) ⟨Nat.le_of_ble_eq_true rfl, Nat.le_of_ble_eq_true rfl⟩) (pre_V (P_sub hC hP) hK rfl rfl) rfl rfl hl.1 rfl (lv_room (Nat.le_of_ble_eq_true rfl)) d_Mod_decode_227 ⟨Nat.le_of_ble_eq_true rfl, Nat.le_of_ble_eq_true rfl⟩) hS hP (hD _) hC rfl rfl (fun H locs hP hS => ?_)
        obtain ⟨u9, e_u9, hf⟩ := tk_o hf
        have hP : va_P D cls (wMod cI q0 q1 q2 q3 q4 q5 q6 q7 u9) H := by rw [e_u9]; exact hP
        refine lv_if_ne (tgt := 252) hx hb d_Mod_decode_230 (by decide) (fun hc => ?_) (fun hc => ?_)
        · have hf := bq_n hf hc
          refine lv_aload_n hx hb d_Mod_decode_252 rfl (lv_at hl 0 rfl) ?_
          refine va_get (D := D) (ci := 7) (v := .int (u9 0 1)) (C := R_Mod) (T := F_Mod) (N := 28) hx hb hw in_Mod hown hK hP 0 rfl rfl 1 (by decide) (hw _ m_455) (fun _ h9 => h9) rfl d_Mod_decode_253 ?_
          refine lv_aload_n hx hb d_Mod_decode_256 rfl (lv_at hl 0 rfl) ?_
          refine va_get (D := D) (ci := 7) (v := .int (u9 0 2)) (C := R_Mod) (T := F_Mod) (N := 28) hx hb hw in_Mod hown hK hP 0 rfl rfl 2 (by decide) (hw _ m_456) (fun _ h9 => h9) rfl d_Mod_decode_257 ?_
          refine lv_imul hx hb d_Mod_decode_260 ?_
          exact rt_i (wMod cI q0 q1 q2 q3 q4 q5 q6 q7) hx hb hr hlocks hS hP hf d_Mod_decode_261
        have hf := bq_t hf hc
        exact j233 _ _ _ l2 l3 l4 l5 l6 u9 (lv_sub hl [0, 1, 2, 3, 4, 5] rfl) hP hS hf
      have hf := bq_n hf hc
      refine lv_aload_n hx hb d_Mod_decode_175 rfl (lv_at hl 0 rfl) ?_
      refine va_get (D := D) (ci := 7) (v := .ref q1) (C := R_Mod) (T := F_Mod) (N := 28) hx hb hw in_Mod hown hK hP 0 rfl rfl 12 (by decide) (hw _ m_451) (fun _ h9 => h9) rfl d_Mod_decode_176 ?_
      refine lv_iload hx hb d_Mod_decode_179 (lv_at hl 6 rfl) ?_
      refine lv_iconst (v := 0) hx hb d_Mod_decode_181 (by decide) ?_
      obtain ⟨h10, hf⟩ := gd_o hf
      refine va_iast hx hb hK hP (hD _) hS 1 0 rfl rfl (ix_in h10) d_Mod_decode_182 (fun H locs hP _ hS => ?_)
      obtain ⟨u11, e_u11, hf⟩ := tk_o hf
      have hP : va_P D cls (wMod cI q0 q1 q2 q3 q4 q5 q6 q7 u11) H := by rw [e_u11]; exact hP
      obtain ⟨x12, e_x12, hf⟩ := tk_o hf
      refine lv_iinc (v := x12) (lv' := [(7, .int x12), (0, .ref q0), (2, .int l2), (3, .int l3), (4, .int l4), (5, .int l5), (6, .int l6)]) hx hb d_Mod_decode_183 hl (k := 6) rfl e_x12.symm (by decide) rfl (fun ls hl => ?_)
      refine lv_goto (tgt := 168) hx hb d_Mod_decode_186 (by decide) ?_
      exact ih168 _ _ _ l2 l3 l4 l5 l6 x12 u11 (lv_sub hl [1, 2, 3, 4, 5, 6, 0] rfl) hP hS hf
  have j73 : ∀ (ls : Array Slot) (H : Heap) (locs : List Loc) (s0 : Int32) (u : gU), lv_has ls 8 [(0, .ref q0)] → va_P D cls (wMod cI q0 q1 q2 q3 q4 q5 q6 q7 u) H → va_S (ad [q0, q1, q2, q3, q4, q5, q6, q7]) s.heap H locs → J_Mod_decode_73 s0 u = some (r, v) → W p l e ({ frames := 7, cells := 0, slots := 0, locals := 178 }) s m [.ref q0].toArray below meth c H locs 0 0 (MQ below (va_Qi (fun x (_ : Unit) => x = r) (fun _ t => va_P D cls (wMod cI q0 q1 q2 q3 q4 q5 q6 q7 v) t.heap) (ad [q0, q1, q2, q3, q4, q5, q6, q7])) [.ref q0].toArray s 0 0 (ad [q0, q1, q2, q3, q4, q5, q6, q7])) (F0 m 73 ls [.int s0]) := by
    intro ls H locs s0 u hl hP hS hf
    unfold J_Mod_decode_73 at hf
    refine lv_istore_n (lv' := [(1, .int s0), (0, .ref q0)]) hx hb d_Mod_decode_73 rfl hl (by decide) rfl (fun ls hl => ?_)
    refine lv_iload_n hx hb d_Mod_decode_74 rfl (lv_at hl 0 rfl) ?_
    refine lv_if_ne (tgt := 85) hx hb d_Mod_decode_75 (by decide) (fun hc => ?_) (fun hc => ?_)
    · have hf := bq_n hf hc
      refine lv_aload_n hx hb d_Mod_decode_85 rfl (lv_at hl 1 rfl) ?_
      have hC : [0, 1, 2, 3, 4, 5, 6, 7].map (fun i => (wMod cI q0 q1 q2 q3 q4 q5 q6 q7 u)[i]?) = (wMod cI q0 q1 q2 q3 q4 q5 q6 q7 u).map some := rfl
      obtain ⟨w1, hc, hf⟩ := bd_o hf
      refine rw_v (va_runV (As := []) (rest := []) ⟨hx, hb, hml, hown, hw⟩ (c_Mod_keep l D cI q0 q1 q2 q3 q4 q5 q6 q7 (dj_sub hd [0, 1, 2, 3, 4, 5, 6, 7] (by decide) rfl) u w1 hc) (cwV 0 hw g_101 rfl rfl rfl (by decide +kernel) ⟨Nat.le_of_ble_eq_true rfl, Nat.le_of_ble_eq_true rfl⟩) (pre_V (P_sub hC hP) hK rfl rfl) rfl rfl hl.1 rfl (lv_room (Nat.le_of_ble_eq_true rfl)) d_Mod_decode_86 ⟨Nat.le_of_ble_eq_true rfl, Nat.le_of_ble_eq_true rfl⟩) hS hP (hD _) hC rfl rfl (fun H locs hP hS => ?_)
      obtain ⟨u2, e_u2, hf⟩ := tk_o hf
      have hP : va_P D cls (wMod cI q0 q1 q2 q3 q4 q5 q6 q7 u2) H := by rw [e_u2]; exact hP
      refine lv_aload_n hx hb d_Mod_decode_89 rfl (lv_at hl 1 rfl) ?_
      refine va_get (D := D) (ci := 7) (v := .int (u2 0 1)) (C := R_Mod) (T := F_Mod) (N := 28) hx hb hw in_Mod hown hK hP 0 rfl rfl 1 (by decide) (hw _ m_455) (fun _ h9 => h9) rfl d_Mod_decode_90 ?_
      refine lv_topi (fun x3 e_x3 => ?_)
      have hf := tk_e hf e_x3
      refine lv_istore_n (lv' := [(2, .int x3), (1, .int s0), (0, .ref q0)]) hx hb d_Mod_decode_93 rfl hl (by decide) rfl (fun ls hl => ?_)
      refine lv_aload_n hx hb d_Mod_decode_94 rfl (lv_at hl 2 rfl) ?_
      refine va_get (D := D) (ci := 7) (v := .int (u2 0 2)) (C := R_Mod) (T := F_Mod) (N := 28) hx hb hw in_Mod hown hK hP 0 rfl rfl 2 (by decide) (hw _ m_456) (fun _ h9 => h9) rfl d_Mod_decode_95 ?_
      refine lv_topi (fun x4 e_x4 => ?_)
      have hf := tk_e hf e_x4
      refine lv_istore_n (lv' := [(3, .int x4), (2, .int x3), (1, .int s0), (0, .ref q0)]) hx hb d_Mod_decode_98 rfl hl (by decide) rfl (fun ls hl => ?_)
      refine lv_aload_n hx hb d_Mod_decode_99 rfl (lv_at hl 3 rfl) ?_
      refine va_get (D := D) (ci := 7) (v := .int (u2 0 3)) (C := R_Mod) (T := F_Mod) (N := 28) hx hb hw in_Mod hown hK hP 0 rfl rfl 3 (by decide) (hw _ m_427) (fun _ h9 => h9) rfl d_Mod_decode_100 ?_
      refine lv_topi (fun x5 e_x5 => ?_)
      have hf := tk_e hf e_x5
      refine lv_istore (lv' := [(4, .int x5), (3, .int x4), (2, .int x3), (1, .int s0), (0, .ref q0)]) hx hb d_Mod_decode_103 hl (by decide) rfl (fun ls hl => ?_)
      refine lv_aload_n hx hb d_Mod_decode_105 rfl (lv_at hl 4 rfl) ?_
      refine va_get (D := D) (ci := 7) (v := .int (u2 0 4)) (C := R_Mod) (T := F_Mod) (N := 28) hx hb hw in_Mod hown hK hP 0 rfl rfl 4 (by decide) (hw _ m_428) (fun _ h9 => h9) rfl d_Mod_decode_106 ?_
      refine lv_topi (fun x6 e_x6 => ?_)
      have hf := tk_e hf e_x6
      refine lv_istore (lv' := [(5, .int x6), (4, .int x5), (3, .int x4), (2, .int x3), (1, .int s0), (0, .ref q0)]) hx hb d_Mod_decode_109 hl (by decide) rfl (fun ls hl => ?_)
      refine lv_aload_n hx hb d_Mod_decode_111 rfl (lv_at hl 5 rfl) ?_
      refine va_get (D := D) (ci := 7) (v := .int (u2 0 12)) (C := R_Mod) (T := F_Mod) (N := 28) hx hb hw in_Mod hown hK hP 0 rfl rfl 15 (by decide) (hw _ m_448) (fun _ h9 => h9) rfl d_Mod_decode_112 ?_
      refine lv_topi (fun x7 e_x7 => ?_)
      have hf := tk_e hf e_x7
      refine lv_istore (lv' := [(6, .int x7), (5, .int x6), (4, .int x5), (3, .int x4), (2, .int x3), (1, .int s0), (0, .ref q0)]) hx hb d_Mod_decode_115 hl (by decide) rfl (fun ls hl => ?_)
      refine lv_aload_n hx hb d_Mod_decode_117 rfl (lv_at hl 6 rfl) ?_
      refine lv_aload_n hx hb d_Mod_decode_118 rfl (lv_at hl 6 rfl) ?_
      refine va_get (D := D) (ci := 7) (v := .ref q4) (C := R_Mod) (T := F_Mod) (N := 28) hx hb hw in_Mod hown hK hP 0 rfl rfl 16 (by decide) (hw _ m_466) (fun _ h9 => h9) rfl d_Mod_decode_119 ?_
      refine lv_iconst (v := 2) hx hb d_Mod_decode_122 (by decide) ?_
      refine va_iald hx hb hK hP 4 0 rfl rfl (ix_in (by decide)) d_Mod_decode_123 ?_
      refine va_put (D := D) (ci := 7) (v := .int (u2 4 (tc 2))) (ty := .int) (C := R_Mod) (T := F_Mod) (N := 28) hx hb hw in_Mod t_Mod t_Mod_ok n_Mod hown hK hP (hD _) hS 0 rfl rfl 1 (by decide) (hw _ m_455) (fun _ h9 => h9) rfl (by decide +kernel) rfl rfl (Nat.le_of_ble_eq_true rfl) d_Mod_decode_124 (fun H locs hP _ hS => ?_)
      obtain ⟨u8, e_u8, hf⟩ := tk_o hf
      have hP : va_P D cls (wMod cI q0 q1 q2 q3 q4 q5 q6 q7 u8) H := by rw [e_u8]; exact hP
      refine lv_aload_n hx hb d_Mod_decode_127 rfl (lv_at hl 6 rfl) ?_
      refine lv_aload_n hx hb d_Mod_decode_128 rfl (lv_at hl 6 rfl) ?_
      refine va_get (D := D) (ci := 7) (v := .ref q4) (C := R_Mod) (T := F_Mod) (N := 28) hx hb hw in_Mod hown hK hP 0 rfl rfl 16 (by decide) (hw _ m_466) (fun _ h9 => h9) rfl d_Mod_decode_129 ?_
      refine lv_iconst (v := 3) hx hb d_Mod_decode_132 (by decide) ?_
      refine va_iald hx hb hK hP 4 0 rfl rfl (ix_in (by decide)) d_Mod_decode_133 ?_
      refine va_put (D := D) (ci := 7) (v := .int (u8 4 (tc 3))) (ty := .int) (C := R_Mod) (T := F_Mod) (N := 28) hx hb hw in_Mod t_Mod t_Mod_ok n_Mod hown hK hP (hD _) hS 0 rfl rfl 2 (by decide) (hw _ m_456) (fun _ h9 => h9) rfl (by decide +kernel) rfl rfl (Nat.le_of_ble_eq_true rfl) d_Mod_decode_134 (fun H locs hP _ hS => ?_)
      obtain ⟨u9, e_u9, hf⟩ := tk_o hf
      have hP : va_P D cls (wMod cI q0 q1 q2 q3 q4 q5 q6 q7 u9) H := by rw [e_u9]; exact hP
      refine lv_aload_n hx hb d_Mod_decode_137 rfl (lv_at hl 6 rfl) ?_
      refine lv_aload_n hx hb d_Mod_decode_138 rfl (lv_at hl 6 rfl) ?_
      refine va_get (D := D) (ci := 7) (v := .ref q4) (C := R_Mod) (T := F_Mod) (N := 28) hx hb hw in_Mod hown hK hP 0 rfl rfl 16 (by decide) (hw _ m_466) (fun _ h9 => h9) rfl d_Mod_decode_139 ?_
      refine lv_iconst (v := 4) hx hb d_Mod_decode_142 (by decide) ?_
      refine va_iald hx hb hK hP 4 0 rfl rfl (ix_in (by decide)) d_Mod_decode_143 ?_
      refine va_put (D := D) (ci := 7) (v := .int (u9 4 (tc 4))) (ty := .int) (C := R_Mod) (T := F_Mod) (N := 28) hx hb hw in_Mod t_Mod t_Mod_ok n_Mod hown hK hP (hD _) hS 0 rfl rfl 3 (by decide) (hw _ m_427) (fun _ h9 => h9) rfl (by decide +kernel) rfl rfl (Nat.le_of_ble_eq_true rfl) d_Mod_decode_144 (fun H locs hP _ hS => ?_)
      obtain ⟨u10, e_u10, hf⟩ := tk_o hf
      have hP : va_P D cls (wMod cI q0 q1 q2 q3 q4 q5 q6 q7 u10) H := by rw [e_u10]; exact hP
      refine lv_aload_n hx hb d_Mod_decode_147 rfl (lv_at hl 6 rfl) ?_
      refine lv_aload_n hx hb d_Mod_decode_148 rfl (lv_at hl 6 rfl) ?_
      refine va_get (D := D) (ci := 7) (v := .ref q4) (C := R_Mod) (T := F_Mod) (N := 28) hx hb hw in_Mod hown hK hP 0 rfl rfl 16 (by decide) (hw _ m_466) (fun _ h9 => h9) rfl d_Mod_decode_149 ?_
      refine lv_iconst (v := 5) hx hb d_Mod_decode_152 (by decide) ?_
      refine va_iald hx hb hK hP 4 0 rfl rfl (ix_in (by decide)) d_Mod_decode_153 ?_
      refine va_put (D := D) (ci := 7) (v := .int (u10 4 (tc 5))) (ty := .int) (C := R_Mod) (T := F_Mod) (N := 28) hx hb hw in_Mod t_Mod t_Mod_ok n_Mod hown hK hP (hD _) hS 0 rfl rfl 4 (by decide) (hw _ m_428) (fun _ h9 => h9) rfl (by decide +kernel) rfl rfl (Nat.le_of_ble_eq_true rfl) d_Mod_decode_154 (fun H locs hP _ hS => ?_)
      obtain ⟨u11, e_u11, hf⟩ := tk_o hf
      have hP : va_P D cls (wMod cI q0 q1 q2 q3 q4 q5 q6 q7 u11) H := by rw [e_u11]; exact hP
      refine lv_aload_n hx hb d_Mod_decode_157 rfl (lv_at hl 6 rfl) ?_
      have hC : [0, 1, 2, 3, 4, 5, 6, 7].map (fun i => (wMod cI q0 q1 q2 q3 q4 q5 q6 q7 u11)[i]?) = (wMod cI q0 q1 q2 q3 q4 q5 q6 q7 u11).map some := rfl
      obtain ⟨w12, hc, hf⟩ := bd_o hf
      refine rw_v (va_runV (As := []) (rest := []) ⟨hx, hb, hml, hown, hw⟩ (c_Mod_prepare l D cI q0 q1 q2 q3 q4 q5 q6 q7 (dj_sub hd [0, 1, 2, 3, 4, 5, 6, 7] (by decide) rfl) u11 w12 hc) (cwV 0 hw g_68 rfl rfl rfl (by decide +kernel) ⟨Nat.le_of_ble_eq_true rfl, Nat.le_of_ble_eq_true rfl⟩) (pre_V (P_sub hC hP) hK rfl rfl) rfl rfl hl.1 rfl (lv_room (Nat.le_of_ble_eq_true rfl)) d_Mod_decode_158 ⟨Nat.le_of_ble_eq_true rfl, Nat.le_of_ble_eq_true rfl⟩) hS hP (hD _) hC rfl rfl (fun H locs hP hS => ?_)
      obtain ⟨u13, e_u13, hf⟩ := tk_o hf
      have hP : va_P D cls (wMod cI q0 q1 q2 q3 q4 q5 q6 q7 u13) H := by rw [e_u13]; exact hP
      refine lv_aload_n hx hb d_Mod_decode_161 rfl (lv_at hl 6 rfl) ?_
      have hC : [0, 1, 2, 3, 4, 5, 6, 7].map (fun i => (wMod cI q0 q1 q2 q3 q4 q5 q6 q7 u13)[i]?) = (wMod cI q0 q1 q2 q3 q4 q5 q6 q7 u13).map some := rfl
      obtain ⟨w14, hc, hf⟩ := bd_o hf
      refine rw_v (va_runV (As := []) (rest := []) ⟨hx, hb, hml, hown, hw⟩ (c_Mod_forget l D cI q0 q1 q2 q3 q4 q5 q6 q7 (dj_sub hd [0, 1, 2, 3, 4, 5, 6, 7] (by decide) rfl) u13 w14 hc) (cwV 0 hw g_69 rfl rfl rfl (by decide +kernel) ⟨Nat.le_of_ble_eq_true rfl, Nat.le_of_ble_eq_true rfl⟩) (pre_V (P_sub hC hP) hK rfl rfl) rfl rfl hl.1 rfl (lv_room (Nat.le_of_ble_eq_true rfl)) d_Mod_decode_162 ⟨Nat.le_of_ble_eq_true rfl, Nat.le_of_ble_eq_true rfl⟩) hS hP (hD _) hC rfl rfl (fun H locs hP hS => ?_)
      obtain ⟨u15, e_u15, hf⟩ := tk_o hf
      have hP : va_P D cls (wMod cI q0 q1 q2 q3 q4 q5 q6 q7 u15) H := by rw [e_u15]; exact hP
      refine lv_iconst (v := 0) hx hb d_Mod_decode_165 (by decide) ?_
      refine lv_istore (lv' := [(7, .int 0), (6, .int x7), (5, .int x6), (4, .int x5), (3, .int x4), (2, .int x3), (1, .int s0), (0, .ref q0)]) hx hb d_Mod_decode_166 hl (by decide) rfl (fun ls hl => ?_)
      exact lp168 2000 _ _ _ x3 x4 x5 x6 x7 0 u15 (lv_sub hl [7, 5, 4, 3, 2, 1, 0] rfl) hP hS hf
    have hf := bq_t hf hc
    refine lv_aload_n hx hb d_Mod_decode_78 rfl (lv_at hl 1 rfl) ?_
    refine lv_iconst (v := 1) hx hb d_Mod_decode_79 (by decide) ?_
    refine va_put (D := D) (ci := 7) (v := .int 1) (ty := .int) (C := R_Mod) (T := F_Mod) (N := 28) hx hb hw in_Mod t_Mod t_Mod_ok n_Mod hown hK hP (hD _) hS 0 rfl rfl 0 (by decide) (hw _ m_426) (fun _ h9 => h9) rfl (by decide +kernel) rfl rfl (Nat.le_of_ble_eq_true rfl) d_Mod_decode_80 (fun H locs hP _ hS => ?_)
    obtain ⟨u16, e_u16, hf⟩ := tk_o hf
    have hP : va_P D cls (wMod cI q0 q1 q2 q3 q4 q5 q6 q7 u16) H := by rw [e_u16]; exact hP
    refine lv_iconst (v := 0) hx hb d_Mod_decode_83 (by decide) ?_
    exact rt_i (wMod cI q0 q1 q2 q3 q4 q5 q6 q7) hx hb hr hlocks hS hP hf d_Mod_decode_84
  have j72 : ∀ (ls : Array Slot) (H : Heap) (locs : List Loc) (u : gU), lv_has ls 8 [(0, .ref q0)] → va_P D cls (wMod cI q0 q1 q2 q3 q4 q5 q6 q7 u) H → va_S (ad [q0, q1, q2, q3, q4, q5, q6, q7]) s.heap H locs → J_Mod_decode_72 u = some (r, v) → W p l e ({ frames := 7, cells := 0, slots := 0, locals := 178 }) s m [.ref q0].toArray below meth c H locs 0 0 (MQ below (va_Qi (fun x (_ : Unit) => x = r) (fun _ t => va_P D cls (wMod cI q0 q1 q2 q3 q4 q5 q6 q7 v) t.heap) (ad [q0, q1, q2, q3, q4, q5, q6, q7])) [.ref q0].toArray s 0 0 (ad [q0, q1, q2, q3, q4, q5, q6, q7])) (F0 m 72 ls []) := by
    intro ls H locs u hl hP hS hf
    unfold J_Mod_decode_72 at hf
    refine lv_iconst (v := 0) hx hb d_Mod_decode_72 (by decide) ?_
    exact j73 _ _ _ 0 u (lv_sub hl [0] rfl) hP hS hf
  unfold f_Mod_decode at hf
  refine lv_aload_n hx hb d_Mod_decode_0 rfl (lv_at hl 0 rfl) ?_
  refine lv_iconst (v := 0) hx hb d_Mod_decode_1 (by decide) ?_
  refine va_put (D := D) (ci := 7) (v := .int 0) (ty := .int) (C := R_Mod) (T := F_Mod) (N := 28) hx hb hw in_Mod t_Mod t_Mod_ok n_Mod hown hK hP (hD _) hS 0 rfl rfl 0 (by decide) (hw _ m_426) (fun _ h9 => h9) rfl (by decide +kernel) rfl rfl (Nat.le_of_ble_eq_true rfl) d_Mod_decode_2 (fun H locs hP _ hS => ?_)
  obtain ⟨u1, e_u1, hf⟩ := tk_o hf
  have hP : va_P D cls (wMod cI q0 q1 q2 q3 q4 q5 q6 q7 u1) H := by rw [e_u1]; exact hP
  refine lv_aload_n hx hb d_Mod_decode_5 rfl (lv_at hl 0 rfl) ?_
  refine va_get (D := D) (ci := 7) (v := .int (u1 0 13)) (C := R_Mod) (T := F_Mod) (N := 28) hx hb hw in_Mod hown hK hP 0 rfl rfl 17 (by decide) (hw _ m_450) (fun _ h9 => h9) rfl d_Mod_decode_6 ?_
  refine lv_bipush (v := 8) hx hb d_Mod_decode_9 (by decide) ?_
  refine lv_icmp_lt (tgt := 72) hx hb d_Mod_decode_11 (by decide) (fun hc => ?_) (fun hc => ?_)
  · have hf := bq_t hf hc
    exact j72 _ _ _  u1 (lv_sub hl [0] rfl) hP hS hf
  have hf := bq_n hf hc
  refine lv_aload_n hx hb d_Mod_decode_14 rfl (lv_at hl 0 rfl) ?_
  refine va_get (D := D) (ci := 7) (v := .ref q4) (C := R_Mod) (T := F_Mod) (N := 28) hx hb hw in_Mod hown hK hP 0 rfl rfl 16 (by decide) (hw _ m_466) (fun _ h9 => h9) rfl d_Mod_decode_15 ?_
  refine lv_iconst (v := 0) hx hb d_Mod_decode_18 (by decide) ?_
  refine va_iald hx hb hK hP 4 0 rfl rfl (ix_in (by decide)) d_Mod_decode_19 ?_
  refine lv_sipush (v := 255) hx hb d_Mod_decode_20 (by decide) ?_
  refine lv_icmp_ne (tgt := 72) hx hb d_Mod_decode_23 (by decide) (fun hc => ?_) (fun hc => ?_)
  · have hf := bq_n hf hc
    exact j72 _ _ _  u1 (lv_sub hl [0] rfl) hP hS hf
  have hf := bq_t hf hc
  refine lv_aload_n hx hb d_Mod_decode_26 rfl (lv_at hl 0 rfl) ?_
  refine va_get (D := D) (ci := 7) (v := .ref q4) (C := R_Mod) (T := F_Mod) (N := 28) hx hb hw in_Mod hown hK hP 0 rfl rfl 16 (by decide) (hw _ m_466) (fun _ h9 => h9) rfl d_Mod_decode_27 ?_
  refine lv_iconst (v := 1) hx hb d_Mod_decode_30 (by decide) ?_
  refine va_iald hx hb hK hP 4 0 rfl rfl (ix_in (by decide)) d_Mod_decode_31 ?_
  refine lv_sipush (v := 216) hx hb d_Mod_decode_32 (by decide) ?_
  refine lv_icmp_ne (tgt := 72) hx hb d_Mod_decode_35 (by decide) (fun hc => ?_) (fun hc => ?_)
  · have hf := bq_n hf hc
    exact j72 _ _ _  u1 (lv_sub hl [0] rfl) hP hS hf
  have hf := bq_t hf hc
  refine lv_aload_n hx hb d_Mod_decode_38 rfl (lv_at hl 0 rfl) ?_
  refine va_get (D := D) (ci := 7) (v := .ref q4) (C := R_Mod) (T := F_Mod) (N := 28) hx hb hw in_Mod hown hK hP 0 rfl rfl 16 (by decide) (hw _ m_466) (fun _ h9 => h9) rfl d_Mod_decode_39 ?_
  refine lv_iconst (v := 2) hx hb d_Mod_decode_42 (by decide) ?_
  refine va_iald hx hb hK hP 4 0 rfl rfl (ix_in (by decide)) d_Mod_decode_43 ?_
  refine lv_aload_n hx hb d_Mod_decode_44 rfl (lv_at hl 0 rfl) ?_
  refine va_get (D := D) (ci := 7) (v := .ref q4) (C := R_Mod) (T := F_Mod) (N := 28) hx hb hw in_Mod hown hK hP 0 rfl rfl 16 (by decide) (hw _ m_466) (fun _ h9 => h9) rfl d_Mod_decode_45 ?_
  refine lv_iconst (v := 3) hx hb d_Mod_decode_48 (by decide) ?_
  refine va_iald hx hb hK hP 4 0 rfl rfl (ix_in (by decide)) d_Mod_decode_49 ?_
  refine lv_aload_n hx hb d_Mod_decode_50 rfl (lv_at hl 0 rfl) ?_
  refine va_get (D := D) (ci := 7) (v := .ref q4) (C := R_Mod) (T := F_Mod) (N := 28) hx hb hw in_Mod hown hK hP 0 rfl rfl 16 (by decide) (hw _ m_466) (fun _ h9 => h9) rfl d_Mod_decode_51 ?_
  refine lv_iconst (v := 4) hx hb d_Mod_decode_54 (by decide) ?_
  refine va_iald hx hb hK hP 4 0 rfl rfl (ix_in (by decide)) d_Mod_decode_55 ?_
  refine lv_aload_n hx hb d_Mod_decode_56 rfl (lv_at hl 0 rfl) ?_
  refine va_get (D := D) (ci := 7) (v := .ref q4) (C := R_Mod) (T := F_Mod) (N := 28) hx hb hw in_Mod hown hK hP 0 rfl rfl 16 (by decide) (hw _ m_466) (fun _ h9 => h9) rfl d_Mod_decode_57 ?_
  refine lv_iconst (v := 5) hx hb d_Mod_decode_60 (by decide) ?_
  refine va_iald hx hb hK hP 4 0 rfl rfl (ix_in (by decide)) d_Mod_decode_61 ?_
  have hC : ([] : List Nat).map (fun i => (wMod cI q0 q1 q2 q3 q4 q5 q6 q7 u1)[i]?) = ([] : va_W).map some := rfl
  obtain ⟨x2, hc, hf⟩ := bd_o hf
  refine ro_i (va_runS (As := [.int (u1 4 (tc 2)), .int (u1 4 (tc 3)), .int (u1 4 (tc 4)), .int (u1 4 (tc 5))]) (rest := []) ⟨hx, hb, hml, hown, hw⟩ (c_Mod_fits l D cI (u1 4 (tc 2)) (u1 4 (tc 3)) (u1 4 (tc 4)) (u1 4 (tc 5)) x2 hc) (va_cwS 4 hw g_67 rfl rfl rfl (by decide +kernel) ⟨Nat.le_of_ble_eq_true rfl, Nat.le_of_ble_eq_true rfl⟩) (pre_S (P_sub hC hP) hK) rfl rfl hl.1 rfl (lv_room (Nat.le_of_ble_eq_true rfl)) d_Mod_decode_62 ⟨Nat.le_of_ble_eq_true rfl, Nat.le_of_ble_eq_true rfl⟩) hS hP (fun H locs hP hS => ?_)
  refine lv_if_eq (tgt := 72) hx hb d_Mod_decode_65 (by decide) (fun hc => ?_) (fun hc => ?_)
  · have hf := bq_t hf hc
    exact j72 _ _ _  u1 (lv_sub hl [0] rfl) hP hS hf
  have hf := bq_n hf hc
  refine lv_iconst (v := 1) hx hb d_Mod_decode_68 (by decide) ?_
  refine lv_goto (tgt := 73) hx hb d_Mod_decode_69 (by decide) ?_
  exact j73 _ _ _ 1 u1 (lv_sub hl [0] rfl) hP hS hf
def f_Mod_size (u : gU) : Option (Int32 × gU) := tk (st2 u 0 0 0) fun u1 => some (u1 0 13, u1)
set_option maxHeartbeats 4000000 in
set_option maxRecDepth 100000 in
theorem c_Mod_size (l : Launch) (D : va_G) (cI : ClassId) (q0 : Nat) (q1 : Nat) (q2 : Nat) (q3 : Nat) (q4 : Nat) (q5 : Nat) (q6 : Nat) (q7 : Nat) (hd : dj [q0, q1, q2, q3, q4, q5, q6, q7]) (u : gU) (r : Int32) (v : gU) (hf : f_Mod_size u = some (r, v)) : Met l y_Mod_size (.code y_Mod_size b_Mod_size 1 (some .int) :: TS) ({ frames := 0, cells := 0, slots := 0, locals := 0 }) (va_Pc [.ref q0] (fun U => va_P D cls (wMod cI q0 q1 q2 q3 q4 q5 q6 q7 u) U.heap ∧ va_K D cls [(cI, .int)] U)) (va_Qi (fun x (_ : Unit) => x = r) (fun _ t => va_P D cls (wMod cI q0 q1 q2 q3 q4 q5 q6 q7 v) t.heap) (ad [q0, q1, q2, q3, q4, q5, q6, q7])) 0 0 (ad [q0, q1, q2, q3, q4, q5, q6, q7]) := by
  refine ct_of (by decide +kernel) (Nat.le_of_ble_eq_true rfl) ?_
  intro p e s m below meth c ls hx hb hml hr hlocks hown hw hP hK hl
  have hS : va_S (ad [q0, q1, q2, q3, q4, q5, q6, q7]) s.heap s.heap [] := va_S.rf
  have hD : ∀ v, va_D (ad [q0, q1, q2, q3, q4, q5, q6, q7]) (wMod cI q0 q1 q2 q3 q4 q5 q6 q7 v) := fun _ => dj_D rfl hd
  have hl : lv_has ls 1 [(0, .ref q0)] := hl
  have hP : va_P D cls (wMod cI q0 q1 q2 q3 q4 q5 q6 q7 u) s.heap := hP
  unfold f_Mod_size at hf
  refine lv_aload_n hx hb d_Mod_size_0 rfl (lv_at hl 0 rfl) ?_
  refine lv_iconst (v := 0) hx hb d_Mod_size_1 (by decide) ?_
  refine va_put (D := D) (ci := 7) (v := .int 0) (ty := .int) (C := R_Mod) (T := F_Mod) (N := 28) hx hb hw in_Mod t_Mod t_Mod_ok n_Mod hown hK hP (hD _) hS 0 rfl rfl 0 (by decide) (hw _ m_426) (fun _ h9 => h9) rfl (by decide +kernel) rfl rfl (Nat.le_of_ble_eq_true rfl) d_Mod_size_2 (fun H locs hP _ hS => ?_)
  obtain ⟨u1, e_u1, hf⟩ := tk_o hf
  have hP : va_P D cls (wMod cI q0 q1 q2 q3 q4 q5 q6 q7 u1) H := by rw [e_u1]; exact hP
  refine lv_aload_n hx hb d_Mod_size_5 rfl (lv_at hl 0 rfl) ?_
  refine va_get (D := D) (ci := 7) (v := .int (u1 0 13)) (C := R_Mod) (T := F_Mod) (N := 28) hx hb hw in_Mod hown hK hP 0 rfl rfl 17 (by decide) (hw _ m_450) (fun _ h9 => h9) rfl d_Mod_size_6 ?_
  exact rt_i (wMod cI q0 q1 q2 q3 q4 q5 q6 q7) hx hb hr hlocks hS hP hf d_Mod_size_9
def f_Mod_code (a1 : Int32) (u : gU) : Option (Int32 × gU) := tk (st2 u 0 0 0) fun u1 => bq (a1 < 0) (some ((-1), u1)) (bq ((u1 0 13) ≤ a1) (some ((-1), u1)) (gd (ix a1 600) (some (u1 4 (tc a1), u1))))
set_option maxHeartbeats 4000000 in
set_option maxRecDepth 100000 in
theorem c_Mod_code (l : Launch) (D : va_G) (cI : ClassId) (q0 : Nat) (q1 : Nat) (q2 : Nat) (q3 : Nat) (q4 : Nat) (q5 : Nat) (q6 : Nat) (q7 : Nat) (hd : dj [q0, q1, q2, q3, q4, q5, q6, q7]) (a1 : Int32) (u : gU) (r : Int32) (v : gU) (hf : f_Mod_code a1 u = some (r, v)) : Met l y_Mod_code (.code y_Mod_code b_Mod_code 2 (some .int) :: TS) ({ frames := 0, cells := 0, slots := 0, locals := 0 }) (va_Pc [.ref q0, .int a1] (fun U => va_P D cls (wMod cI q0 q1 q2 q3 q4 q5 q6 q7 u) U.heap ∧ va_K D cls [(cI, .int)] U)) (va_Qi (fun x (_ : Unit) => x = r) (fun _ t => va_P D cls (wMod cI q0 q1 q2 q3 q4 q5 q6 q7 v) t.heap) (ad [q0, q1, q2, q3, q4, q5, q6, q7])) 0 0 (ad [q0, q1, q2, q3, q4, q5, q6, q7]) := by
  refine ct_of (by decide +kernel) (Nat.le_of_ble_eq_true rfl) ?_
  intro p e s m below meth c ls hx hb hml hr hlocks hown hw hP hK hl
  have hS : va_S (ad [q0, q1, q2, q3, q4, q5, q6, q7]) s.heap s.heap [] := va_S.rf
  have hD : ∀ v, va_D (ad [q0, q1, q2, q3, q4, q5, q6, q7]) (wMod cI q0 q1 q2 q3 q4 q5 q6 q7 v) := fun _ => dj_D rfl hd
  have hl : lv_has ls 2 [(0, .ref q0), (1, .int a1)] := hl
  have hP : va_P D cls (wMod cI q0 q1 q2 q3 q4 q5 q6 q7 u) s.heap := hP
  unfold f_Mod_code at hf
  refine lv_aload_n hx hb d_Mod_code_0 rfl (lv_at hl 0 rfl) ?_
  refine lv_iconst (v := 0) hx hb d_Mod_code_1 (by decide) ?_
  refine va_put (D := D) (ci := 7) (v := .int 0) (ty := .int) (C := R_Mod) (T := F_Mod) (N := 28) hx hb hw in_Mod t_Mod t_Mod_ok n_Mod hown hK hP (hD _) hS 0 rfl rfl 0 (by decide) (hw _ m_426) (fun _ h9 => h9) rfl (by decide +kernel) rfl rfl (Nat.le_of_ble_eq_true rfl) d_Mod_code_2 (fun H locs hP _ hS => ?_)
  obtain ⟨u1, e_u1, hf⟩ := tk_o hf
  have hP : va_P D cls (wMod cI q0 q1 q2 q3 q4 q5 q6 q7 u1) H := by rw [e_u1]; exact hP
  refine lv_iload_n hx hb d_Mod_code_5 rfl (lv_at hl 1 rfl) ?_
  refine lv_if_lt (tgt := 26) hx hb d_Mod_code_6 (by decide) (fun hc => ?_) (fun hc => ?_)
  · have hf := bq_t hf hc
    refine lv_iconst (v := (-1)) hx hb d_Mod_code_26 (by decide) ?_
    exact rt_i (wMod cI q0 q1 q2 q3 q4 q5 q6 q7) hx hb hr hlocks hS hP hf d_Mod_code_27
  have hf := bq_n hf hc
  refine lv_iload_n hx hb d_Mod_code_9 rfl (lv_at hl 1 rfl) ?_
  refine lv_aload_n hx hb d_Mod_code_10 rfl (lv_at hl 0 rfl) ?_
  refine va_get (D := D) (ci := 7) (v := .int (u1 0 13)) (C := R_Mod) (T := F_Mod) (N := 28) hx hb hw in_Mod hown hK hP 0 rfl rfl 17 (by decide) (hw _ m_450) (fun _ h9 => h9) rfl d_Mod_code_11 ?_
  refine lv_icmp_ge (tgt := 26) hx hb d_Mod_code_14 (by decide) (fun hc => ?_) (fun hc => ?_)
  · have hf := bq_t hf hc
    refine lv_iconst (v := (-1)) hx hb d_Mod_code_26 (by decide) ?_
    exact rt_i (wMod cI q0 q1 q2 q3 q4 q5 q6 q7) hx hb hr hlocks hS hP hf d_Mod_code_27
  have hf := bq_n hf hc
  refine lv_aload_n hx hb d_Mod_code_17 rfl (lv_at hl 0 rfl) ?_
  refine va_get (D := D) (ci := 7) (v := .ref q4) (C := R_Mod) (T := F_Mod) (N := 28) hx hb hw in_Mod hown hK hP 0 rfl rfl 16 (by decide) (hw _ m_466) (fun _ h9 => h9) rfl d_Mod_code_18 ?_
  refine lv_iload_n hx hb d_Mod_code_21 rfl (lv_at hl 1 rfl) ?_
  obtain ⟨h2, hf⟩ := gd_o hf
  refine va_iald hx hb hK hP 4 0 rfl rfl (ix_in h2) d_Mod_code_22 ?_
  refine lv_goto (tgt := 27) hx hb d_Mod_code_23 (by decide) ?_
  exact rt_i (wMod cI q0 q1 q2 q3 q4 q5 q6 q7) hx hb hr hlocks hS hP hf d_Mod_code_27
def f_Mod_poke (a1 : Int32) (a2 : Int32) (u : gU) : Option (Int32 × gU) := tk (st2 u 0 0 0) fun u1 => bq (a1 < 0) (some (0, u1)) (bq ((u1 0 13) ≤ a1) (some (0, u1)) (bq (a2 < 0) (some (0, u1)) (bq (a2 ≤ 255) (gd (ix a1 600) (tk (st2 u1 4 (tc a1) a2) fun u3 => some (1, u3))) (some (0, u1)))))
set_option maxHeartbeats 4000000 in
set_option maxRecDepth 100000 in
theorem c_Mod_poke (l : Launch) (D : va_G) (cI : ClassId) (q0 : Nat) (q1 : Nat) (q2 : Nat) (q3 : Nat) (q4 : Nat) (q5 : Nat) (q6 : Nat) (q7 : Nat) (hd : dj [q0, q1, q2, q3, q4, q5, q6, q7]) (a1 : Int32) (a2 : Int32) (u : gU) (r : Int32) (v : gU) (hf : f_Mod_poke a1 a2 u = some (r, v)) : Met l y_Mod_poke (.code y_Mod_poke b_Mod_poke 3 (some .boolean) :: TS) ({ frames := 0, cells := 0, slots := 0, locals := 0 }) (va_Pc [.ref q0, .int a1, .int a2] (fun U => va_P D cls (wMod cI q0 q1 q2 q3 q4 q5 q6 q7 u) U.heap ∧ va_K D cls [(cI, .int)] U)) (va_Qi (fun x (_ : Unit) => x = r) (fun _ t => va_P D cls (wMod cI q0 q1 q2 q3 q4 q5 q6 q7 v) t.heap) (ad [q0, q1, q2, q3, q4, q5, q6, q7])) 0 0 (ad [q0, q1, q2, q3, q4, q5, q6, q7]) := by
  refine ct_of (by decide +kernel) (Nat.le_of_ble_eq_true rfl) ?_
  intro p e s m below meth c ls hx hb hml hr hlocks hown hw hP hK hl
  have hS : va_S (ad [q0, q1, q2, q3, q4, q5, q6, q7]) s.heap s.heap [] := va_S.rf
  have hD : ∀ v, va_D (ad [q0, q1, q2, q3, q4, q5, q6, q7]) (wMod cI q0 q1 q2 q3 q4 q5 q6 q7 v) := fun _ => dj_D rfl hd
  have hl : lv_has ls 3 [(0, .ref q0), (1, .int a1), (2, .int a2)] := hl
  have hP : va_P D cls (wMod cI q0 q1 q2 q3 q4 q5 q6 q7 u) s.heap := hP
  unfold f_Mod_poke at hf
  refine lv_aload_n hx hb d_Mod_poke_0 rfl (lv_at hl 0 rfl) ?_
  refine lv_iconst (v := 0) hx hb d_Mod_poke_1 (by decide) ?_
  refine va_put (D := D) (ci := 7) (v := .int 0) (ty := .int) (C := R_Mod) (T := F_Mod) (N := 28) hx hb hw in_Mod t_Mod t_Mod_ok n_Mod hown hK hP (hD _) hS 0 rfl rfl 0 (by decide) (hw _ m_426) (fun _ h9 => h9) rfl (by decide +kernel) rfl rfl (Nat.le_of_ble_eq_true rfl) d_Mod_poke_2 (fun H locs hP _ hS => ?_)
  obtain ⟨u1, e_u1, hf⟩ := tk_o hf
  have hP : va_P D cls (wMod cI q0 q1 q2 q3 q4 q5 q6 q7 u1) H := by rw [e_u1]; exact hP
  refine lv_iload_n hx hb d_Mod_poke_5 rfl (lv_at hl 1 rfl) ?_
  refine lv_if_lt (tgt := 28) hx hb d_Mod_poke_6 (by decide) (fun hc => ?_) (fun hc => ?_)
  · have hf := bq_t hf hc
    refine lv_iconst (v := 0) hx hb d_Mod_poke_28 (by decide) ?_
    exact rt_z (wMod cI q0 q1 q2 q3 q4 q5 q6 q7) hx hb hr hlocks (Or.inl rfl) hS hP hf d_Mod_poke_29
  have hf := bq_n hf hc
  refine lv_iload_n hx hb d_Mod_poke_9 rfl (lv_at hl 1 rfl) ?_
  refine lv_aload_n hx hb d_Mod_poke_10 rfl (lv_at hl 0 rfl) ?_
  refine va_get (D := D) (ci := 7) (v := .int (u1 0 13)) (C := R_Mod) (T := F_Mod) (N := 28) hx hb hw in_Mod hown hK hP 0 rfl rfl 17 (by decide) (hw _ m_450) (fun _ h9 => h9) rfl d_Mod_poke_11 ?_
  refine lv_icmp_ge (tgt := 28) hx hb d_Mod_poke_14 (by decide) (fun hc => ?_) (fun hc => ?_)
  · have hf := bq_t hf hc
    refine lv_iconst (v := 0) hx hb d_Mod_poke_28 (by decide) ?_
    exact rt_z (wMod cI q0 q1 q2 q3 q4 q5 q6 q7) hx hb hr hlocks (Or.inl rfl) hS hP hf d_Mod_poke_29
  have hf := bq_n hf hc
  refine lv_iload_n hx hb d_Mod_poke_17 rfl (lv_at hl 2 rfl) ?_
  refine lv_if_lt (tgt := 28) hx hb d_Mod_poke_18 (by decide) (fun hc => ?_) (fun hc => ?_)
  · have hf := bq_t hf hc
    refine lv_iconst (v := 0) hx hb d_Mod_poke_28 (by decide) ?_
    exact rt_z (wMod cI q0 q1 q2 q3 q4 q5 q6 q7) hx hb hr hlocks (Or.inl rfl) hS hP hf d_Mod_poke_29
  have hf := bq_n hf hc
  refine lv_iload_n hx hb d_Mod_poke_21 rfl (lv_at hl 2 rfl) ?_
  refine lv_sipush (v := 255) hx hb d_Mod_poke_22 (by decide) ?_
  refine lv_icmp_le (tgt := 30) hx hb d_Mod_poke_25 (by decide) (fun hc => ?_) (fun hc => ?_)
  · have hf := bq_t hf hc
    refine lv_aload_n hx hb d_Mod_poke_30 rfl (lv_at hl 0 rfl) ?_
    refine va_get (D := D) (ci := 7) (v := .ref q4) (C := R_Mod) (T := F_Mod) (N := 28) hx hb hw in_Mod hown hK hP 0 rfl rfl 16 (by decide) (hw _ m_466) (fun _ h9 => h9) rfl d_Mod_poke_31 ?_
    refine lv_iload_n hx hb d_Mod_poke_34 rfl (lv_at hl 1 rfl) ?_
    refine lv_iload_n hx hb d_Mod_poke_35 rfl (lv_at hl 2 rfl) ?_
    obtain ⟨h2, hf⟩ := gd_o hf
    refine va_iast hx hb hK hP (hD _) hS 4 0 rfl rfl (ix_in h2) d_Mod_poke_36 (fun H locs hP _ hS => ?_)
    obtain ⟨u3, e_u3, hf⟩ := tk_o hf
    have hP : va_P D cls (wMod cI q0 q1 q2 q3 q4 q5 q6 q7 u3) H := by rw [e_u3]; exact hP
    refine lv_iconst (v := 1) hx hb d_Mod_poke_37 (by decide) ?_
    exact rt_z (wMod cI q0 q1 q2 q3 q4 q5 q6 q7) hx hb hr hlocks (Or.inr rfl) hS hP hf d_Mod_poke_38
  have hf := bq_n hf hc
  refine lv_iconst (v := 0) hx hb d_Mod_poke_28 (by decide) ?_
  exact rt_z (wMod cI q0 q1 q2 q3 q4 q5 q6 q7) hx hb hr hlocks (Or.inl rfl) hS hP hf d_Mod_poke_29
def f_Mod_cut (a1 : Int32) (u : gU) : Option (Int32 × gU) := tk (st2 u 0 0 0) fun u1 => bq (a1 < 0) (some (0, u1)) (bq (a1 ≤ (u1 0 13)) (tk (st2 u1 0 13 a1) fun u2 => some (1, u2)) (some (0, u1)))
set_option maxHeartbeats 4000000 in
set_option maxRecDepth 100000 in
theorem c_Mod_cut (l : Launch) (D : va_G) (cI : ClassId) (q0 : Nat) (q1 : Nat) (q2 : Nat) (q3 : Nat) (q4 : Nat) (q5 : Nat) (q6 : Nat) (q7 : Nat) (hd : dj [q0, q1, q2, q3, q4, q5, q6, q7]) (a1 : Int32) (u : gU) (r : Int32) (v : gU) (hf : f_Mod_cut a1 u = some (r, v)) : Met l y_Mod_cut (.code y_Mod_cut b_Mod_cut 2 (some .boolean) :: TS) ({ frames := 0, cells := 0, slots := 0, locals := 0 }) (va_Pc [.ref q0, .int a1] (fun U => va_P D cls (wMod cI q0 q1 q2 q3 q4 q5 q6 q7 u) U.heap ∧ va_K D cls [(cI, .int)] U)) (va_Qi (fun x (_ : Unit) => x = r) (fun _ t => va_P D cls (wMod cI q0 q1 q2 q3 q4 q5 q6 q7 v) t.heap) (ad [q0, q1, q2, q3, q4, q5, q6, q7])) 0 0 (ad [q0, q1, q2, q3, q4, q5, q6, q7]) := by
  refine ct_of (by decide +kernel) (Nat.le_of_ble_eq_true rfl) ?_
  intro p e s m below meth c ls hx hb hml hr hlocks hown hw hP hK hl
  have hS : va_S (ad [q0, q1, q2, q3, q4, q5, q6, q7]) s.heap s.heap [] := va_S.rf
  have hD : ∀ v, va_D (ad [q0, q1, q2, q3, q4, q5, q6, q7]) (wMod cI q0 q1 q2 q3 q4 q5 q6 q7 v) := fun _ => dj_D rfl hd
  have hl : lv_has ls 2 [(0, .ref q0), (1, .int a1)] := hl
  have hP : va_P D cls (wMod cI q0 q1 q2 q3 q4 q5 q6 q7 u) s.heap := hP
  unfold f_Mod_cut at hf
  refine lv_aload_n hx hb d_Mod_cut_0 rfl (lv_at hl 0 rfl) ?_
  refine lv_iconst (v := 0) hx hb d_Mod_cut_1 (by decide) ?_
  refine va_put (D := D) (ci := 7) (v := .int 0) (ty := .int) (C := R_Mod) (T := F_Mod) (N := 28) hx hb hw in_Mod t_Mod t_Mod_ok n_Mod hown hK hP (hD _) hS 0 rfl rfl 0 (by decide) (hw _ m_426) (fun _ h9 => h9) rfl (by decide +kernel) rfl rfl (Nat.le_of_ble_eq_true rfl) d_Mod_cut_2 (fun H locs hP _ hS => ?_)
  obtain ⟨u1, e_u1, hf⟩ := tk_o hf
  have hP : va_P D cls (wMod cI q0 q1 q2 q3 q4 q5 q6 q7 u1) H := by rw [e_u1]; exact hP
  refine lv_iload_n hx hb d_Mod_cut_5 rfl (lv_at hl 1 rfl) ?_
  refine lv_if_lt (tgt := 17) hx hb d_Mod_cut_6 (by decide) (fun hc => ?_) (fun hc => ?_)
  · have hf := bq_t hf hc
    refine lv_iconst (v := 0) hx hb d_Mod_cut_17 (by decide) ?_
    exact rt_z (wMod cI q0 q1 q2 q3 q4 q5 q6 q7) hx hb hr hlocks (Or.inl rfl) hS hP hf d_Mod_cut_18
  have hf := bq_n hf hc
  refine lv_iload_n hx hb d_Mod_cut_9 rfl (lv_at hl 1 rfl) ?_
  refine lv_aload_n hx hb d_Mod_cut_10 rfl (lv_at hl 0 rfl) ?_
  refine va_get (D := D) (ci := 7) (v := .int (u1 0 13)) (C := R_Mod) (T := F_Mod) (N := 28) hx hb hw in_Mod hown hK hP 0 rfl rfl 17 (by decide) (hw _ m_450) (fun _ h9 => h9) rfl d_Mod_cut_11 ?_
  refine lv_icmp_le (tgt := 19) hx hb d_Mod_cut_14 (by decide) (fun hc => ?_) (fun hc => ?_)
  · have hf := bq_t hf hc
    refine lv_aload_n hx hb d_Mod_cut_19 rfl (lv_at hl 0 rfl) ?_
    refine lv_iload_n hx hb d_Mod_cut_20 rfl (lv_at hl 1 rfl) ?_
    refine va_put (D := D) (ci := 7) (v := .int a1) (ty := .int) (C := R_Mod) (T := F_Mod) (N := 28) hx hb hw in_Mod t_Mod t_Mod_ok n_Mod hown hK hP (hD _) hS 0 rfl rfl 17 (by decide) (hw _ m_450) (fun _ h9 => h9) rfl (by decide +kernel) rfl rfl (Nat.le_of_ble_eq_true rfl) d_Mod_cut_21 (fun H locs hP _ hS => ?_)
    obtain ⟨u2, e_u2, hf⟩ := tk_o hf
    have hP : va_P D cls (wMod cI q0 q1 q2 q3 q4 q5 q6 q7 u2) H := by rw [e_u2]; exact hP
    refine lv_iconst (v := 1) hx hb d_Mod_cut_24 (by decide) ?_
    exact rt_z (wMod cI q0 q1 q2 q3 q4 q5 q6 q7) hx hb hr hlocks (Or.inr rfl) hS hP hf d_Mod_cut_25
  have hf := bq_n hf hc
  refine lv_iconst (v := 0) hx hb d_Mod_cut_17 (by decide) ?_
  exact rt_z (wMod cI q0 q1 q2 q3 q4 q5 q6 q7) hx hb hr hlocks (Or.inl rfl) hS hP hf d_Mod_cut_18
def f_Mod_number (a1 : Int32) (u : gU) : Option (Int32 × gU) := tk (st2 u 0 0 0) fun u1 => bq (a1 = 0) (some (u1 0 1, u1)) (bq (a1 = 1) (some (u1 0 2, u1)) (bq (a1 = 2) (some (u1 0 3, u1)) (bq (a1 = 3) (some (u1 0 4, u1)) (bq (a1 = 4) (some (u1 0 6, u1)) (bq (a1 = 5) (some (u1 0 7, u1)) (bq (a1 = 6) (some (u1 0 8, u1)) (bq (a1 = 7) (some (u1 0 9, u1)) (bq (a1 = 8) (some (u1 0 10, u1)) (bq (a1 = 9) (some (u1 0 11, u1)) (some ((-1), u1)))))))))))
set_option maxHeartbeats 4000000 in
set_option maxRecDepth 100000 in
theorem c_Mod_number (l : Launch) (D : va_G) (cI : ClassId) (q0 : Nat) (q1 : Nat) (q2 : Nat) (q3 : Nat) (q4 : Nat) (q5 : Nat) (q6 : Nat) (q7 : Nat) (hd : dj [q0, q1, q2, q3, q4, q5, q6, q7]) (a1 : Int32) (u : gU) (r : Int32) (v : gU) (hf : f_Mod_number a1 u = some (r, v)) : Met l y_Mod_number (.code y_Mod_number b_Mod_number 2 (some .int) :: TS) ({ frames := 0, cells := 0, slots := 0, locals := 0 }) (va_Pc [.ref q0, .int a1] (fun U => va_P D cls (wMod cI q0 q1 q2 q3 q4 q5 q6 q7 u) U.heap ∧ va_K D cls [(cI, .int)] U)) (va_Qi (fun x (_ : Unit) => x = r) (fun _ t => va_P D cls (wMod cI q0 q1 q2 q3 q4 q5 q6 q7 v) t.heap) (ad [q0, q1, q2, q3, q4, q5, q6, q7])) 0 0 (ad [q0, q1, q2, q3, q4, q5, q6, q7]) := by
  refine ct_of (by decide +kernel) (Nat.le_of_ble_eq_true rfl) ?_
  intro p e s m below meth c ls hx hb hml hr hlocks hown hw hP hK hl
  have hS : va_S (ad [q0, q1, q2, q3, q4, q5, q6, q7]) s.heap s.heap [] := va_S.rf
  have hD : ∀ v, va_D (ad [q0, q1, q2, q3, q4, q5, q6, q7]) (wMod cI q0 q1 q2 q3 q4 q5 q6 q7 v) := fun _ => dj_D rfl hd
  have hl : lv_has ls 2 [(0, .ref q0), (1, .int a1)] := hl
  have hP : va_P D cls (wMod cI q0 q1 q2 q3 q4 q5 q6 q7 u) s.heap := hP
  unfold f_Mod_number at hf
  refine lv_aload_n hx hb d_Mod_number_0 rfl (lv_at hl 0 rfl) ?_
  refine lv_iconst (v := 0) hx hb d_Mod_number_1 (by decide) ?_
  refine va_put (D := D) (ci := 7) (v := .int 0) (ty := .int) (C := R_Mod) (T := F_Mod) (N := 28) hx hb hw in_Mod t_Mod t_Mod_ok n_Mod hown hK hP (hD _) hS 0 rfl rfl 0 (by decide) (hw _ m_426) (fun _ h9 => h9) rfl (by decide +kernel) rfl rfl (Nat.le_of_ble_eq_true rfl) d_Mod_number_2 (fun H locs hP _ hS => ?_)
  obtain ⟨u1, e_u1, hf⟩ := tk_o hf
  have hP : va_P D cls (wMod cI q0 q1 q2 q3 q4 q5 q6 q7 u1) H := by rw [e_u1]; exact hP
  refine lv_iload_n hx hb d_Mod_number_5 rfl (lv_at hl 1 rfl) ?_
  by_cases hc0 : a1 = 0
  · have hf := bq_t hf hc0
    refine lv_tableIn (tgt := 60) hx hb d_Mod_number_6 (by rw [hc0]; decide) (by rw [hc0]; decide) (by rw [hc0]; rfl) (by decide) ?_
    refine lv_aload_n hx hb d_Mod_number_60 rfl (lv_at hl 0 rfl) ?_
    refine va_get (D := D) (ci := 7) (v := .int (u1 0 1)) (C := R_Mod) (T := F_Mod) (N := 28) hx hb hw in_Mod hown hK hP 0 rfl rfl 1 (by decide) (hw _ m_455) (fun _ h9 => h9) rfl d_Mod_number_61 ?_
    exact rt_i (wMod cI q0 q1 q2 q3 q4 q5 q6 q7) hx hb hr hlocks hS hP hf d_Mod_number_64
  have hf := bq_n hf hc0
  by_cases hc1 : a1 = 1
  · have hf := bq_t hf hc1
    refine lv_tableIn (tgt := 65) hx hb d_Mod_number_6 (by rw [hc1]; decide) (by rw [hc1]; decide) (by rw [hc1]; rfl) (by decide) ?_
    refine lv_aload_n hx hb d_Mod_number_65 rfl (lv_at hl 0 rfl) ?_
    refine va_get (D := D) (ci := 7) (v := .int (u1 0 2)) (C := R_Mod) (T := F_Mod) (N := 28) hx hb hw in_Mod hown hK hP 0 rfl rfl 2 (by decide) (hw _ m_456) (fun _ h9 => h9) rfl d_Mod_number_66 ?_
    exact rt_i (wMod cI q0 q1 q2 q3 q4 q5 q6 q7) hx hb hr hlocks hS hP hf d_Mod_number_69
  have hf := bq_n hf hc1
  by_cases hc2 : a1 = 2
  · have hf := bq_t hf hc2
    refine lv_tableIn (tgt := 70) hx hb d_Mod_number_6 (by rw [hc2]; decide) (by rw [hc2]; decide) (by rw [hc2]; rfl) (by decide) ?_
    refine lv_aload_n hx hb d_Mod_number_70 rfl (lv_at hl 0 rfl) ?_
    refine va_get (D := D) (ci := 7) (v := .int (u1 0 3)) (C := R_Mod) (T := F_Mod) (N := 28) hx hb hw in_Mod hown hK hP 0 rfl rfl 3 (by decide) (hw _ m_427) (fun _ h9 => h9) rfl d_Mod_number_71 ?_
    exact rt_i (wMod cI q0 q1 q2 q3 q4 q5 q6 q7) hx hb hr hlocks hS hP hf d_Mod_number_74
  have hf := bq_n hf hc2
  by_cases hc3 : a1 = 3
  · have hf := bq_t hf hc3
    refine lv_tableIn (tgt := 75) hx hb d_Mod_number_6 (by rw [hc3]; decide) (by rw [hc3]; decide) (by rw [hc3]; rfl) (by decide) ?_
    refine lv_aload_n hx hb d_Mod_number_75 rfl (lv_at hl 0 rfl) ?_
    refine va_get (D := D) (ci := 7) (v := .int (u1 0 4)) (C := R_Mod) (T := F_Mod) (N := 28) hx hb hw in_Mod hown hK hP 0 rfl rfl 4 (by decide) (hw _ m_428) (fun _ h9 => h9) rfl d_Mod_number_76 ?_
    exact rt_i (wMod cI q0 q1 q2 q3 q4 q5 q6 q7) hx hb hr hlocks hS hP hf d_Mod_number_79
  have hf := bq_n hf hc3
  by_cases hc4 : a1 = 4
  · have hf := bq_t hf hc4
    refine lv_tableIn (tgt := 80) hx hb d_Mod_number_6 (by rw [hc4]; decide) (by rw [hc4]; decide) (by rw [hc4]; rfl) (by decide) ?_
    refine lv_aload_n hx hb d_Mod_number_80 rfl (lv_at hl 0 rfl) ?_
    refine va_get (D := D) (ci := 7) (v := .int (u1 0 6)) (C := R_Mod) (T := F_Mod) (N := 28) hx hb hw in_Mod hown hK hP 0 rfl rfl 6 (by decide) (hw _ m_430) (fun _ h9 => h9) rfl d_Mod_number_81 ?_
    exact rt_i (wMod cI q0 q1 q2 q3 q4 q5 q6 q7) hx hb hr hlocks hS hP hf d_Mod_number_84
  have hf := bq_n hf hc4
  by_cases hc5 : a1 = 5
  · have hf := bq_t hf hc5
    refine lv_tableIn (tgt := 85) hx hb d_Mod_number_6 (by rw [hc5]; decide) (by rw [hc5]; decide) (by rw [hc5]; rfl) (by decide) ?_
    refine lv_aload_n hx hb d_Mod_number_85 rfl (lv_at hl 0 rfl) ?_
    refine va_get (D := D) (ci := 7) (v := .int (u1 0 7)) (C := R_Mod) (T := F_Mod) (N := 28) hx hb hw in_Mod hown hK hP 0 rfl rfl 7 (by decide) (hw _ m_435) (fun _ h9 => h9) rfl d_Mod_number_86 ?_
    exact rt_i (wMod cI q0 q1 q2 q3 q4 q5 q6 q7) hx hb hr hlocks hS hP hf d_Mod_number_89
  have hf := bq_n hf hc5
  by_cases hc6 : a1 = 6
  · have hf := bq_t hf hc6
    refine lv_tableIn (tgt := 90) hx hb d_Mod_number_6 (by rw [hc6]; decide) (by rw [hc6]; decide) (by rw [hc6]; rfl) (by decide) ?_
    refine lv_aload_n hx hb d_Mod_number_90 rfl (lv_at hl 0 rfl) ?_
    refine va_get (D := D) (ci := 7) (v := .int (u1 0 8)) (C := R_Mod) (T := F_Mod) (N := 28) hx hb hw in_Mod hown hK hP 0 rfl rfl 8 (by decide) (hw _ m_439) (fun _ h9 => h9) rfl d_Mod_number_91 ?_
    exact rt_i (wMod cI q0 q1 q2 q3 q4 q5 q6 q7) hx hb hr hlocks hS hP hf d_Mod_number_94
  have hf := bq_n hf hc6
  by_cases hc7 : a1 = 7
  · have hf := bq_t hf hc7
    refine lv_tableIn (tgt := 95) hx hb d_Mod_number_6 (by rw [hc7]; decide) (by rw [hc7]; decide) (by rw [hc7]; rfl) (by decide) ?_
    refine lv_aload_n hx hb d_Mod_number_95 rfl (lv_at hl 0 rfl) ?_
    refine va_get (D := D) (ci := 7) (v := .int (u1 0 9)) (C := R_Mod) (T := F_Mod) (N := 28) hx hb hw in_Mod hown hK hP 0 rfl rfl 9 (by decide) (hw _ m_444) (fun _ h9 => h9) rfl d_Mod_number_96 ?_
    exact rt_i (wMod cI q0 q1 q2 q3 q4 q5 q6 q7) hx hb hr hlocks hS hP hf d_Mod_number_99
  have hf := bq_n hf hc7
  by_cases hc8 : a1 = 8
  · have hf := bq_t hf hc8
    refine lv_tableIn (tgt := 100) hx hb d_Mod_number_6 (by rw [hc8]; decide) (by rw [hc8]; decide) (by rw [hc8]; rfl) (by decide) ?_
    refine lv_aload_n hx hb d_Mod_number_100 rfl (lv_at hl 0 rfl) ?_
    refine va_get (D := D) (ci := 7) (v := .int (u1 0 10)) (C := R_Mod) (T := F_Mod) (N := 28) hx hb hw in_Mod hown hK hP 0 rfl rfl 10 (by decide) (hw _ m_445) (fun _ h9 => h9) rfl d_Mod_number_101 ?_
    exact rt_i (wMod cI q0 q1 q2 q3 q4 q5 q6 q7) hx hb hr hlocks hS hP hf d_Mod_number_104
  have hf := bq_n hf hc8
  by_cases hc9 : a1 = 9
  · have hf := bq_t hf hc9
    refine lv_tableIn (tgt := 105) hx hb d_Mod_number_6 (by rw [hc9]; decide) (by rw [hc9]; decide) (by rw [hc9]; rfl) (by decide) ?_
    refine lv_aload_n hx hb d_Mod_number_105 rfl (lv_at hl 0 rfl) ?_
    refine va_get (D := D) (ci := 7) (v := .int (u1 0 11)) (C := R_Mod) (T := F_Mod) (N := 28) hx hb hw in_Mod hown hK hP 0 rfl rfl 11 (by decide) (hw _ m_446) (fun _ h9 => h9) rfl d_Mod_number_106 ?_
    exact rt_i (wMod cI q0 q1 q2 q3 q4 q5 q6 q7) hx hb hr hlocks hS hP hf d_Mod_number_109
  have hf := bq_n hf hc9
  refine lv_tableOut (tgt := 110) hx hb d_Mod_number_6 (by have g0 := lv_neT hc0 (a := 0) (by decide); have g1 := lv_neT hc1 (a := 1) (by decide); have g2 := lv_neT hc2 (a := 2) (by decide); have g3 := lv_neT hc3 (a := 3) (by decide); have g4 := lv_neT hc4 (a := 4) (by decide); have g5 := lv_neT hc5 (a := 5) (by decide); have g6 := lv_neT hc6 (a := 6) (by decide); have g7 := lv_neT hc7 (a := 7) (by decide); have g8 := lv_neT hc8 (a := 8) (by decide); have g9 := lv_neT hc9 (a := 9) (by decide); omega) (by decide) ?_
  refine lv_iconst (v := (-1)) hx hb d_Mod_number_110 (by decide) ?_
  exact rt_i (wMod cI q0 q1 q2 q3 q4 q5 q6 q7) hx hb hr hlocks hS hP hf d_Mod_number_111
def f_Mod_isPlace (a1 : Int32) (a2 : Int32) (u : gU) : Option (Int32) := bq (a1 < 0) (some 0) (bq ((u 0 1) ≤ a1) (some 0) (bq (a2 < 0) (some 0) (bq ((u 0 2) ≤ a2) (some 0) (some 1))))
set_option maxHeartbeats 4000000 in
set_option maxRecDepth 100000 in
theorem c_Mod_isPlace (l : Launch) (D : va_G) (cI : ClassId) (q0 : Nat) (q1 : Nat) (q2 : Nat) (q3 : Nat) (q4 : Nat) (q5 : Nat) (q6 : Nat) (q7 : Nat) (a1 : Int32) (a2 : Int32) (u : gU) (r : Int32) (hf : f_Mod_isPlace a1 a2 u = some r) : Met l y_Mod_isPlace (.code y_Mod_isPlace b_Mod_isPlace 3 (some .boolean) :: TS) ({ frames := 0, cells := 0, slots := 0, locals := 0 }) (va_Pc [.ref q0, .int a1, .int a2] (fun U => va_P D cls (wMod cI q0 q1 q2 q3 q4 q5 q6 q7 u) U.heap ∧ va_K D cls [(cI, .int)] U)) (va_Qi (fun x (_ : Unit) => x = r) (fun _ _ => True) (fun _ => False)) 0 0 (fun _ => False) := by
  refine ct_of (by decide +kernel) (Nat.le_of_ble_eq_true rfl) ?_
  intro p e s m below meth c ls hx hb hml hr hlocks hown hw hP hK hl
  have hS : va_S (fun _ => False) s.heap s.heap [] := va_S.rf
  have hl : lv_has ls 3 [(0, .ref q0), (1, .int a1), (2, .int a2)] := hl
  have hP : va_P D cls (wMod cI q0 q1 q2 q3 q4 q5 q6 q7 u) s.heap := hP
  unfold f_Mod_isPlace at hf
  refine lv_iload_n hx hb d_Mod_isPlace_0 rfl (lv_at hl 1 rfl) ?_
  refine lv_if_lt (tgt := 28) hx hb d_Mod_isPlace_1 (by decide) (fun hc => ?_) (fun hc => ?_)
  · have hf := bq_t hf hc
    refine lv_iconst (v := 0) hx hb d_Mod_isPlace_28 (by decide) ?_
    exact rt_roz hx hb hr hlocks (Or.inl rfl) hS hf d_Mod_isPlace_29
  have hf := bq_n hf hc
  refine lv_iload_n hx hb d_Mod_isPlace_4 rfl (lv_at hl 1 rfl) ?_
  refine lv_aload_n hx hb d_Mod_isPlace_5 rfl (lv_at hl 0 rfl) ?_
  refine va_get (D := D) (ci := 7) (v := .int (u 0 1)) (C := R_Mod) (T := F_Mod) (N := 28) hx hb hw in_Mod hown hK hP 0 rfl rfl 1 (by decide) (hw _ m_455) (fun _ h9 => h9) rfl d_Mod_isPlace_6 ?_
  refine lv_icmp_ge (tgt := 28) hx hb d_Mod_isPlace_9 (by decide) (fun hc => ?_) (fun hc => ?_)
  · have hf := bq_t hf hc
    refine lv_iconst (v := 0) hx hb d_Mod_isPlace_28 (by decide) ?_
    exact rt_roz hx hb hr hlocks (Or.inl rfl) hS hf d_Mod_isPlace_29
  have hf := bq_n hf hc
  refine lv_iload_n hx hb d_Mod_isPlace_12 rfl (lv_at hl 2 rfl) ?_
  refine lv_if_lt (tgt := 28) hx hb d_Mod_isPlace_13 (by decide) (fun hc => ?_) (fun hc => ?_)
  · have hf := bq_t hf hc
    refine lv_iconst (v := 0) hx hb d_Mod_isPlace_28 (by decide) ?_
    exact rt_roz hx hb hr hlocks (Or.inl rfl) hS hf d_Mod_isPlace_29
  have hf := bq_n hf hc
  refine lv_iload_n hx hb d_Mod_isPlace_16 rfl (lv_at hl 2 rfl) ?_
  refine lv_aload_n hx hb d_Mod_isPlace_17 rfl (lv_at hl 0 rfl) ?_
  refine va_get (D := D) (ci := 7) (v := .int (u 0 2)) (C := R_Mod) (T := F_Mod) (N := 28) hx hb hw in_Mod hown hK hP 0 rfl rfl 2 (by decide) (hw _ m_456) (fun _ h9 => h9) rfl d_Mod_isPlace_18 ?_
  refine lv_icmp_ge (tgt := 28) hx hb d_Mod_isPlace_21 (by decide) (fun hc => ?_) (fun hc => ?_)
  · have hf := bq_t hf hc
    refine lv_iconst (v := 0) hx hb d_Mod_isPlace_28 (by decide) ?_
    exact rt_roz hx hb hr hlocks (Or.inl rfl) hS hf d_Mod_isPlace_29
  have hf := bq_n hf hc
  refine lv_iconst (v := 1) hx hb d_Mod_isPlace_24 (by decide) ?_
  refine lv_goto (tgt := 29) hx hb d_Mod_isPlace_25 (by decide) ?_
  exact rt_roz hx hb hr hlocks (Or.inr rfl) hS hf d_Mod_isPlace_29
def f_Mod_sample (a1 : Int32) (a2 : Int32) (u : gU) : Option (Int32 × gU) := tk (st2 u 0 0 0) fun u1 => bd (f_Mod_isPlace a1 a2 u1) fun x2 => bq (x2 = 0) (some ((-1), u1)) (gd (ix ((8 * a2) + a1) 64) (some (u1 1 (tc ((8 * a2) + a1)), u1)))
set_option maxHeartbeats 4000000 in
set_option maxRecDepth 100000 in
theorem c_Mod_sample (l : Launch) (D : va_G) (cI : ClassId) (q0 : Nat) (q1 : Nat) (q2 : Nat) (q3 : Nat) (q4 : Nat) (q5 : Nat) (q6 : Nat) (q7 : Nat) (hd : dj [q0, q1, q2, q3, q4, q5, q6, q7]) (a1 : Int32) (a2 : Int32) (u : gU) (r : Int32) (v : gU) (hf : f_Mod_sample a1 a2 u = some (r, v)) : Met l y_Mod_sample (.code y_Mod_sample b_Mod_sample 3 (some .int) :: TS) ({ frames := 1, cells := 0, slots := 0, locals := 22 }) (va_Pc [.ref q0, .int a1, .int a2] (fun U => va_P D cls (wMod cI q0 q1 q2 q3 q4 q5 q6 q7 u) U.heap ∧ va_K D cls [(cI, .int)] U)) (va_Qi (fun x (_ : Unit) => x = r) (fun _ t => va_P D cls (wMod cI q0 q1 q2 q3 q4 q5 q6 q7 v) t.heap) (ad [q0, q1, q2, q3, q4, q5, q6, q7])) 0 0 (ad [q0, q1, q2, q3, q4, q5, q6, q7]) := by
  refine ct_of (by decide +kernel) (Nat.le_of_ble_eq_true rfl) ?_
  intro p e s m below meth c ls hx hb hml hr hlocks hown hw hP hK hl
  have hS : va_S (ad [q0, q1, q2, q3, q4, q5, q6, q7]) s.heap s.heap [] := va_S.rf
  have hD : ∀ v, va_D (ad [q0, q1, q2, q3, q4, q5, q6, q7]) (wMod cI q0 q1 q2 q3 q4 q5 q6 q7 v) := fun _ => dj_D rfl hd
  have hl : lv_has ls 3 [(0, .ref q0), (1, .int a1), (2, .int a2)] := hl
  have hP : va_P D cls (wMod cI q0 q1 q2 q3 q4 q5 q6 q7 u) s.heap := hP
  unfold f_Mod_sample at hf
  refine lv_aload_n hx hb d_Mod_sample_0 rfl (lv_at hl 0 rfl) ?_
  refine lv_iconst (v := 0) hx hb d_Mod_sample_1 (by decide) ?_
  refine va_put (D := D) (ci := 7) (v := .int 0) (ty := .int) (C := R_Mod) (T := F_Mod) (N := 28) hx hb hw in_Mod t_Mod t_Mod_ok n_Mod hown hK hP (hD _) hS 0 rfl rfl 0 (by decide) (hw _ m_426) (fun _ h9 => h9) rfl (by decide +kernel) rfl rfl (Nat.le_of_ble_eq_true rfl) d_Mod_sample_2 (fun H locs hP _ hS => ?_)
  obtain ⟨u1, e_u1, hf⟩ := tk_o hf
  have hP : va_P D cls (wMod cI q0 q1 q2 q3 q4 q5 q6 q7 u1) H := by rw [e_u1]; exact hP
  refine lv_aload_n hx hb d_Mod_sample_5 rfl (lv_at hl 0 rfl) ?_
  refine lv_iload_n hx hb d_Mod_sample_6 rfl (lv_at hl 1 rfl) ?_
  refine lv_iload_n hx hb d_Mod_sample_7 rfl (lv_at hl 2 rfl) ?_
  have hC : [0, 1, 2, 3, 4, 5, 6, 7].map (fun i => (wMod cI q0 q1 q2 q3 q4 q5 q6 q7 u1)[i]?) = (wMod cI q0 q1 q2 q3 q4 q5 q6 q7 u1).map some := rfl
  obtain ⟨x2, hc, hf⟩ := bd_o hf
  refine ro_i (va_runV (As := [.int a1, .int a2]) (rest := []) ⟨hx, hb, hml, hown, hw⟩ (c_Mod_isPlace l D cI q0 q1 q2 q3 q4 q5 q6 q7 a1 a2 u1 x2 hc) (cwV 2 hw g_102 rfl rfl rfl (by decide +kernel) ⟨Nat.le_of_ble_eq_true rfl, Nat.le_of_ble_eq_true rfl⟩) (pre_V (P_sub hC hP) hK rfl rfl) rfl rfl hl.1 rfl (lv_room (Nat.le_of_ble_eq_true rfl)) d_Mod_sample_8 ⟨Nat.le_of_ble_eq_true rfl, Nat.le_of_ble_eq_true rfl⟩) hS hP (fun H locs hP hS => ?_)
  refine lv_if_eq (tgt := 28) hx hb d_Mod_sample_11 (by decide) (fun hc => ?_) (fun hc => ?_)
  · have hf := bq_t hf hc
    refine lv_iconst (v := (-1)) hx hb d_Mod_sample_28 (by decide) ?_
    exact rt_i (wMod cI q0 q1 q2 q3 q4 q5 q6 q7) hx hb hr hlocks hS hP hf d_Mod_sample_29
  have hf := bq_n hf hc
  refine lv_aload_n hx hb d_Mod_sample_14 rfl (lv_at hl 0 rfl) ?_
  refine va_get (D := D) (ci := 7) (v := .ref q1) (C := R_Mod) (T := F_Mod) (N := 28) hx hb hw in_Mod hown hK hP 0 rfl rfl 12 (by decide) (hw _ m_451) (fun _ h9 => h9) rfl d_Mod_sample_15 ?_
  refine lv_bipush (v := 8) hx hb d_Mod_sample_18 (by decide) ?_
  refine lv_iload_n hx hb d_Mod_sample_20 rfl (lv_at hl 2 rfl) ?_
  refine lv_imul hx hb d_Mod_sample_21 ?_
  refine lv_iload_n hx hb d_Mod_sample_22 rfl (lv_at hl 1 rfl) ?_
  refine lv_iadd hx hb d_Mod_sample_23 ?_
  obtain ⟨h3, hf⟩ := gd_o hf
  refine va_iald hx hb hK hP 1 0 rfl rfl (ix_in h3) d_Mod_sample_24 ?_
  refine lv_goto (tgt := 29) hx hb d_Mod_sample_25 (by decide) ?_
  exact rt_i (wMod cI q0 q1 q2 q3 q4 q5 q6 q7) hx hb hr hlocks hS hP hf d_Mod_sample_29
def f_Mod_rebuilt (a1 : Int32) (a2 : Int32) (u : gU) : Option (Int32 × gU) := tk (st2 u 0 0 0) fun u1 => bd (f_Mod_isPlace a1 a2 u1) fun x2 => bq (x2 = 0) (some ((-1), u1)) (gd (ix ((8 * a2) + a1) 64) (some (u1 2 (tc ((8 * a2) + a1)), u1)))
set_option maxHeartbeats 4000000 in
set_option maxRecDepth 100000 in
theorem c_Mod_rebuilt (l : Launch) (D : va_G) (cI : ClassId) (q0 : Nat) (q1 : Nat) (q2 : Nat) (q3 : Nat) (q4 : Nat) (q5 : Nat) (q6 : Nat) (q7 : Nat) (hd : dj [q0, q1, q2, q3, q4, q5, q6, q7]) (a1 : Int32) (a2 : Int32) (u : gU) (r : Int32) (v : gU) (hf : f_Mod_rebuilt a1 a2 u = some (r, v)) : Met l y_Mod_rebuilt (.code y_Mod_rebuilt b_Mod_rebuilt 3 (some .int) :: TS) ({ frames := 1, cells := 0, slots := 0, locals := 22 }) (va_Pc [.ref q0, .int a1, .int a2] (fun U => va_P D cls (wMod cI q0 q1 q2 q3 q4 q5 q6 q7 u) U.heap ∧ va_K D cls [(cI, .int)] U)) (va_Qi (fun x (_ : Unit) => x = r) (fun _ t => va_P D cls (wMod cI q0 q1 q2 q3 q4 q5 q6 q7 v) t.heap) (ad [q0, q1, q2, q3, q4, q5, q6, q7])) 0 0 (ad [q0, q1, q2, q3, q4, q5, q6, q7]) := by
  refine ct_of (by decide +kernel) (Nat.le_of_ble_eq_true rfl) ?_
  intro p e s m below meth c ls hx hb hml hr hlocks hown hw hP hK hl
  have hS : va_S (ad [q0, q1, q2, q3, q4, q5, q6, q7]) s.heap s.heap [] := va_S.rf
  have hD : ∀ v, va_D (ad [q0, q1, q2, q3, q4, q5, q6, q7]) (wMod cI q0 q1 q2 q3 q4 q5 q6 q7 v) := fun _ => dj_D rfl hd
  have hl : lv_has ls 3 [(0, .ref q0), (1, .int a1), (2, .int a2)] := hl
  have hP : va_P D cls (wMod cI q0 q1 q2 q3 q4 q5 q6 q7 u) s.heap := hP
  unfold f_Mod_rebuilt at hf
  refine lv_aload_n hx hb d_Mod_rebuilt_0 rfl (lv_at hl 0 rfl) ?_
  refine lv_iconst (v := 0) hx hb d_Mod_rebuilt_1 (by decide) ?_
  refine va_put (D := D) (ci := 7) (v := .int 0) (ty := .int) (C := R_Mod) (T := F_Mod) (N := 28) hx hb hw in_Mod t_Mod t_Mod_ok n_Mod hown hK hP (hD _) hS 0 rfl rfl 0 (by decide) (hw _ m_426) (fun _ h9 => h9) rfl (by decide +kernel) rfl rfl (Nat.le_of_ble_eq_true rfl) d_Mod_rebuilt_2 (fun H locs hP _ hS => ?_)
  obtain ⟨u1, e_u1, hf⟩ := tk_o hf
  have hP : va_P D cls (wMod cI q0 q1 q2 q3 q4 q5 q6 q7 u1) H := by rw [e_u1]; exact hP
  refine lv_aload_n hx hb d_Mod_rebuilt_5 rfl (lv_at hl 0 rfl) ?_
  refine lv_iload_n hx hb d_Mod_rebuilt_6 rfl (lv_at hl 1 rfl) ?_
  refine lv_iload_n hx hb d_Mod_rebuilt_7 rfl (lv_at hl 2 rfl) ?_
  have hC : [0, 1, 2, 3, 4, 5, 6, 7].map (fun i => (wMod cI q0 q1 q2 q3 q4 q5 q6 q7 u1)[i]?) = (wMod cI q0 q1 q2 q3 q4 q5 q6 q7 u1).map some := rfl
  obtain ⟨x2, hc, hf⟩ := bd_o hf
  refine ro_i (va_runV (As := [.int a1, .int a2]) (rest := []) ⟨hx, hb, hml, hown, hw⟩ (c_Mod_isPlace l D cI q0 q1 q2 q3 q4 q5 q6 q7 a1 a2 u1 x2 hc) (cwV 2 hw g_102 rfl rfl rfl (by decide +kernel) ⟨Nat.le_of_ble_eq_true rfl, Nat.le_of_ble_eq_true rfl⟩) (pre_V (P_sub hC hP) hK rfl rfl) rfl rfl hl.1 rfl (lv_room (Nat.le_of_ble_eq_true rfl)) d_Mod_rebuilt_8 ⟨Nat.le_of_ble_eq_true rfl, Nat.le_of_ble_eq_true rfl⟩) hS hP (fun H locs hP hS => ?_)
  refine lv_if_eq (tgt := 28) hx hb d_Mod_rebuilt_11 (by decide) (fun hc => ?_) (fun hc => ?_)
  · have hf := bq_t hf hc
    refine lv_iconst (v := (-1)) hx hb d_Mod_rebuilt_28 (by decide) ?_
    exact rt_i (wMod cI q0 q1 q2 q3 q4 q5 q6 q7) hx hb hr hlocks hS hP hf d_Mod_rebuilt_29
  have hf := bq_n hf hc
  refine lv_aload_n hx hb d_Mod_rebuilt_14 rfl (lv_at hl 0 rfl) ?_
  refine va_get (D := D) (ci := 7) (v := .ref q2) (C := R_Mod) (T := F_Mod) (N := 28) hx hb hw in_Mod hown hK hP 0 rfl rfl 13 (by decide) (hw _ m_447) (fun _ h9 => h9) rfl d_Mod_rebuilt_15 ?_
  refine lv_bipush (v := 8) hx hb d_Mod_rebuilt_18 (by decide) ?_
  refine lv_iload_n hx hb d_Mod_rebuilt_20 rfl (lv_at hl 2 rfl) ?_
  refine lv_imul hx hb d_Mod_rebuilt_21 ?_
  refine lv_iload_n hx hb d_Mod_rebuilt_22 rfl (lv_at hl 1 rfl) ?_
  refine lv_iadd hx hb d_Mod_rebuilt_23 ?_
  obtain ⟨h3, hf⟩ := gd_o hf
  refine va_iald hx hb hK hP 2 0 rfl rfl (ix_in h3) d_Mod_rebuilt_24 ?_
  refine lv_goto (tgt := 29) hx hb d_Mod_rebuilt_25 (by decide) ?_
  exact rt_i (wMod cI q0 q1 q2 q3 q4 q5 q6 q7) hx hb hr hlocks hS hP hf d_Mod_rebuilt_29
def f_Mod_context (a1 : Int32) (a2 : Int32) (u : gU) : Option (Int32 × gU) := tk (st2 u 0 0 0) fun u1 => bq (a1 < 0) (some ((-1000000), u1)) (bq (367 ≤ a1) (some ((-1000000), u1)) (bq (a2 < 0) (some ((-1000000), u1)) (bq (5 ≤ a2) (some ((-1000000), u1)) (gd (ix ((5 * a1) + a2) 1835) (some (u1 3 (tc ((5 * a1) + a2)), u1))))))
set_option maxHeartbeats 4000000 in
set_option maxRecDepth 100000 in
theorem c_Mod_context (l : Launch) (D : va_G) (cI : ClassId) (q0 : Nat) (q1 : Nat) (q2 : Nat) (q3 : Nat) (q4 : Nat) (q5 : Nat) (q6 : Nat) (q7 : Nat) (hd : dj [q0, q1, q2, q3, q4, q5, q6, q7]) (a1 : Int32) (a2 : Int32) (u : gU) (r : Int32) (v : gU) (hf : f_Mod_context a1 a2 u = some (r, v)) : Met l y_Mod_context (.code y_Mod_context b_Mod_context 3 (some .int) :: TS) ({ frames := 0, cells := 0, slots := 0, locals := 0 }) (va_Pc [.ref q0, .int a1, .int a2] (fun U => va_P D cls (wMod cI q0 q1 q2 q3 q4 q5 q6 q7 u) U.heap ∧ va_K D cls [(cI, .int)] U)) (va_Qi (fun x (_ : Unit) => x = r) (fun _ t => va_P D cls (wMod cI q0 q1 q2 q3 q4 q5 q6 q7 v) t.heap) (ad [q0, q1, q2, q3, q4, q5, q6, q7])) 0 0 (ad [q0, q1, q2, q3, q4, q5, q6, q7]) := by
  refine ct_of (by decide +kernel) (Nat.le_of_ble_eq_true rfl) ?_
  intro p e s m below meth c ls hx hb hml hr hlocks hown hw hP hK hl
  have hS : va_S (ad [q0, q1, q2, q3, q4, q5, q6, q7]) s.heap s.heap [] := va_S.rf
  have hD : ∀ v, va_D (ad [q0, q1, q2, q3, q4, q5, q6, q7]) (wMod cI q0 q1 q2 q3 q4 q5 q6 q7 v) := fun _ => dj_D rfl hd
  have hl : lv_has ls 3 [(0, .ref q0), (1, .int a1), (2, .int a2)] := hl
  have hP : va_P D cls (wMod cI q0 q1 q2 q3 q4 q5 q6 q7 u) s.heap := hP
  unfold f_Mod_context at hf
  refine lv_aload_n hx hb d_Mod_context_0 rfl (lv_at hl 0 rfl) ?_
  refine lv_iconst (v := 0) hx hb d_Mod_context_1 (by decide) ?_
  refine va_put (D := D) (ci := 7) (v := .int 0) (ty := .int) (C := R_Mod) (T := F_Mod) (N := 28) hx hb hw in_Mod t_Mod t_Mod_ok n_Mod hown hK hP (hD _) hS 0 rfl rfl 0 (by decide) (hw _ m_426) (fun _ h9 => h9) rfl (by decide +kernel) rfl rfl (Nat.le_of_ble_eq_true rfl) d_Mod_context_2 (fun H locs hP _ hS => ?_)
  obtain ⟨u1, e_u1, hf⟩ := tk_o hf
  have hP : va_P D cls (wMod cI q0 q1 q2 q3 q4 q5 q6 q7 u1) H := by rw [e_u1]; exact hP
  refine lv_iload_n hx hb d_Mod_context_5 rfl (lv_at hl 1 rfl) ?_
  refine lv_if_lt (tgt := 38) hx hb d_Mod_context_6 (by decide) (fun hc => ?_) (fun hc => ?_)
  · have hf := bq_t hf hc
    refine lv_ldc (v := (-1000000)) hx hb hown (hw _ m_606) d_Mod_context_38 ?_
    exact rt_i (wMod cI q0 q1 q2 q3 q4 q5 q6 q7) hx hb hr hlocks hS hP hf d_Mod_context_40
  have hf := bq_n hf hc
  refine lv_iload_n hx hb d_Mod_context_9 rfl (lv_at hl 1 rfl) ?_
  refine lv_sipush (v := 367) hx hb d_Mod_context_10 (by decide) ?_
  refine lv_icmp_ge (tgt := 38) hx hb d_Mod_context_13 (by decide) (fun hc => ?_) (fun hc => ?_)
  · have hf := bq_t hf hc
    refine lv_ldc (v := (-1000000)) hx hb hown (hw _ m_606) d_Mod_context_38 ?_
    exact rt_i (wMod cI q0 q1 q2 q3 q4 q5 q6 q7) hx hb hr hlocks hS hP hf d_Mod_context_40
  have hf := bq_n hf hc
  refine lv_iload_n hx hb d_Mod_context_16 rfl (lv_at hl 2 rfl) ?_
  refine lv_if_lt (tgt := 38) hx hb d_Mod_context_17 (by decide) (fun hc => ?_) (fun hc => ?_)
  · have hf := bq_t hf hc
    refine lv_ldc (v := (-1000000)) hx hb hown (hw _ m_606) d_Mod_context_38 ?_
    exact rt_i (wMod cI q0 q1 q2 q3 q4 q5 q6 q7) hx hb hr hlocks hS hP hf d_Mod_context_40
  have hf := bq_n hf hc
  refine lv_iload_n hx hb d_Mod_context_20 rfl (lv_at hl 2 rfl) ?_
  refine lv_iconst (v := 5) hx hb d_Mod_context_21 (by decide) ?_
  refine lv_icmp_ge (tgt := 38) hx hb d_Mod_context_22 (by decide) (fun hc => ?_) (fun hc => ?_)
  · have hf := bq_t hf hc
    refine lv_ldc (v := (-1000000)) hx hb hown (hw _ m_606) d_Mod_context_38 ?_
    exact rt_i (wMod cI q0 q1 q2 q3 q4 q5 q6 q7) hx hb hr hlocks hS hP hf d_Mod_context_40
  have hf := bq_n hf hc
  refine lv_aload_n hx hb d_Mod_context_25 rfl (lv_at hl 0 rfl) ?_
  refine va_get (D := D) (ci := 7) (v := .ref q3) (C := R_Mod) (T := F_Mod) (N := 28) hx hb hw in_Mod hown hK hP 0 rfl rfl 14 (by decide) (hw _ m_449) (fun _ h9 => h9) rfl d_Mod_context_26 ?_
  refine lv_iconst (v := 5) hx hb d_Mod_context_29 (by decide) ?_
  refine lv_iload_n hx hb d_Mod_context_30 rfl (lv_at hl 1 rfl) ?_
  refine lv_imul hx hb d_Mod_context_31 ?_
  refine lv_iload_n hx hb d_Mod_context_32 rfl (lv_at hl 2 rfl) ?_
  refine lv_iadd hx hb d_Mod_context_33 ?_
  obtain ⟨h2, hf⟩ := gd_o hf
  refine va_iald hx hb hK hP 3 0 rfl rfl (ix_in h2) d_Mod_context_34 ?_
  refine lv_goto (tgt := 40) hx hb d_Mod_context_35 (by decide) ?_
  exact rt_i (wMod cI q0 q1 q2 q3 q4 q5 q6 q7) hx hb hr hlocks hS hP hf d_Mod_context_40
def f_Mod_runIndex (u : gU) : Option (Int32 × gU) := tk (st2 u 0 0 0) fun u1 => some (u1 0 12, u1)
set_option maxHeartbeats 4000000 in
set_option maxRecDepth 100000 in
theorem c_Mod_runIndex (l : Launch) (D : va_G) (cI : ClassId) (q0 : Nat) (q1 : Nat) (q2 : Nat) (q3 : Nat) (q4 : Nat) (q5 : Nat) (q6 : Nat) (q7 : Nat) (hd : dj [q0, q1, q2, q3, q4, q5, q6, q7]) (u : gU) (r : Int32) (v : gU) (hf : f_Mod_runIndex u = some (r, v)) : Met l y_Mod_runIndex (.code y_Mod_runIndex b_Mod_runIndex 1 (some .int) :: TS) ({ frames := 0, cells := 0, slots := 0, locals := 0 }) (va_Pc [.ref q0] (fun U => va_P D cls (wMod cI q0 q1 q2 q3 q4 q5 q6 q7 u) U.heap ∧ va_K D cls [(cI, .int)] U)) (va_Qi (fun x (_ : Unit) => x = r) (fun _ t => va_P D cls (wMod cI q0 q1 q2 q3 q4 q5 q6 q7 v) t.heap) (ad [q0, q1, q2, q3, q4, q5, q6, q7])) 0 0 (ad [q0, q1, q2, q3, q4, q5, q6, q7]) := by
  refine ct_of (by decide +kernel) (Nat.le_of_ble_eq_true rfl) ?_
  intro p e s m below meth c ls hx hb hml hr hlocks hown hw hP hK hl
  have hS : va_S (ad [q0, q1, q2, q3, q4, q5, q6, q7]) s.heap s.heap [] := va_S.rf
  have hD : ∀ v, va_D (ad [q0, q1, q2, q3, q4, q5, q6, q7]) (wMod cI q0 q1 q2 q3 q4 q5 q6 q7 v) := fun _ => dj_D rfl hd
  have hl : lv_has ls 1 [(0, .ref q0)] := hl
  have hP : va_P D cls (wMod cI q0 q1 q2 q3 q4 q5 q6 q7 u) s.heap := hP
  unfold f_Mod_runIndex at hf
  refine lv_aload_n hx hb d_Mod_runIndex_0 rfl (lv_at hl 0 rfl) ?_
  refine lv_iconst (v := 0) hx hb d_Mod_runIndex_1 (by decide) ?_
  refine va_put (D := D) (ci := 7) (v := .int 0) (ty := .int) (C := R_Mod) (T := F_Mod) (N := 28) hx hb hw in_Mod t_Mod t_Mod_ok n_Mod hown hK hP (hD _) hS 0 rfl rfl 0 (by decide) (hw _ m_426) (fun _ h9 => h9) rfl (by decide +kernel) rfl rfl (Nat.le_of_ble_eq_true rfl) d_Mod_runIndex_2 (fun H locs hP _ hS => ?_)
  obtain ⟨u1, e_u1, hf⟩ := tk_o hf
  have hP : va_P D cls (wMod cI q0 q1 q2 q3 q4 q5 q6 q7 u1) H := by rw [e_u1]; exact hP
  refine lv_aload_n hx hb d_Mod_runIndex_5 rfl (lv_at hl 0 rfl) ?_
  refine va_get (D := D) (ci := 7) (v := .int (u1 0 12)) (C := R_Mod) (T := F_Mod) (N := 28) hx hb hw in_Mod hown hK hP 0 rfl rfl 15 (by decide) (hw _ m_448) (fun _ h9 => h9) rfl d_Mod_runIndex_6 ?_
  exact rt_i (wMod cI q0 q1 q2 q3 q4 q5 q6 q7) hx hb hr hlocks hS hP hf d_Mod_runIndex_9
