def f_Wri_restart (u : gU) : Option (gU) := tk (st2 u 0 0 0) fun u1 => tk (st2 u1 0 1 0) fun u2 => some u2
set_option maxHeartbeats 4000000 in
set_option maxRecDepth 100000 in
theorem c_Wri_restart (l : Launch) (D : va_G) (cI : ClassId) (q0 : Nat) (q1 : Nat) (hd : dj [q0, q1]) (u : gU) (v : gU) (hf : f_Wri_restart u = some v) : Met l y_Wri_restart (.code y_Wri_restart b_Wri_restart 1 none :: TS) ({ frames := 0, cells := 0, slots := 0, locals := 0 }) (va_Pc [.ref q0] (fun U => va_P D cls (wWri cI q0 q1 u) U.heap ∧ va_K D cls [(cI, .int)] U)) (va_Qv (fun (_ : Unit) => True) (fun _ t => va_P D cls (wWri cI q0 q1 v) t.heap) (ad [q0, q1])) 0 0 (ad [q0, q1]) := by
  refine ct_of (by decide +kernel) (Nat.le_of_ble_eq_true rfl) ?_
  intro p e s m below meth c ls hx hb hml hr hlocks hown hw hP hK hl
  have hS : va_S (ad [q0, q1]) s.heap s.heap [] := va_S.rf
  have hD : ∀ v, va_D (ad [q0, q1]) (wWri cI q0 q1 v) := fun _ => dj_D rfl hd
  have hl : lv_has ls 1 [(0, .ref q0)] := hl
  have hP : va_P D cls (wWri cI q0 q1 u) s.heap := hP
  unfold f_Wri_restart at hf
  refine lv_aload_n hx hb d_Wri_restart_0 rfl (lv_at hl 0 rfl) ?_
  refine lv_iconst (v := 0) hx hb d_Wri_restart_1 (by decide) ?_
  refine va_put (D := D) (ci := 5) (v := .int 0) (ty := .int) (C := R_Wri) (T := F_Wri) (N := 3) hx hb hw in_Wri t_Wri t_Wri_ok n_Wri hown hK hP (hD _) hS 0 rfl rfl 1 (by decide) (hw _ m_143) (fun _ h9 => h9) rfl (by decide +kernel) rfl rfl (Nat.le_of_ble_eq_true rfl) d_Wri_restart_2 (fun H locs hP _ hS => ?_)
  obtain ⟨u1, e_u1, hf⟩ := tk_o hf
  have hP : va_P D cls (wWri cI q0 q1 u1) H := by rw [e_u1]; exact hP
  refine lv_aload_n hx hb d_Wri_restart_5 rfl (lv_at hl 0 rfl) ?_
  refine lv_iconst (v := 0) hx hb d_Wri_restart_6 (by decide) ?_
  refine va_put (D := D) (ci := 5) (v := .int 0) (ty := .int) (C := R_Wri) (T := F_Wri) (N := 3) hx hb hw in_Wri t_Wri t_Wri_ok n_Wri hown hK hP (hD _) hS 0 rfl rfl 2 (by decide) (hw _ m_144) (fun _ h9 => h9) rfl (by decide +kernel) rfl rfl (Nat.le_of_ble_eq_true rfl) d_Wri_restart_7 (fun H locs hP _ hS => ?_)
  obtain ⟨u2, e_u2, hf⟩ := tk_o hf
  have hP : va_P D cls (wWri cI q0 q1 u2) H := by rw [e_u2]; exact hP
  exact rt_v (wWri cI q0 q1) hx hb hr hlocks hS hP hf d_Wri_restart_10
def f_Wri_writeByte (a1 : Int32) (u : gU) : Option (gU) := bq (512 ≤ (u 0 0)) (some u) (gd (ix (u 0 0) 512) (tk (st2 u 1 (tc (u 0 0)) a1) fun u2 => tk (st2 u2 0 0 ((u2 0 0) + 1)) fun u3 => some u3))
set_option maxHeartbeats 4000000 in
set_option maxRecDepth 100000 in
theorem c_Wri_writeByte (l : Launch) (D : va_G) (cI : ClassId) (q0 : Nat) (q1 : Nat) (hd : dj [q0, q1]) (a1 : Int32) (u : gU) (v : gU) (hf : f_Wri_writeByte a1 u = some v) : Met l y_Wri_writeByte (.code y_Wri_writeByte b_Wri_writeByte 2 none :: TS) ({ frames := 0, cells := 0, slots := 0, locals := 0 }) (va_Pc [.ref q0, .int a1] (fun U => va_P D cls (wWri cI q0 q1 u) U.heap ∧ va_K D cls [(cI, .int)] U)) (va_Qv (fun (_ : Unit) => True) (fun _ t => va_P D cls (wWri cI q0 q1 v) t.heap) (ad [q0, q1])) 0 0 (ad [q0, q1]) := by
  refine ct_of (by decide +kernel) (Nat.le_of_ble_eq_true rfl) ?_
  intro p e s m below meth c ls hx hb hml hr hlocks hown hw hP hK hl
  have hS : va_S (ad [q0, q1]) s.heap s.heap [] := va_S.rf
  have hD : ∀ v, va_D (ad [q0, q1]) (wWri cI q0 q1 v) := fun _ => dj_D rfl hd
  have hl : lv_has ls 2 [(0, .ref q0), (1, .int a1)] := hl
  have hP : va_P D cls (wWri cI q0 q1 u) s.heap := hP
  unfold f_Wri_writeByte at hf
  refine lv_aload_n hx hb d_Wri_writeByte_0 rfl (lv_at hl 0 rfl) ?_
  refine va_get (D := D) (ci := 5) (v := .int (u 0 0)) (C := R_Wri) (T := F_Wri) (N := 3) hx hb hw in_Wri hown hK hP 0 rfl rfl 1 (by decide) (hw _ m_143) (fun _ h9 => h9) rfl d_Wri_writeByte_1 ?_
  refine lv_sipush (v := 512) hx hb d_Wri_writeByte_4 (by decide) ?_
  refine lv_icmp_ge (tgt := 30) hx hb d_Wri_writeByte_7 (by decide) (fun hc => ?_) (fun hc => ?_)
  · have hf := bq_t hf hc
    exact rt_v (wWri cI q0 q1) hx hb hr hlocks hS hP hf d_Wri_writeByte_30
  have hf := bq_n hf hc
  refine lv_aload_n hx hb d_Wri_writeByte_10 rfl (lv_at hl 0 rfl) ?_
  refine va_get (D := D) (ci := 5) (v := .ref q1) (C := R_Wri) (T := F_Wri) (N := 3) hx hb hw in_Wri hown hK hP 0 rfl rfl 0 (by decide) (hw _ m_145) (fun _ h9 => h9) rfl d_Wri_writeByte_11 ?_
  refine lv_aload_n hx hb d_Wri_writeByte_14 rfl (lv_at hl 0 rfl) ?_
  refine va_get (D := D) (ci := 5) (v := .int (u 0 0)) (C := R_Wri) (T := F_Wri) (N := 3) hx hb hw in_Wri hown hK hP 0 rfl rfl 1 (by decide) (hw _ m_143) (fun _ h9 => h9) rfl d_Wri_writeByte_15 ?_
  refine lv_iload_n hx hb d_Wri_writeByte_18 rfl (lv_at hl 1 rfl) ?_
  obtain ⟨h1, hf⟩ := gd_o hf
  refine va_iast hx hb hK hP (hD _) hS 1 0 rfl rfl (ix_in h1) d_Wri_writeByte_19 (fun H locs hP _ hS => ?_)
  obtain ⟨u2, e_u2, hf⟩ := tk_o hf
  have hP : va_P D cls (wWri cI q0 q1 u2) H := by rw [e_u2]; exact hP
  refine lv_aload_n hx hb d_Wri_writeByte_20 rfl (lv_at hl 0 rfl) ?_
  refine lv_dup hx hb d_Wri_writeByte_21 rfl ?_
  refine va_get (D := D) (ci := 5) (v := .int (u2 0 0)) (C := R_Wri) (T := F_Wri) (N := 3) hx hb hw in_Wri hown hK hP 0 rfl rfl 1 (by decide) (hw _ m_143) (fun _ h9 => h9) rfl d_Wri_writeByte_22 ?_
  refine lv_iconst (v := 1) hx hb d_Wri_writeByte_25 (by decide) ?_
  refine lv_iadd hx hb d_Wri_writeByte_26 ?_
  refine va_put (D := D) (ci := 5) (v := .int ((u2 0 0) + 1)) (ty := .int) (C := R_Wri) (T := F_Wri) (N := 3) hx hb hw in_Wri t_Wri t_Wri_ok n_Wri hown hK hP (hD _) hS 0 rfl rfl 1 (by decide) (hw _ m_143) (fun _ h9 => h9) rfl (by decide +kernel) rfl rfl (Nat.le_of_ble_eq_true rfl) d_Wri_writeByte_27 (fun H locs hP _ hS => ?_)
  obtain ⟨u3, e_u3, hf⟩ := tk_o hf
  have hP : va_P D cls (wWri cI q0 q1 u3) H := by rw [e_u3]; exact hP
  exact rt_v (wWri cI q0 q1) hx hb hr hlocks hS hP hf d_Wri_writeByte_30
def f_Wri_endsWith255 (u : gU) : Option (Int32) := bq ((u 0 0) ≤ 0) (some 0) (gd (ix ((u 0 0) - 1) 512) (bq ((u 1 (tc ((u 0 0) - 1))) = 255) (some 1) (some 0)))
set_option maxHeartbeats 4000000 in
set_option maxRecDepth 100000 in
theorem c_Wri_endsWith255 (l : Launch) (D : va_G) (cI : ClassId) (q0 : Nat) (q1 : Nat) (u : gU) (r : Int32) (hf : f_Wri_endsWith255 u = some r) : Met l y_Wri_endsWith255 (.code y_Wri_endsWith255 b_Wri_endsWith255 1 (some .boolean) :: TS) ({ frames := 0, cells := 0, slots := 0, locals := 0 }) (va_Pc [.ref q0] (fun U => va_P D cls (wWri cI q0 q1 u) U.heap ∧ va_K D cls [(cI, .int)] U)) (va_Qi (fun x (_ : Unit) => x = r) (fun _ _ => True) (fun _ => False)) 0 0 (fun _ => False) := by
  refine ct_of (by decide +kernel) (Nat.le_of_ble_eq_true rfl) ?_
  intro p e s m below meth c ls hx hb hml hr hlocks hown hw hP hK hl
  have hS : va_S (fun _ => False) s.heap s.heap [] := va_S.rf
  have hl : lv_has ls 1 [(0, .ref q0)] := hl
  have hP : va_P D cls (wWri cI q0 q1 u) s.heap := hP
  unfold f_Wri_endsWith255 at hf
  refine lv_aload_n hx hb d_Wri_endsWith255_0 rfl (lv_at hl 0 rfl) ?_
  refine va_get (D := D) (ci := 5) (v := .int (u 0 0)) (C := R_Wri) (T := F_Wri) (N := 3) hx hb hw in_Wri hown hK hP 0 rfl rfl 1 (by decide) (hw _ m_143) (fun _ h9 => h9) rfl d_Wri_endsWith255_1 ?_
  refine lv_if_le (tgt := 28) hx hb d_Wri_endsWith255_4 (by decide) (fun hc => ?_) (fun hc => ?_)
  · have hf := bq_t hf hc
    refine lv_iconst (v := 0) hx hb d_Wri_endsWith255_28 (by decide) ?_
    exact rt_roz hx hb hr hlocks (Or.inl rfl) hS hf d_Wri_endsWith255_29
  have hf := bq_n hf hc
  refine lv_aload_n hx hb d_Wri_endsWith255_7 rfl (lv_at hl 0 rfl) ?_
  refine va_get (D := D) (ci := 5) (v := .ref q1) (C := R_Wri) (T := F_Wri) (N := 3) hx hb hw in_Wri hown hK hP 0 rfl rfl 0 (by decide) (hw _ m_145) (fun _ h9 => h9) rfl d_Wri_endsWith255_8 ?_
  refine lv_aload_n hx hb d_Wri_endsWith255_11 rfl (lv_at hl 0 rfl) ?_
  refine va_get (D := D) (ci := 5) (v := .int (u 0 0)) (C := R_Wri) (T := F_Wri) (N := 3) hx hb hw in_Wri hown hK hP 0 rfl rfl 1 (by decide) (hw _ m_143) (fun _ h9 => h9) rfl d_Wri_endsWith255_12 ?_
  refine lv_iconst (v := 1) hx hb d_Wri_endsWith255_15 (by decide) ?_
  refine lv_isub hx hb d_Wri_endsWith255_16 ?_
  obtain ⟨h1, hf⟩ := gd_o hf
  refine va_iald hx hb hK hP 1 0 rfl rfl (ix_in h1) d_Wri_endsWith255_17 ?_
  refine lv_sipush (v := 255) hx hb d_Wri_endsWith255_18 (by decide) ?_
  refine lv_icmp_ne (tgt := 28) hx hb d_Wri_endsWith255_21 (by decide) (fun hc => ?_) (fun hc => ?_)
  · have hf := bq_n hf hc
    refine lv_iconst (v := 0) hx hb d_Wri_endsWith255_28 (by decide) ?_
    exact rt_roz hx hb hr hlocks (Or.inl rfl) hS hf d_Wri_endsWith255_29
  have hf := bq_t hf hc
  refine lv_iconst (v := 1) hx hb d_Wri_endsWith255_24 (by decide) ?_
  refine lv_goto (tgt := 29) hx hb d_Wri_endsWith255_25 (by decide) ?_
  exact rt_roz hx hb hr hlocks (Or.inr rfl) hS hf d_Wri_endsWith255_29
def J_Wri_writeBits_38 (k4 : Int32 → Int32 → gU → Option (gU)) (l1 : Int32) (l3 : Int32) (u : gU) : Option (gU) := tk (st2 u 0 1 ((u 0 1) - 1)) fun u1 => gd (ix ((u1 0 0) - 1) 512) (tk (((l1 >>> (l3 &&& 31)) &&& 1) <<< ((u1 0 1) &&& 31)) fun x3 => gd (ix ((u1 0 0) - 1) 512) (tk (st2 u1 1 (tc ((u1 0 0) - 1)) ((u1 1 (tc ((u1 0 0) - 1))) ||| x3)) fun u5 => tk (l3 + (-1)) fun x6 => k4 l1 x6 u5))
def J_Wri_writeBits_30 (k4 : Int32 → Int32 → gU → Option (gU)) (l1 : Int32) (l3 : Int32) (s1 : Int32) (u : gU) : Option (gU) := tk (st2 u 0 1 s1) fun u1 => bd (f_Wri_writeByte 0 u1) fun w2 => tk (w2) fun u3 => J_Wri_writeBits_38 k4 l1 l3 u3
def L_Wri_writeBits_4 : Nat → Int32 → Int32 → gU → Option (gU)
  | 0, _, _, _ => none
  | n + 1, l1, l3, u => bq (l3 < 0) (some u) (bq ((u 0 1) = 0) (bd (f_Wri_endsWith255 u) fun x1 => bq (x1 = 0) (J_Wri_writeBits_30 (L_Wri_writeBits_4 n) l1 l3 8 u) (J_Wri_writeBits_30 (L_Wri_writeBits_4 n) l1 l3 7 u)) (J_Wri_writeBits_38 (L_Wri_writeBits_4 n) l1 l3 u))
theorem L_Wri_writeBits_4_z (l1 : Int32) (l3 : Int32) (u : gU) : L_Wri_writeBits_4 0 l1 l3 u = none := rfl
theorem L_Wri_writeBits_4_s (n : Nat) (l1 : Int32) (l3 : Int32) (u : gU) : L_Wri_writeBits_4 (n + 1) l1 l3 u = bq (l3 < 0) (some u) (bq ((u 0 1) = 0) (bd (f_Wri_endsWith255 u) fun x1 => bq (x1 = 0) (J_Wri_writeBits_30 (L_Wri_writeBits_4 n) l1 l3 8 u) (J_Wri_writeBits_30 (L_Wri_writeBits_4 n) l1 l3 7 u)) (J_Wri_writeBits_38 (L_Wri_writeBits_4 n) l1 l3 u)) := rfl
def f_Wri_writeBits (a1 : Int32) (a2 : Int32) (u : gU) : Option (gU) := tk (a2 - 1) fun x1 => L_Wri_writeBits_4 100 a1 x1 u
set_option maxHeartbeats 4000000 in
set_option maxRecDepth 100000 in
theorem c_Wri_writeBits (l : Launch) (D : va_G) (cI : ClassId) (q0 : Nat) (q1 : Nat) (hd : dj [q0, q1]) (a1 : Int32) (a2 : Int32) (u : gU) (v : gU) (hf : f_Wri_writeBits a1 a2 u = some v) : Met l y_Wri_writeBits (.code y_Wri_writeBits b_Wri_writeBits 4 none :: TS) ({ frames := 1, cells := 0, slots := 0, locals := 21 }) (va_Pc [.ref q0, .int a1, .int a2] (fun U => va_P D cls (wWri cI q0 q1 u) U.heap ∧ va_K D cls [(cI, .int)] U)) (va_Qv (fun (_ : Unit) => True) (fun _ t => va_P D cls (wWri cI q0 q1 v) t.heap) (ad [q0, q1])) 0 0 (ad [q0, q1]) := by
  refine ct_of (by decide +kernel) (Nat.le_of_ble_eq_true rfl) ?_
  intro p e s m below meth c ls hx hb hml hr hlocks hown hw hP hK hl
  have hS : va_S (ad [q0, q1]) s.heap s.heap [] := va_S.rf
  have hD : ∀ v, va_D (ad [q0, q1]) (wWri cI q0 q1 v) := fun _ => dj_D rfl hd
  have hl : lv_has ls 4 [(0, .ref q0), (1, .int a1), (2, .int a2)] := hl
  have hP : va_P D cls (wWri cI q0 q1 u) s.heap := hP
  have lp4 : ∀ (n4 : Nat), ∀ (ls : Array Slot) (H : Heap) (locs : List Loc) (l1 : Int32) (l3 : Int32) (u : gU), lv_has ls 4 [(0, .ref q0), (1, .int l1), (3, .int l3)] → va_P D cls (wWri cI q0 q1 u) H → va_S (ad [q0, q1]) s.heap H locs → L_Wri_writeBits_4 n4 l1 l3 u = some v → W p l e ({ frames := 1, cells := 0, slots := 0, locals := 21 }) s m [.ref q0, .int a1, .int a2].toArray below meth c H locs 0 0 (MQ below (va_Qv (fun (_ : Unit) => True) (fun _ t => va_P D cls (wWri cI q0 q1 v) t.heap) (ad [q0, q1])) [.ref q0, .int a1, .int a2].toArray s 0 0 (ad [q0, q1])) (F0 m 4 ls []) := by
    intro n4
    induction n4 with
    | zero =>
      intro ls H locs l1 l3 u hl hP hS hf
      rw [L_Wri_writeBits_4_z] at hf
      cases hf
    | succ n4 ih4 =>
      have j38 : ∀ (ls : Array Slot) (H : Heap) (locs : List Loc) (l1 : Int32) (l3 : Int32) (u : gU), lv_has ls 4 [(0, .ref q0), (1, .int l1), (3, .int l3)] → va_P D cls (wWri cI q0 q1 u) H → va_S (ad [q0, q1]) s.heap H locs → J_Wri_writeBits_38 (L_Wri_writeBits_4 n4) l1 l3 u = some v → W p l e ({ frames := 1, cells := 0, slots := 0, locals := 21 }) s m [.ref q0, .int a1, .int a2].toArray below meth c H locs 0 0 (MQ below (va_Qv (fun (_ : Unit) => True) (fun _ t => va_P D cls (wWri cI q0 q1 v) t.heap) (ad [q0, q1])) [.ref q0, .int a1, .int a2].toArray s 0 0 (ad [q0, q1])) (F0 m 38 ls []) := by
        intro ls H locs l1 l3 u hl hP hS hf
        unfold J_Wri_writeBits_38 at hf
        refine lv_aload_n hx hb d_Wri_writeBits_38 rfl (lv_at hl 0 rfl) ?_
        refine lv_dup hx hb d_Wri_writeBits_39 rfl ?_
        refine va_get (D := D) (ci := 5) (v := .int (u 0 1)) (C := R_Wri) (T := F_Wri) (N := 3) hx hb hw in_Wri hown hK hP 0 rfl rfl 2 (by decide) (hw _ m_144) (fun _ h9 => h9) rfl d_Wri_writeBits_40 ?_
        refine lv_iconst (v := 1) hx hb d_Wri_writeBits_43 (by decide) ?_
        refine lv_isub hx hb d_Wri_writeBits_44 ?_
        refine va_put (D := D) (ci := 5) (v := .int ((u 0 1) - 1)) (ty := .int) (C := R_Wri) (T := F_Wri) (N := 3) hx hb hw in_Wri t_Wri t_Wri_ok n_Wri hown hK hP (hD _) hS 0 rfl rfl 2 (by decide) (hw _ m_144) (fun _ h9 => h9) rfl (by decide +kernel) rfl rfl (Nat.le_of_ble_eq_true rfl) d_Wri_writeBits_45 (fun H locs hP _ hS => ?_)
        obtain ⟨u1, e_u1, hf⟩ := tk_o hf
        have hP : va_P D cls (wWri cI q0 q1 u1) H := by rw [e_u1]; exact hP
        refine lv_aload_n hx hb d_Wri_writeBits_48 rfl (lv_at hl 0 rfl) ?_
        refine va_get (D := D) (ci := 5) (v := .ref q1) (C := R_Wri) (T := F_Wri) (N := 3) hx hb hw in_Wri hown hK hP 0 rfl rfl 0 (by decide) (hw _ m_145) (fun _ h9 => h9) rfl d_Wri_writeBits_49 ?_
        refine lv_aload_n hx hb d_Wri_writeBits_52 rfl (lv_at hl 0 rfl) ?_
        refine va_get (D := D) (ci := 5) (v := .int (u1 0 0)) (C := R_Wri) (T := F_Wri) (N := 3) hx hb hw in_Wri hown hK hP 0 rfl rfl 1 (by decide) (hw _ m_143) (fun _ h9 => h9) rfl d_Wri_writeBits_53 ?_
        refine lv_iconst (v := 1) hx hb d_Wri_writeBits_56 (by decide) ?_
        refine lv_isub hx hb d_Wri_writeBits_57 ?_
        refine lv_dup2_11 hx hb d_Wri_writeBits_58 rfl rfl ?_
        obtain ⟨h2, hf⟩ := gd_o hf
        refine va_iald hx hb hK hP 1 0 rfl rfl (ix_in h2) d_Wri_writeBits_59 ?_
        refine lv_iload_n hx hb d_Wri_writeBits_60 rfl (lv_at hl 1 rfl) ?_
        refine lv_iload_n hx hb d_Wri_writeBits_61 rfl (lv_at hl 2 rfl) ?_
        refine lv_ishr hx hb d_Wri_writeBits_62 ?_
        refine lv_iconst (v := 1) hx hb d_Wri_writeBits_63 (by decide) ?_
        refine lv_iand hx hb d_Wri_writeBits_64 ?_
        refine lv_aload_n hx hb d_Wri_writeBits_65 rfl (lv_at hl 0 rfl) ?_
        refine va_get (D := D) (ci := 5) (v := .int (u1 0 1)) (C := R_Wri) (T := F_Wri) (N := 3) hx hb hw in_Wri hown hK hP 0 rfl rfl 2 (by decide) (hw _ m_144) (fun _ h9 => h9) rfl d_Wri_writeBits_66 ?_
        refine lv_ishl hx hb d_Wri_writeBits_69 ?_
        refine lv_topi (fun x3 e_x3 => ?_)
        have hf := tk_e hf e_x3
        refine lv_ior hx hb d_Wri_writeBits_70 ?_
        obtain ⟨h4, hf⟩ := gd_o hf
        refine va_iast hx hb hK hP (hD _) hS 1 0 rfl rfl (ix_in h4) d_Wri_writeBits_71 (fun H locs hP _ hS => ?_)
        obtain ⟨u5, e_u5, hf⟩ := tk_o hf
        have hP : va_P D cls (wWri cI q0 q1 u5) H := by rw [e_u5]; exact hP
        obtain ⟨x6, e_x6, hf⟩ := tk_o hf
        refine lv_iinc (v := x6) (lv' := [(3, .int x6), (0, .ref q0), (1, .int l1)]) hx hb d_Wri_writeBits_72 hl (k := 2) rfl e_x6.symm (by decide) rfl (fun ls hl => ?_)
        refine lv_goto (tgt := 4) hx hb d_Wri_writeBits_75 (by decide) ?_
        exact ih4 _ _ _ l1 x6 u5 (lv_sub hl [1, 2, 0] rfl) hP hS hf
      have j30 : ∀ (ls : Array Slot) (H : Heap) (locs : List Loc) (l1 : Int32) (l3 : Int32) (s1 : Int32) (u : gU), lv_has ls 4 [(0, .ref q0), (1, .int l1), (3, .int l3)] → va_P D cls (wWri cI q0 q1 u) H → va_S (ad [q0, q1]) s.heap H locs → J_Wri_writeBits_30 (L_Wri_writeBits_4 n4) l1 l3 s1 u = some v → W p l e ({ frames := 1, cells := 0, slots := 0, locals := 21 }) s m [.ref q0, .int a1, .int a2].toArray below meth c H locs 0 0 (MQ below (va_Qv (fun (_ : Unit) => True) (fun _ t => va_P D cls (wWri cI q0 q1 v) t.heap) (ad [q0, q1])) [.ref q0, .int a1, .int a2].toArray s 0 0 (ad [q0, q1])) (F0 m 30 ls [.int s1, .ref q0]) := by
        intro ls H locs l1 l3 s1 u hl hP hS hf
        unfold J_Wri_writeBits_30 at hf
        refine va_put (D := D) (ci := 5) (v := .int s1) (ty := .int) (C := R_Wri) (T := F_Wri) (N := 3) hx hb hw in_Wri t_Wri t_Wri_ok n_Wri hown hK hP (hD _) hS 0 rfl rfl 2 (by decide) (hw _ m_144) (fun _ h9 => h9) rfl (by decide +kernel) rfl rfl (Nat.le_of_ble_eq_true rfl) d_Wri_writeBits_30 (fun H locs hP _ hS => ?_)
        obtain ⟨u1, e_u1, hf⟩ := tk_o hf
        have hP : va_P D cls (wWri cI q0 q1 u1) H := by rw [e_u1]; exact hP
        refine lv_aload_n hx hb d_Wri_writeBits_33 rfl (lv_at hl 0 rfl) ?_
        refine lv_iconst (v := 0) hx hb d_Wri_writeBits_34 (by decide) ?_
        have hC : [0, 1].map (fun i => (wWri cI q0 q1 u1)[i]?) = (wWri cI q0 q1 u1).map some := rfl
        obtain ⟨w2, hc, hf⟩ := bd_o hf
        refine rw_v (va_runV (As := [.int 0]) (rest := []) ⟨hx, hb, hml, hown, hw⟩ (c_Wri_writeByte l D cI q0 q1 (dj_sub hd [0, 1] (by decide) rfl) 0 u1 w2 hc) (cwV 1 hw g_8 rfl rfl rfl (by decide +kernel) ⟨Nat.le_of_ble_eq_true rfl, Nat.le_of_ble_eq_true rfl⟩) (pre_V (P_sub hC hP) hK rfl rfl) rfl rfl hl.1 rfl (lv_room (Nat.le_of_ble_eq_true rfl)) d_Wri_writeBits_35 ⟨Nat.le_of_ble_eq_true rfl, Nat.le_of_ble_eq_true rfl⟩) hS hP (hD _) hC rfl rfl (fun H locs hP hS => ?_)
        obtain ⟨u3, e_u3, hf⟩ := tk_o hf
        have hP : va_P D cls (wWri cI q0 q1 u3) H := by rw [e_u3]; exact hP
        exact j38 _ _ _ l1 l3 u3 (lv_sub hl [0, 1, 2] rfl) hP hS hf
      intro ls H locs l1 l3 u hl hP hS hf
      rw [L_Wri_writeBits_4_s] at hf
      refine lv_iload_n hx hb d_Wri_writeBits_4 rfl (lv_at hl 2 rfl) ?_
      refine lv_if_lt (tgt := 78) hx hb d_Wri_writeBits_5 (by decide) (fun hc => ?_) (fun hc => ?_)
      · have hf := bq_t hf hc
        exact rt_v (wWri cI q0 q1) hx hb hr hlocks hS hP hf d_Wri_writeBits_78
      have hf := bq_n hf hc
      refine lv_aload_n hx hb d_Wri_writeBits_8 rfl (lv_at hl 0 rfl) ?_
      refine va_get (D := D) (ci := 5) (v := .int (u 0 1)) (C := R_Wri) (T := F_Wri) (N := 3) hx hb hw in_Wri hown hK hP 0 rfl rfl 2 (by decide) (hw _ m_144) (fun _ h9 => h9) rfl d_Wri_writeBits_9 ?_
      refine lv_if_ne (tgt := 38) hx hb d_Wri_writeBits_12 (by decide) (fun hc => ?_) (fun hc => ?_)
      · have hf := bq_n hf hc
        exact j38 _ _ _ l1 l3 u (lv_sub hl [0, 1, 2] rfl) hP hS hf
      have hf := bq_t hf hc
      refine lv_aload_n hx hb d_Wri_writeBits_15 rfl (lv_at hl 0 rfl) ?_
      refine lv_aload_n hx hb d_Wri_writeBits_16 rfl (lv_at hl 0 rfl) ?_
      have hC : [0, 1].map (fun i => (wWri cI q0 q1 u)[i]?) = (wWri cI q0 q1 u).map some := rfl
      obtain ⟨x1, hc, hf⟩ := bd_o hf
      refine ro_i (va_runV (As := []) (rest := [.ref q0]) ⟨hx, hb, hml, hown, hw⟩ (c_Wri_endsWith255 l D cI q0 q1 u x1 hc) (cwV 0 hw g_9 rfl rfl rfl (by decide +kernel) ⟨Nat.le_of_ble_eq_true rfl, Nat.le_of_ble_eq_true rfl⟩) (pre_V (P_sub hC hP) hK rfl rfl) rfl rfl hl.1 rfl (lv_room (Nat.le_of_ble_eq_true rfl)) d_Wri_writeBits_17 ⟨Nat.le_of_ble_eq_true rfl, Nat.le_of_ble_eq_true rfl⟩) hS hP (fun H locs hP hS => ?_)
      refine lv_if_eq (tgt := 28) hx hb d_Wri_writeBits_20 (by decide) (fun hc => ?_) (fun hc => ?_)
      · have hf := bq_t hf hc
        refine lv_bipush (v := 8) hx hb d_Wri_writeBits_28 (by decide) ?_
        exact j30 _ _ _ l1 l3 8 u (lv_sub hl [0, 1, 2] rfl) hP hS hf
      have hf := bq_n hf hc
      refine lv_bipush (v := 7) hx hb d_Wri_writeBits_23 (by decide) ?_
      refine lv_goto (tgt := 30) hx hb d_Wri_writeBits_25 (by decide) ?_
      exact j30 _ _ _ l1 l3 7 u (lv_sub hl [0, 1, 2] rfl) hP hS hf
  unfold f_Wri_writeBits at hf
  refine lv_iload_n hx hb d_Wri_writeBits_0 rfl (lv_at hl 2 rfl) ?_
  refine lv_iconst (v := 1) hx hb d_Wri_writeBits_1 (by decide) ?_
  refine lv_isub hx hb d_Wri_writeBits_2 ?_
  refine lv_topi (fun x1 e_x1 => ?_)
  have hf := tk_e hf e_x1
  refine lv_istore_n (lv' := [(3, .int x1), (0, .ref q0), (1, .int a1), (2, .int a2)]) hx hb d_Wri_writeBits_3 rfl hl (by decide) rfl (fun ls hl => ?_)
  exact lp4 100 _ _ _ a1 x1 u (lv_sub hl [1, 2, 0] rfl) hP hS hf
def f_Wri_writeNumber (a1 : Int32) (a2 : Int32) (a3 : Int32) (a4 : Int32) (u : gU) : Option (gU) := tk ((a3 - a4) - 1) fun x1 => bq (x1 ≤ (a1 >>> (a2 &&& 31))) (bd (f_Wri_writeBits 1 (x1 + 1) u) fun w2 => tk (w2) fun u3 => bd (f_Wri_writeBits (a1 - 1) a4 u3) fun w4 => tk (w4) fun u5 => some u5) (bd (f_Wri_writeBits 1 ((a1 >>> (a2 &&& 31)) + 1) u) fun w6 => tk (w6) fun u7 => bd (f_Wri_writeBits a1 a2 u7) fun w8 => tk (w8) fun u9 => some u9)
set_option maxHeartbeats 4000000 in
set_option maxRecDepth 100000 in
theorem c_Wri_writeNumber (l : Launch) (D : va_G) (cI : ClassId) (q0 : Nat) (q1 : Nat) (hd : dj [q0, q1]) (a1 : Int32) (a2 : Int32) (a3 : Int32) (a4 : Int32) (u : gU) (v : gU) (hf : f_Wri_writeNumber a1 a2 a3 a4 u = some v) : Met l y_Wri_writeNumber (.code y_Wri_writeNumber b_Wri_writeNumber 6 none :: TS) ({ frames := 2, cells := 0, slots := 0, locals := 44 }) (va_Pc [.ref q0, .int a1, .int a2, .int a3, .int a4] (fun U => va_P D cls (wWri cI q0 q1 u) U.heap ∧ va_K D cls [(cI, .int)] U)) (va_Qv (fun (_ : Unit) => True) (fun _ t => va_P D cls (wWri cI q0 q1 v) t.heap) (ad [q0, q1])) 0 0 (ad [q0, q1]) := by
  refine ct_of (by decide +kernel) (Nat.le_of_ble_eq_true rfl) ?_
  intro p e s m below meth c ls hx hb hml hr hlocks hown hw hP hK hl
  have hS : va_S (ad [q0, q1]) s.heap s.heap [] := va_S.rf
  have hD : ∀ v, va_D (ad [q0, q1]) (wWri cI q0 q1 v) := fun _ => dj_D rfl hd
  have hl : lv_has ls 6 [(0, .ref q0), (1, .int a1), (2, .int a2), (3, .int a3), (4, .int a4)] := hl
  have hP : va_P D cls (wWri cI q0 q1 u) s.heap := hP
  unfold f_Wri_writeNumber at hf
  refine lv_iload_n hx hb d_Wri_writeNumber_0 rfl (lv_at hl 3 rfl) ?_
  refine lv_iload hx hb d_Wri_writeNumber_1 (lv_at hl 4 rfl) ?_
  refine lv_isub hx hb d_Wri_writeNumber_3 ?_
  refine lv_iconst (v := 1) hx hb d_Wri_writeNumber_4 (by decide) ?_
  refine lv_isub hx hb d_Wri_writeNumber_5 ?_
  refine lv_topi (fun x1 e_x1 => ?_)
  have hf := tk_e hf e_x1
  refine lv_istore (lv' := [(5, .int x1), (0, .ref q0), (1, .int a1), (2, .int a2), (3, .int a3), (4, .int a4)]) hx hb d_Wri_writeNumber_6 hl (by decide) rfl (fun ls hl => ?_)
  refine lv_iload_n hx hb d_Wri_writeNumber_8 rfl (lv_at hl 2 rfl) ?_
  refine lv_iload_n hx hb d_Wri_writeNumber_9 rfl (lv_at hl 3 rfl) ?_
  refine lv_ishr hx hb d_Wri_writeNumber_10 ?_
  refine lv_iload hx hb d_Wri_writeNumber_11 (lv_at hl 0 rfl) ?_
  refine lv_icmp_ge (tgt := 35) hx hb d_Wri_writeNumber_13 (by decide) (fun hc => ?_) (fun hc => ?_)
  · have hf := bq_t hf hc
    refine lv_aload_n hx hb d_Wri_writeNumber_35 rfl (lv_at hl 1 rfl) ?_
    refine lv_iconst (v := 1) hx hb d_Wri_writeNumber_36 (by decide) ?_
    refine lv_iload hx hb d_Wri_writeNumber_37 (lv_at hl 0 rfl) ?_
    refine lv_iconst (v := 1) hx hb d_Wri_writeNumber_39 (by decide) ?_
    refine lv_iadd hx hb d_Wri_writeNumber_40 ?_
    have hC : [0, 1].map (fun i => (wWri cI q0 q1 u)[i]?) = (wWri cI q0 q1 u).map some := rfl
    obtain ⟨w2, hc, hf⟩ := bd_o hf
    refine rw_v (va_runV (As := [.int 1, .int (x1 + 1)]) (rest := []) ⟨hx, hb, hml, hown, hw⟩ (c_Wri_writeBits l D cI q0 q1 (dj_sub hd [0, 1] (by decide) rfl) 1 (x1 + 1) u w2 hc) (cwV 2 hw g_10 rfl rfl rfl (by decide +kernel) ⟨Nat.le_of_ble_eq_true rfl, Nat.le_of_ble_eq_true rfl⟩) (pre_V (P_sub hC hP) hK rfl rfl) rfl rfl hl.1 rfl (lv_room (Nat.le_of_ble_eq_true rfl)) d_Wri_writeNumber_41 ⟨Nat.le_of_ble_eq_true rfl, Nat.le_of_ble_eq_true rfl⟩) hS hP (hD _) hC rfl rfl (fun H locs hP hS => ?_)
    obtain ⟨u3, e_u3, hf⟩ := tk_o hf
    have hP : va_P D cls (wWri cI q0 q1 u3) H := by rw [e_u3]; exact hP
    refine lv_aload_n hx hb d_Wri_writeNumber_44 rfl (lv_at hl 1 rfl) ?_
    refine lv_iload_n hx hb d_Wri_writeNumber_45 rfl (lv_at hl 2 rfl) ?_
    refine lv_iconst (v := 1) hx hb d_Wri_writeNumber_46 (by decide) ?_
    refine lv_isub hx hb d_Wri_writeNumber_47 ?_
    refine lv_iload hx hb d_Wri_writeNumber_48 (lv_at hl 5 rfl) ?_
    have hC : [0, 1].map (fun i => (wWri cI q0 q1 u3)[i]?) = (wWri cI q0 q1 u3).map some := rfl
    obtain ⟨w4, hc, hf⟩ := bd_o hf
    refine rw_v (va_runV (As := [.int (a1 - 1), .int a4]) (rest := []) ⟨hx, hb, hml, hown, hw⟩ (c_Wri_writeBits l D cI q0 q1 (dj_sub hd [0, 1] (by decide) rfl) (a1 - 1) a4 u3 w4 hc) (cwV 2 hw g_10 rfl rfl rfl (by decide +kernel) ⟨Nat.le_of_ble_eq_true rfl, Nat.le_of_ble_eq_true rfl⟩) (pre_V (P_sub hC hP) hK rfl rfl) rfl rfl hl.1 rfl (lv_room (Nat.le_of_ble_eq_true rfl)) d_Wri_writeNumber_50 ⟨Nat.le_of_ble_eq_true rfl, Nat.le_of_ble_eq_true rfl⟩) hS hP (hD _) hC rfl rfl (fun H locs hP hS => ?_)
    obtain ⟨u5, e_u5, hf⟩ := tk_o hf
    have hP : va_P D cls (wWri cI q0 q1 u5) H := by rw [e_u5]; exact hP
    exact rt_v (wWri cI q0 q1) hx hb hr hlocks hS hP hf d_Wri_writeNumber_53
  have hf := bq_n hf hc
  refine lv_aload_n hx hb d_Wri_writeNumber_16 rfl (lv_at hl 1 rfl) ?_
  refine lv_iconst (v := 1) hx hb d_Wri_writeNumber_17 (by decide) ?_
  refine lv_iload_n hx hb d_Wri_writeNumber_18 rfl (lv_at hl 2 rfl) ?_
  refine lv_iload_n hx hb d_Wri_writeNumber_19 rfl (lv_at hl 3 rfl) ?_
  refine lv_ishr hx hb d_Wri_writeNumber_20 ?_
  refine lv_iconst (v := 1) hx hb d_Wri_writeNumber_21 (by decide) ?_
  refine lv_iadd hx hb d_Wri_writeNumber_22 ?_
  have hC : [0, 1].map (fun i => (wWri cI q0 q1 u)[i]?) = (wWri cI q0 q1 u).map some := rfl
  obtain ⟨w6, hc, hf⟩ := bd_o hf
  refine rw_v (va_runV (As := [.int 1, .int ((a1 >>> (a2 &&& 31)) + 1)]) (rest := []) ⟨hx, hb, hml, hown, hw⟩ (c_Wri_writeBits l D cI q0 q1 (dj_sub hd [0, 1] (by decide) rfl) 1 ((a1 >>> (a2 &&& 31)) + 1) u w6 hc) (cwV 2 hw g_10 rfl rfl rfl (by decide +kernel) ⟨Nat.le_of_ble_eq_true rfl, Nat.le_of_ble_eq_true rfl⟩) (pre_V (P_sub hC hP) hK rfl rfl) rfl rfl hl.1 rfl (lv_room (Nat.le_of_ble_eq_true rfl)) d_Wri_writeNumber_23 ⟨Nat.le_of_ble_eq_true rfl, Nat.le_of_ble_eq_true rfl⟩) hS hP (hD _) hC rfl rfl (fun H locs hP hS => ?_)
  obtain ⟨u7, e_u7, hf⟩ := tk_o hf
  have hP : va_P D cls (wWri cI q0 q1 u7) H := by rw [e_u7]; exact hP
  refine lv_aload_n hx hb d_Wri_writeNumber_26 rfl (lv_at hl 1 rfl) ?_
  refine lv_iload_n hx hb d_Wri_writeNumber_27 rfl (lv_at hl 2 rfl) ?_
  refine lv_iload_n hx hb d_Wri_writeNumber_28 rfl (lv_at hl 3 rfl) ?_
  have hC : [0, 1].map (fun i => (wWri cI q0 q1 u7)[i]?) = (wWri cI q0 q1 u7).map some := rfl
  obtain ⟨w8, hc, hf⟩ := bd_o hf
  refine rw_v (va_runV (As := [.int a1, .int a2]) (rest := []) ⟨hx, hb, hml, hown, hw⟩ (c_Wri_writeBits l D cI q0 q1 (dj_sub hd [0, 1] (by decide) rfl) a1 a2 u7 w8 hc) (cwV 2 hw g_10 rfl rfl rfl (by decide +kernel) ⟨Nat.le_of_ble_eq_true rfl, Nat.le_of_ble_eq_true rfl⟩) (pre_V (P_sub hC hP) hK rfl rfl) rfl rfl hl.1 rfl (lv_room (Nat.le_of_ble_eq_true rfl)) d_Wri_writeNumber_29 ⟨Nat.le_of_ble_eq_true rfl, Nat.le_of_ble_eq_true rfl⟩) hS hP (hD _) hC rfl rfl (fun H locs hP hS => ?_)
  obtain ⟨u9, e_u9, hf⟩ := tk_o hf
  have hP : va_P D cls (wWri cI q0 q1 u9) H := by rw [e_u9]; exact hP
  refine lv_goto (tgt := 53) hx hb d_Wri_writeNumber_32 (by decide) ?_
  exact rt_v (wWri cI q0 q1) hx hb hr hlocks hS hP hf d_Wri_writeNumber_53
def J_Wri_writeEnd_12 (u : gU) : Option (gU) := bd (f_Wri_writeByte 255 u) fun w1 => tk (w1) fun u2 => bd (f_Wri_writeByte 217 u2) fun w3 => tk (w3) fun u4 => some u4
def f_Wri_writeEnd (u : gU) : Option (gU) := bd (f_Wri_endsWith255 u) fun x1 => bq (x1 = 0) (J_Wri_writeEnd_12  u) (bd (f_Wri_writeByte 0 u) fun w2 => tk (w2) fun u3 => J_Wri_writeEnd_12  u3)
set_option maxHeartbeats 4000000 in
set_option maxRecDepth 100000 in
theorem c_Wri_writeEnd (l : Launch) (D : va_G) (cI : ClassId) (q0 : Nat) (q1 : Nat) (hd : dj [q0, q1]) (u : gU) (v : gU) (hf : f_Wri_writeEnd u = some v) : Met l y_Wri_writeEnd (.code y_Wri_writeEnd b_Wri_writeEnd 1 none :: TS) ({ frames := 1, cells := 0, slots := 0, locals := 21 }) (va_Pc [.ref q0] (fun U => va_P D cls (wWri cI q0 q1 u) U.heap ∧ va_K D cls [(cI, .int)] U)) (va_Qv (fun (_ : Unit) => True) (fun _ t => va_P D cls (wWri cI q0 q1 v) t.heap) (ad [q0, q1])) 0 0 (ad [q0, q1]) := by
  refine ct_of (by decide +kernel) (Nat.le_of_ble_eq_true rfl) ?_
  intro p e s m below meth c ls hx hb hml hr hlocks hown hw hP hK hl
  have hS : va_S (ad [q0, q1]) s.heap s.heap [] := va_S.rf
  have hD : ∀ v, va_D (ad [q0, q1]) (wWri cI q0 q1 v) := fun _ => dj_D rfl hd
  have hl : lv_has ls 1 [(0, .ref q0)] := hl
  have hP : va_P D cls (wWri cI q0 q1 u) s.heap := hP
  have j12 : ∀ (ls : Array Slot) (H : Heap) (locs : List Loc) (u : gU), lv_has ls 1 [(0, .ref q0)] → va_P D cls (wWri cI q0 q1 u) H → va_S (ad [q0, q1]) s.heap H locs → J_Wri_writeEnd_12 u = some v → W p l e ({ frames := 1, cells := 0, slots := 0, locals := 21 }) s m [.ref q0].toArray below meth c H locs 0 0 (MQ below (va_Qv (fun (_ : Unit) => True) (fun _ t => va_P D cls (wWri cI q0 q1 v) t.heap) (ad [q0, q1])) [.ref q0].toArray s 0 0 (ad [q0, q1])) (F0 m 12 ls []) := by
    intro ls H locs u hl hP hS hf
    unfold J_Wri_writeEnd_12 at hf
    refine lv_aload_n hx hb d_Wri_writeEnd_12 rfl (lv_at hl 0 rfl) ?_
    refine lv_sipush (v := 255) hx hb d_Wri_writeEnd_13 (by decide) ?_
    have hC : [0, 1].map (fun i => (wWri cI q0 q1 u)[i]?) = (wWri cI q0 q1 u).map some := rfl
    obtain ⟨w1, hc, hf⟩ := bd_o hf
    refine rw_v (va_runV (As := [.int 255]) (rest := []) ⟨hx, hb, hml, hown, hw⟩ (c_Wri_writeByte l D cI q0 q1 (dj_sub hd [0, 1] (by decide) rfl) 255 u w1 hc) (cwV 1 hw g_8 rfl rfl rfl (by decide +kernel) ⟨Nat.le_of_ble_eq_true rfl, Nat.le_of_ble_eq_true rfl⟩) (pre_V (P_sub hC hP) hK rfl rfl) rfl rfl hl.1 rfl (lv_room (Nat.le_of_ble_eq_true rfl)) d_Wri_writeEnd_16 ⟨Nat.le_of_ble_eq_true rfl, Nat.le_of_ble_eq_true rfl⟩) hS hP (hD _) hC rfl rfl (fun H locs hP hS => ?_)
    obtain ⟨u2, e_u2, hf⟩ := tk_o hf
    have hP : va_P D cls (wWri cI q0 q1 u2) H := by rw [e_u2]; exact hP
    refine lv_aload_n hx hb d_Wri_writeEnd_19 rfl (lv_at hl 0 rfl) ?_
    refine lv_sipush (v := 217) hx hb d_Wri_writeEnd_20 (by decide) ?_
    have hC : [0, 1].map (fun i => (wWri cI q0 q1 u2)[i]?) = (wWri cI q0 q1 u2).map some := rfl
    obtain ⟨w3, hc, hf⟩ := bd_o hf
    refine rw_v (va_runV (As := [.int 217]) (rest := []) ⟨hx, hb, hml, hown, hw⟩ (c_Wri_writeByte l D cI q0 q1 (dj_sub hd [0, 1] (by decide) rfl) 217 u2 w3 hc) (cwV 1 hw g_8 rfl rfl rfl (by decide +kernel) ⟨Nat.le_of_ble_eq_true rfl, Nat.le_of_ble_eq_true rfl⟩) (pre_V (P_sub hC hP) hK rfl rfl) rfl rfl hl.1 rfl (lv_room (Nat.le_of_ble_eq_true rfl)) d_Wri_writeEnd_23 ⟨Nat.le_of_ble_eq_true rfl, Nat.le_of_ble_eq_true rfl⟩) hS hP (hD _) hC rfl rfl (fun H locs hP hS => ?_)
    obtain ⟨u4, e_u4, hf⟩ := tk_o hf
    have hP : va_P D cls (wWri cI q0 q1 u4) H := by rw [e_u4]; exact hP
    exact rt_v (wWri cI q0 q1) hx hb hr hlocks hS hP hf d_Wri_writeEnd_26
  unfold f_Wri_writeEnd at hf
  refine lv_aload_n hx hb d_Wri_writeEnd_0 rfl (lv_at hl 0 rfl) ?_
  have hC : [0, 1].map (fun i => (wWri cI q0 q1 u)[i]?) = (wWri cI q0 q1 u).map some := rfl
  obtain ⟨x1, hc, hf⟩ := bd_o hf
  refine ro_i (va_runV (As := []) (rest := []) ⟨hx, hb, hml, hown, hw⟩ (c_Wri_endsWith255 l D cI q0 q1 u x1 hc) (cwV 0 hw g_9 rfl rfl rfl (by decide +kernel) ⟨Nat.le_of_ble_eq_true rfl, Nat.le_of_ble_eq_true rfl⟩) (pre_V (P_sub hC hP) hK rfl rfl) rfl rfl hl.1 rfl (lv_room (Nat.le_of_ble_eq_true rfl)) d_Wri_writeEnd_1 ⟨Nat.le_of_ble_eq_true rfl, Nat.le_of_ble_eq_true rfl⟩) hS hP (fun H locs hP hS => ?_)
  refine lv_if_eq (tgt := 12) hx hb d_Wri_writeEnd_4 (by decide) (fun hc => ?_) (fun hc => ?_)
  · have hf := bq_t hf hc
    exact j12 _ _ _  u (lv_sub hl [0] rfl) hP hS hf
  have hf := bq_n hf hc
  refine lv_aload_n hx hb d_Wri_writeEnd_7 rfl (lv_at hl 0 rfl) ?_
  refine lv_iconst (v := 0) hx hb d_Wri_writeEnd_8 (by decide) ?_
  have hC : [0, 1].map (fun i => (wWri cI q0 q1 u)[i]?) = (wWri cI q0 q1 u).map some := rfl
  obtain ⟨w2, hc, hf⟩ := bd_o hf
  refine rw_v (va_runV (As := [.int 0]) (rest := []) ⟨hx, hb, hml, hown, hw⟩ (c_Wri_writeByte l D cI q0 q1 (dj_sub hd [0, 1] (by decide) rfl) 0 u w2 hc) (cwV 1 hw g_8 rfl rfl rfl (by decide +kernel) ⟨Nat.le_of_ble_eq_true rfl, Nat.le_of_ble_eq_true rfl⟩) (pre_V (P_sub hC hP) hK rfl rfl) rfl rfl hl.1 rfl (lv_room (Nat.le_of_ble_eq_true rfl)) d_Wri_writeEnd_9 ⟨Nat.le_of_ble_eq_true rfl, Nat.le_of_ble_eq_true rfl⟩) hS hP (hD _) hC rfl rfl (fun H locs hP hS => ?_)
  obtain ⟨u3, e_u3, hf⟩ := tk_o hf
  have hP : va_P D cls (wWri cI q0 q1 u3) H := by rw [e_u3]; exact hP
  exact j12 _ _ _  u3 (lv_sub hl [0] rfl) hP hS hf
