def f_Mod_thrown (u : gU) : Option (Int32) := some (u 0 0)
set_option maxHeartbeats 4000000 in
set_option maxRecDepth 100000 in
theorem c_Mod_thrown (l : Launch) (D : va_G) (cI : ClassId) (q0 : Nat) (q1 : Nat) (q2 : Nat) (q3 : Nat) (q4 : Nat) (q5 : Nat) (q6 : Nat) (q7 : Nat) (u : gU) (r : Int32) (hf : f_Mod_thrown u = some r) : Met l y_Mod_thrown (.code y_Mod_thrown b_Mod_thrown 1 (some .int) :: TS) ({ frames := 0, cells := 0, slots := 0, locals := 0 }) (va_Pc [.ref q0] (fun U => va_P D cls (wMod cI q0 q1 q2 q3 q4 q5 q6 q7 u) U.heap ∧ va_K D cls [(cI, .int)] U)) (va_Qi (fun x (_ : Unit) => x = r) (fun _ _ => True) (fun _ => False)) 0 0 (fun _ => False) := by
  refine ct_of (by decide +kernel) (Nat.le_of_ble_eq_true rfl) ?_
  intro p e s m below meth c ls hx hb hml hr hlocks hown hw hP hK hl
  have hS : va_S (fun _ => False) s.heap s.heap [] := va_S.rf
  have hl : lv_has ls 1 [(0, .ref q0)] := hl
  have hP : va_P D cls (wMod cI q0 q1 q2 q3 q4 q5 q6 q7 u) s.heap := hP
  unfold f_Mod_thrown at hf
  refine lv_aload_n hx hb d_Mod_thrown_0 rfl (lv_at hl 0 rfl) ?_
  refine va_get (D := D) (ci := 7) (v := .int (u 0 0)) (C := R_Mod) (T := F_Mod) (N := 28) hx hb hw in_Mod hown hK hP 0 rfl rfl 0 (by decide) (hw _ m_426) (fun _ h9 => h9) rfl d_Mod_thrown_1 ?_
  exact rt_roi hx hb hr hlocks hS hf d_Mod_thrown_4
def f_Mod_greater (a0 : Int32) (a1 : Int32) : Option (Int32) := bq (a0 ≤ a1) (some a1) (some a0)
set_option maxHeartbeats 4000000 in
set_option maxRecDepth 100000 in
theorem c_Mod_greater (l : Launch) (D : va_G) (cI : ClassId) (a0 : Int32) (a1 : Int32) (r : Int32) (hf : f_Mod_greater a0 a1 = some r) : Met l y_Mod_greater (.code y_Mod_greater b_Mod_greater 2 (some .int) :: TS) ({ frames := 0, cells := 0, slots := 0, locals := 0 }) (va_Pc [.int a0, .int a1] (fun U => va_P D cls (([] : va_W)) U.heap ∧ va_K D cls [(cI, .int)] U)) (va_Qi (fun x (_ : Unit) => x = r) (fun _ _ => True) (fun _ => False)) 0 0 (fun _ => False) := by
  refine ct_of (by decide +kernel) (Nat.le_of_ble_eq_true rfl) ?_
  intro p e s m below meth c ls hx hb hml hr hlocks hown hw hP hK hl
  have hS : va_S (fun _ => False) s.heap s.heap [] := va_S.rf
  have hl : lv_has ls 2 [(0, .int a0), (1, .int a1)] := hl
  have hP : va_P D cls (([] : va_W)) s.heap := hP
  unfold f_Mod_greater at hf
  refine lv_iload_n hx hb d_Mod_greater_0 rfl (lv_at hl 0 rfl) ?_
  refine lv_iload_n hx hb d_Mod_greater_1 rfl (lv_at hl 1 rfl) ?_
  refine lv_icmp_le (tgt := 9) hx hb d_Mod_greater_2 (by decide) (fun hc => ?_) (fun hc => ?_)
  · have hf := bq_t hf hc
    refine lv_iload_n hx hb d_Mod_greater_9 rfl (lv_at hl 1 rfl) ?_
    exact rt_roi hx hb hr hlocks hS hf d_Mod_greater_10
  have hf := bq_n hf hc
  refine lv_iload_n hx hb d_Mod_greater_5 rfl (lv_at hl 0 rfl) ?_
  refine lv_goto (tgt := 10) hx hb d_Mod_greater_6 (by decide) ?_
  exact rt_roi hx hb hr hlocks hS hf d_Mod_greater_10
def f_Mod_lesser (a0 : Int32) (a1 : Int32) : Option (Int32) := bq (a1 ≤ a0) (some a1) (some a0)
set_option maxHeartbeats 4000000 in
set_option maxRecDepth 100000 in
theorem c_Mod_lesser (l : Launch) (D : va_G) (cI : ClassId) (a0 : Int32) (a1 : Int32) (r : Int32) (hf : f_Mod_lesser a0 a1 = some r) : Met l y_Mod_lesser (.code y_Mod_lesser b_Mod_lesser 2 (some .int) :: TS) ({ frames := 0, cells := 0, slots := 0, locals := 0 }) (va_Pc [.int a0, .int a1] (fun U => va_P D cls (([] : va_W)) U.heap ∧ va_K D cls [(cI, .int)] U)) (va_Qi (fun x (_ : Unit) => x = r) (fun _ _ => True) (fun _ => False)) 0 0 (fun _ => False) := by
  refine ct_of (by decide +kernel) (Nat.le_of_ble_eq_true rfl) ?_
  intro p e s m below meth c ls hx hb hml hr hlocks hown hw hP hK hl
  have hS : va_S (fun _ => False) s.heap s.heap [] := va_S.rf
  have hl : lv_has ls 2 [(0, .int a0), (1, .int a1)] := hl
  have hP : va_P D cls (([] : va_W)) s.heap := hP
  unfold f_Mod_lesser at hf
  refine lv_iload_n hx hb d_Mod_lesser_0 rfl (lv_at hl 0 rfl) ?_
  refine lv_iload_n hx hb d_Mod_lesser_1 rfl (lv_at hl 1 rfl) ?_
  refine lv_icmp_ge (tgt := 9) hx hb d_Mod_lesser_2 (by decide) (fun hc => ?_) (fun hc => ?_)
  · have hf := bq_t hf hc
    refine lv_iload_n hx hb d_Mod_lesser_9 rfl (lv_at hl 1 rfl) ?_
    exact rt_roi hx hb hr hlocks hS hf d_Mod_lesser_10
  have hf := bq_n hf hc
  refine lv_iload_n hx hb d_Mod_lesser_5 rfl (lv_at hl 0 rfl) ?_
  refine lv_goto (tgt := 10) hx hb d_Mod_lesser_6 (by decide) ?_
  exact rt_roi hx hb hr hlocks hS hf d_Mod_lesser_10
def f_Mod_clamp (a1 : Int32) (a2 : Int32) (u : gU) : Option (Int32) := bq ((u 0 3) < a1) (some a2) (bq (a2 ≤ a1) (some a1) (some a2))
set_option maxHeartbeats 4000000 in
set_option maxRecDepth 100000 in
theorem c_Mod_clamp (l : Launch) (D : va_G) (cI : ClassId) (q0 : Nat) (q1 : Nat) (q2 : Nat) (q3 : Nat) (q4 : Nat) (q5 : Nat) (q6 : Nat) (q7 : Nat) (a1 : Int32) (a2 : Int32) (u : gU) (r : Int32) (hf : f_Mod_clamp a1 a2 u = some r) : Met l y_Mod_clamp (.code y_Mod_clamp b_Mod_clamp 3 (some .int) :: TS) ({ frames := 0, cells := 0, slots := 0, locals := 0 }) (va_Pc [.ref q0, .int a1, .int a2] (fun U => va_P D cls (wMod cI q0 q1 q2 q3 q4 q5 q6 q7 u) U.heap ∧ va_K D cls [(cI, .int)] U)) (va_Qi (fun x (_ : Unit) => x = r) (fun _ _ => True) (fun _ => False)) 0 0 (fun _ => False) := by
  refine ct_of (by decide +kernel) (Nat.le_of_ble_eq_true rfl) ?_
  intro p e s m below meth c ls hx hb hml hr hlocks hown hw hP hK hl
  have hS : va_S (fun _ => False) s.heap s.heap [] := va_S.rf
  have hl : lv_has ls 3 [(0, .ref q0), (1, .int a1), (2, .int a2)] := hl
  have hP : va_P D cls (wMod cI q0 q1 q2 q3 q4 q5 q6 q7 u) s.heap := hP
  unfold f_Mod_clamp at hf
  refine lv_iload_n hx hb d_Mod_clamp_0 rfl (lv_at hl 1 rfl) ?_
  refine lv_aload_n hx hb d_Mod_clamp_1 rfl (lv_at hl 0 rfl) ?_
  refine va_get (D := D) (ci := 7) (v := .int (u 0 3)) (C := R_Mod) (T := F_Mod) (N := 28) hx hb hw in_Mod hown hK hP 0 rfl rfl 3 (by decide) (hw _ m_427) (fun _ h9 => h9) rfl d_Mod_clamp_2 ?_
  refine lv_icmp_gt (tgt := 13) hx hb d_Mod_clamp_5 (by decide) (fun hc => ?_) (fun hc => ?_)
  · have hf := bq_t hf hc
    refine lv_iload_n hx hb d_Mod_clamp_13 rfl (lv_at hl 2 rfl) ?_
    refine lv_goto (tgt := 18) hx hb d_Mod_clamp_14 (by decide) ?_
    exact rt_roi hx hb hr hlocks hS hf d_Mod_clamp_18
  have hf := bq_n hf hc
  refine lv_iload_n hx hb d_Mod_clamp_8 rfl (lv_at hl 1 rfl) ?_
  refine lv_iload_n hx hb d_Mod_clamp_9 rfl (lv_at hl 2 rfl) ?_
  refine lv_icmp_ge (tgt := 17) hx hb d_Mod_clamp_10 (by decide) (fun hc => ?_) (fun hc => ?_)
  · have hf := bq_t hf hc
    refine lv_iload_n hx hb d_Mod_clamp_17 rfl (lv_at hl 1 rfl) ?_
    exact rt_roi hx hb hr hlocks hS hf d_Mod_clamp_18
  have hf := bq_n hf hc
  refine lv_iload_n hx hb d_Mod_clamp_13 rfl (lv_at hl 2 rfl) ?_
  refine lv_goto (tgt := 18) hx hb d_Mod_clamp_14 (by decide) ?_
  exact rt_roi hx hb hr hlocks hS hf d_Mod_clamp_18
def L_Mod_powerFor_2 : Nat → Int32 → Int32 → Option (Int32)
  | 0, _, _ => none
  | n + 1, l1, l2 => bq (l1 ≤ (1 <<< (l2 &&& 31))) (some l2) (tk (l2 + 1) fun x1 => (L_Mod_powerFor_2 n) l1 x1)
theorem L_Mod_powerFor_2_z (l1 : Int32) (l2 : Int32) : L_Mod_powerFor_2 0 l1 l2 = none := rfl
theorem L_Mod_powerFor_2_s (n : Nat) (l1 : Int32) (l2 : Int32) : L_Mod_powerFor_2 (n + 1) l1 l2 = bq (l1 ≤ (1 <<< (l2 &&& 31))) (some l2) (tk (l2 + 1) fun x1 => (L_Mod_powerFor_2 n) l1 x1) := rfl
def f_Mod_powerFor (a0 : Int32) (a1 : Int32) : Option (Int32) := L_Mod_powerFor_2 2000 a1 a0
set_option maxHeartbeats 4000000 in
set_option maxRecDepth 100000 in
theorem c_Mod_powerFor (l : Launch) (D : va_G) (cI : ClassId) (a0 : Int32) (a1 : Int32) (r : Int32) (hf : f_Mod_powerFor a0 a1 = some r) : Met l y_Mod_powerFor (.code y_Mod_powerFor b_Mod_powerFor 3 (some .int) :: TS) ({ frames := 0, cells := 0, slots := 0, locals := 0 }) (va_Pc [.int a0, .int a1] (fun U => va_P D cls (([] : va_W)) U.heap ∧ va_K D cls [(cI, .int)] U)) (va_Qi (fun x (_ : Unit) => x = r) (fun _ _ => True) (fun _ => False)) 0 0 (fun _ => False) := by
  refine ct_of (by decide +kernel) (Nat.le_of_ble_eq_true rfl) ?_
  intro p e s m below meth c ls hx hb hml hr hlocks hown hw hP hK hl
  have hS : va_S (fun _ => False) s.heap s.heap [] := va_S.rf
  have hl : lv_has ls 3 [(0, .int a0), (1, .int a1)] := hl
  have hP : va_P D cls (([] : va_W)) s.heap := hP
  have lp2 : ∀ (n2 : Nat), ∀ (ls : Array Slot) (H : Heap) (locs : List Loc) (l1 : Int32) (l2 : Int32), lv_has ls 3 [(1, .int l1), (2, .int l2)] → va_P D cls (([] : va_W)) H → va_S (fun _ => False) s.heap H locs → L_Mod_powerFor_2 n2 l1 l2 = some r → W p l e ({ frames := 0, cells := 0, slots := 0, locals := 0 }) s m [.int a0, .int a1].toArray below meth c H locs 0 0 (MQ below (va_Qi (fun x (_ : Unit) => x = r) (fun _ _ => True) (fun _ => False)) [.int a0, .int a1].toArray s 0 0 (fun _ => False)) (F0 m 2 ls []) := by
    intro n2
    induction n2 with
    | zero =>
      intro ls H locs l1 l2 hl hP hS hf
      rw [L_Mod_powerFor_2_z] at hf
      cases hf
    | succ n2 ih2 =>
      intro ls H locs l1 l2 hl hP hS hf
      rw [L_Mod_powerFor_2_s] at hf
      refine lv_iconst (v := 1) hx hb d_Mod_powerFor_2 (by decide) ?_
      refine lv_iload_n hx hb d_Mod_powerFor_3 rfl (lv_at hl 1 rfl) ?_
      refine lv_ishl hx hb d_Mod_powerFor_4 ?_
      refine lv_iload_n hx hb d_Mod_powerFor_5 rfl (lv_at hl 0 rfl) ?_
      refine lv_icmp_ge (tgt := 15) hx hb d_Mod_powerFor_6 (by decide) (fun hc => ?_) (fun hc => ?_)
      · have hf := bq_t hf hc
        refine lv_iload_n hx hb d_Mod_powerFor_15 rfl (lv_at hl 1 rfl) ?_
        exact rt_roi hx hb hr hlocks hS hf d_Mod_powerFor_16
      have hf := bq_n hf hc
      obtain ⟨x1, e_x1, hf⟩ := tk_o hf
      refine lv_iinc (v := x1) (lv' := [(2, .int x1), (1, .int l1)]) hx hb d_Mod_powerFor_9 hl (k := 1) rfl e_x1.symm (by decide) rfl (fun ls hl => ?_)
      refine lv_goto (tgt := 2) hx hb d_Mod_powerFor_12 (by decide) ?_
      exact ih2 _ _ _ l1 x1 (lv_sub hl [1, 0] rfl) hP hS hf
  unfold f_Mod_powerFor at hf
  refine lv_iload_n hx hb d_Mod_powerFor_0 rfl (lv_at hl 0 rfl) ?_
  refine lv_istore_n (lv' := [(2, .int a0), (0, .int a0), (1, .int a1)]) hx hb d_Mod_powerFor_1 rfl hl (by decide) rfl (fun ls hl => ?_)
  exact lp2 2000 _ _ _ a1 a0 (lv_sub hl [2, 0] rfl) hP hS hf
def f_Mod_prepare (u : gU) : Option (gU) := tk (st2 u 0 5 ((2 * (u 0 4)) + 1)) fun u1 => gd (¬ (u1 0 5) = 0) (tk (st2 u1 0 6 ((((u1 0 3) + (2 * (u1 0 4))) / (u1 0 5)) + 1)) fun u3 => bd (f_Mod_powerFor 0 (u3 0 6)) fun x4 => tk (st2 u3 0 7 x4) fun u5 => bd (f_Mod_powerFor 2 ((u5 0 3) + 1)) fun x6 => bd (f_Mod_greater 8 x6) fun x7 => tk (st2 u5 0 8 (2 * (x6 + x7))) fun u8 => bq ((u8 0 3) < 128) (gd (¬ ((u8 0 3) + 1) = 0) (tk (256 / ((u8 0 3) + 1)) fun x10 => gd (¬ x10 = 0) (bd (f_Mod_greater 2 ((3 / x10) + (3 * (u8 0 4)))) fun x12 => bd (f_Mod_clamp x12 ((u8 0 4) + 1) u8) fun x13 => tk (st2 u8 0 9 x13) fun u14 => gd (¬ x10 = 0) (bd (f_Mod_greater 3 ((7 / x10) + (5 * (u14 0 4)))) fun x16 => bd (f_Mod_clamp x16 (u14 0 9) u14) fun x17 => tk (st2 u14 0 10 x17) fun u18 => gd (¬ x10 = 0) (bd (f_Mod_greater 4 ((21 / x10) + (7 * (u18 0 4)))) fun x20 => bd (f_Mod_clamp x20 (u18 0 10) u18) fun x21 => tk (st2 u18 0 11 x21) fun u22 => some u22))))) (tk (((u8 0 3) + 128) / 256) fun x23 => bd (f_Mod_clamp ((x23 + 2) + (3 * (u8 0 4))) ((u8 0 4) + 1) u8) fun x24 => tk (st2 u8 0 9 x24) fun u25 => bd (f_Mod_clamp (((4 * x23) + 3) + (5 * (u25 0 4))) (u25 0 9) u25) fun x26 => tk (st2 u25 0 10 x26) fun u27 => bd (f_Mod_clamp (((17 * x23) + 4) + (7 * (u27 0 4))) (u27 0 10) u27) fun x28 => tk (st2 u27 0 11 x28) fun u29 => some u29))
set_option maxHeartbeats 4000000 in
set_option maxRecDepth 100000 in
theorem c_Mod_prepare (l : Launch) (D : va_G) (cI : ClassId) (q0 : Nat) (q1 : Nat) (q2 : Nat) (q3 : Nat) (q4 : Nat) (q5 : Nat) (q6 : Nat) (q7 : Nat) (hd : dj [q0, q1, q2, q3, q4, q5, q6, q7]) (u : gU) (v : gU) (hf : f_Mod_prepare u = some v) : Met l y_Mod_prepare (.code y_Mod_prepare b_Mod_prepare 3 none :: TS) ({ frames := 1, cells := 0, slots := 0, locals := 22 }) (va_Pc [.ref q0] (fun U => va_P D cls (wMod cI q0 q1 q2 q3 q4 q5 q6 q7 u) U.heap ∧ va_K D cls [(cI, .int)] U)) (va_Qv (fun (_ : Unit) => True) (fun _ t => va_P D cls (wMod cI q0 q1 q2 q3 q4 q5 q6 q7 v) t.heap) (ad [q0, q1, q2, q3, q4, q5, q6, q7])) 0 0 (ad [q0, q1, q2, q3, q4, q5, q6, q7]) := by
  refine ct_of (by decide +kernel) (Nat.le_of_ble_eq_true rfl) ?_
  intro p e s m below meth c ls hx hb hml hr hlocks hown hw hP hK hl
  have hS : va_S (ad [q0, q1, q2, q3, q4, q5, q6, q7]) s.heap s.heap [] := va_S.rf
  have hD : ∀ v, va_D (ad [q0, q1, q2, q3, q4, q5, q6, q7]) (wMod cI q0 q1 q2 q3 q4 q5 q6 q7 v) := fun _ => dj_D rfl hd
  have hl : lv_has ls 3 [(0, .ref q0)] := hl
  have hP : va_P D cls (wMod cI q0 q1 q2 q3 q4 q5 q6 q7 u) s.heap := hP
  unfold f_Mod_prepare at hf
  refine lv_aload_n hx hb d_Mod_prepare_0 rfl (lv_at hl 0 rfl) ?_
  refine lv_iconst (v := 2) hx hb d_Mod_prepare_1 (by decide) ?_
  refine lv_aload_n hx hb d_Mod_prepare_2 rfl (lv_at hl 0 rfl) ?_
  refine va_get (D := D) (ci := 7) (v := .int (u 0 4)) (C := R_Mod) (T := F_Mod) (N := 28) hx hb hw in_Mod hown hK hP 0 rfl rfl 4 (by decide) (hw _ m_428) (fun _ h9 => h9) rfl d_Mod_prepare_3 ?_
  refine lv_imul hx hb d_Mod_prepare_6 ?_
  refine lv_iconst (v := 1) hx hb d_Mod_prepare_7 (by decide) ?_
  refine lv_iadd hx hb d_Mod_prepare_8 ?_
  refine va_put (D := D) (ci := 7) (v := .int ((2 * (u 0 4)) + 1)) (ty := .int) (C := R_Mod) (T := F_Mod) (N := 28) hx hb hw in_Mod t_Mod t_Mod_ok n_Mod hown hK hP (hD _) hS 0 rfl rfl 5 (by decide) (hw _ m_429) (fun _ h9 => h9) rfl (by decide +kernel) rfl rfl (Nat.le_of_ble_eq_true rfl) d_Mod_prepare_9 (fun H locs hP _ hS => ?_)
  obtain ⟨u1, e_u1, hf⟩ := tk_o hf
  have hP : va_P D cls (wMod cI q0 q1 q2 q3 q4 q5 q6 q7 u1) H := by rw [e_u1]; exact hP
  refine lv_aload_n hx hb d_Mod_prepare_12 rfl (lv_at hl 0 rfl) ?_
  refine lv_aload_n hx hb d_Mod_prepare_13 rfl (lv_at hl 0 rfl) ?_
  refine va_get (D := D) (ci := 7) (v := .int (u1 0 3)) (C := R_Mod) (T := F_Mod) (N := 28) hx hb hw in_Mod hown hK hP 0 rfl rfl 3 (by decide) (hw _ m_427) (fun _ h9 => h9) rfl d_Mod_prepare_14 ?_
  refine lv_iconst (v := 2) hx hb d_Mod_prepare_17 (by decide) ?_
  refine lv_aload_n hx hb d_Mod_prepare_18 rfl (lv_at hl 0 rfl) ?_
  refine va_get (D := D) (ci := 7) (v := .int (u1 0 4)) (C := R_Mod) (T := F_Mod) (N := 28) hx hb hw in_Mod hown hK hP 0 rfl rfl 4 (by decide) (hw _ m_428) (fun _ h9 => h9) rfl d_Mod_prepare_19 ?_
  refine lv_imul hx hb d_Mod_prepare_22 ?_
  refine lv_iadd hx hb d_Mod_prepare_23 ?_
  refine lv_aload_n hx hb d_Mod_prepare_24 rfl (lv_at hl 0 rfl) ?_
  refine va_get (D := D) (ci := 7) (v := .int (u1 0 5)) (C := R_Mod) (T := F_Mod) (N := 28) hx hb hw in_Mod hown hK hP 0 rfl rfl 5 (by decide) (hw _ m_429) (fun _ h9 => h9) rfl d_Mod_prepare_25 ?_
  obtain ⟨h2, hf⟩ := gd_o hf
  refine lv_idiv hx hb d_Mod_prepare_28 h2 ?_
  refine lv_iconst (v := 1) hx hb d_Mod_prepare_29 (by decide) ?_
  refine lv_iadd hx hb d_Mod_prepare_30 ?_
  refine va_put (D := D) (ci := 7) (v := .int ((((u1 0 3) + (2 * (u1 0 4))) / (u1 0 5)) + 1)) (ty := .int) (C := R_Mod) (T := F_Mod) (N := 28) hx hb hw in_Mod t_Mod t_Mod_ok n_Mod hown hK hP (hD _) hS 0 rfl rfl 6 (by decide) (hw _ m_430) (fun _ h9 => h9) rfl (by decide +kernel) rfl rfl (Nat.le_of_ble_eq_true rfl) d_Mod_prepare_31 (fun H locs hP _ hS => ?_)
  obtain ⟨u3, e_u3, hf⟩ := tk_o hf
  have hP : va_P D cls (wMod cI q0 q1 q2 q3 q4 q5 q6 q7 u3) H := by rw [e_u3]; exact hP
  refine lv_aload_n hx hb d_Mod_prepare_34 rfl (lv_at hl 0 rfl) ?_
  refine lv_iconst (v := 0) hx hb d_Mod_prepare_35 (by decide) ?_
  refine lv_aload_n hx hb d_Mod_prepare_36 rfl (lv_at hl 0 rfl) ?_
  refine va_get (D := D) (ci := 7) (v := .int (u3 0 6)) (C := R_Mod) (T := F_Mod) (N := 28) hx hb hw in_Mod hown hK hP 0 rfl rfl 6 (by decide) (hw _ m_430) (fun _ h9 => h9) rfl d_Mod_prepare_37 ?_
  have hC : ([] : List Nat).map (fun i => (wMod cI q0 q1 q2 q3 q4 q5 q6 q7 u3)[i]?) = ([] : va_W).map some := rfl
  obtain ⟨x4, hc, hf⟩ := bd_o hf
  refine ro_i (va_runS (As := [.int 0, .int (u3 0 6)]) (rest := [.ref q0]) ⟨hx, hb, hml, hown, hw⟩ (c_Mod_powerFor l D cI 0 (u3 0 6) x4 hc) (va_cwS 2 hw g_64 rfl rfl rfl (by decide +kernel) ⟨Nat.le_of_ble_eq_true rfl, Nat.le_of_ble_eq_true rfl⟩) (pre_S (P_sub hC hP) hK) rfl rfl hl.1 rfl (lv_room (Nat.le_of_ble_eq_true rfl)) d_Mod_prepare_40 ⟨Nat.le_of_ble_eq_true rfl, Nat.le_of_ble_eq_true rfl⟩) hS hP (fun H locs hP hS => ?_)
  refine va_put (D := D) (ci := 7) (v := .int x4) (ty := .int) (C := R_Mod) (T := F_Mod) (N := 28) hx hb hw in_Mod t_Mod t_Mod_ok n_Mod hown hK hP (hD _) hS 0 rfl rfl 7 (by decide) (hw _ m_435) (fun _ h9 => h9) rfl (by decide +kernel) rfl rfl (Nat.le_of_ble_eq_true rfl) d_Mod_prepare_43 (fun H locs hP _ hS => ?_)
  obtain ⟨u5, e_u5, hf⟩ := tk_o hf
  have hP : va_P D cls (wMod cI q0 q1 q2 q3 q4 q5 q6 q7 u5) H := by rw [e_u5]; exact hP
  refine lv_iconst (v := 2) hx hb d_Mod_prepare_46 (by decide) ?_
  refine lv_aload_n hx hb d_Mod_prepare_47 rfl (lv_at hl 0 rfl) ?_
  refine va_get (D := D) (ci := 7) (v := .int (u5 0 3)) (C := R_Mod) (T := F_Mod) (N := 28) hx hb hw in_Mod hown hK hP 0 rfl rfl 3 (by decide) (hw _ m_427) (fun _ h9 => h9) rfl d_Mod_prepare_48 ?_
  refine lv_iconst (v := 1) hx hb d_Mod_prepare_51 (by decide) ?_
  refine lv_iadd hx hb d_Mod_prepare_52 ?_
  have hC : ([] : List Nat).map (fun i => (wMod cI q0 q1 q2 q3 q4 q5 q6 q7 u5)[i]?) = ([] : va_W).map some := rfl
  obtain ⟨x6, hc, hf⟩ := bd_o hf
  refine ro_i (va_runS (As := [.int 2, .int ((u5 0 3) + 1)]) (rest := []) ⟨hx, hb, hml, hown, hw⟩ (c_Mod_powerFor l D cI 2 ((u5 0 3) + 1) x6 hc) (va_cwS 2 hw g_64 rfl rfl rfl (by decide +kernel) ⟨Nat.le_of_ble_eq_true rfl, Nat.le_of_ble_eq_true rfl⟩) (pre_S (P_sub hC hP) hK) rfl rfl hl.1 rfl (lv_room (Nat.le_of_ble_eq_true rfl)) d_Mod_prepare_53 ⟨Nat.le_of_ble_eq_true rfl, Nat.le_of_ble_eq_true rfl⟩) hS hP (fun H locs hP hS => ?_)
  refine lv_istore_n (lv' := [(1, .int x6), (0, .ref q0)]) hx hb d_Mod_prepare_56 rfl hl (by decide) rfl (fun ls hl => ?_)
  refine lv_aload_n hx hb d_Mod_prepare_57 rfl (lv_at hl 1 rfl) ?_
  refine lv_iconst (v := 2) hx hb d_Mod_prepare_58 (by decide) ?_
  refine lv_iload_n hx hb d_Mod_prepare_59 rfl (lv_at hl 0 rfl) ?_
  refine lv_bipush (v := 8) hx hb d_Mod_prepare_60 (by decide) ?_
  refine lv_iload_n hx hb d_Mod_prepare_62 rfl (lv_at hl 0 rfl) ?_
  have hC : ([] : List Nat).map (fun i => (wMod cI q0 q1 q2 q3 q4 q5 q6 q7 u5)[i]?) = ([] : va_W).map some := rfl
  obtain ⟨x7, hc, hf⟩ := bd_o hf
  refine ro_i (va_runS (As := [.int 8, .int x6]) (rest := [.int x6, .int 2, .ref q0]) ⟨hx, hb, hml, hown, hw⟩ (c_Mod_greater l D cI 8 x6 x7 hc) (va_cwS 2 hw g_65 rfl rfl rfl (by decide +kernel) ⟨Nat.le_of_ble_eq_true rfl, Nat.le_of_ble_eq_true rfl⟩) (pre_S (P_sub hC hP) hK) rfl rfl hl.1 rfl (lv_room (Nat.le_of_ble_eq_true rfl)) d_Mod_prepare_63 ⟨Nat.le_of_ble_eq_true rfl, Nat.le_of_ble_eq_true rfl⟩) hS hP (fun H locs hP hS => ?_)
  refine lv_iadd hx hb d_Mod_prepare_66 ?_
  refine lv_imul hx hb d_Mod_prepare_67 ?_
  refine va_put (D := D) (ci := 7) (v := .int (2 * (x6 + x7))) (ty := .int) (C := R_Mod) (T := F_Mod) (N := 28) hx hb hw in_Mod t_Mod t_Mod_ok n_Mod hown hK hP (hD _) hS 0 rfl rfl 8 (by decide) (hw _ m_439) (fun _ h9 => h9) rfl (by decide +kernel) rfl rfl (Nat.le_of_ble_eq_true rfl) d_Mod_prepare_68 (fun H locs hP _ hS => ?_)
  obtain ⟨u8, e_u8, hf⟩ := tk_o hf
  have hP : va_P D cls (wMod cI q0 q1 q2 q3 q4 q5 q6 q7 u8) H := by rw [e_u8]; exact hP
  refine lv_aload_n hx hb d_Mod_prepare_71 rfl (lv_at hl 1 rfl) ?_
  refine va_get (D := D) (ci := 7) (v := .int (u8 0 3)) (C := R_Mod) (T := F_Mod) (N := 28) hx hb hw in_Mod hown hK hP 0 rfl rfl 3 (by decide) (hw _ m_427) (fun _ h9 => h9) rfl d_Mod_prepare_72 ?_
  refine lv_sipush (v := 128) hx hb d_Mod_prepare_75 (by decide) ?_
  refine lv_icmp_lt (tgt := 171) hx hb d_Mod_prepare_78 (by decide) (fun hc => ?_) (fun hc => ?_)
  · have hf := bq_t hf hc
    refine lv_sipush (v := 256) hx hb d_Mod_prepare_171 (by decide) ?_
    refine lv_aload_n hx hb d_Mod_prepare_174 rfl (lv_at hl 1 rfl) ?_
    refine va_get (D := D) (ci := 7) (v := .int (u8 0 3)) (C := R_Mod) (T := F_Mod) (N := 28) hx hb hw in_Mod hown hK hP 0 rfl rfl 3 (by decide) (hw _ m_427) (fun _ h9 => h9) rfl d_Mod_prepare_175 ?_
    refine lv_iconst (v := 1) hx hb d_Mod_prepare_178 (by decide) ?_
    refine lv_iadd hx hb d_Mod_prepare_179 ?_
    obtain ⟨h9, hf⟩ := gd_o hf
    refine lv_idiv hx hb d_Mod_prepare_180 h9 ?_
    refine lv_topi (fun x10 e_x10 => ?_)
    have hf := tk_e hf e_x10
    refine lv_istore_n (lv' := [(2, .int x10), (1, .int x6), (0, .ref q0)]) hx hb d_Mod_prepare_181 rfl hl (by decide) rfl (fun ls hl => ?_)
    refine lv_aload_n hx hb d_Mod_prepare_182 rfl (lv_at hl 2 rfl) ?_
    refine lv_aload_n hx hb d_Mod_prepare_183 rfl (lv_at hl 2 rfl) ?_
    refine lv_iconst (v := 2) hx hb d_Mod_prepare_184 (by decide) ?_
    refine lv_iconst (v := 3) hx hb d_Mod_prepare_185 (by decide) ?_
    refine lv_iload_n hx hb d_Mod_prepare_186 rfl (lv_at hl 0 rfl) ?_
    obtain ⟨h11, hf⟩ := gd_o hf
    refine lv_idiv hx hb d_Mod_prepare_187 h11 ?_
    refine lv_iconst (v := 3) hx hb d_Mod_prepare_188 (by decide) ?_
    refine lv_aload_n hx hb d_Mod_prepare_189 rfl (lv_at hl 2 rfl) ?_
    refine va_get (D := D) (ci := 7) (v := .int (u8 0 4)) (C := R_Mod) (T := F_Mod) (N := 28) hx hb hw in_Mod hown hK hP 0 rfl rfl 4 (by decide) (hw _ m_428) (fun _ h9 => h9) rfl d_Mod_prepare_190 ?_
    refine lv_imul hx hb d_Mod_prepare_193 ?_
    refine lv_iadd hx hb d_Mod_prepare_194 ?_
    have hC : ([] : List Nat).map (fun i => (wMod cI q0 q1 q2 q3 q4 q5 q6 q7 u8)[i]?) = ([] : va_W).map some := rfl
    obtain ⟨x12, hc, hf⟩ := bd_o hf
    refine ro_i (va_runS (As := [.int 2, .int ((3 / x10) + (3 * (u8 0 4)))]) (rest := [.ref q0, .ref q0]) ⟨hx, hb, hml, hown, hw⟩ (c_Mod_greater l D cI 2 ((3 / x10) + (3 * (u8 0 4))) x12 hc) (va_cwS 2 hw g_65 rfl rfl rfl (by decide +kernel) ⟨Nat.le_of_ble_eq_true rfl, Nat.le_of_ble_eq_true rfl⟩) (pre_S (P_sub hC hP) hK) rfl rfl hl.1 rfl (lv_room (Nat.le_of_ble_eq_true rfl)) d_Mod_prepare_195 ⟨Nat.le_of_ble_eq_true rfl, Nat.le_of_ble_eq_true rfl⟩) hS hP (fun H locs hP hS => ?_)
    refine lv_aload_n hx hb d_Mod_prepare_198 rfl (lv_at hl 2 rfl) ?_
    refine va_get (D := D) (ci := 7) (v := .int (u8 0 4)) (C := R_Mod) (T := F_Mod) (N := 28) hx hb hw in_Mod hown hK hP 0 rfl rfl 4 (by decide) (hw _ m_428) (fun _ h9 => h9) rfl d_Mod_prepare_199 ?_
    refine lv_iconst (v := 1) hx hb d_Mod_prepare_202 (by decide) ?_
    refine lv_iadd hx hb d_Mod_prepare_203 ?_
    have hC : [0, 1, 2, 3, 4, 5, 6, 7].map (fun i => (wMod cI q0 q1 q2 q3 q4 q5 q6 q7 u8)[i]?) = (wMod cI q0 q1 q2 q3 q4 q5 q6 q7 u8).map some := rfl
    obtain ⟨x13, hc, hf⟩ := bd_o hf
    refine ro_i (va_runV (As := [.int x12, .int ((u8 0 4) + 1)]) (rest := [.ref q0]) ⟨hx, hb, hml, hown, hw⟩ (c_Mod_clamp l D cI q0 q1 q2 q3 q4 q5 q6 q7 x12 ((u8 0 4) + 1) u8 x13 hc) (cwV 2 hw g_66 rfl rfl rfl (by decide +kernel) ⟨Nat.le_of_ble_eq_true rfl, Nat.le_of_ble_eq_true rfl⟩) (pre_V (P_sub hC hP) hK rfl rfl) rfl rfl hl.1 rfl (lv_room (Nat.le_of_ble_eq_true rfl)) d_Mod_prepare_204 ⟨Nat.le_of_ble_eq_true rfl, Nat.le_of_ble_eq_true rfl⟩) hS hP (fun H locs hP hS => ?_)
    refine va_put (D := D) (ci := 7) (v := .int x13) (ty := .int) (C := R_Mod) (T := F_Mod) (N := 28) hx hb hw in_Mod t_Mod t_Mod_ok n_Mod hown hK hP (hD _) hS 0 rfl rfl 9 (by decide) (hw _ m_444) (fun _ h9 => h9) rfl (by decide +kernel) rfl rfl (Nat.le_of_ble_eq_true rfl) d_Mod_prepare_207 (fun H locs hP _ hS => ?_)
    obtain ⟨u14, e_u14, hf⟩ := tk_o hf
    have hP : va_P D cls (wMod cI q0 q1 q2 q3 q4 q5 q6 q7 u14) H := by rw [e_u14]; exact hP
    refine lv_aload_n hx hb d_Mod_prepare_210 rfl (lv_at hl 2 rfl) ?_
    refine lv_aload_n hx hb d_Mod_prepare_211 rfl (lv_at hl 2 rfl) ?_
    refine lv_iconst (v := 3) hx hb d_Mod_prepare_212 (by decide) ?_
    refine lv_bipush (v := 7) hx hb d_Mod_prepare_213 (by decide) ?_
    refine lv_iload_n hx hb d_Mod_prepare_215 rfl (lv_at hl 0 rfl) ?_
    obtain ⟨h15, hf⟩ := gd_o hf
    refine lv_idiv hx hb d_Mod_prepare_216 h15 ?_
    refine lv_iconst (v := 5) hx hb d_Mod_prepare_217 (by decide) ?_
    refine lv_aload_n hx hb d_Mod_prepare_218 rfl (lv_at hl 2 rfl) ?_
    refine va_get (D := D) (ci := 7) (v := .int (u14 0 4)) (C := R_Mod) (T := F_Mod) (N := 28) hx hb hw in_Mod hown hK hP 0 rfl rfl 4 (by decide) (hw _ m_428) (fun _ h9 => h9) rfl d_Mod_prepare_219 ?_
    refine lv_imul hx hb d_Mod_prepare_222 ?_
    refine lv_iadd hx hb d_Mod_prepare_223 ?_
    have hC : ([] : List Nat).map (fun i => (wMod cI q0 q1 q2 q3 q4 q5 q6 q7 u14)[i]?) = ([] : va_W).map some := rfl
    obtain ⟨x16, hc, hf⟩ := bd_o hf
    refine ro_i (va_runS (As := [.int 3, .int ((7 / x10) + (5 * (u14 0 4)))]) (rest := [.ref q0, .ref q0]) ⟨hx, hb, hml, hown, hw⟩ (c_Mod_greater l D cI 3 ((7 / x10) + (5 * (u14 0 4))) x16 hc) (va_cwS 2 hw g_65 rfl rfl rfl (by decide +kernel) ⟨Nat.le_of_ble_eq_true rfl, Nat.le_of_ble_eq_true rfl⟩) (pre_S (P_sub hC hP) hK) rfl rfl hl.1 rfl (lv_room (Nat.le_of_ble_eq_true rfl)) d_Mod_prepare_224 ⟨Nat.le_of_ble_eq_true rfl, Nat.le_of_ble_eq_true rfl⟩) hS hP (fun H locs hP hS => ?_)
    refine lv_aload_n hx hb d_Mod_prepare_227 rfl (lv_at hl 2 rfl) ?_
    refine va_get (D := D) (ci := 7) (v := .int (u14 0 9)) (C := R_Mod) (T := F_Mod) (N := 28) hx hb hw in_Mod hown hK hP 0 rfl rfl 9 (by decide) (hw _ m_444) (fun _ h9 => h9) rfl d_Mod_prepare_228 ?_
    have hC : [0, 1, 2, 3, 4, 5, 6, 7].map (fun i => (wMod cI q0 q1 q2 q3 q4 q5 q6 q7 u14)[i]?) = (wMod cI q0 q1 q2 q3 q4 q5 q6 q7 u14).map some := rfl
    obtain ⟨x17, hc, hf⟩ := bd_o hf
    refine ro_i (va_runV (As := [.int x16, .int (u14 0 9)]) (rest := [.ref q0]) ⟨hx, hb, hml, hown, hw⟩ (c_Mod_clamp l D cI q0 q1 q2 q3 q4 q5 q6 q7 x16 (u14 0 9) u14 x17 hc) (cwV 2 hw g_66 rfl rfl rfl (by decide +kernel) ⟨Nat.le_of_ble_eq_true rfl, Nat.le_of_ble_eq_true rfl⟩) (pre_V (P_sub hC hP) hK rfl rfl) rfl rfl hl.1 rfl (lv_room (Nat.le_of_ble_eq_true rfl)) d_Mod_prepare_231 ⟨Nat.le_of_ble_eq_true rfl, Nat.le_of_ble_eq_true rfl⟩) hS hP (fun H locs hP hS => ?_)
    refine va_put (D := D) (ci := 7) (v := .int x17) (ty := .int) (C := R_Mod) (T := F_Mod) (N := 28) hx hb hw in_Mod t_Mod t_Mod_ok n_Mod hown hK hP (hD _) hS 0 rfl rfl 10 (by decide) (hw _ m_445) (fun _ h9 => h9) rfl (by decide +kernel) rfl rfl (Nat.le_of_ble_eq_true rfl) d_Mod_prepare_234 (fun H locs hP _ hS => ?_)
    obtain ⟨u18, e_u18, hf⟩ := tk_o hf
    have hP : va_P D cls (wMod cI q0 q1 q2 q3 q4 q5 q6 q7 u18) H := by rw [e_u18]; exact hP
    refine lv_aload_n hx hb d_Mod_prepare_237 rfl (lv_at hl 2 rfl) ?_
    refine lv_aload_n hx hb d_Mod_prepare_238 rfl (lv_at hl 2 rfl) ?_
    refine lv_iconst (v := 4) hx hb d_Mod_prepare_239 (by decide) ?_
    refine lv_bipush (v := 21) hx hb d_Mod_prepare_240 (by decide) ?_
    refine lv_iload_n hx hb d_Mod_prepare_242 rfl (lv_at hl 0 rfl) ?_
    obtain ⟨h19, hf⟩ := gd_o hf
    refine lv_idiv hx hb d_Mod_prepare_243 h19 ?_
    refine lv_bipush (v := 7) hx hb d_Mod_prepare_244 (by decide) ?_
    refine lv_aload_n hx hb d_Mod_prepare_246 rfl (lv_at hl 2 rfl) ?_
    refine va_get (D := D) (ci := 7) (v := .int (u18 0 4)) (C := R_Mod) (T := F_Mod) (N := 28) hx hb hw in_Mod hown hK hP 0 rfl rfl 4 (by decide) (hw _ m_428) (fun _ h9 => h9) rfl d_Mod_prepare_247 ?_
    refine lv_imul hx hb d_Mod_prepare_250 ?_
    refine lv_iadd hx hb d_Mod_prepare_251 ?_
    have hC : ([] : List Nat).map (fun i => (wMod cI q0 q1 q2 q3 q4 q5 q6 q7 u18)[i]?) = ([] : va_W).map some := rfl
    obtain ⟨x20, hc, hf⟩ := bd_o hf
    refine ro_i (va_runS (As := [.int 4, .int ((21 / x10) + (7 * (u18 0 4)))]) (rest := [.ref q0, .ref q0]) ⟨hx, hb, hml, hown, hw⟩ (c_Mod_greater l D cI 4 ((21 / x10) + (7 * (u18 0 4))) x20 hc) (va_cwS 2 hw g_65 rfl rfl rfl (by decide +kernel) ⟨Nat.le_of_ble_eq_true rfl, Nat.le_of_ble_eq_true rfl⟩) (pre_S (P_sub hC hP) hK) rfl rfl hl.1 rfl (lv_room (Nat.le_of_ble_eq_true rfl)) d_Mod_prepare_252 ⟨Nat.le_of_ble_eq_true rfl, Nat.le_of_ble_eq_true rfl⟩) hS hP (fun H locs hP hS => ?_)
    refine lv_aload_n hx hb d_Mod_prepare_255 rfl (lv_at hl 2 rfl) ?_
    refine va_get (D := D) (ci := 7) (v := .int (u18 0 10)) (C := R_Mod) (T := F_Mod) (N := 28) hx hb hw in_Mod hown hK hP 0 rfl rfl 10 (by decide) (hw _ m_445) (fun _ h9 => h9) rfl d_Mod_prepare_256 ?_
    have hC : [0, 1, 2, 3, 4, 5, 6, 7].map (fun i => (wMod cI q0 q1 q2 q3 q4 q5 q6 q7 u18)[i]?) = (wMod cI q0 q1 q2 q3 q4 q5 q6 q7 u18).map some := rfl
    obtain ⟨x21, hc, hf⟩ := bd_o hf
    refine ro_i (va_runV (As := [.int x20, .int (u18 0 10)]) (rest := [.ref q0]) ⟨hx, hb, hml, hown, hw⟩ (c_Mod_clamp l D cI q0 q1 q2 q3 q4 q5 q6 q7 x20 (u18 0 10) u18 x21 hc) (cwV 2 hw g_66 rfl rfl rfl (by decide +kernel) ⟨Nat.le_of_ble_eq_true rfl, Nat.le_of_ble_eq_true rfl⟩) (pre_V (P_sub hC hP) hK rfl rfl) rfl rfl hl.1 rfl (lv_room (Nat.le_of_ble_eq_true rfl)) d_Mod_prepare_259 ⟨Nat.le_of_ble_eq_true rfl, Nat.le_of_ble_eq_true rfl⟩) hS hP (fun H locs hP hS => ?_)
    refine va_put (D := D) (ci := 7) (v := .int x21) (ty := .int) (C := R_Mod) (T := F_Mod) (N := 28) hx hb hw in_Mod t_Mod t_Mod_ok n_Mod hown hK hP (hD _) hS 0 rfl rfl 11 (by decide) (hw _ m_446) (fun _ h9 => h9) rfl (by decide +kernel) rfl rfl (Nat.le_of_ble_eq_true rfl) d_Mod_prepare_262 (fun H locs hP _ hS => ?_)
    obtain ⟨u22, e_u22, hf⟩ := tk_o hf
    have hP : va_P D cls (wMod cI q0 q1 q2 q3 q4 q5 q6 q7 u22) H := by rw [e_u22]; exact hP
    exact rt_v (wMod cI q0 q1 q2 q3 q4 q5 q6 q7) hx hb hr hlocks hS hP hf d_Mod_prepare_265
  have hf := bq_n hf hc
  refine lv_aload_n hx hb d_Mod_prepare_81 rfl (lv_at hl 1 rfl) ?_
  refine va_get (D := D) (ci := 7) (v := .int (u8 0 3)) (C := R_Mod) (T := F_Mod) (N := 28) hx hb hw in_Mod hown hK hP 0 rfl rfl 3 (by decide) (hw _ m_427) (fun _ h9 => h9) rfl d_Mod_prepare_82 ?_
  refine lv_sipush (v := 128) hx hb d_Mod_prepare_85 (by decide) ?_
  refine lv_iadd hx hb d_Mod_prepare_88 ?_
  refine lv_sipush (v := 256) hx hb d_Mod_prepare_89 (by decide) ?_
  refine lv_idiv hx hb d_Mod_prepare_92 (by decide) ?_
  refine lv_topi (fun x23 e_x23 => ?_)
  have hf := tk_e hf e_x23
  refine lv_istore_n (lv' := [(2, .int x23), (1, .int x6), (0, .ref q0)]) hx hb d_Mod_prepare_93 rfl hl (by decide) rfl (fun ls hl => ?_)
  refine lv_aload_n hx hb d_Mod_prepare_94 rfl (lv_at hl 2 rfl) ?_
  refine lv_aload_n hx hb d_Mod_prepare_95 rfl (lv_at hl 2 rfl) ?_
  refine lv_iload_n hx hb d_Mod_prepare_96 rfl (lv_at hl 0 rfl) ?_
  refine lv_iconst (v := 2) hx hb d_Mod_prepare_97 (by decide) ?_
  refine lv_iadd hx hb d_Mod_prepare_98 ?_
  refine lv_iconst (v := 3) hx hb d_Mod_prepare_99 (by decide) ?_
  refine lv_aload_n hx hb d_Mod_prepare_100 rfl (lv_at hl 2 rfl) ?_
  refine va_get (D := D) (ci := 7) (v := .int (u8 0 4)) (C := R_Mod) (T := F_Mod) (N := 28) hx hb hw in_Mod hown hK hP 0 rfl rfl 4 (by decide) (hw _ m_428) (fun _ h9 => h9) rfl d_Mod_prepare_101 ?_
  refine lv_imul hx hb d_Mod_prepare_104 ?_
  refine lv_iadd hx hb d_Mod_prepare_105 ?_
  refine lv_aload_n hx hb d_Mod_prepare_106 rfl (lv_at hl 2 rfl) ?_
  refine va_get (D := D) (ci := 7) (v := .int (u8 0 4)) (C := R_Mod) (T := F_Mod) (N := 28) hx hb hw in_Mod hown hK hP 0 rfl rfl 4 (by decide) (hw _ m_428) (fun _ h9 => h9) rfl d_Mod_prepare_107 ?_
  refine lv_iconst (v := 1) hx hb d_Mod_prepare_110 (by decide) ?_
  refine lv_iadd hx hb d_Mod_prepare_111 ?_
  have hC : [0, 1, 2, 3, 4, 5, 6, 7].map (fun i => (wMod cI q0 q1 q2 q3 q4 q5 q6 q7 u8)[i]?) = (wMod cI q0 q1 q2 q3 q4 q5 q6 q7 u8).map some := rfl
  obtain ⟨x24, hc, hf⟩ := bd_o hf
  refine ro_i (va_runV (As := [.int ((x23 + 2) + (3 * (u8 0 4))), .int ((u8 0 4) + 1)]) (rest := [.ref q0]) ⟨hx, hb, hml, hown, hw⟩ (c_Mod_clamp l D cI q0 q1 q2 q3 q4 q5 q6 q7 ((x23 + 2) + (3 * (u8 0 4))) ((u8 0 4) + 1) u8 x24 hc) (cwV 2 hw g_66 rfl rfl rfl (by decide +kernel) ⟨Nat.le_of_ble_eq_true rfl, Nat.le_of_ble_eq_true rfl⟩) (pre_V (P_sub hC hP) hK rfl rfl) rfl rfl hl.1 rfl (lv_room (Nat.le_of_ble_eq_true rfl)) d_Mod_prepare_112 ⟨Nat.le_of_ble_eq_true rfl, Nat.le_of_ble_eq_true rfl⟩) hS hP (fun H locs hP hS => ?_)
  refine va_put (D := D) (ci := 7) (v := .int x24) (ty := .int) (C := R_Mod) (T := F_Mod) (N := 28) hx hb hw in_Mod t_Mod t_Mod_ok n_Mod hown hK hP (hD _) hS 0 rfl rfl 9 (by decide) (hw _ m_444) (fun _ h9 => h9) rfl (by decide +kernel) rfl rfl (Nat.le_of_ble_eq_true rfl) d_Mod_prepare_115 (fun H locs hP _ hS => ?_)
  obtain ⟨u25, e_u25, hf⟩ := tk_o hf
  have hP : va_P D cls (wMod cI q0 q1 q2 q3 q4 q5 q6 q7 u25) H := by rw [e_u25]; exact hP
  refine lv_aload_n hx hb d_Mod_prepare_118 rfl (lv_at hl 2 rfl) ?_
  refine lv_aload_n hx hb d_Mod_prepare_119 rfl (lv_at hl 2 rfl) ?_
  refine lv_iconst (v := 4) hx hb d_Mod_prepare_120 (by decide) ?_
  refine lv_iload_n hx hb d_Mod_prepare_121 rfl (lv_at hl 0 rfl) ?_
  refine lv_imul hx hb d_Mod_prepare_122 ?_
  refine lv_iconst (v := 3) hx hb d_Mod_prepare_123 (by decide) ?_
  refine lv_iadd hx hb d_Mod_prepare_124 ?_
  refine lv_iconst (v := 5) hx hb d_Mod_prepare_125 (by decide) ?_
  refine lv_aload_n hx hb d_Mod_prepare_126 rfl (lv_at hl 2 rfl) ?_
  refine va_get (D := D) (ci := 7) (v := .int (u25 0 4)) (C := R_Mod) (T := F_Mod) (N := 28) hx hb hw in_Mod hown hK hP 0 rfl rfl 4 (by decide) (hw _ m_428) (fun _ h9 => h9) rfl d_Mod_prepare_127 ?_
  refine lv_imul hx hb d_Mod_prepare_130 ?_
  refine lv_iadd hx hb d_Mod_prepare_131 ?_
  refine lv_aload_n hx hb d_Mod_prepare_132 rfl (lv_at hl 2 rfl) ?_
  refine va_get (D := D) (ci := 7) (v := .int (u25 0 9)) (C := R_Mod) (T := F_Mod) (N := 28) hx hb hw in_Mod hown hK hP 0 rfl rfl 9 (by decide) (hw _ m_444) (fun _ h9 => h9) rfl d_Mod_prepare_133 ?_
  have hC : [0, 1, 2, 3, 4, 5, 6, 7].map (fun i => (wMod cI q0 q1 q2 q3 q4 q5 q6 q7 u25)[i]?) = (wMod cI q0 q1 q2 q3 q4 q5 q6 q7 u25).map some := rfl
  obtain ⟨x26, hc, hf⟩ := bd_o hf
  refine ro_i (va_runV (As := [.int (((4 * x23) + 3) + (5 * (u25 0 4))), .int (u25 0 9)]) (rest := [.ref q0]) ⟨hx, hb, hml, hown, hw⟩ (c_Mod_clamp l D cI q0 q1 q2 q3 q4 q5 q6 q7 (((4 * x23) + 3) + (5 * (u25 0 4))) (u25 0 9) u25 x26 hc) (cwV 2 hw g_66 rfl rfl rfl (by decide +kernel) ⟨Nat.le_of_ble_eq_true rfl, Nat.le_of_ble_eq_true rfl⟩) (pre_V (P_sub hC hP) hK rfl rfl) rfl rfl hl.1 rfl (lv_room (Nat.le_of_ble_eq_true rfl)) d_Mod_prepare_136 ⟨Nat.le_of_ble_eq_true rfl, Nat.le_of_ble_eq_true rfl⟩) hS hP (fun H locs hP hS => ?_)
  refine va_put (D := D) (ci := 7) (v := .int x26) (ty := .int) (C := R_Mod) (T := F_Mod) (N := 28) hx hb hw in_Mod t_Mod t_Mod_ok n_Mod hown hK hP (hD _) hS 0 rfl rfl 10 (by decide) (hw _ m_445) (fun _ h9 => h9) rfl (by decide +kernel) rfl rfl (Nat.le_of_ble_eq_true rfl) d_Mod_prepare_139 (fun H locs hP _ hS => ?_)
  obtain ⟨u27, e_u27, hf⟩ := tk_o hf
  have hP : va_P D cls (wMod cI q0 q1 q2 q3 q4 q5 q6 q7 u27) H := by rw [e_u27]; exact hP
  refine lv_aload_n hx hb d_Mod_prepare_142 rfl (lv_at hl 2 rfl) ?_
  refine lv_aload_n hx hb d_Mod_prepare_143 rfl (lv_at hl 2 rfl) ?_
  refine lv_bipush (v := 17) hx hb d_Mod_prepare_144 (by decide) ?_
  refine lv_iload_n hx hb d_Mod_prepare_146 rfl (lv_at hl 0 rfl) ?_
  refine lv_imul hx hb d_Mod_prepare_147 ?_
  refine lv_iconst (v := 4) hx hb d_Mod_prepare_148 (by decide) ?_
  refine lv_iadd hx hb d_Mod_prepare_149 ?_
  refine lv_bipush (v := 7) hx hb d_Mod_prepare_150 (by decide) ?_
  refine lv_aload_n hx hb d_Mod_prepare_152 rfl (lv_at hl 2 rfl) ?_
  refine va_get (D := D) (ci := 7) (v := .int (u27 0 4)) (C := R_Mod) (T := F_Mod) (N := 28) hx hb hw in_Mod hown hK hP 0 rfl rfl 4 (by decide) (hw _ m_428) (fun _ h9 => h9) rfl d_Mod_prepare_153 ?_
  refine lv_imul hx hb d_Mod_prepare_156 ?_
  refine lv_iadd hx hb d_Mod_prepare_157 ?_
  refine lv_aload_n hx hb d_Mod_prepare_158 rfl (lv_at hl 2 rfl) ?_
  refine va_get (D := D) (ci := 7) (v := .int (u27 0 10)) (C := R_Mod) (T := F_Mod) (N := 28) hx hb hw in_Mod hown hK hP 0 rfl rfl 10 (by decide) (hw _ m_445) (fun _ h9 => h9) rfl d_Mod_prepare_159 ?_
  have hC : [0, 1, 2, 3, 4, 5, 6, 7].map (fun i => (wMod cI q0 q1 q2 q3 q4 q5 q6 q7 u27)[i]?) = (wMod cI q0 q1 q2 q3 q4 q5 q6 q7 u27).map some := rfl
  obtain ⟨x28, hc, hf⟩ := bd_o hf
  refine ro_i (va_runV (As := [.int (((17 * x23) + 4) + (7 * (u27 0 4))), .int (u27 0 10)]) (rest := [.ref q0]) ⟨hx, hb, hml, hown, hw⟩ (c_Mod_clamp l D cI q0 q1 q2 q3 q4 q5 q6 q7 (((17 * x23) + 4) + (7 * (u27 0 4))) (u27 0 10) u27 x28 hc) (cwV 2 hw g_66 rfl rfl rfl (by decide +kernel) ⟨Nat.le_of_ble_eq_true rfl, Nat.le_of_ble_eq_true rfl⟩) (pre_V (P_sub hC hP) hK rfl rfl) rfl rfl hl.1 rfl (lv_room (Nat.le_of_ble_eq_true rfl)) d_Mod_prepare_162 ⟨Nat.le_of_ble_eq_true rfl, Nat.le_of_ble_eq_true rfl⟩) hS hP (fun H locs hP hS => ?_)
  refine va_put (D := D) (ci := 7) (v := .int x28) (ty := .int) (C := R_Mod) (T := F_Mod) (N := 28) hx hb hw in_Mod t_Mod t_Mod_ok n_Mod hown hK hP (hD _) hS 0 rfl rfl 11 (by decide) (hw _ m_446) (fun _ h9 => h9) rfl (by decide +kernel) rfl rfl (Nat.le_of_ble_eq_true rfl) d_Mod_prepare_165 (fun H locs hP _ hS => ?_)
  obtain ⟨u29, e_u29, hf⟩ := tk_o hf
  have hP : va_P D cls (wMod cI q0 q1 q2 q3 q4 q5 q6 q7 u29) H := by rw [e_u29]; exact hP
  refine lv_goto (tgt := 265) hx hb d_Mod_prepare_168 (by decide) ?_
  exact rt_v (wMod cI q0 q1 q2 q3 q4 q5 q6 q7) hx hb hr hlocks hS hP hf d_Mod_prepare_265
def L_Mod_forget_88 : Nat → Int32 → gU → Option (gU)
  | 0, _, _ => none
  | n + 1, l1, u => bq (64 ≤ l1) (some u) (gd (ix l1 64) (tk (st2 u 2 (tc l1) 0) fun u2 => tk (l1 + 1) fun x3 => (L_Mod_forget_88 n) x3 u2))
theorem L_Mod_forget_88_z (l1 : Int32) (u : gU) : L_Mod_forget_88 0 l1 u = none := rfl
theorem L_Mod_forget_88_s (n : Nat) (l1 : Int32) (u : gU) : L_Mod_forget_88 (n + 1) l1 u = bq (64 ≤ l1) (some u) (gd (ix l1 64) (tk (st2 u 2 (tc l1) 0) fun u2 => tk (l1 + 1) fun x3 => (L_Mod_forget_88 n) x3 u2)) := rfl
def L_Mod_forget_2 : Nat → Int32 → gU → Option (gU)
  | 0, _, _ => none
  | n + 1, l1, u => bq (367 ≤ l1) (tk (st2 u 0 12 0) fun u1 => L_Mod_forget_88 2000 0 u1) (bd (f_Mod_greater 2 (((u 0 6) + 32) / 64)) fun x2 => gd (ix (5 * l1) 1835) (tk (st2 u 3 (tc (5 * l1)) x2) fun u4 => gd (ix ((5 * l1) + 1) 1835) (tk (st2 u4 3 (tc ((5 * l1) + 1)) 0) fun u6 => gd (ix ((5 * l1) + 2) 1835) (tk (st2 u6 3 (tc ((5 * l1) + 2)) 0) fun u8 => gd (ix ((5 * l1) + 3) 1835) (tk (st2 u8 3 (tc ((5 * l1) + 3)) 1) fun u10 => gd (ix ((5 * l1) + 4) 1835) (tk (st2 u10 3 (tc ((5 * l1) + 4)) 0) fun u12 => tk (l1 + 1) fun x13 => (L_Mod_forget_2 n) x13 u12))))))
theorem L_Mod_forget_2_z (l1 : Int32) (u : gU) : L_Mod_forget_2 0 l1 u = none := rfl
theorem L_Mod_forget_2_s (n : Nat) (l1 : Int32) (u : gU) : L_Mod_forget_2 (n + 1) l1 u = bq (367 ≤ l1) (tk (st2 u 0 12 0) fun u1 => L_Mod_forget_88 2000 0 u1) (bd (f_Mod_greater 2 (((u 0 6) + 32) / 64)) fun x2 => gd (ix (5 * l1) 1835) (tk (st2 u 3 (tc (5 * l1)) x2) fun u4 => gd (ix ((5 * l1) + 1) 1835) (tk (st2 u4 3 (tc ((5 * l1) + 1)) 0) fun u6 => gd (ix ((5 * l1) + 2) 1835) (tk (st2 u6 3 (tc ((5 * l1) + 2)) 0) fun u8 => gd (ix ((5 * l1) + 3) 1835) (tk (st2 u8 3 (tc ((5 * l1) + 3)) 1) fun u10 => gd (ix ((5 * l1) + 4) 1835) (tk (st2 u10 3 (tc ((5 * l1) + 4)) 0) fun u12 => tk (l1 + 1) fun x13 => (L_Mod_forget_2 n) x13 u12)))))) := rfl
def f_Mod_forget (u : gU) : Option (gU) := L_Mod_forget_2 2000 0 u
set_option maxHeartbeats 4000000 in
set_option maxRecDepth 100000 in
theorem c_Mod_forget (l : Launch) (D : va_G) (cI : ClassId) (q0 : Nat) (q1 : Nat) (q2 : Nat) (q3 : Nat) (q4 : Nat) (q5 : Nat) (q6 : Nat) (q7 : Nat) (hd : dj [q0, q1, q2, q3, q4, q5, q6, q7]) (u : gU) (v : gU) (hf : f_Mod_forget u = some v) : Met l y_Mod_forget (.code y_Mod_forget b_Mod_forget 2 none :: TS) ({ frames := 1, cells := 0, slots := 0, locals := 21 }) (va_Pc [.ref q0] (fun U => va_P D cls (wMod cI q0 q1 q2 q3 q4 q5 q6 q7 u) U.heap ∧ va_K D cls [(cI, .int)] U)) (va_Qv (fun (_ : Unit) => True) (fun _ t => va_P D cls (wMod cI q0 q1 q2 q3 q4 q5 q6 q7 v) t.heap) (ad [q0, q1, q2, q3, q4, q5, q6, q7])) 0 0 (ad [q0, q1, q2, q3, q4, q5, q6, q7]) := by
  refine ct_of (by decide +kernel) (Nat.le_of_ble_eq_true rfl) ?_
  intro p e s m below meth c ls hx hb hml hr hlocks hown hw hP hK hl
  have hS : va_S (ad [q0, q1, q2, q3, q4, q5, q6, q7]) s.heap s.heap [] := va_S.rf
  have hD : ∀ v, va_D (ad [q0, q1, q2, q3, q4, q5, q6, q7]) (wMod cI q0 q1 q2 q3 q4 q5 q6 q7 v) := fun _ => dj_D rfl hd
  have hl : lv_has ls 2 [(0, .ref q0)] := hl
  have hP : va_P D cls (wMod cI q0 q1 q2 q3 q4 q5 q6 q7 u) s.heap := hP
  have lp88 : ∀ (n88 : Nat), ∀ (ls : Array Slot) (H : Heap) (locs : List Loc) (l1 : Int32) (u : gU), lv_has ls 2 [(0, .ref q0), (1, .int l1)] → va_P D cls (wMod cI q0 q1 q2 q3 q4 q5 q6 q7 u) H → va_S (ad [q0, q1, q2, q3, q4, q5, q6, q7]) s.heap H locs → L_Mod_forget_88 n88 l1 u = some v → W p l e ({ frames := 1, cells := 0, slots := 0, locals := 21 }) s m [.ref q0].toArray below meth c H locs 0 0 (MQ below (va_Qv (fun (_ : Unit) => True) (fun _ t => va_P D cls (wMod cI q0 q1 q2 q3 q4 q5 q6 q7 v) t.heap) (ad [q0, q1, q2, q3, q4, q5, q6, q7])) [.ref q0].toArray s 0 0 (ad [q0, q1, q2, q3, q4, q5, q6, q7])) (F0 m 88 ls []) := by
    intro n88
    induction n88 with
    | zero =>
      intro ls H locs l1 u hl hP hS hf
      rw [L_Mod_forget_88_z] at hf
      cases hf
    | succ n88 ih88 =>
      intro ls H locs l1 u hl hP hS hf
      rw [L_Mod_forget_88_s] at hf
      refine lv_iload_n hx hb d_Mod_forget_88 rfl (lv_at hl 1 rfl) ?_
      refine lv_bipush (v := 64) hx hb d_Mod_forget_89 (by decide) ?_
      refine lv_icmp_ge (tgt := 107) hx hb d_Mod_forget_91 (by decide) (fun hc => ?_) (fun hc => ?_)
      · have hf := bq_t hf hc
        exact rt_v (wMod cI q0 q1 q2 q3 q4 q5 q6 q7) hx hb hr hlocks hS hP hf d_Mod_forget_107
      have hf := bq_n hf hc
      refine lv_aload_n hx hb d_Mod_forget_94 rfl (lv_at hl 0 rfl) ?_
      refine va_get (D := D) (ci := 7) (v := .ref q2) (C := R_Mod) (T := F_Mod) (N := 28) hx hb hw in_Mod hown hK hP 0 rfl rfl 13 (by decide) (hw _ m_447) (fun _ h9 => h9) rfl d_Mod_forget_95 ?_
      refine lv_iload_n hx hb d_Mod_forget_98 rfl (lv_at hl 1 rfl) ?_
      refine lv_iconst (v := 0) hx hb d_Mod_forget_99 (by decide) ?_
      obtain ⟨h1, hf⟩ := gd_o hf
      refine va_iast hx hb hK hP (hD _) hS 2 0 rfl rfl (ix_in h1) d_Mod_forget_100 (fun H locs hP _ hS => ?_)
      obtain ⟨u2, e_u2, hf⟩ := tk_o hf
      have hP : va_P D cls (wMod cI q0 q1 q2 q3 q4 q5 q6 q7 u2) H := by rw [e_u2]; exact hP
      obtain ⟨x3, e_x3, hf⟩ := tk_o hf
      refine lv_iinc (v := x3) (lv' := [(1, .int x3), (0, .ref q0)]) hx hb d_Mod_forget_101 hl (k := 1) rfl e_x3.symm (by decide) rfl (fun ls hl => ?_)
      refine lv_goto (tgt := 88) hx hb d_Mod_forget_104 (by decide) ?_
      exact ih88 _ _ _ x3 u2 (lv_sub hl [1, 0] rfl) hP hS hf
  have lp2 : ∀ (n2 : Nat), ∀ (ls : Array Slot) (H : Heap) (locs : List Loc) (l1 : Int32) (u : gU), lv_has ls 2 [(0, .ref q0), (1, .int l1)] → va_P D cls (wMod cI q0 q1 q2 q3 q4 q5 q6 q7 u) H → va_S (ad [q0, q1, q2, q3, q4, q5, q6, q7]) s.heap H locs → L_Mod_forget_2 n2 l1 u = some v → W p l e ({ frames := 1, cells := 0, slots := 0, locals := 21 }) s m [.ref q0].toArray below meth c H locs 0 0 (MQ below (va_Qv (fun (_ : Unit) => True) (fun _ t => va_P D cls (wMod cI q0 q1 q2 q3 q4 q5 q6 q7 v) t.heap) (ad [q0, q1, q2, q3, q4, q5, q6, q7])) [.ref q0].toArray s 0 0 (ad [q0, q1, q2, q3, q4, q5, q6, q7])) (F0 m 2 ls []) := by
    intro n2
    induction n2 with
    | zero =>
      intro ls H locs l1 u hl hP hS hf
      rw [L_Mod_forget_2_z] at hf
      cases hf
    | succ n2 ih2 =>
      intro ls H locs l1 u hl hP hS hf
      rw [L_Mod_forget_2_s] at hf
      refine lv_iload_n hx hb d_Mod_forget_2 rfl (lv_at hl 1 rfl) ?_
      refine lv_sipush (v := 367) hx hb d_Mod_forget_3 (by decide) ?_
      refine lv_icmp_ge (tgt := 81) hx hb d_Mod_forget_6 (by decide) (fun hc => ?_) (fun hc => ?_)
      · have hf := bq_t hf hc
        refine lv_aload_n hx hb d_Mod_forget_81 rfl (lv_at hl 0 rfl) ?_
        refine lv_iconst (v := 0) hx hb d_Mod_forget_82 (by decide) ?_
        refine va_put (D := D) (ci := 7) (v := .int 0) (ty := .int) (C := R_Mod) (T := F_Mod) (N := 28) hx hb hw in_Mod t_Mod t_Mod_ok n_Mod hown hK hP (hD _) hS 0 rfl rfl 15 (by decide) (hw _ m_448) (fun _ h9 => h9) rfl (by decide +kernel) rfl rfl (Nat.le_of_ble_eq_true rfl) d_Mod_forget_83 (fun H locs hP _ hS => ?_)
        obtain ⟨u1, e_u1, hf⟩ := tk_o hf
        have hP : va_P D cls (wMod cI q0 q1 q2 q3 q4 q5 q6 q7 u1) H := by rw [e_u1]; exact hP
        refine lv_iconst (v := 0) hx hb d_Mod_forget_86 (by decide) ?_
        refine lv_istore_n (lv' := [(1, .int 0), (0, .ref q0)]) hx hb d_Mod_forget_87 rfl hl (by decide) rfl (fun ls hl => ?_)
        exact lp88 2000 _ _ _ 0 u1 (lv_sub hl [1, 0] rfl) hP hS hf
      have hf := bq_n hf hc
      refine lv_aload_n hx hb d_Mod_forget_9 rfl (lv_at hl 0 rfl) ?_
      refine va_get (D := D) (ci := 7) (v := .ref q3) (C := R_Mod) (T := F_Mod) (N := 28) hx hb hw in_Mod hown hK hP 0 rfl rfl 14 (by decide) (hw _ m_449) (fun _ h9 => h9) rfl d_Mod_forget_10 ?_
      refine lv_iconst (v := 5) hx hb d_Mod_forget_13 (by decide) ?_
      refine lv_iload_n hx hb d_Mod_forget_14 rfl (lv_at hl 1 rfl) ?_
      refine lv_imul hx hb d_Mod_forget_15 ?_
      refine lv_iconst (v := 2) hx hb d_Mod_forget_16 (by decide) ?_
      refine lv_aload_n hx hb d_Mod_forget_17 rfl (lv_at hl 0 rfl) ?_
      refine va_get (D := D) (ci := 7) (v := .int (u 0 6)) (C := R_Mod) (T := F_Mod) (N := 28) hx hb hw in_Mod hown hK hP 0 rfl rfl 6 (by decide) (hw _ m_430) (fun _ h9 => h9) rfl d_Mod_forget_18 ?_
      refine lv_bipush (v := 32) hx hb d_Mod_forget_21 (by decide) ?_
      refine lv_iadd hx hb d_Mod_forget_23 ?_
      refine lv_bipush (v := 64) hx hb d_Mod_forget_24 (by decide) ?_
      refine lv_idiv hx hb d_Mod_forget_26 (by decide) ?_
      have hC : ([] : List Nat).map (fun i => (wMod cI q0 q1 q2 q3 q4 q5 q6 q7 u)[i]?) = ([] : va_W).map some := rfl
      obtain ⟨x2, hc, hf⟩ := bd_o hf
      refine ro_i (va_runS (As := [.int 2, .int (((u 0 6) + 32) / 64)]) (rest := [.int (5 * l1), .ref q3]) ⟨hx, hb, hml, hown, hw⟩ (c_Mod_greater l D cI 2 (((u 0 6) + 32) / 64) x2 hc) (va_cwS 2 hw g_65 rfl rfl rfl (by decide +kernel) ⟨Nat.le_of_ble_eq_true rfl, Nat.le_of_ble_eq_true rfl⟩) (pre_S (P_sub hC hP) hK) rfl rfl hl.1 rfl (lv_room (Nat.le_of_ble_eq_true rfl)) d_Mod_forget_27 ⟨Nat.le_of_ble_eq_true rfl, Nat.le_of_ble_eq_true rfl⟩) hS hP (fun H locs hP hS => ?_)
      obtain ⟨h3, hf⟩ := gd_o hf
      refine va_iast hx hb hK hP (hD _) hS 3 0 rfl rfl (ix_in h3) d_Mod_forget_30 (fun H locs hP _ hS => ?_)
      obtain ⟨u4, e_u4, hf⟩ := tk_o hf
      have hP : va_P D cls (wMod cI q0 q1 q2 q3 q4 q5 q6 q7 u4) H := by rw [e_u4]; exact hP
      refine lv_aload_n hx hb d_Mod_forget_31 rfl (lv_at hl 0 rfl) ?_
      refine va_get (D := D) (ci := 7) (v := .ref q3) (C := R_Mod) (T := F_Mod) (N := 28) hx hb hw in_Mod hown hK hP 0 rfl rfl 14 (by decide) (hw _ m_449) (fun _ h9 => h9) rfl d_Mod_forget_32 ?_
      refine lv_iconst (v := 5) hx hb d_Mod_forget_35 (by decide) ?_
      refine lv_iload_n hx hb d_Mod_forget_36 rfl (lv_at hl 1 rfl) ?_
      refine lv_imul hx hb d_Mod_forget_37 ?_
      refine lv_iconst (v := 1) hx hb d_Mod_forget_38 (by decide) ?_
      refine lv_iadd hx hb d_Mod_forget_39 ?_
      refine lv_iconst (v := 0) hx hb d_Mod_forget_40 (by decide) ?_
      obtain ⟨h5, hf⟩ := gd_o hf
      refine va_iast hx hb hK hP (hD _) hS 3 0 rfl rfl (ix_in h5) d_Mod_forget_41 (fun H locs hP _ hS => ?_)
      obtain ⟨u6, e_u6, hf⟩ := tk_o hf
      have hP : va_P D cls (wMod cI q0 q1 q2 q3 q4 q5 q6 q7 u6) H := by rw [e_u6]; exact hP
      refine lv_aload_n hx hb d_Mod_forget_42 rfl (lv_at hl 0 rfl) ?_
      refine va_get (D := D) (ci := 7) (v := .ref q3) (C := R_Mod) (T := F_Mod) (N := 28) hx hb hw in_Mod hown hK hP 0 rfl rfl 14 (by decide) (hw _ m_449) (fun _ h9 => h9) rfl d_Mod_forget_43 ?_
      refine lv_iconst (v := 5) hx hb d_Mod_forget_46 (by decide) ?_
      refine lv_iload_n hx hb d_Mod_forget_47 rfl (lv_at hl 1 rfl) ?_
      refine lv_imul hx hb d_Mod_forget_48 ?_
      refine lv_iconst (v := 2) hx hb d_Mod_forget_49 (by decide) ?_
      refine lv_iadd hx hb d_Mod_forget_50 ?_
      refine lv_iconst (v := 0) hx hb d_Mod_forget_51 (by decide) ?_
      obtain ⟨h7, hf⟩ := gd_o hf
      refine va_iast hx hb hK hP (hD _) hS 3 0 rfl rfl (ix_in h7) d_Mod_forget_52 (fun H locs hP _ hS => ?_)
      obtain ⟨u8, e_u8, hf⟩ := tk_o hf
      have hP : va_P D cls (wMod cI q0 q1 q2 q3 q4 q5 q6 q7 u8) H := by rw [e_u8]; exact hP
      refine lv_aload_n hx hb d_Mod_forget_53 rfl (lv_at hl 0 rfl) ?_
      refine va_get (D := D) (ci := 7) (v := .ref q3) (C := R_Mod) (T := F_Mod) (N := 28) hx hb hw in_Mod hown hK hP 0 rfl rfl 14 (by decide) (hw _ m_449) (fun _ h9 => h9) rfl d_Mod_forget_54 ?_
      refine lv_iconst (v := 5) hx hb d_Mod_forget_57 (by decide) ?_
      refine lv_iload_n hx hb d_Mod_forget_58 rfl (lv_at hl 1 rfl) ?_
      refine lv_imul hx hb d_Mod_forget_59 ?_
      refine lv_iconst (v := 3) hx hb d_Mod_forget_60 (by decide) ?_
      refine lv_iadd hx hb d_Mod_forget_61 ?_
      refine lv_iconst (v := 1) hx hb d_Mod_forget_62 (by decide) ?_
      obtain ⟨h9, hf⟩ := gd_o hf
      refine va_iast hx hb hK hP (hD _) hS 3 0 rfl rfl (ix_in h9) d_Mod_forget_63 (fun H locs hP _ hS => ?_)
      obtain ⟨u10, e_u10, hf⟩ := tk_o hf
      have hP : va_P D cls (wMod cI q0 q1 q2 q3 q4 q5 q6 q7 u10) H := by rw [e_u10]; exact hP
      refine lv_aload_n hx hb d_Mod_forget_64 rfl (lv_at hl 0 rfl) ?_
      refine va_get (D := D) (ci := 7) (v := .ref q3) (C := R_Mod) (T := F_Mod) (N := 28) hx hb hw in_Mod hown hK hP 0 rfl rfl 14 (by decide) (hw _ m_449) (fun _ h9 => h9) rfl d_Mod_forget_65 ?_
      refine lv_iconst (v := 5) hx hb d_Mod_forget_68 (by decide) ?_
      refine lv_iload_n hx hb d_Mod_forget_69 rfl (lv_at hl 1 rfl) ?_
      refine lv_imul hx hb d_Mod_forget_70 ?_
      refine lv_iconst (v := 4) hx hb d_Mod_forget_71 (by decide) ?_
      refine lv_iadd hx hb d_Mod_forget_72 ?_
      refine lv_iconst (v := 0) hx hb d_Mod_forget_73 (by decide) ?_
      obtain ⟨h11, hf⟩ := gd_o hf
      refine va_iast hx hb hK hP (hD _) hS 3 0 rfl rfl (ix_in h11) d_Mod_forget_74 (fun H locs hP _ hS => ?_)
      obtain ⟨u12, e_u12, hf⟩ := tk_o hf
      have hP : va_P D cls (wMod cI q0 q1 q2 q3 q4 q5 q6 q7 u12) H := by rw [e_u12]; exact hP
      obtain ⟨x13, e_x13, hf⟩ := tk_o hf
      refine lv_iinc (v := x13) (lv' := [(1, .int x13), (0, .ref q0)]) hx hb d_Mod_forget_75 hl (k := 1) rfl e_x13.symm (by decide) rfl (fun ls hl => ?_)
      refine lv_goto (tgt := 2) hx hb d_Mod_forget_78 (by decide) ?_
      exact ih2 _ _ _ x13 u12 (lv_sub hl [1, 0] rfl) hP hS hf
  unfold f_Mod_forget at hf
  refine lv_iconst (v := 0) hx hb d_Mod_forget_0 (by decide) ?_
  refine lv_istore_n (lv' := [(1, .int 0), (0, .ref q0)]) hx hb d_Mod_forget_1 rfl hl (by decide) rfl (fun ls hl => ?_)
  exact lp2 2000 _ _ _ 0 u (lv_sub hl [1, 0] rfl) hP hS hf
def f_Mod_fits (a0 : Int32) (a1 : Int32) (a2 : Int32) (a3 : Int32) : Option (Int32) := bq (a0 < 1) (some 0) (bq (8 < a0) (some 0) (bq (a1 < 1) (some 0) (bq (8 < a1) (some 0) (bq (a2 < 3) (some 0) (bq (255 < a2) (some 0) (bq (a3 < 0) (some 0) (bq (3 < a3) (some 0) (bq ((a2 / 2) < a3) (some 0) (some 1)))))))))
set_option maxHeartbeats 4000000 in
set_option maxRecDepth 100000 in
theorem c_Mod_fits (l : Launch) (D : va_G) (cI : ClassId) (a0 : Int32) (a1 : Int32) (a2 : Int32) (a3 : Int32) (r : Int32) (hf : f_Mod_fits a0 a1 a2 a3 = some r) : Met l y_Mod_fits (.code y_Mod_fits b_Mod_fits 4 (some .boolean) :: TS) ({ frames := 0, cells := 0, slots := 0, locals := 0 }) (va_Pc [.int a0, .int a1, .int a2, .int a3] (fun U => va_P D cls (([] : va_W)) U.heap ∧ va_K D cls [(cI, .int)] U)) (va_Qi (fun x (_ : Unit) => x = r) (fun _ _ => True) (fun _ => False)) 0 0 (fun _ => False) := by
  refine ct_of (by decide +kernel) (Nat.le_of_ble_eq_true rfl) ?_
  intro p e s m below meth c ls hx hb hml hr hlocks hown hw hP hK hl
  have hS : va_S (fun _ => False) s.heap s.heap [] := va_S.rf
  have hl : lv_has ls 4 [(0, .int a0), (1, .int a1), (2, .int a2), (3, .int a3)] := hl
  have hP : va_P D cls (([] : va_W)) s.heap := hP
  unfold f_Mod_fits at hf
  refine lv_iload_n hx hb d_Mod_fits_0 rfl (lv_at hl 0 rfl) ?_
  refine lv_iconst (v := 1) hx hb d_Mod_fits_1 (by decide) ?_
  refine lv_icmp_lt (tgt := 54) hx hb d_Mod_fits_2 (by decide) (fun hc => ?_) (fun hc => ?_)
  · have hf := bq_t hf hc
    refine lv_iconst (v := 0) hx hb d_Mod_fits_54 (by decide) ?_
    exact rt_roz hx hb hr hlocks (Or.inl rfl) hS hf d_Mod_fits_55
  have hf := bq_n hf hc
  refine lv_iload_n hx hb d_Mod_fits_5 rfl (lv_at hl 0 rfl) ?_
  refine lv_bipush (v := 8) hx hb d_Mod_fits_6 (by decide) ?_
  refine lv_icmp_gt (tgt := 54) hx hb d_Mod_fits_8 (by decide) (fun hc => ?_) (fun hc => ?_)
  · have hf := bq_t hf hc
    refine lv_iconst (v := 0) hx hb d_Mod_fits_54 (by decide) ?_
    exact rt_roz hx hb hr hlocks (Or.inl rfl) hS hf d_Mod_fits_55
  have hf := bq_n hf hc
  refine lv_iload_n hx hb d_Mod_fits_11 rfl (lv_at hl 1 rfl) ?_
  refine lv_iconst (v := 1) hx hb d_Mod_fits_12 (by decide) ?_
  refine lv_icmp_lt (tgt := 54) hx hb d_Mod_fits_13 (by decide) (fun hc => ?_) (fun hc => ?_)
  · have hf := bq_t hf hc
    refine lv_iconst (v := 0) hx hb d_Mod_fits_54 (by decide) ?_
    exact rt_roz hx hb hr hlocks (Or.inl rfl) hS hf d_Mod_fits_55
  have hf := bq_n hf hc
  refine lv_iload_n hx hb d_Mod_fits_16 rfl (lv_at hl 1 rfl) ?_
  refine lv_bipush (v := 8) hx hb d_Mod_fits_17 (by decide) ?_
  refine lv_icmp_gt (tgt := 54) hx hb d_Mod_fits_19 (by decide) (fun hc => ?_) (fun hc => ?_)
  · have hf := bq_t hf hc
    refine lv_iconst (v := 0) hx hb d_Mod_fits_54 (by decide) ?_
    exact rt_roz hx hb hr hlocks (Or.inl rfl) hS hf d_Mod_fits_55
  have hf := bq_n hf hc
  refine lv_iload_n hx hb d_Mod_fits_22 rfl (lv_at hl 2 rfl) ?_
  refine lv_iconst (v := 3) hx hb d_Mod_fits_23 (by decide) ?_
  refine lv_icmp_lt (tgt := 54) hx hb d_Mod_fits_24 (by decide) (fun hc => ?_) (fun hc => ?_)
  · have hf := bq_t hf hc
    refine lv_iconst (v := 0) hx hb d_Mod_fits_54 (by decide) ?_
    exact rt_roz hx hb hr hlocks (Or.inl rfl) hS hf d_Mod_fits_55
  have hf := bq_n hf hc
  refine lv_iload_n hx hb d_Mod_fits_27 rfl (lv_at hl 2 rfl) ?_
  refine lv_sipush (v := 255) hx hb d_Mod_fits_28 (by decide) ?_
  refine lv_icmp_gt (tgt := 54) hx hb d_Mod_fits_31 (by decide) (fun hc => ?_) (fun hc => ?_)
  · have hf := bq_t hf hc
    refine lv_iconst (v := 0) hx hb d_Mod_fits_54 (by decide) ?_
    exact rt_roz hx hb hr hlocks (Or.inl rfl) hS hf d_Mod_fits_55
  have hf := bq_n hf hc
  refine lv_iload_n hx hb d_Mod_fits_34 rfl (lv_at hl 3 rfl) ?_
  refine lv_if_lt (tgt := 54) hx hb d_Mod_fits_35 (by decide) (fun hc => ?_) (fun hc => ?_)
  · have hf := bq_t hf hc
    refine lv_iconst (v := 0) hx hb d_Mod_fits_54 (by decide) ?_
    exact rt_roz hx hb hr hlocks (Or.inl rfl) hS hf d_Mod_fits_55
  have hf := bq_n hf hc
  refine lv_iload_n hx hb d_Mod_fits_38 rfl (lv_at hl 3 rfl) ?_
  refine lv_iconst (v := 3) hx hb d_Mod_fits_39 (by decide) ?_
  refine lv_icmp_gt (tgt := 54) hx hb d_Mod_fits_40 (by decide) (fun hc => ?_) (fun hc => ?_)
  · have hf := bq_t hf hc
    refine lv_iconst (v := 0) hx hb d_Mod_fits_54 (by decide) ?_
    exact rt_roz hx hb hr hlocks (Or.inl rfl) hS hf d_Mod_fits_55
  have hf := bq_n hf hc
  refine lv_iload_n hx hb d_Mod_fits_43 rfl (lv_at hl 3 rfl) ?_
  refine lv_iload_n hx hb d_Mod_fits_44 rfl (lv_at hl 2 rfl) ?_
  refine lv_iconst (v := 2) hx hb d_Mod_fits_45 (by decide) ?_
  refine lv_idiv hx hb d_Mod_fits_46 (by decide) ?_
  refine lv_icmp_gt (tgt := 54) hx hb d_Mod_fits_47 (by decide) (fun hc => ?_) (fun hc => ?_)
  · have hf := bq_t hf hc
    refine lv_iconst (v := 0) hx hb d_Mod_fits_54 (by decide) ?_
    exact rt_roz hx hb hr hlocks (Or.inl rfl) hS hf d_Mod_fits_55
  have hf := bq_n hf hc
  refine lv_iconst (v := 1) hx hb d_Mod_fits_50 (by decide) ?_
  refine lv_goto (tgt := 55) hx hb d_Mod_fits_51 (by decide) ?_
  exact rt_roz hx hb hr hlocks (Or.inr rfl) hS hf d_Mod_fits_55
def L_Mod_frame_50 : Nat → Int32 → gU → Option (Int32 × gU)
  | 0, _, _ => none
  | n + 1, l5, u => bq (64 ≤ l5) (tk (st2 u 0 13 0) fun u1 => some (1, u1)) (gd (ix l5 64) (tk (st2 u 1 (tc l5) 0) fun u3 => tk (l5 + 1) fun x4 => (L_Mod_frame_50 n) x4 u3))
theorem L_Mod_frame_50_z (l5 : Int32) (u : gU) : L_Mod_frame_50 0 l5 u = none := rfl
theorem L_Mod_frame_50_s (n : Nat) (l5 : Int32) (u : gU) : L_Mod_frame_50 (n + 1) l5 u = bq (64 ≤ l5) (tk (st2 u 0 13 0) fun u1 => some (1, u1)) (gd (ix l5 64) (tk (st2 u 1 (tc l5) 0) fun u3 => tk (l5 + 1) fun x4 => (L_Mod_frame_50 n) x4 u3)) := rfl
def f_Mod_frame (a1 : Int32) (a2 : Int32) (a3 : Int32) (a4 : Int32) (u : gU) : Option (Int32 × gU) := tk (st2 u 0 0 0) fun u1 => bd (f_Mod_fits a1 a2 a3 a4) fun x2 => bq (x2 = 0) (some (0, u1)) (tk (st2 u1 0 1 a1) fun u3 => tk (st2 u3 0 2 a2) fun u4 => tk (st2 u4 0 3 a3) fun u5 => tk (st2 u5 0 4 a4) fun u6 => bd (f_Mod_prepare u6) fun w7 => tk (w7) fun u8 => bd (f_Mod_forget u8) fun w9 => tk (w9) fun u10 => L_Mod_frame_50 2000 0 u10)
set_option maxHeartbeats 4000000 in
set_option maxRecDepth 100000 in
theorem c_Mod_frame (l : Launch) (D : va_G) (cI : ClassId) (q0 : Nat) (q1 : Nat) (q2 : Nat) (q3 : Nat) (q4 : Nat) (q5 : Nat) (q6 : Nat) (q7 : Nat) (hd : dj [q0, q1, q2, q3, q4, q5, q6, q7]) (a1 : Int32) (a2 : Int32) (a3 : Int32) (a4 : Int32) (u : gU) (r : Int32) (v : gU) (hf : f_Mod_frame a1 a2 a3 a4 u = some (r, v)) : Met l y_Mod_frame (.code y_Mod_frame b_Mod_frame 6 (some .boolean) :: TS) ({ frames := 2, cells := 0, slots := 0, locals := 44 }) (va_Pc [.ref q0, .int a1, .int a2, .int a3, .int a4] (fun U => va_P D cls (wMod cI q0 q1 q2 q3 q4 q5 q6 q7 u) U.heap ∧ va_K D cls [(cI, .int)] U)) (va_Qi (fun x (_ : Unit) => x = r) (fun _ t => va_P D cls (wMod cI q0 q1 q2 q3 q4 q5 q6 q7 v) t.heap) (ad [q0, q1, q2, q3, q4, q5, q6, q7])) 0 0 (ad [q0, q1, q2, q3, q4, q5, q6, q7]) := by
  refine ct_of (by decide +kernel) (Nat.le_of_ble_eq_true rfl) ?_
  intro p e s m below meth c ls hx hb hml hr hlocks hown hw hP hK hl
  have hS : va_S (ad [q0, q1, q2, q3, q4, q5, q6, q7]) s.heap s.heap [] := va_S.rf
  have hD : ∀ v, va_D (ad [q0, q1, q2, q3, q4, q5, q6, q7]) (wMod cI q0 q1 q2 q3 q4 q5 q6 q7 v) := fun _ => dj_D rfl hd
  have hl : lv_has ls 6 [(0, .ref q0), (1, .int a1), (2, .int a2), (3, .int a3), (4, .int a4)] := hl
  have hP : va_P D cls (wMod cI q0 q1 q2 q3 q4 q5 q6 q7 u) s.heap := hP
  have lp50 : ∀ (n50 : Nat), ∀ (ls : Array Slot) (H : Heap) (locs : List Loc) (l5 : Int32) (u : gU), lv_has ls 6 [(0, .ref q0), (5, .int l5)] → va_P D cls (wMod cI q0 q1 q2 q3 q4 q5 q6 q7 u) H → va_S (ad [q0, q1, q2, q3, q4, q5, q6, q7]) s.heap H locs → L_Mod_frame_50 n50 l5 u = some (r, v) → W p l e ({ frames := 2, cells := 0, slots := 0, locals := 44 }) s m [.ref q0, .int a1, .int a2, .int a3, .int a4].toArray below meth c H locs 0 0 (MQ below (va_Qi (fun x (_ : Unit) => x = r) (fun _ t => va_P D cls (wMod cI q0 q1 q2 q3 q4 q5 q6 q7 v) t.heap) (ad [q0, q1, q2, q3, q4, q5, q6, q7])) [.ref q0, .int a1, .int a2, .int a3, .int a4].toArray s 0 0 (ad [q0, q1, q2, q3, q4, q5, q6, q7])) (F0 m 50 ls []) := by
    intro n50
    induction n50 with
    | zero =>
      intro ls H locs l5 u hl hP hS hf
      rw [L_Mod_frame_50_z] at hf
      cases hf
    | succ n50 ih50 =>
      intro ls H locs l5 u hl hP hS hf
      rw [L_Mod_frame_50_s] at hf
      refine lv_iload hx hb d_Mod_frame_50 (lv_at hl 1 rfl) ?_
      refine lv_bipush (v := 64) hx hb d_Mod_frame_52 (by decide) ?_
      refine lv_icmp_ge (tgt := 71) hx hb d_Mod_frame_54 (by decide) (fun hc => ?_) (fun hc => ?_)
      · have hf := bq_t hf hc
        refine lv_aload_n hx hb d_Mod_frame_71 rfl (lv_at hl 0 rfl) ?_
        refine lv_iconst (v := 0) hx hb d_Mod_frame_72 (by decide) ?_
        refine va_put (D := D) (ci := 7) (v := .int 0) (ty := .int) (C := R_Mod) (T := F_Mod) (N := 28) hx hb hw in_Mod t_Mod t_Mod_ok n_Mod hown hK hP (hD _) hS 0 rfl rfl 17 (by decide) (hw _ m_450) (fun _ h9 => h9) rfl (by decide +kernel) rfl rfl (Nat.le_of_ble_eq_true rfl) d_Mod_frame_73 (fun H locs hP _ hS => ?_)
        obtain ⟨u1, e_u1, hf⟩ := tk_o hf
        have hP : va_P D cls (wMod cI q0 q1 q2 q3 q4 q5 q6 q7 u1) H := by rw [e_u1]; exact hP
        refine lv_iconst (v := 1) hx hb d_Mod_frame_76 (by decide) ?_
        exact rt_z (wMod cI q0 q1 q2 q3 q4 q5 q6 q7) hx hb hr hlocks (Or.inr rfl) hS hP hf d_Mod_frame_77
      have hf := bq_n hf hc
      refine lv_aload_n hx hb d_Mod_frame_57 rfl (lv_at hl 0 rfl) ?_
      refine va_get (D := D) (ci := 7) (v := .ref q1) (C := R_Mod) (T := F_Mod) (N := 28) hx hb hw in_Mod hown hK hP 0 rfl rfl 12 (by decide) (hw _ m_451) (fun _ h9 => h9) rfl d_Mod_frame_58 ?_
      refine lv_iload hx hb d_Mod_frame_61 (lv_at hl 1 rfl) ?_
      refine lv_iconst (v := 0) hx hb d_Mod_frame_63 (by decide) ?_
      obtain ⟨h2, hf⟩ := gd_o hf
      refine va_iast hx hb hK hP (hD _) hS 1 0 rfl rfl (ix_in h2) d_Mod_frame_64 (fun H locs hP _ hS => ?_)
      obtain ⟨u3, e_u3, hf⟩ := tk_o hf
      have hP : va_P D cls (wMod cI q0 q1 q2 q3 q4 q5 q6 q7 u3) H := by rw [e_u3]; exact hP
      obtain ⟨x4, e_x4, hf⟩ := tk_o hf
      refine lv_iinc (v := x4) (lv' := [(5, .int x4), (0, .ref q0)]) hx hb d_Mod_frame_65 hl (k := 1) rfl e_x4.symm (by decide) rfl (fun ls hl => ?_)
      refine lv_goto (tgt := 50) hx hb d_Mod_frame_68 (by decide) ?_
      exact ih50 _ _ _ x4 u3 (lv_sub hl [1, 0] rfl) hP hS hf
  unfold f_Mod_frame at hf
  refine lv_aload_n hx hb d_Mod_frame_0 rfl (lv_at hl 0 rfl) ?_
  refine lv_iconst (v := 0) hx hb d_Mod_frame_1 (by decide) ?_
  refine va_put (D := D) (ci := 7) (v := .int 0) (ty := .int) (C := R_Mod) (T := F_Mod) (N := 28) hx hb hw in_Mod t_Mod t_Mod_ok n_Mod hown hK hP (hD _) hS 0 rfl rfl 0 (by decide) (hw _ m_426) (fun _ h9 => h9) rfl (by decide +kernel) rfl rfl (Nat.le_of_ble_eq_true rfl) d_Mod_frame_2 (fun H locs hP _ hS => ?_)
  obtain ⟨u1, e_u1, hf⟩ := tk_o hf
  have hP : va_P D cls (wMod cI q0 q1 q2 q3 q4 q5 q6 q7 u1) H := by rw [e_u1]; exact hP
  refine lv_iload_n hx hb d_Mod_frame_5 rfl (lv_at hl 1 rfl) ?_
  refine lv_iload_n hx hb d_Mod_frame_6 rfl (lv_at hl 2 rfl) ?_
  refine lv_iload_n hx hb d_Mod_frame_7 rfl (lv_at hl 3 rfl) ?_
  refine lv_iload hx hb d_Mod_frame_8 (lv_at hl 4 rfl) ?_
  have hC : ([] : List Nat).map (fun i => (wMod cI q0 q1 q2 q3 q4 q5 q6 q7 u1)[i]?) = ([] : va_W).map some := rfl
  obtain ⟨x2, hc, hf⟩ := bd_o hf
  refine ro_i (va_runS (As := [.int a1, .int a2, .int a3, .int a4]) (rest := []) ⟨hx, hb, hml, hown, hw⟩ (c_Mod_fits l D cI a1 a2 a3 a4 x2 hc) (va_cwS 4 hw g_67 rfl rfl rfl (by decide +kernel) ⟨Nat.le_of_ble_eq_true rfl, Nat.le_of_ble_eq_true rfl⟩) (pre_S (P_sub hC hP) hK) rfl rfl hl.1 rfl (lv_room (Nat.le_of_ble_eq_true rfl)) d_Mod_frame_10 ⟨Nat.le_of_ble_eq_true rfl, Nat.le_of_ble_eq_true rfl⟩) hS hP (fun H locs hP hS => ?_)
  refine lv_if_ne (tgt := 18) hx hb d_Mod_frame_13 (by decide) (fun hc => ?_) (fun hc => ?_)
  · have hf := bq_n hf hc
    refine lv_aload_n hx hb d_Mod_frame_18 rfl (lv_at hl 0 rfl) ?_
    refine lv_iload_n hx hb d_Mod_frame_19 rfl (lv_at hl 1 rfl) ?_
    refine va_put (D := D) (ci := 7) (v := .int a1) (ty := .int) (C := R_Mod) (T := F_Mod) (N := 28) hx hb hw in_Mod t_Mod t_Mod_ok n_Mod hown hK hP (hD _) hS 0 rfl rfl 1 (by decide) (hw _ m_455) (fun _ h9 => h9) rfl (by decide +kernel) rfl rfl (Nat.le_of_ble_eq_true rfl) d_Mod_frame_20 (fun H locs hP _ hS => ?_)
    obtain ⟨u3, e_u3, hf⟩ := tk_o hf
    have hP : va_P D cls (wMod cI q0 q1 q2 q3 q4 q5 q6 q7 u3) H := by rw [e_u3]; exact hP
    refine lv_aload_n hx hb d_Mod_frame_23 rfl (lv_at hl 0 rfl) ?_
    refine lv_iload_n hx hb d_Mod_frame_24 rfl (lv_at hl 2 rfl) ?_
    refine va_put (D := D) (ci := 7) (v := .int a2) (ty := .int) (C := R_Mod) (T := F_Mod) (N := 28) hx hb hw in_Mod t_Mod t_Mod_ok n_Mod hown hK hP (hD _) hS 0 rfl rfl 2 (by decide) (hw _ m_456) (fun _ h9 => h9) rfl (by decide +kernel) rfl rfl (Nat.le_of_ble_eq_true rfl) d_Mod_frame_25 (fun H locs hP _ hS => ?_)
    obtain ⟨u4, e_u4, hf⟩ := tk_o hf
    have hP : va_P D cls (wMod cI q0 q1 q2 q3 q4 q5 q6 q7 u4) H := by rw [e_u4]; exact hP
    refine lv_aload_n hx hb d_Mod_frame_28 rfl (lv_at hl 0 rfl) ?_
    refine lv_iload_n hx hb d_Mod_frame_29 rfl (lv_at hl 3 rfl) ?_
    refine va_put (D := D) (ci := 7) (v := .int a3) (ty := .int) (C := R_Mod) (T := F_Mod) (N := 28) hx hb hw in_Mod t_Mod t_Mod_ok n_Mod hown hK hP (hD _) hS 0 rfl rfl 3 (by decide) (hw _ m_427) (fun _ h9 => h9) rfl (by decide +kernel) rfl rfl (Nat.le_of_ble_eq_true rfl) d_Mod_frame_30 (fun H locs hP _ hS => ?_)
    obtain ⟨u5, e_u5, hf⟩ := tk_o hf
    have hP : va_P D cls (wMod cI q0 q1 q2 q3 q4 q5 q6 q7 u5) H := by rw [e_u5]; exact hP
    refine lv_aload_n hx hb d_Mod_frame_33 rfl (lv_at hl 0 rfl) ?_
    refine lv_iload hx hb d_Mod_frame_34 (lv_at hl 4 rfl) ?_
    refine va_put (D := D) (ci := 7) (v := .int a4) (ty := .int) (C := R_Mod) (T := F_Mod) (N := 28) hx hb hw in_Mod t_Mod t_Mod_ok n_Mod hown hK hP (hD _) hS 0 rfl rfl 4 (by decide) (hw _ m_428) (fun _ h9 => h9) rfl (by decide +kernel) rfl rfl (Nat.le_of_ble_eq_true rfl) d_Mod_frame_36 (fun H locs hP _ hS => ?_)
    obtain ⟨u6, e_u6, hf⟩ := tk_o hf
    have hP : va_P D cls (wMod cI q0 q1 q2 q3 q4 q5 q6 q7 u6) H := by rw [e_u6]; exact hP
    refine lv_aload_n hx hb d_Mod_frame_39 rfl (lv_at hl 0 rfl) ?_
    have hC : [0, 1, 2, 3, 4, 5, 6, 7].map (fun i => (wMod cI q0 q1 q2 q3 q4 q5 q6 q7 u6)[i]?) = (wMod cI q0 q1 q2 q3 q4 q5 q6 q7 u6).map some := rfl
    obtain ⟨w7, hc, hf⟩ := bd_o hf
    refine rw_v (va_runV (As := []) (rest := []) ⟨hx, hb, hml, hown, hw⟩ (c_Mod_prepare l D cI q0 q1 q2 q3 q4 q5 q6 q7 (dj_sub hd [0, 1, 2, 3, 4, 5, 6, 7] (by decide) rfl) u6 w7 hc) (cwV 0 hw g_68 rfl rfl rfl (by decide +kernel) ⟨Nat.le_of_ble_eq_true rfl, Nat.le_of_ble_eq_true rfl⟩) (pre_V (P_sub hC hP) hK rfl rfl) rfl rfl hl.1 rfl (lv_room (Nat.le_of_ble_eq_true rfl)) d_Mod_frame_40 ⟨Nat.le_of_ble_eq_true rfl, Nat.le_of_ble_eq_true rfl⟩) hS hP (hD _) hC rfl rfl (fun H locs hP hS => ?_)
    obtain ⟨u8, e_u8, hf⟩ := tk_o hf
    have hP : va_P D cls (wMod cI q0 q1 q2 q3 q4 q5 q6 q7 u8) H := by rw [e_u8]; exact hP
    refine lv_aload_n hx hb d_Mod_frame_43 rfl (lv_at hl 0 rfl) ?_
    have hC : [0, 1, 2, 3, 4, 5, 6, 7].map (fun i => (wMod cI q0 q1 q2 q3 q4 q5 q6 q7 u8)[i]?) = (wMod cI q0 q1 q2 q3 q4 q5 q6 q7 u8).map some := rfl
    obtain ⟨w9, hc, hf⟩ := bd_o hf
    refine rw_v (va_runV (As := []) (rest := []) ⟨hx, hb, hml, hown, hw⟩ (c_Mod_forget l D cI q0 q1 q2 q3 q4 q5 q6 q7 (dj_sub hd [0, 1, 2, 3, 4, 5, 6, 7] (by decide) rfl) u8 w9 hc) (cwV 0 hw g_69 rfl rfl rfl (by decide +kernel) ⟨Nat.le_of_ble_eq_true rfl, Nat.le_of_ble_eq_true rfl⟩) (pre_V (P_sub hC hP) hK rfl rfl) rfl rfl hl.1 rfl (lv_room (Nat.le_of_ble_eq_true rfl)) d_Mod_frame_44 ⟨Nat.le_of_ble_eq_true rfl, Nat.le_of_ble_eq_true rfl⟩) hS hP (hD _) hC rfl rfl (fun H locs hP hS => ?_)
    obtain ⟨u10, e_u10, hf⟩ := tk_o hf
    have hP : va_P D cls (wMod cI q0 q1 q2 q3 q4 q5 q6 q7 u10) H := by rw [e_u10]; exact hP
    refine lv_iconst (v := 0) hx hb d_Mod_frame_47 (by decide) ?_
    refine lv_istore (lv' := [(5, .int 0), (0, .ref q0), (1, .int a1), (2, .int a2), (3, .int a3), (4, .int a4)]) hx hb d_Mod_frame_48 hl (by decide) rfl (fun ls hl => ?_)
    exact lp50 2000 _ _ _ 0 u10 (lv_sub hl [1, 0] rfl) hP hS hf
  have hf := bq_t hf hc
  refine lv_iconst (v := 0) hx hb d_Mod_frame_16 (by decide) ?_
  exact rt_z (wMod cI q0 q1 q2 q3 q4 q5 q6 q7) hx hb hr hlocks (Or.inl rfl) hS hP hf d_Mod_frame_17
def L_Mod_row_65 : Nat → Int32 → Int64 → Int32 → gU → Option (Int32 × gU)
  | 0, _, _, _, _ => none
  | n + 1, l1, l2, l4, u => bq ((u 0 1) ≤ l4) (some (1, u)) (tk (((l2 >>> ((56 - (8 * l4)).toInt64 &&& 63)) &&& 255).toInt32) fun x1 => gd (ix ((8 * l1) + l4) 64) (tk (st2 u 1 (tc ((8 * l1) + l4)) x1) fun u3 => tk (l4 + 1) fun x4 => (L_Mod_row_65 n) l1 l2 x4 u3))
theorem L_Mod_row_65_z (l1 : Int32) (l2 : Int64) (l4 : Int32) (u : gU) : L_Mod_row_65 0 l1 l2 l4 u = none := rfl
theorem L_Mod_row_65_s (n : Nat) (l1 : Int32) (l2 : Int64) (l4 : Int32) (u : gU) : L_Mod_row_65 (n + 1) l1 l2 l4 u = bq ((u 0 1) ≤ l4) (some (1, u)) (tk (((l2 >>> ((56 - (8 * l4)).toInt64 &&& 63)) &&& 255).toInt32) fun x1 => gd (ix ((8 * l1) + l4) 64) (tk (st2 u 1 (tc ((8 * l1) + l4)) x1) fun u3 => tk (l4 + 1) fun x4 => (L_Mod_row_65 n) l1 l2 x4 u3)) := rfl
def L_Mod_row_22 : Nat → Int32 → Int64 → Int32 → gU → Option (Int32 × gU)
  | 0, _, _, _, _ => none
  | n + 1, l1, l2, l4, u => bq ((u 0 1) ≤ l4) (L_Mod_row_65 2000 l1 l2 0 u) (tk (lg_cmp ((l2 >>> ((56 - (8 * l4)).toInt64 &&& 63)) &&& 255) ((u 0 3).toInt64)) fun x1 => bq (x1 ≤ 0) (tk (l4 + 1) fun x2 => (L_Mod_row_22 n) l1 l2 x2 u) (some (0, u)))
theorem L_Mod_row_22_z (l1 : Int32) (l2 : Int64) (l4 : Int32) (u : gU) : L_Mod_row_22 0 l1 l2 l4 u = none := rfl
theorem L_Mod_row_22_s (n : Nat) (l1 : Int32) (l2 : Int64) (l4 : Int32) (u : gU) : L_Mod_row_22 (n + 1) l1 l2 l4 u = bq ((u 0 1) ≤ l4) (L_Mod_row_65 2000 l1 l2 0 u) (tk (lg_cmp ((l2 >>> ((56 - (8 * l4)).toInt64 &&& 63)) &&& 255) ((u 0 3).toInt64)) fun x1 => bq (x1 ≤ 0) (tk (l4 + 1) fun x2 => (L_Mod_row_22 n) l1 l2 x2 u) (some (0, u))) := rfl
def f_Mod_row (a1 : Int32) (a2 : Int64) (u : gU) : Option (Int32 × gU) := tk (st2 u 0 0 0) fun u1 => bq (a1 < 0) (some (0, u1)) (bq (a1 < (u1 0 2)) (L_Mod_row_22 2000 a1 a2 0 u1) (some (0, u1)))
set_option maxHeartbeats 4000000 in
set_option maxRecDepth 100000 in
theorem c_Mod_row (l : Launch) (D : va_G) (cI : ClassId) (q0 : Nat) (q1 : Nat) (q2 : Nat) (q3 : Nat) (q4 : Nat) (q5 : Nat) (q6 : Nat) (q7 : Nat) (hd : dj [q0, q1, q2, q3, q4, q5, q6, q7]) (a1 : Int32) (a2 : Int64) (u : gU) (r : Int32) (v : gU) (hf : f_Mod_row a1 a2 u = some (r, v)) : Met l y_Mod_row (.code y_Mod_row b_Mod_row 5 (some .boolean) :: TS) ({ frames := 0, cells := 0, slots := 0, locals := 0 }) (va_Pc [.ref q0, .int a1, .long a2] (fun U => va_P D cls (wMod cI q0 q1 q2 q3 q4 q5 q6 q7 u) U.heap ∧ va_K D cls [(cI, .int)] U)) (va_Qi (fun x (_ : Unit) => x = r) (fun _ t => va_P D cls (wMod cI q0 q1 q2 q3 q4 q5 q6 q7 v) t.heap) (ad [q0, q1, q2, q3, q4, q5, q6, q7])) 0 0 (ad [q0, q1, q2, q3, q4, q5, q6, q7]) := by
  refine ct_of (by decide +kernel) (Nat.le_of_ble_eq_true rfl) ?_
  intro p e s m below meth c ls hx hb hml hr hlocks hown hw hP hK hl
  have hS : va_S (ad [q0, q1, q2, q3, q4, q5, q6, q7]) s.heap s.heap [] := va_S.rf
  have hD : ∀ v, va_D (ad [q0, q1, q2, q3, q4, q5, q6, q7]) (wMod cI q0 q1 q2 q3 q4 q5 q6 q7 v) := fun _ => dj_D rfl hd
  have hl : lv_has ls 5 [(0, .ref q0), (1, .int a1), (2, .long a2)] := hl
  have hP : va_P D cls (wMod cI q0 q1 q2 q3 q4 q5 q6 q7 u) s.heap := hP
  have lp65 : ∀ (n65 : Nat), ∀ (ls : Array Slot) (H : Heap) (locs : List Loc) (l1 : Int32) (l2 : Int64) (l4 : Int32) (u : gU), lv_has ls 5 [(0, .ref q0), (1, .int l1), (2, .long l2), (4, .int l4)] → va_P D cls (wMod cI q0 q1 q2 q3 q4 q5 q6 q7 u) H → va_S (ad [q0, q1, q2, q3, q4, q5, q6, q7]) s.heap H locs → L_Mod_row_65 n65 l1 l2 l4 u = some (r, v) → W p l e ({ frames := 0, cells := 0, slots := 0, locals := 0 }) s m [.ref q0, .int a1, .long a2].toArray below meth c H locs 0 0 (MQ below (va_Qi (fun x (_ : Unit) => x = r) (fun _ t => va_P D cls (wMod cI q0 q1 q2 q3 q4 q5 q6 q7 v) t.heap) (ad [q0, q1, q2, q3, q4, q5, q6, q7])) [.ref q0, .int a1, .long a2].toArray s 0 0 (ad [q0, q1, q2, q3, q4, q5, q6, q7])) (F0 m 65 ls []) := by
    intro n65
    induction n65 with
    | zero =>
      intro ls H locs l1 l2 l4 u hl hP hS hf
      rw [L_Mod_row_65_z] at hf
      cases hf
    | succ n65 ih65 =>
      intro ls H locs l1 l2 l4 u hl hP hS hf
      rw [L_Mod_row_65_s] at hf
      refine lv_iload hx hb d_Mod_row_65 (lv_at hl 3 rfl) ?_
      refine lv_aload_n hx hb d_Mod_row_67 rfl (lv_at hl 0 rfl) ?_
      refine va_get (D := D) (ci := 7) (v := .int (u 0 1)) (C := R_Mod) (T := F_Mod) (N := 28) hx hb hw in_Mod hown hK hP 0 rfl rfl 1 (by decide) (hw _ m_455) (fun _ h9 => h9) rfl d_Mod_row_68 ?_
      refine lv_icmp_ge (tgt := 107) hx hb d_Mod_row_71 (by decide) (fun hc => ?_) (fun hc => ?_)
      · have hf := bq_t hf hc
        refine lv_iconst (v := 1) hx hb d_Mod_row_107 (by decide) ?_
        exact rt_z (wMod cI q0 q1 q2 q3 q4 q5 q6 q7) hx hb hr hlocks (Or.inr rfl) hS hP hf d_Mod_row_108
      have hf := bq_n hf hc
      refine lv_aload_n hx hb d_Mod_row_74 rfl (lv_at hl 0 rfl) ?_
      refine va_get (D := D) (ci := 7) (v := .ref q1) (C := R_Mod) (T := F_Mod) (N := 28) hx hb hw in_Mod hown hK hP 0 rfl rfl 12 (by decide) (hw _ m_451) (fun _ h9 => h9) rfl d_Mod_row_75 ?_
      refine lv_bipush (v := 8) hx hb d_Mod_row_78 (by decide) ?_
      refine lv_iload_n hx hb d_Mod_row_80 rfl (lv_at hl 1 rfl) ?_
      refine lv_imul hx hb d_Mod_row_81 ?_
      refine lv_iload hx hb d_Mod_row_82 (lv_at hl 3 rfl) ?_
      refine lv_iadd hx hb d_Mod_row_84 ?_
      refine lv_lload_n hx hb d_Mod_row_85 rfl (lv_at hl 2 rfl) ?_
      refine lv_bipush (v := 56) hx hb d_Mod_row_86 (by decide) ?_
      refine lv_bipush (v := 8) hx hb d_Mod_row_88 (by decide) ?_
      refine lv_iload hx hb d_Mod_row_90 (lv_at hl 3 rfl) ?_
      refine lv_imul hx hb d_Mod_row_92 ?_
      refine lv_isub hx hb d_Mod_row_93 ?_
      refine lv_lshr hx hb d_Mod_row_94 rfl ?_
      refine lv_ldc2 (v := 255) hx hb hown (hw _ m_465) d_Mod_row_95 ?_
      refine lv_land hx hb d_Mod_row_98 ?_
      refine lv_l2i hx hb d_Mod_row_99 rfl ?_
      refine lv_topi (fun x1 e_x1 => ?_)
      have hf := tk_e hf e_x1
      obtain ⟨h2, hf⟩ := gd_o hf
      refine va_iast hx hb hK hP (hD _) hS 1 0 rfl rfl (ix_in h2) d_Mod_row_100 (fun H locs hP _ hS => ?_)
      obtain ⟨u3, e_u3, hf⟩ := tk_o hf
      have hP : va_P D cls (wMod cI q0 q1 q2 q3 q4 q5 q6 q7 u3) H := by rw [e_u3]; exact hP
      obtain ⟨x4, e_x4, hf⟩ := tk_o hf
      refine lv_iinc (v := x4) (lv' := [(4, .int x4), (0, .ref q0), (1, .int l1), (2, .long l2)]) hx hb d_Mod_row_101 hl (k := 3) rfl e_x4.symm (by decide) rfl (fun ls hl => ?_)
      refine lv_goto (tgt := 65) hx hb d_Mod_row_104 (by decide) ?_
      exact ih65 _ _ _ l1 l2 x4 u3 (lv_sub hl [1, 2, 3, 0] rfl) hP hS hf
  have lp22 : ∀ (n22 : Nat), ∀ (ls : Array Slot) (H : Heap) (locs : List Loc) (l1 : Int32) (l2 : Int64) (l4 : Int32) (u : gU), lv_has ls 5 [(0, .ref q0), (1, .int l1), (2, .long l2), (4, .int l4)] → va_P D cls (wMod cI q0 q1 q2 q3 q4 q5 q6 q7 u) H → va_S (ad [q0, q1, q2, q3, q4, q5, q6, q7]) s.heap H locs → L_Mod_row_22 n22 l1 l2 l4 u = some (r, v) → W p l e ({ frames := 0, cells := 0, slots := 0, locals := 0 }) s m [.ref q0, .int a1, .long a2].toArray below meth c H locs 0 0 (MQ below (va_Qi (fun x (_ : Unit) => x = r) (fun _ t => va_P D cls (wMod cI q0 q1 q2 q3 q4 q5 q6 q7 v) t.heap) (ad [q0, q1, q2, q3, q4, q5, q6, q7])) [.ref q0, .int a1, .long a2].toArray s 0 0 (ad [q0, q1, q2, q3, q4, q5, q6, q7])) (F0 m 22 ls []) := by
    intro n22
    induction n22 with
    | zero =>
      intro ls H locs l1 l2 l4 u hl hP hS hf
      rw [L_Mod_row_22_z] at hf
      cases hf
    | succ n22 ih22 =>
      intro ls H locs l1 l2 l4 u hl hP hS hf
      rw [L_Mod_row_22_s] at hf
      refine lv_iload hx hb d_Mod_row_22 (lv_at hl 3 rfl) ?_
      refine lv_aload_n hx hb d_Mod_row_24 rfl (lv_at hl 0 rfl) ?_
      refine va_get (D := D) (ci := 7) (v := .int (u 0 1)) (C := R_Mod) (T := F_Mod) (N := 28) hx hb hw in_Mod hown hK hP 0 rfl rfl 1 (by decide) (hw _ m_455) (fun _ h9 => h9) rfl d_Mod_row_25 ?_
      refine lv_icmp_ge (tgt := 62) hx hb d_Mod_row_28 (by decide) (fun hc => ?_) (fun hc => ?_)
      · have hf := bq_t hf hc
        refine lv_iconst (v := 0) hx hb d_Mod_row_62 (by decide) ?_
        refine lv_istore (lv' := [(4, .int 0), (0, .ref q0), (1, .int l1), (2, .long l2)]) hx hb d_Mod_row_63 hl (by decide) rfl (fun ls hl => ?_)
        exact lp65 2000 _ _ _ l1 l2 0 u (lv_sub hl [1, 2, 3, 0] rfl) hP hS hf
      have hf := bq_n hf hc
      refine lv_lload_n hx hb d_Mod_row_31 rfl (lv_at hl 2 rfl) ?_
      refine lv_bipush (v := 56) hx hb d_Mod_row_32 (by decide) ?_
      refine lv_bipush (v := 8) hx hb d_Mod_row_34 (by decide) ?_
      refine lv_iload hx hb d_Mod_row_36 (lv_at hl 3 rfl) ?_
      refine lv_imul hx hb d_Mod_row_38 ?_
      refine lv_isub hx hb d_Mod_row_39 ?_
      refine lv_lshr hx hb d_Mod_row_40 rfl ?_
      refine lv_ldc2 (v := 255) hx hb hown (hw _ m_465) d_Mod_row_41 ?_
      refine lv_land hx hb d_Mod_row_44 ?_
      refine lv_aload_n hx hb d_Mod_row_45 rfl (lv_at hl 0 rfl) ?_
      refine va_get (D := D) (ci := 7) (v := .int (u 0 3)) (C := R_Mod) (T := F_Mod) (N := 28) hx hb hw in_Mod hown hK hP 0 rfl rfl 3 (by decide) (hw _ m_427) (fun _ h9 => h9) rfl d_Mod_row_46 ?_
      refine lv_i2l hx hb d_Mod_row_49 rfl ?_
      refine W.lcmp hx hb d_Mod_row_50 ?_
      refine lv_topi (fun x1 e_x1 => ?_)
      have hf := tk_e hf e_x1
      refine lv_if_le (tgt := 56) hx hb d_Mod_row_51 (by decide) (fun hc => ?_) (fun hc => ?_)
      · have hf := bq_t hf hc
        obtain ⟨x2, e_x2, hf⟩ := tk_o hf
        refine lv_iinc (v := x2) (lv' := [(4, .int x2), (0, .ref q0), (1, .int l1), (2, .long l2)]) hx hb d_Mod_row_56 hl (k := 3) rfl e_x2.symm (by decide) rfl (fun ls hl => ?_)
        refine lv_goto (tgt := 22) hx hb d_Mod_row_59 (by decide) ?_
        exact ih22 _ _ _ l1 l2 x2 u (lv_sub hl [1, 2, 3, 0] rfl) hP hS hf
      have hf := bq_n hf hc
      refine lv_iconst (v := 0) hx hb d_Mod_row_54 (by decide) ?_
      exact rt_z (wMod cI q0 q1 q2 q3 q4 q5 q6 q7) hx hb hr hlocks (Or.inl rfl) hS hP hf d_Mod_row_55
  unfold f_Mod_row at hf
  refine lv_aload_n hx hb d_Mod_row_0 rfl (lv_at hl 0 rfl) ?_
  refine lv_iconst (v := 0) hx hb d_Mod_row_1 (by decide) ?_
  refine va_put (D := D) (ci := 7) (v := .int 0) (ty := .int) (C := R_Mod) (T := F_Mod) (N := 28) hx hb hw in_Mod t_Mod t_Mod_ok n_Mod hown hK hP (hD _) hS 0 rfl rfl 0 (by decide) (hw _ m_426) (fun _ h9 => h9) rfl (by decide +kernel) rfl rfl (Nat.le_of_ble_eq_true rfl) d_Mod_row_2 (fun H locs hP _ hS => ?_)
  obtain ⟨u1, e_u1, hf⟩ := tk_o hf
  have hP : va_P D cls (wMod cI q0 q1 q2 q3 q4 q5 q6 q7 u1) H := by rw [e_u1]; exact hP
  refine lv_iload_n hx hb d_Mod_row_5 rfl (lv_at hl 1 rfl) ?_
  refine lv_if_lt (tgt := 17) hx hb d_Mod_row_6 (by decide) (fun hc => ?_) (fun hc => ?_)
  · have hf := bq_t hf hc
    refine lv_iconst (v := 0) hx hb d_Mod_row_17 (by decide) ?_
    exact rt_z (wMod cI q0 q1 q2 q3 q4 q5 q6 q7) hx hb hr hlocks (Or.inl rfl) hS hP hf d_Mod_row_18
  have hf := bq_n hf hc
  refine lv_iload_n hx hb d_Mod_row_9 rfl (lv_at hl 1 rfl) ?_
  refine lv_aload_n hx hb d_Mod_row_10 rfl (lv_at hl 0 rfl) ?_
  refine va_get (D := D) (ci := 7) (v := .int (u1 0 2)) (C := R_Mod) (T := F_Mod) (N := 28) hx hb hw in_Mod hown hK hP 0 rfl rfl 2 (by decide) (hw _ m_456) (fun _ h9 => h9) rfl d_Mod_row_11 ?_
  refine lv_icmp_lt (tgt := 19) hx hb d_Mod_row_14 (by decide) (fun hc => ?_) (fun hc => ?_)
  · have hf := bq_t hf hc
    refine lv_iconst (v := 0) hx hb d_Mod_row_19 (by decide) ?_
    refine lv_istore (lv' := [(4, .int 0), (0, .ref q0), (1, .int a1), (2, .long a2)]) hx hb d_Mod_row_20 hl (by decide) rfl (fun ls hl => ?_)
    exact lp22 2000 _ _ _ a1 a2 0 u1 (lv_sub hl [1, 2, 3, 0] rfl) hP hS hf
  have hf := bq_n hf hc
  refine lv_iconst (v := 0) hx hb d_Mod_row_17 (by decide) ?_
  exact rt_z (wMod cI q0 q1 q2 q3 q4 q5 q6 q7) hx hb hr hlocks (Or.inl rfl) hS hP hf d_Mod_row_18
def f_Mod_say (a1 : Int32) (u : gU) : Option (gU) := gd (ix (u 0 13) 600) (tk (st2 u 4 (tc (u 0 13)) a1) fun u2 => tk (st2 u2 0 13 ((u2 0 13) + 1)) fun u3 => some u3)
set_option maxHeartbeats 4000000 in
set_option maxRecDepth 100000 in
theorem c_Mod_say (l : Launch) (D : va_G) (cI : ClassId) (q0 : Nat) (q1 : Nat) (q2 : Nat) (q3 : Nat) (q4 : Nat) (q5 : Nat) (q6 : Nat) (q7 : Nat) (hd : dj [q0, q1, q2, q3, q4, q5, q6, q7]) (a1 : Int32) (u : gU) (v : gU) (hf : f_Mod_say a1 u = some v) : Met l y_Mod_say (.code y_Mod_say b_Mod_say 2 none :: TS) ({ frames := 0, cells := 0, slots := 0, locals := 0 }) (va_Pc [.ref q0, .int a1] (fun U => va_P D cls (wMod cI q0 q1 q2 q3 q4 q5 q6 q7 u) U.heap ∧ va_K D cls [(cI, .int)] U)) (va_Qv (fun (_ : Unit) => True) (fun _ t => va_P D cls (wMod cI q0 q1 q2 q3 q4 q5 q6 q7 v) t.heap) (ad [q0, q1, q2, q3, q4, q5, q6, q7])) 0 0 (ad [q0, q1, q2, q3, q4, q5, q6, q7]) := by
  refine ct_of (by decide +kernel) (Nat.le_of_ble_eq_true rfl) ?_
  intro p e s m below meth c ls hx hb hml hr hlocks hown hw hP hK hl
  have hS : va_S (ad [q0, q1, q2, q3, q4, q5, q6, q7]) s.heap s.heap [] := va_S.rf
  have hD : ∀ v, va_D (ad [q0, q1, q2, q3, q4, q5, q6, q7]) (wMod cI q0 q1 q2 q3 q4 q5 q6 q7 v) := fun _ => dj_D rfl hd
  have hl : lv_has ls 2 [(0, .ref q0), (1, .int a1)] := hl
  have hP : va_P D cls (wMod cI q0 q1 q2 q3 q4 q5 q6 q7 u) s.heap := hP
  unfold f_Mod_say at hf
  refine lv_aload_n hx hb d_Mod_say_0 rfl (lv_at hl 0 rfl) ?_
  refine va_get (D := D) (ci := 7) (v := .ref q4) (C := R_Mod) (T := F_Mod) (N := 28) hx hb hw in_Mod hown hK hP 0 rfl rfl 16 (by decide) (hw _ m_466) (fun _ h9 => h9) rfl d_Mod_say_1 ?_
  refine lv_aload_n hx hb d_Mod_say_4 rfl (lv_at hl 0 rfl) ?_
  refine va_get (D := D) (ci := 7) (v := .int (u 0 13)) (C := R_Mod) (T := F_Mod) (N := 28) hx hb hw in_Mod hown hK hP 0 rfl rfl 17 (by decide) (hw _ m_450) (fun _ h9 => h9) rfl d_Mod_say_5 ?_
  refine lv_iload_n hx hb d_Mod_say_8 rfl (lv_at hl 1 rfl) ?_
  obtain ⟨h1, hf⟩ := gd_o hf
  refine va_iast hx hb hK hP (hD _) hS 4 0 rfl rfl (ix_in h1) d_Mod_say_9 (fun H locs hP _ hS => ?_)
  obtain ⟨u2, e_u2, hf⟩ := tk_o hf
  have hP : va_P D cls (wMod cI q0 q1 q2 q3 q4 q5 q6 q7 u2) H := by rw [e_u2]; exact hP
  refine lv_aload_n hx hb d_Mod_say_10 rfl (lv_at hl 0 rfl) ?_
  refine lv_dup hx hb d_Mod_say_11 rfl ?_
  refine va_get (D := D) (ci := 7) (v := .int (u2 0 13)) (C := R_Mod) (T := F_Mod) (N := 28) hx hb hw in_Mod hown hK hP 0 rfl rfl 17 (by decide) (hw _ m_450) (fun _ h9 => h9) rfl d_Mod_say_12 ?_
  refine lv_iconst (v := 1) hx hb d_Mod_say_15 (by decide) ?_
  refine lv_iadd hx hb d_Mod_say_16 ?_
  refine va_put (D := D) (ci := 7) (v := .int ((u2 0 13) + 1)) (ty := .int) (C := R_Mod) (T := F_Mod) (N := 28) hx hb hw in_Mod t_Mod t_Mod_ok n_Mod hown hK hP (hD _) hS 0 rfl rfl 17 (by decide) (hw _ m_450) (fun _ h9 => h9) rfl (by decide +kernel) rfl rfl (Nat.le_of_ble_eq_true rfl) d_Mod_say_17 (fun H locs hP _ hS => ?_)
  obtain ⟨u3, e_u3, hf⟩ := tk_o hf
  have hP : va_P D cls (wMod cI q0 q1 q2 q3 q4 q5 q6 q7 u3) H := by rw [e_u3]; exact hP
  exact rt_v (wMod cI q0 q1 q2 q3 q4 q5 q6 q7) hx hb hr hlocks hS hP hf d_Mod_say_20
def J_Mod_put_55 (s1 : Int32) (u : gU) : Option (gU) := tk (st2 u 0 15 s1) fun u1 => tk (st2 u1 0 14 0) fun u2 => some u2
def f_Mod_put (a1 : Int32) (u : gU) : Option (gU) := tk (st2 u 0 14 ((2 * (u 0 14)) + a1)) fun u1 => tk (st2 u1 0 15 ((u1 0 15) + 1)) fun u2 => bq ((u2 0 15) = 8) (bd (f_Mod_say (u2 0 14) u2) fun w3 => tk (w3) fun u4 => bq ((u4 0 14) = 255) (J_Mod_put_55 1 u4) (J_Mod_put_55 0 u4)) (some u2)
set_option maxHeartbeats 4000000 in
set_option maxRecDepth 100000 in
theorem c_Mod_put (l : Launch) (D : va_G) (cI : ClassId) (q0 : Nat) (q1 : Nat) (q2 : Nat) (q3 : Nat) (q4 : Nat) (q5 : Nat) (q6 : Nat) (q7 : Nat) (hd : dj [q0, q1, q2, q3, q4, q5, q6, q7]) (a1 : Int32) (u : gU) (v : gU) (hf : f_Mod_put a1 u = some v) : Met l y_Mod_put (.code y_Mod_put b_Mod_put 2 none :: TS) ({ frames := 1, cells := 0, slots := 0, locals := 21 }) (va_Pc [.ref q0, .int a1] (fun U => va_P D cls (wMod cI q0 q1 q2 q3 q4 q5 q6 q7 u) U.heap ∧ va_K D cls [(cI, .int)] U)) (va_Qv (fun (_ : Unit) => True) (fun _ t => va_P D cls (wMod cI q0 q1 q2 q3 q4 q5 q6 q7 v) t.heap) (ad [q0, q1, q2, q3, q4, q5, q6, q7])) 0 0 (ad [q0, q1, q2, q3, q4, q5, q6, q7]) := by
  refine ct_of (by decide +kernel) (Nat.le_of_ble_eq_true rfl) ?_
  intro p e s m below meth c ls hx hb hml hr hlocks hown hw hP hK hl
  have hS : va_S (ad [q0, q1, q2, q3, q4, q5, q6, q7]) s.heap s.heap [] := va_S.rf
  have hD : ∀ v, va_D (ad [q0, q1, q2, q3, q4, q5, q6, q7]) (wMod cI q0 q1 q2 q3 q4 q5 q6 q7 v) := fun _ => dj_D rfl hd
  have hl : lv_has ls 2 [(0, .ref q0), (1, .int a1)] := hl
  have hP : va_P D cls (wMod cI q0 q1 q2 q3 q4 q5 q6 q7 u) s.heap := hP
  have j55 : ∀ (ls : Array Slot) (H : Heap) (locs : List Loc) (s1 : Int32) (u : gU), lv_has ls 2 [(0, .ref q0)] → va_P D cls (wMod cI q0 q1 q2 q3 q4 q5 q6 q7 u) H → va_S (ad [q0, q1, q2, q3, q4, q5, q6, q7]) s.heap H locs → J_Mod_put_55 s1 u = some v → W p l e ({ frames := 1, cells := 0, slots := 0, locals := 21 }) s m [.ref q0, .int a1].toArray below meth c H locs 0 0 (MQ below (va_Qv (fun (_ : Unit) => True) (fun _ t => va_P D cls (wMod cI q0 q1 q2 q3 q4 q5 q6 q7 v) t.heap) (ad [q0, q1, q2, q3, q4, q5, q6, q7])) [.ref q0, .int a1].toArray s 0 0 (ad [q0, q1, q2, q3, q4, q5, q6, q7])) (F0 m 55 ls [.int s1, .ref q0]) := by
    intro ls H locs s1 u hl hP hS hf
    unfold J_Mod_put_55 at hf
    refine va_put (D := D) (ci := 7) (v := .int s1) (ty := .int) (C := R_Mod) (T := F_Mod) (N := 28) hx hb hw in_Mod t_Mod t_Mod_ok n_Mod hown hK hP (hD _) hS 0 rfl rfl 19 (by decide) (hw _ m_467) (fun _ h9 => h9) rfl (by decide +kernel) rfl rfl (Nat.le_of_ble_eq_true rfl) d_Mod_put_55 (fun H locs hP _ hS => ?_)
    obtain ⟨u1, e_u1, hf⟩ := tk_o hf
    have hP : va_P D cls (wMod cI q0 q1 q2 q3 q4 q5 q6 q7 u1) H := by rw [e_u1]; exact hP
    refine lv_aload_n hx hb d_Mod_put_58 rfl (lv_at hl 0 rfl) ?_
    refine lv_iconst (v := 0) hx hb d_Mod_put_59 (by decide) ?_
    refine va_put (D := D) (ci := 7) (v := .int 0) (ty := .int) (C := R_Mod) (T := F_Mod) (N := 28) hx hb hw in_Mod t_Mod t_Mod_ok n_Mod hown hK hP (hD _) hS 0 rfl rfl 18 (by decide) (hw _ m_468) (fun _ h9 => h9) rfl (by decide +kernel) rfl rfl (Nat.le_of_ble_eq_true rfl) d_Mod_put_60 (fun H locs hP _ hS => ?_)
    obtain ⟨u2, e_u2, hf⟩ := tk_o hf
    have hP : va_P D cls (wMod cI q0 q1 q2 q3 q4 q5 q6 q7 u2) H := by rw [e_u2]; exact hP
    exact rt_v (wMod cI q0 q1 q2 q3 q4 q5 q6 q7) hx hb hr hlocks hS hP hf d_Mod_put_63
  unfold f_Mod_put at hf
  refine lv_aload_n hx hb d_Mod_put_0 rfl (lv_at hl 0 rfl) ?_
  refine lv_iconst (v := 2) hx hb d_Mod_put_1 (by decide) ?_
  refine lv_aload_n hx hb d_Mod_put_2 rfl (lv_at hl 0 rfl) ?_
  refine va_get (D := D) (ci := 7) (v := .int (u 0 14)) (C := R_Mod) (T := F_Mod) (N := 28) hx hb hw in_Mod hown hK hP 0 rfl rfl 18 (by decide) (hw _ m_468) (fun _ h9 => h9) rfl d_Mod_put_3 ?_
  refine lv_imul hx hb d_Mod_put_6 ?_
  refine lv_iload_n hx hb d_Mod_put_7 rfl (lv_at hl 1 rfl) ?_
  refine lv_iadd hx hb d_Mod_put_8 ?_
  refine va_put (D := D) (ci := 7) (v := .int ((2 * (u 0 14)) + a1)) (ty := .int) (C := R_Mod) (T := F_Mod) (N := 28) hx hb hw in_Mod t_Mod t_Mod_ok n_Mod hown hK hP (hD _) hS 0 rfl rfl 18 (by decide) (hw _ m_468) (fun _ h9 => h9) rfl (by decide +kernel) rfl rfl (Nat.le_of_ble_eq_true rfl) d_Mod_put_9 (fun H locs hP _ hS => ?_)
  obtain ⟨u1, e_u1, hf⟩ := tk_o hf
  have hP : va_P D cls (wMod cI q0 q1 q2 q3 q4 q5 q6 q7 u1) H := by rw [e_u1]; exact hP
  refine lv_aload_n hx hb d_Mod_put_12 rfl (lv_at hl 0 rfl) ?_
  refine lv_dup hx hb d_Mod_put_13 rfl ?_
  refine va_get (D := D) (ci := 7) (v := .int (u1 0 15)) (C := R_Mod) (T := F_Mod) (N := 28) hx hb hw in_Mod hown hK hP 0 rfl rfl 19 (by decide) (hw _ m_467) (fun _ h9 => h9) rfl d_Mod_put_14 ?_
  refine lv_iconst (v := 1) hx hb d_Mod_put_17 (by decide) ?_
  refine lv_iadd hx hb d_Mod_put_18 ?_
  refine va_put (D := D) (ci := 7) (v := .int ((u1 0 15) + 1)) (ty := .int) (C := R_Mod) (T := F_Mod) (N := 28) hx hb hw in_Mod t_Mod t_Mod_ok n_Mod hown hK hP (hD _) hS 0 rfl rfl 19 (by decide) (hw _ m_467) (fun _ h9 => h9) rfl (by decide +kernel) rfl rfl (Nat.le_of_ble_eq_true rfl) d_Mod_put_19 (fun H locs hP _ hS => ?_)
  obtain ⟨u2, e_u2, hf⟩ := tk_o hf
  have hP : va_P D cls (wMod cI q0 q1 q2 q3 q4 q5 q6 q7 u2) H := by rw [e_u2]; exact hP
  refine lv_aload_n hx hb d_Mod_put_22 rfl (lv_at hl 0 rfl) ?_
  refine va_get (D := D) (ci := 7) (v := .int (u2 0 15)) (C := R_Mod) (T := F_Mod) (N := 28) hx hb hw in_Mod hown hK hP 0 rfl rfl 19 (by decide) (hw _ m_467) (fun _ h9 => h9) rfl d_Mod_put_23 ?_
  refine lv_bipush (v := 8) hx hb d_Mod_put_26 (by decide) ?_
  refine lv_icmp_ne (tgt := 63) hx hb d_Mod_put_28 (by decide) (fun hc => ?_) (fun hc => ?_)
  · have hf := bq_n hf hc
    exact rt_v (wMod cI q0 q1 q2 q3 q4 q5 q6 q7) hx hb hr hlocks hS hP hf d_Mod_put_63
  have hf := bq_t hf hc
  refine lv_aload_n hx hb d_Mod_put_31 rfl (lv_at hl 0 rfl) ?_
  refine lv_aload_n hx hb d_Mod_put_32 rfl (lv_at hl 0 rfl) ?_
  refine va_get (D := D) (ci := 7) (v := .int (u2 0 14)) (C := R_Mod) (T := F_Mod) (N := 28) hx hb hw in_Mod hown hK hP 0 rfl rfl 18 (by decide) (hw _ m_468) (fun _ h9 => h9) rfl d_Mod_put_33 ?_
  have hC : [0, 1, 2, 3, 4, 5, 6, 7].map (fun i => (wMod cI q0 q1 q2 q3 q4 q5 q6 q7 u2)[i]?) = (wMod cI q0 q1 q2 q3 q4 q5 q6 q7 u2).map some := rfl
  obtain ⟨w3, hc, hf⟩ := bd_o hf
  refine rw_v (va_runV (As := [.int (u2 0 14)]) (rest := []) ⟨hx, hb, hml, hown, hw⟩ (c_Mod_say l D cI q0 q1 q2 q3 q4 q5 q6 q7 (dj_sub hd [0, 1, 2, 3, 4, 5, 6, 7] (by decide) rfl) (u2 0 14) u2 w3 hc) (cwV 1 hw g_70 rfl rfl rfl (by decide +kernel) ⟨Nat.le_of_ble_eq_true rfl, Nat.le_of_ble_eq_true rfl⟩) (pre_V (P_sub hC hP) hK rfl rfl) rfl rfl hl.1 rfl (lv_room (Nat.le_of_ble_eq_true rfl)) d_Mod_put_36 ⟨Nat.le_of_ble_eq_true rfl, Nat.le_of_ble_eq_true rfl⟩) hS hP (hD _) hC rfl rfl (fun H locs hP hS => ?_)
  obtain ⟨u4, e_u4, hf⟩ := tk_o hf
  have hP : va_P D cls (wMod cI q0 q1 q2 q3 q4 q5 q6 q7 u4) H := by rw [e_u4]; exact hP
  refine lv_aload_n hx hb d_Mod_put_39 rfl (lv_at hl 0 rfl) ?_
  refine lv_aload_n hx hb d_Mod_put_40 rfl (lv_at hl 0 rfl) ?_
  refine va_get (D := D) (ci := 7) (v := .int (u4 0 14)) (C := R_Mod) (T := F_Mod) (N := 28) hx hb hw in_Mod hown hK hP 0 rfl rfl 18 (by decide) (hw _ m_468) (fun _ h9 => h9) rfl d_Mod_put_41 ?_
  refine lv_sipush (v := 255) hx hb d_Mod_put_44 (by decide) ?_
  refine lv_icmp_ne (tgt := 54) hx hb d_Mod_put_47 (by decide) (fun hc => ?_) (fun hc => ?_)
  · have hf := bq_n hf hc
    refine lv_iconst (v := 0) hx hb d_Mod_put_54 (by decide) ?_
    exact j55 _ _ _ 0 u4 (lv_sub hl [0] rfl) hP hS hf
  have hf := bq_t hf hc
  refine lv_iconst (v := 1) hx hb d_Mod_put_50 (by decide) ?_
  refine lv_goto (tgt := 55) hx hb d_Mod_put_51 (by decide) ?_
  exact j55 _ _ _ 1 u4 (lv_sub hl [0] rfl) hP hS hf
def L_Mod_putMany_4 : Nat → Int32 → Int32 → gU → Option (gU)
  | 0, _, _, _ => none
  | n + 1, l1, l3, u => bq (l3 < 0) (some u) (bd (f_Mod_put ((l1 >>> (l3 &&& 31)) &&& 1) u) fun w1 => tk (w1) fun u2 => tk (l3 + (-1)) fun x3 => (L_Mod_putMany_4 n) l1 x3 u2)
theorem L_Mod_putMany_4_z (l1 : Int32) (l3 : Int32) (u : gU) : L_Mod_putMany_4 0 l1 l3 u = none := rfl
theorem L_Mod_putMany_4_s (n : Nat) (l1 : Int32) (l3 : Int32) (u : gU) : L_Mod_putMany_4 (n + 1) l1 l3 u = bq (l3 < 0) (some u) (bd (f_Mod_put ((l1 >>> (l3 &&& 31)) &&& 1) u) fun w1 => tk (w1) fun u2 => tk (l3 + (-1)) fun x3 => (L_Mod_putMany_4 n) l1 x3 u2) := rfl
def f_Mod_putMany (a1 : Int32) (a2 : Int32) (u : gU) : Option (gU) := tk (a2 - 1) fun x1 => L_Mod_putMany_4 2000 a1 x1 u
set_option maxHeartbeats 4000000 in
set_option maxRecDepth 100000 in
theorem c_Mod_putMany (l : Launch) (D : va_G) (cI : ClassId) (q0 : Nat) (q1 : Nat) (q2 : Nat) (q3 : Nat) (q4 : Nat) (q5 : Nat) (q6 : Nat) (q7 : Nat) (hd : dj [q0, q1, q2, q3, q4, q5, q6, q7]) (a1 : Int32) (a2 : Int32) (u : gU) (v : gU) (hf : f_Mod_putMany a1 a2 u = some v) : Met l y_Mod_putMany (.code y_Mod_putMany b_Mod_putMany 4 none :: TS) ({ frames := 2, cells := 0, slots := 0, locals := 42 }) (va_Pc [.ref q0, .int a1, .int a2] (fun U => va_P D cls (wMod cI q0 q1 q2 q3 q4 q5 q6 q7 u) U.heap ∧ va_K D cls [(cI, .int)] U)) (va_Qv (fun (_ : Unit) => True) (fun _ t => va_P D cls (wMod cI q0 q1 q2 q3 q4 q5 q6 q7 v) t.heap) (ad [q0, q1, q2, q3, q4, q5, q6, q7])) 0 0 (ad [q0, q1, q2, q3, q4, q5, q6, q7]) := by
  refine ct_of (by decide +kernel) (Nat.le_of_ble_eq_true rfl) ?_
  intro p e s m below meth c ls hx hb hml hr hlocks hown hw hP hK hl
  have hS : va_S (ad [q0, q1, q2, q3, q4, q5, q6, q7]) s.heap s.heap [] := va_S.rf
  have hD : ∀ v, va_D (ad [q0, q1, q2, q3, q4, q5, q6, q7]) (wMod cI q0 q1 q2 q3 q4 q5 q6 q7 v) := fun _ => dj_D rfl hd
  have hl : lv_has ls 4 [(0, .ref q0), (1, .int a1), (2, .int a2)] := hl
  have hP : va_P D cls (wMod cI q0 q1 q2 q3 q4 q5 q6 q7 u) s.heap := hP
  have lp4 : ∀ (n4 : Nat), ∀ (ls : Array Slot) (H : Heap) (locs : List Loc) (l1 : Int32) (l3 : Int32) (u : gU), lv_has ls 4 [(0, .ref q0), (1, .int l1), (3, .int l3)] → va_P D cls (wMod cI q0 q1 q2 q3 q4 q5 q6 q7 u) H → va_S (ad [q0, q1, q2, q3, q4, q5, q6, q7]) s.heap H locs → L_Mod_putMany_4 n4 l1 l3 u = some v → W p l e ({ frames := 2, cells := 0, slots := 0, locals := 42 }) s m [.ref q0, .int a1, .int a2].toArray below meth c H locs 0 0 (MQ below (va_Qv (fun (_ : Unit) => True) (fun _ t => va_P D cls (wMod cI q0 q1 q2 q3 q4 q5 q6 q7 v) t.heap) (ad [q0, q1, q2, q3, q4, q5, q6, q7])) [.ref q0, .int a1, .int a2].toArray s 0 0 (ad [q0, q1, q2, q3, q4, q5, q6, q7])) (F0 m 4 ls []) := by
    intro n4
    induction n4 with
    | zero =>
      intro ls H locs l1 l3 u hl hP hS hf
      rw [L_Mod_putMany_4_z] at hf
      cases hf
    | succ n4 ih4 =>
      intro ls H locs l1 l3 u hl hP hS hf
      rw [L_Mod_putMany_4_s] at hf
      refine lv_iload_n hx hb d_Mod_putMany_4 rfl (lv_at hl 2 rfl) ?_
      refine lv_if_lt (tgt := 23) hx hb d_Mod_putMany_5 (by decide) (fun hc => ?_) (fun hc => ?_)
      · have hf := bq_t hf hc
        exact rt_v (wMod cI q0 q1 q2 q3 q4 q5 q6 q7) hx hb hr hlocks hS hP hf d_Mod_putMany_23
      have hf := bq_n hf hc
      refine lv_aload_n hx hb d_Mod_putMany_8 rfl (lv_at hl 0 rfl) ?_
      refine lv_iload_n hx hb d_Mod_putMany_9 rfl (lv_at hl 1 rfl) ?_
      refine lv_iload_n hx hb d_Mod_putMany_10 rfl (lv_at hl 2 rfl) ?_
      refine lv_ishr hx hb d_Mod_putMany_11 ?_
      refine lv_iconst (v := 1) hx hb d_Mod_putMany_12 (by decide) ?_
      refine lv_iand hx hb d_Mod_putMany_13 ?_
      have hC : [0, 1, 2, 3, 4, 5, 6, 7].map (fun i => (wMod cI q0 q1 q2 q3 q4 q5 q6 q7 u)[i]?) = (wMod cI q0 q1 q2 q3 q4 q5 q6 q7 u).map some := rfl
      obtain ⟨w1, hc, hf⟩ := bd_o hf
      refine rw_v (va_runV (As := [.int ((l1 >>> (l3 &&& 31)) &&& 1)]) (rest := []) ⟨hx, hb, hml, hown, hw⟩ (c_Mod_put l D cI q0 q1 q2 q3 q4 q5 q6 q7 (dj_sub hd [0, 1, 2, 3, 4, 5, 6, 7] (by decide) rfl) ((l1 >>> (l3 &&& 31)) &&& 1) u w1 hc) (cwV 1 hw g_71 rfl rfl rfl (by decide +kernel) ⟨Nat.le_of_ble_eq_true rfl, Nat.le_of_ble_eq_true rfl⟩) (pre_V (P_sub hC hP) hK rfl rfl) rfl rfl hl.1 rfl (lv_room (Nat.le_of_ble_eq_true rfl)) d_Mod_putMany_14 ⟨Nat.le_of_ble_eq_true rfl, Nat.le_of_ble_eq_true rfl⟩) hS hP (hD _) hC rfl rfl (fun H locs hP hS => ?_)
      obtain ⟨u2, e_u2, hf⟩ := tk_o hf
      have hP : va_P D cls (wMod cI q0 q1 q2 q3 q4 q5 q6 q7 u2) H := by rw [e_u2]; exact hP
      obtain ⟨x3, e_x3, hf⟩ := tk_o hf
      refine lv_iinc (v := x3) (lv' := [(3, .int x3), (0, .ref q0), (1, .int l1)]) hx hb d_Mod_putMany_17 hl (k := 2) rfl e_x3.symm (by decide) rfl (fun ls hl => ?_)
      refine lv_goto (tgt := 4) hx hb d_Mod_putMany_20 (by decide) ?_
      exact ih4 _ _ _ l1 x3 u2 (lv_sub hl [1, 2, 0] rfl) hP hS hf
  unfold f_Mod_putMany at hf
  refine lv_iload_n hx hb d_Mod_putMany_0 rfl (lv_at hl 2 rfl) ?_
  refine lv_iconst (v := 1) hx hb d_Mod_putMany_1 (by decide) ?_
  refine lv_isub hx hb d_Mod_putMany_2 ?_
  refine lv_topi (fun x1 e_x1 => ?_)
  have hf := tk_e hf e_x1
  refine lv_istore_n (lv' := [(3, .int x1), (0, .ref q0), (1, .int a1), (2, .int a2)]) hx hb d_Mod_putMany_3 rfl hl (by decide) rfl (fun ls hl => ?_)
  exact lp4 2000 _ _ _ a1 x1 u (lv_sub hl [1, 2, 0] rfl) hP hS hf
def J_Mod_get_99 (u : gU) : Option (Int32 × gU) := tk (st2 u 0 19 ((u 0 19) - 1)) fun u1 => some (((u1 0 18) >>> ((u1 0 19) &&& 31)) &&& 1, u1)
def J_Mod_get_96 (s1 : Int32) (u : gU) : Option (Int32 × gU) := tk (st2 u 0 19 s1) fun u1 => J_Mod_get_99  u1
def J_Mod_get_61 (l1 : Int32) (u : gU) : Option (Int32 × gU) := gd (ix (u 0 17) 600) (tk (st2 u 0 18 (u 4 (tc (u 0 17)))) fun u2 => tk (st2 u2 0 17 ((u2 0 17) + 1)) fun u3 => bq (l1 = 0) (J_Mod_get_96 8 u3) (J_Mod_get_96 7 u3))
def J_Mod_get_54 (u : gU) : Option (Int32 × gU) := tk (st2 u 0 20 0) fun u1 => some (0, u1)
def J_Mod_get_22 (s0 : Int32) (u : gU) : Option (Int32 × gU) := bq (((u 0 13) - 2) ≤ (u 0 17)) (J_Mod_get_54  u) (bq (s0 = 0) (J_Mod_get_61 s0 u) (gd (ix (u 0 17) 600) (bq ((u 4 (tc (u 0 17))) ≤ 127) (J_Mod_get_61 s0 u) (J_Mod_get_54  u))))
def f_Mod_get (u : gU) : Option (Int32 × gU) := bq ((u 0 19) = 0) (bq ((u 0 18) = 255) (J_Mod_get_22 1 u) (J_Mod_get_22 0 u)) (J_Mod_get_99  u)
set_option maxHeartbeats 4000000 in
set_option maxRecDepth 100000 in
theorem c_Mod_get (l : Launch) (D : va_G) (cI : ClassId) (q0 : Nat) (q1 : Nat) (q2 : Nat) (q3 : Nat) (q4 : Nat) (q5 : Nat) (q6 : Nat) (q7 : Nat) (hd : dj [q0, q1, q2, q3, q4, q5, q6, q7]) (u : gU) (r : Int32) (v : gU) (hf : f_Mod_get u = some (r, v)) : Met l y_Mod_get (.code y_Mod_get b_Mod_get 2 (some .int) :: TS) ({ frames := 0, cells := 0, slots := 0, locals := 0 }) (va_Pc [.ref q0] (fun U => va_P D cls (wMod cI q0 q1 q2 q3 q4 q5 q6 q7 u) U.heap ∧ va_K D cls [(cI, .int)] U)) (va_Qi (fun x (_ : Unit) => x = r) (fun _ t => va_P D cls (wMod cI q0 q1 q2 q3 q4 q5 q6 q7 v) t.heap) (ad [q0, q1, q2, q3, q4, q5, q6, q7])) 0 0 (ad [q0, q1, q2, q3, q4, q5, q6, q7]) := by
  refine ct_of (by decide +kernel) (Nat.le_of_ble_eq_true rfl) ?_
  intro p e s m below meth c ls hx hb hml hr hlocks hown hw hP hK hl
  have hS : va_S (ad [q0, q1, q2, q3, q4, q5, q6, q7]) s.heap s.heap [] := va_S.rf
  have hD : ∀ v, va_D (ad [q0, q1, q2, q3, q4, q5, q6, q7]) (wMod cI q0 q1 q2 q3 q4 q5 q6 q7 v) := fun _ => dj_D rfl hd
  have hl : lv_has ls 2 [(0, .ref q0)] := hl
  have hP : va_P D cls (wMod cI q0 q1 q2 q3 q4 q5 q6 q7 u) s.heap := hP
  have j99 : ∀ (ls : Array Slot) (H : Heap) (locs : List Loc) (u : gU), lv_has ls 2 [(0, .ref q0)] → va_P D cls (wMod cI q0 q1 q2 q3 q4 q5 q6 q7 u) H → va_S (ad [q0, q1, q2, q3, q4, q5, q6, q7]) s.heap H locs → J_Mod_get_99 u = some (r, v) → W p l e ({ frames := 0, cells := 0, slots := 0, locals := 0 }) s m [.ref q0].toArray below meth c H locs 0 0 (MQ below (va_Qi (fun x (_ : Unit) => x = r) (fun _ t => va_P D cls (wMod cI q0 q1 q2 q3 q4 q5 q6 q7 v) t.heap) (ad [q0, q1, q2, q3, q4, q5, q6, q7])) [.ref q0].toArray s 0 0 (ad [q0, q1, q2, q3, q4, q5, q6, q7])) (F0 m 99 ls []) := by
    intro ls H locs u hl hP hS hf
    unfold J_Mod_get_99 at hf
    refine lv_aload_n hx hb d_Mod_get_99 rfl (lv_at hl 0 rfl) ?_
    refine lv_dup hx hb d_Mod_get_100 rfl ?_
    refine va_get (D := D) (ci := 7) (v := .int (u 0 19)) (C := R_Mod) (T := F_Mod) (N := 28) hx hb hw in_Mod hown hK hP 0 rfl rfl 23 (by decide) (hw _ m_477) (fun _ h9 => h9) rfl d_Mod_get_101 ?_
    refine lv_iconst (v := 1) hx hb d_Mod_get_104 (by decide) ?_
    refine lv_isub hx hb d_Mod_get_105 ?_
    refine va_put (D := D) (ci := 7) (v := .int ((u 0 19) - 1)) (ty := .int) (C := R_Mod) (T := F_Mod) (N := 28) hx hb hw in_Mod t_Mod t_Mod_ok n_Mod hown hK hP (hD _) hS 0 rfl rfl 23 (by decide) (hw _ m_477) (fun _ h9 => h9) rfl (by decide +kernel) rfl rfl (Nat.le_of_ble_eq_true rfl) d_Mod_get_106 (fun H locs hP _ hS => ?_)
    obtain ⟨u1, e_u1, hf⟩ := tk_o hf
    have hP : va_P D cls (wMod cI q0 q1 q2 q3 q4 q5 q6 q7 u1) H := by rw [e_u1]; exact hP
    refine lv_aload_n hx hb d_Mod_get_109 rfl (lv_at hl 0 rfl) ?_
    refine va_get (D := D) (ci := 7) (v := .int (u1 0 18)) (C := R_Mod) (T := F_Mod) (N := 28) hx hb hw in_Mod hown hK hP 0 rfl rfl 22 (by decide) (hw _ m_478) (fun _ h9 => h9) rfl d_Mod_get_110 ?_
    refine lv_aload_n hx hb d_Mod_get_113 rfl (lv_at hl 0 rfl) ?_
    refine va_get (D := D) (ci := 7) (v := .int (u1 0 19)) (C := R_Mod) (T := F_Mod) (N := 28) hx hb hw in_Mod hown hK hP 0 rfl rfl 23 (by decide) (hw _ m_477) (fun _ h9 => h9) rfl d_Mod_get_114 ?_
    refine lv_ishr hx hb d_Mod_get_117 ?_
    refine lv_iconst (v := 1) hx hb d_Mod_get_118 (by decide) ?_
    refine lv_iand hx hb d_Mod_get_119 ?_
    exact rt_i (wMod cI q0 q1 q2 q3 q4 q5 q6 q7) hx hb hr hlocks hS hP hf d_Mod_get_120
  have j96 : ∀ (ls : Array Slot) (H : Heap) (locs : List Loc) (s1 : Int32) (u : gU), lv_has ls 2 [(0, .ref q0)] → va_P D cls (wMod cI q0 q1 q2 q3 q4 q5 q6 q7 u) H → va_S (ad [q0, q1, q2, q3, q4, q5, q6, q7]) s.heap H locs → J_Mod_get_96 s1 u = some (r, v) → W p l e ({ frames := 0, cells := 0, slots := 0, locals := 0 }) s m [.ref q0].toArray below meth c H locs 0 0 (MQ below (va_Qi (fun x (_ : Unit) => x = r) (fun _ t => va_P D cls (wMod cI q0 q1 q2 q3 q4 q5 q6 q7 v) t.heap) (ad [q0, q1, q2, q3, q4, q5, q6, q7])) [.ref q0].toArray s 0 0 (ad [q0, q1, q2, q3, q4, q5, q6, q7])) (F0 m 96 ls [.int s1, .ref q0]) := by
    intro ls H locs s1 u hl hP hS hf
    unfold J_Mod_get_96 at hf
    refine va_put (D := D) (ci := 7) (v := .int s1) (ty := .int) (C := R_Mod) (T := F_Mod) (N := 28) hx hb hw in_Mod t_Mod t_Mod_ok n_Mod hown hK hP (hD _) hS 0 rfl rfl 23 (by decide) (hw _ m_477) (fun _ h9 => h9) rfl (by decide +kernel) rfl rfl (Nat.le_of_ble_eq_true rfl) d_Mod_get_96 (fun H locs hP _ hS => ?_)
    obtain ⟨u1, e_u1, hf⟩ := tk_o hf
    have hP : va_P D cls (wMod cI q0 q1 q2 q3 q4 q5 q6 q7 u1) H := by rw [e_u1]; exact hP
    exact j99 _ _ _  u1 (lv_sub hl [0] rfl) hP hS hf
  have j61 : ∀ (ls : Array Slot) (H : Heap) (locs : List Loc) (l1 : Int32) (u : gU), lv_has ls 2 [(0, .ref q0), (1, .int l1)] → va_P D cls (wMod cI q0 q1 q2 q3 q4 q5 q6 q7 u) H → va_S (ad [q0, q1, q2, q3, q4, q5, q6, q7]) s.heap H locs → J_Mod_get_61 l1 u = some (r, v) → W p l e ({ frames := 0, cells := 0, slots := 0, locals := 0 }) s m [.ref q0].toArray below meth c H locs 0 0 (MQ below (va_Qi (fun x (_ : Unit) => x = r) (fun _ t => va_P D cls (wMod cI q0 q1 q2 q3 q4 q5 q6 q7 v) t.heap) (ad [q0, q1, q2, q3, q4, q5, q6, q7])) [.ref q0].toArray s 0 0 (ad [q0, q1, q2, q3, q4, q5, q6, q7])) (F0 m 61 ls []) := by
    intro ls H locs l1 u hl hP hS hf
    unfold J_Mod_get_61 at hf
    refine lv_aload_n hx hb d_Mod_get_61 rfl (lv_at hl 0 rfl) ?_
    refine lv_aload_n hx hb d_Mod_get_62 rfl (lv_at hl 0 rfl) ?_
    refine va_get (D := D) (ci := 7) (v := .ref q4) (C := R_Mod) (T := F_Mod) (N := 28) hx hb hw in_Mod hown hK hP 0 rfl rfl 16 (by decide) (hw _ m_466) (fun _ h9 => h9) rfl d_Mod_get_63 ?_
    refine lv_aload_n hx hb d_Mod_get_66 rfl (lv_at hl 0 rfl) ?_
    refine va_get (D := D) (ci := 7) (v := .int (u 0 17)) (C := R_Mod) (T := F_Mod) (N := 28) hx hb hw in_Mod hown hK hP 0 rfl rfl 21 (by decide) (hw _ m_479) (fun _ h9 => h9) rfl d_Mod_get_67 ?_
    obtain ⟨h1, hf⟩ := gd_o hf
    refine va_iald hx hb hK hP 4 0 rfl rfl (ix_in h1) d_Mod_get_70 ?_
    refine va_put (D := D) (ci := 7) (v := .int (u 4 (tc (u 0 17)))) (ty := .int) (C := R_Mod) (T := F_Mod) (N := 28) hx hb hw in_Mod t_Mod t_Mod_ok n_Mod hown hK hP (hD _) hS 0 rfl rfl 22 (by decide) (hw _ m_478) (fun _ h9 => h9) rfl (by decide +kernel) rfl rfl (Nat.le_of_ble_eq_true rfl) d_Mod_get_71 (fun H locs hP _ hS => ?_)
    obtain ⟨u2, e_u2, hf⟩ := tk_o hf
    have hP : va_P D cls (wMod cI q0 q1 q2 q3 q4 q5 q6 q7 u2) H := by rw [e_u2]; exact hP
    refine lv_aload_n hx hb d_Mod_get_74 rfl (lv_at hl 0 rfl) ?_
    refine lv_dup hx hb d_Mod_get_75 rfl ?_
    refine va_get (D := D) (ci := 7) (v := .int (u2 0 17)) (C := R_Mod) (T := F_Mod) (N := 28) hx hb hw in_Mod hown hK hP 0 rfl rfl 21 (by decide) (hw _ m_479) (fun _ h9 => h9) rfl d_Mod_get_76 ?_
    refine lv_iconst (v := 1) hx hb d_Mod_get_79 (by decide) ?_
    refine lv_iadd hx hb d_Mod_get_80 ?_
    refine va_put (D := D) (ci := 7) (v := .int ((u2 0 17) + 1)) (ty := .int) (C := R_Mod) (T := F_Mod) (N := 28) hx hb hw in_Mod t_Mod t_Mod_ok n_Mod hown hK hP (hD _) hS 0 rfl rfl 21 (by decide) (hw _ m_479) (fun _ h9 => h9) rfl (by decide +kernel) rfl rfl (Nat.le_of_ble_eq_true rfl) d_Mod_get_81 (fun H locs hP _ hS => ?_)
    obtain ⟨u3, e_u3, hf⟩ := tk_o hf
    have hP : va_P D cls (wMod cI q0 q1 q2 q3 q4 q5 q6 q7 u3) H := by rw [e_u3]; exact hP
    refine lv_aload_n hx hb d_Mod_get_84 rfl (lv_at hl 0 rfl) ?_
    refine lv_iload_n hx hb d_Mod_get_85 rfl (lv_at hl 1 rfl) ?_
    refine lv_if_eq (tgt := 94) hx hb d_Mod_get_86 (by decide) (fun hc => ?_) (fun hc => ?_)
    · have hf := bq_t hf hc
      refine lv_bipush (v := 8) hx hb d_Mod_get_94 (by decide) ?_
      exact j96 _ _ _ 8 u3 (lv_sub hl [0] rfl) hP hS hf
    have hf := bq_n hf hc
    refine lv_bipush (v := 7) hx hb d_Mod_get_89 (by decide) ?_
    refine lv_goto (tgt := 96) hx hb d_Mod_get_91 (by decide) ?_
    exact j96 _ _ _ 7 u3 (lv_sub hl [0] rfl) hP hS hf
  have j54 : ∀ (ls : Array Slot) (H : Heap) (locs : List Loc) (u : gU), lv_has ls 2 [(0, .ref q0)] → va_P D cls (wMod cI q0 q1 q2 q3 q4 q5 q6 q7 u) H → va_S (ad [q0, q1, q2, q3, q4, q5, q6, q7]) s.heap H locs → J_Mod_get_54 u = some (r, v) → W p l e ({ frames := 0, cells := 0, slots := 0, locals := 0 }) s m [.ref q0].toArray below meth c H locs 0 0 (MQ below (va_Qi (fun x (_ : Unit) => x = r) (fun _ t => va_P D cls (wMod cI q0 q1 q2 q3 q4 q5 q6 q7 v) t.heap) (ad [q0, q1, q2, q3, q4, q5, q6, q7])) [.ref q0].toArray s 0 0 (ad [q0, q1, q2, q3, q4, q5, q6, q7])) (F0 m 54 ls []) := by
    intro ls H locs u hl hP hS hf
    unfold J_Mod_get_54 at hf
    refine lv_aload_n hx hb d_Mod_get_54 rfl (lv_at hl 0 rfl) ?_
    refine lv_iconst (v := 0) hx hb d_Mod_get_55 (by decide) ?_
    refine va_put (D := D) (ci := 7) (v := .int 0) (ty := .boolean) (C := R_Mod) (T := F_Mod) (N := 28) hx hb hw in_Mod t_Mod t_Mod_ok n_Mod hown hK hP (hD _) hS 0 rfl rfl 24 (by decide) (hw _ m_480) (fun _ h9 => h9) rfl (by decide +kernel) rfl rfl (Nat.le_of_ble_eq_true rfl) d_Mod_get_56 (fun H locs hP _ hS => ?_)
    obtain ⟨u1, e_u1, hf⟩ := tk_o hf
    have hP : va_P D cls (wMod cI q0 q1 q2 q3 q4 q5 q6 q7 u1) H := by rw [e_u1]; exact hP
    refine lv_iconst (v := 0) hx hb d_Mod_get_59 (by decide) ?_
    exact rt_i (wMod cI q0 q1 q2 q3 q4 q5 q6 q7) hx hb hr hlocks hS hP hf d_Mod_get_60
  have j22 : ∀ (ls : Array Slot) (H : Heap) (locs : List Loc) (s0 : Int32) (u : gU), lv_has ls 2 [(0, .ref q0)] → va_P D cls (wMod cI q0 q1 q2 q3 q4 q5 q6 q7 u) H → va_S (ad [q0, q1, q2, q3, q4, q5, q6, q7]) s.heap H locs → J_Mod_get_22 s0 u = some (r, v) → W p l e ({ frames := 0, cells := 0, slots := 0, locals := 0 }) s m [.ref q0].toArray below meth c H locs 0 0 (MQ below (va_Qi (fun x (_ : Unit) => x = r) (fun _ t => va_P D cls (wMod cI q0 q1 q2 q3 q4 q5 q6 q7 v) t.heap) (ad [q0, q1, q2, q3, q4, q5, q6, q7])) [.ref q0].toArray s 0 0 (ad [q0, q1, q2, q3, q4, q5, q6, q7])) (F0 m 22 ls [.int s0]) := by
    intro ls H locs s0 u hl hP hS hf
    unfold J_Mod_get_22 at hf
    refine lv_istore_n (lv' := [(1, .int s0), (0, .ref q0)]) hx hb d_Mod_get_22 rfl hl (by decide) rfl (fun ls hl => ?_)
    refine lv_aload_n hx hb d_Mod_get_23 rfl (lv_at hl 1 rfl) ?_
    refine va_get (D := D) (ci := 7) (v := .int (u 0 17)) (C := R_Mod) (T := F_Mod) (N := 28) hx hb hw in_Mod hown hK hP 0 rfl rfl 21 (by decide) (hw _ m_479) (fun _ h9 => h9) rfl d_Mod_get_24 ?_
    refine lv_aload_n hx hb d_Mod_get_27 rfl (lv_at hl 1 rfl) ?_
    refine va_get (D := D) (ci := 7) (v := .int (u 0 13)) (C := R_Mod) (T := F_Mod) (N := 28) hx hb hw in_Mod hown hK hP 0 rfl rfl 17 (by decide) (hw _ m_450) (fun _ h9 => h9) rfl d_Mod_get_28 ?_
    refine lv_iconst (v := 2) hx hb d_Mod_get_31 (by decide) ?_
    refine lv_isub hx hb d_Mod_get_32 ?_
    refine lv_icmp_ge (tgt := 54) hx hb d_Mod_get_33 (by decide) (fun hc => ?_) (fun hc => ?_)
    · have hf := bq_t hf hc
      exact j54 _ _ _  u (lv_sub hl [1] rfl) hP hS hf
    have hf := bq_n hf hc
    refine lv_iload_n hx hb d_Mod_get_36 rfl (lv_at hl 0 rfl) ?_
    refine lv_if_eq (tgt := 61) hx hb d_Mod_get_37 (by decide) (fun hc => ?_) (fun hc => ?_)
    · have hf := bq_t hf hc
      exact j61 _ _ _ s0 u (lv_sub hl [1, 0] rfl) hP hS hf
    have hf := bq_n hf hc
    refine lv_aload_n hx hb d_Mod_get_40 rfl (lv_at hl 1 rfl) ?_
    refine va_get (D := D) (ci := 7) (v := .ref q4) (C := R_Mod) (T := F_Mod) (N := 28) hx hb hw in_Mod hown hK hP 0 rfl rfl 16 (by decide) (hw _ m_466) (fun _ h9 => h9) rfl d_Mod_get_41 ?_
    refine lv_aload_n hx hb d_Mod_get_44 rfl (lv_at hl 1 rfl) ?_
    refine va_get (D := D) (ci := 7) (v := .int (u 0 17)) (C := R_Mod) (T := F_Mod) (N := 28) hx hb hw in_Mod hown hK hP 0 rfl rfl 21 (by decide) (hw _ m_479) (fun _ h9 => h9) rfl d_Mod_get_45 ?_
    obtain ⟨h1, hf⟩ := gd_o hf
    refine va_iald hx hb hK hP 4 0 rfl rfl (ix_in h1) d_Mod_get_48 ?_
    refine lv_bipush (v := 127) hx hb d_Mod_get_49 (by decide) ?_
    refine lv_icmp_le (tgt := 61) hx hb d_Mod_get_51 (by decide) (fun hc => ?_) (fun hc => ?_)
    · have hf := bq_t hf hc
      exact j61 _ _ _ s0 u (lv_sub hl [1, 0] rfl) hP hS hf
    have hf := bq_n hf hc
    exact j54 _ _ _  u (lv_sub hl [1] rfl) hP hS hf
  unfold f_Mod_get at hf
  refine lv_aload_n hx hb d_Mod_get_0 rfl (lv_at hl 0 rfl) ?_
  refine va_get (D := D) (ci := 7) (v := .int (u 0 19)) (C := R_Mod) (T := F_Mod) (N := 28) hx hb hw in_Mod hown hK hP 0 rfl rfl 23 (by decide) (hw _ m_477) (fun _ h9 => h9) rfl d_Mod_get_1 ?_
  refine lv_if_ne (tgt := 99) hx hb d_Mod_get_4 (by decide) (fun hc => ?_) (fun hc => ?_)
  · have hf := bq_n hf hc
    exact j99 _ _ _  u (lv_sub hl [0] rfl) hP hS hf
  have hf := bq_t hf hc
  refine lv_aload_n hx hb d_Mod_get_7 rfl (lv_at hl 0 rfl) ?_
  refine va_get (D := D) (ci := 7) (v := .int (u 0 18)) (C := R_Mod) (T := F_Mod) (N := 28) hx hb hw in_Mod hown hK hP 0 rfl rfl 22 (by decide) (hw _ m_478) (fun _ h9 => h9) rfl d_Mod_get_8 ?_
  refine lv_sipush (v := 255) hx hb d_Mod_get_11 (by decide) ?_
  refine lv_icmp_ne (tgt := 21) hx hb d_Mod_get_14 (by decide) (fun hc => ?_) (fun hc => ?_)
  · have hf := bq_n hf hc
    refine lv_iconst (v := 0) hx hb d_Mod_get_21 (by decide) ?_
    exact j22 _ _ _ 0 u (lv_sub hl [0] rfl) hP hS hf
  have hf := bq_t hf hc
  refine lv_iconst (v := 1) hx hb d_Mod_get_17 (by decide) ?_
  refine lv_goto (tgt := 22) hx hb d_Mod_get_18 (by decide) ?_
  exact j22 _ _ _ 1 u (lv_sub hl [0] rfl) hP hS hf
def L_Mod_getMany_4 : Nat → Int32 → Int32 → Int32 → gU → Option (Int32 × gU)
  | 0, _, _, _, _ => none
  | n + 1, l1, l2, l3, u => bq (l1 ≤ l3) (some (l2, u)) (bq ((u 0 20) = 0) (some (l2, u)) (bd (f_Mod_get u) fun w1 => tk (w1.2) fun u2 => tk ((2 * l2) + w1.1) fun x3 => tk (l3 + 1) fun x4 => (L_Mod_getMany_4 n) l1 x3 x4 u2))
theorem L_Mod_getMany_4_z (l1 : Int32) (l2 : Int32) (l3 : Int32) (u : gU) : L_Mod_getMany_4 0 l1 l2 l3 u = none := rfl
theorem L_Mod_getMany_4_s (n : Nat) (l1 : Int32) (l2 : Int32) (l3 : Int32) (u : gU) : L_Mod_getMany_4 (n + 1) l1 l2 l3 u = bq (l1 ≤ l3) (some (l2, u)) (bq ((u 0 20) = 0) (some (l2, u)) (bd (f_Mod_get u) fun w1 => tk (w1.2) fun u2 => tk ((2 * l2) + w1.1) fun x3 => tk (l3 + 1) fun x4 => (L_Mod_getMany_4 n) l1 x3 x4 u2)) := rfl
def f_Mod_getMany (a1 : Int32) (u : gU) : Option (Int32 × gU) := L_Mod_getMany_4 2000 a1 0 0 u
set_option maxHeartbeats 4000000 in
set_option maxRecDepth 100000 in
theorem c_Mod_getMany (l : Launch) (D : va_G) (cI : ClassId) (q0 : Nat) (q1 : Nat) (q2 : Nat) (q3 : Nat) (q4 : Nat) (q5 : Nat) (q6 : Nat) (q7 : Nat) (hd : dj [q0, q1, q2, q3, q4, q5, q6, q7]) (a1 : Int32) (u : gU) (r : Int32) (v : gU) (hf : f_Mod_getMany a1 u = some (r, v)) : Met l y_Mod_getMany (.code y_Mod_getMany b_Mod_getMany 4 (some .int) :: TS) ({ frames := 1, cells := 0, slots := 0, locals := 21 }) (va_Pc [.ref q0, .int a1] (fun U => va_P D cls (wMod cI q0 q1 q2 q3 q4 q5 q6 q7 u) U.heap ∧ va_K D cls [(cI, .int)] U)) (va_Qi (fun x (_ : Unit) => x = r) (fun _ t => va_P D cls (wMod cI q0 q1 q2 q3 q4 q5 q6 q7 v) t.heap) (ad [q0, q1, q2, q3, q4, q5, q6, q7])) 0 0 (ad [q0, q1, q2, q3, q4, q5, q6, q7]) := by
  refine ct_of (by decide +kernel) (Nat.le_of_ble_eq_true rfl) ?_
  intro p e s m below meth c ls hx hb hml hr hlocks hown hw hP hK hl
  have hS : va_S (ad [q0, q1, q2, q3, q4, q5, q6, q7]) s.heap s.heap [] := va_S.rf
  have hD : ∀ v, va_D (ad [q0, q1, q2, q3, q4, q5, q6, q7]) (wMod cI q0 q1 q2 q3 q4 q5 q6 q7 v) := fun _ => dj_D rfl hd
  have hl : lv_has ls 4 [(0, .ref q0), (1, .int a1)] := hl
  have hP : va_P D cls (wMod cI q0 q1 q2 q3 q4 q5 q6 q7 u) s.heap := hP
  have lp4 : ∀ (n4 : Nat), ∀ (ls : Array Slot) (H : Heap) (locs : List Loc) (l1 : Int32) (l2 : Int32) (l3 : Int32) (u : gU), lv_has ls 4 [(0, .ref q0), (1, .int l1), (2, .int l2), (3, .int l3)] → va_P D cls (wMod cI q0 q1 q2 q3 q4 q5 q6 q7 u) H → va_S (ad [q0, q1, q2, q3, q4, q5, q6, q7]) s.heap H locs → L_Mod_getMany_4 n4 l1 l2 l3 u = some (r, v) → W p l e ({ frames := 1, cells := 0, slots := 0, locals := 21 }) s m [.ref q0, .int a1].toArray below meth c H locs 0 0 (MQ below (va_Qi (fun x (_ : Unit) => x = r) (fun _ t => va_P D cls (wMod cI q0 q1 q2 q3 q4 q5 q6 q7 v) t.heap) (ad [q0, q1, q2, q3, q4, q5, q6, q7])) [.ref q0, .int a1].toArray s 0 0 (ad [q0, q1, q2, q3, q4, q5, q6, q7])) (F0 m 4 ls []) := by
    intro n4
    induction n4 with
    | zero =>
      intro ls H locs l1 l2 l3 u hl hP hS hf
      rw [L_Mod_getMany_4_z] at hf
      cases hf
    | succ n4 ih4 =>
      intro ls H locs l1 l2 l3 u hl hP hS hf
      rw [L_Mod_getMany_4_s] at hf
      refine lv_iload_n hx hb d_Mod_getMany_4 rfl (lv_at hl 3 rfl) ?_
      refine lv_iload_n hx hb d_Mod_getMany_5 rfl (lv_at hl 1 rfl) ?_
      refine lv_icmp_ge (tgt := 31) hx hb d_Mod_getMany_6 (by decide) (fun hc => ?_) (fun hc => ?_)
      · have hf := bq_t hf hc
        refine lv_iload_n hx hb d_Mod_getMany_31 rfl (lv_at hl 2 rfl) ?_
        exact rt_i (wMod cI q0 q1 q2 q3 q4 q5 q6 q7) hx hb hr hlocks hS hP hf d_Mod_getMany_32
      have hf := bq_n hf hc
      refine lv_aload_n hx hb d_Mod_getMany_9 rfl (lv_at hl 0 rfl) ?_
      refine va_get (D := D) (ci := 7) (v := .int (u 0 20)) (C := R_Mod) (T := F_Mod) (N := 28) hx hb hw in_Mod hown hK hP 0 rfl rfl 24 (by decide) (hw _ m_480) (fun _ h9 => h9) rfl d_Mod_getMany_10 ?_
      refine lv_if_eq (tgt := 31) hx hb d_Mod_getMany_13 (by decide) (fun hc => ?_) (fun hc => ?_)
      · have hf := bq_t hf hc
        refine lv_iload_n hx hb d_Mod_getMany_31 rfl (lv_at hl 2 rfl) ?_
        exact rt_i (wMod cI q0 q1 q2 q3 q4 q5 q6 q7) hx hb hr hlocks hS hP hf d_Mod_getMany_32
      have hf := bq_n hf hc
      refine lv_iconst (v := 2) hx hb d_Mod_getMany_16 (by decide) ?_
      refine lv_iload_n hx hb d_Mod_getMany_17 rfl (lv_at hl 2 rfl) ?_
      refine lv_imul hx hb d_Mod_getMany_18 ?_
      refine lv_aload_n hx hb d_Mod_getMany_19 rfl (lv_at hl 0 rfl) ?_
      have hC : [0, 1, 2, 3, 4, 5, 6, 7].map (fun i => (wMod cI q0 q1 q2 q3 q4 q5 q6 q7 u)[i]?) = (wMod cI q0 q1 q2 q3 q4 q5 q6 q7 u).map some := rfl
      obtain ⟨w1, hc, hf⟩ := bd_o hf
      refine rw_i (va_runV (As := []) (rest := [.int (2 * l2)]) ⟨hx, hb, hml, hown, hw⟩ (c_Mod_get l D cI q0 q1 q2 q3 q4 q5 q6 q7 (dj_sub hd [0, 1, 2, 3, 4, 5, 6, 7] (by decide) rfl) u w1.1 w1.2 hc) (cwV 0 hw g_72 rfl rfl rfl (by decide +kernel) ⟨Nat.le_of_ble_eq_true rfl, Nat.le_of_ble_eq_true rfl⟩) (pre_V (P_sub hC hP) hK rfl rfl) rfl rfl hl.1 rfl (lv_room (Nat.le_of_ble_eq_true rfl)) d_Mod_getMany_20 ⟨Nat.le_of_ble_eq_true rfl, Nat.le_of_ble_eq_true rfl⟩) hS hP (hD _) hC rfl rfl (fun H locs hP hS => ?_)
      obtain ⟨u2, e_u2, hf⟩ := tk_o hf
      have hP : va_P D cls (wMod cI q0 q1 q2 q3 q4 q5 q6 q7 u2) H := by rw [e_u2]; exact hP
      refine lv_iadd hx hb d_Mod_getMany_23 ?_
      refine lv_topi (fun x3 e_x3 => ?_)
      have hf := tk_e hf e_x3
      refine lv_istore_n (lv' := [(2, .int x3), (0, .ref q0), (1, .int l1), (3, .int l3)]) hx hb d_Mod_getMany_24 rfl hl (by decide) rfl (fun ls hl => ?_)
      obtain ⟨x4, e_x4, hf⟩ := tk_o hf
      refine lv_iinc (v := x4) (lv' := [(3, .int x4), (2, .int x3), (0, .ref q0), (1, .int l1)]) hx hb d_Mod_getMany_25 hl (k := 3) rfl e_x4.symm (by decide) rfl (fun ls hl => ?_)
      refine lv_goto (tgt := 4) hx hb d_Mod_getMany_28 (by decide) ?_
      exact ih4 _ _ _ l1 x3 x4 u2 (lv_sub hl [2, 3, 1, 0] rfl) hP hS hf
  unfold f_Mod_getMany at hf
  refine lv_iconst (v := 0) hx hb d_Mod_getMany_0 (by decide) ?_
  refine lv_istore_n (lv' := [(2, .int 0), (0, .ref q0), (1, .int a1)]) hx hb d_Mod_getMany_1 rfl hl (by decide) rfl (fun ls hl => ?_)
  refine lv_iconst (v := 0) hx hb d_Mod_getMany_2 (by decide) ?_
  refine lv_istore_n (lv' := [(3, .int 0), (2, .int 0), (0, .ref q0), (1, .int a1)]) hx hb d_Mod_getMany_3 rfl hl (by decide) rfl (fun ls hl => ?_)
  exact lp4 2000 _ _ _ a1 0 0 u (lv_sub hl [2, 3, 1, 0] rfl) hP hS hf
def J_Mod_write_40 (l1 : Int32) (l2 : Int32) (l5 : Int32) (s1 : Int32) (s2 : Int32) (u : gU) : Option (gU) := bd (f_Mod_putMany s1 s2 u) fun w1 => tk (w1) fun u2 => bd (f_Mod_put 1 u2) fun w3 => tk (w3) fun u4 => bq (l5 = 0) (bd (f_Mod_putMany (l1 &&& ((1 <<< (l2 &&& 31)) - 1)) l2 u4) fun w5 => tk (w5) fun u6 => some u6) (bd (f_Mod_putMany (l1 - 1) (u4 0 7) u4) fun w7 => tk (w7) fun u8 => some u8)
def J_Mod_write_23 (l1 : Int32) (l2 : Int32) (l4 : Int32) (s0 : Int32) (u : gU) : Option (gU) := bq (s0 = 0) (J_Mod_write_40 l1 l2 s0 0 (l1 >>> (l2 &&& 31)) u) (J_Mod_write_40 l1 l2 s0 0 l4 u)
def f_Mod_write (a1 : Int32) (a2 : Int32) (a3 : Int32) (u : gU) : Option (gU) := tk ((a3 - (u 0 7)) - 1) fun x1 => bq ((a1 >>> (a2 &&& 31)) < x1) (J_Mod_write_23 a1 a2 x1 0 u) (J_Mod_write_23 a1 a2 x1 1 u)
set_option maxHeartbeats 4000000 in
set_option maxRecDepth 100000 in
theorem c_Mod_write (l : Launch) (D : va_G) (cI : ClassId) (q0 : Nat) (q1 : Nat) (q2 : Nat) (q3 : Nat) (q4 : Nat) (q5 : Nat) (q6 : Nat) (q7 : Nat) (hd : dj [q0, q1, q2, q3, q4, q5, q6, q7]) (a1 : Int32) (a2 : Int32) (a3 : Int32) (u : gU) (v : gU) (hf : f_Mod_write a1 a2 a3 u = some v) : Met l y_Mod_write (.code y_Mod_write b_Mod_write 6 none :: TS) ({ frames := 3, cells := 0, slots := 0, locals := 65 }) (va_Pc [.ref q0, .int a1, .int a2, .int a3] (fun U => va_P D cls (wMod cI q0 q1 q2 q3 q4 q5 q6 q7 u) U.heap ∧ va_K D cls [(cI, .int)] U)) (va_Qv (fun (_ : Unit) => True) (fun _ t => va_P D cls (wMod cI q0 q1 q2 q3 q4 q5 q6 q7 v) t.heap) (ad [q0, q1, q2, q3, q4, q5, q6, q7])) 0 0 (ad [q0, q1, q2, q3, q4, q5, q6, q7]) := by
  refine ct_of (by decide +kernel) (Nat.le_of_ble_eq_true rfl) ?_
  intro p e s m below meth c ls hx hb hml hr hlocks hown hw hP hK hl
  have hS : va_S (ad [q0, q1, q2, q3, q4, q5, q6, q7]) s.heap s.heap [] := va_S.rf
  have hD : ∀ v, va_D (ad [q0, q1, q2, q3, q4, q5, q6, q7]) (wMod cI q0 q1 q2 q3 q4 q5 q6 q7 v) := fun _ => dj_D rfl hd
  have hl : lv_has ls 6 [(0, .ref q0), (1, .int a1), (2, .int a2), (3, .int a3)] := hl
  have hP : va_P D cls (wMod cI q0 q1 q2 q3 q4 q5 q6 q7 u) s.heap := hP
  have j40 : ∀ (ls : Array Slot) (H : Heap) (locs : List Loc) (l1 : Int32) (l2 : Int32) (l5 : Int32) (s1 : Int32) (s2 : Int32) (u : gU), lv_has ls 6 [(0, .ref q0), (1, .int l1), (2, .int l2), (5, .int l5)] → va_P D cls (wMod cI q0 q1 q2 q3 q4 q5 q6 q7 u) H → va_S (ad [q0, q1, q2, q3, q4, q5, q6, q7]) s.heap H locs → J_Mod_write_40 l1 l2 l5 s1 s2 u = some v → W p l e ({ frames := 3, cells := 0, slots := 0, locals := 65 }) s m [.ref q0, .int a1, .int a2, .int a3].toArray below meth c H locs 0 0 (MQ below (va_Qv (fun (_ : Unit) => True) (fun _ t => va_P D cls (wMod cI q0 q1 q2 q3 q4 q5 q6 q7 v) t.heap) (ad [q0, q1, q2, q3, q4, q5, q6, q7])) [.ref q0, .int a1, .int a2, .int a3].toArray s 0 0 (ad [q0, q1, q2, q3, q4, q5, q6, q7])) (F0 m 40 ls [.int s2, .int s1, .ref q0]) := by
    intro ls H locs l1 l2 l5 s1 s2 u hl hP hS hf
    unfold J_Mod_write_40 at hf
    have hC : [0, 1, 2, 3, 4, 5, 6, 7].map (fun i => (wMod cI q0 q1 q2 q3 q4 q5 q6 q7 u)[i]?) = (wMod cI q0 q1 q2 q3 q4 q5 q6 q7 u).map some := rfl
    obtain ⟨w1, hc, hf⟩ := bd_o hf
    refine rw_v (va_runV (As := [.int s1, .int s2]) (rest := []) ⟨hx, hb, hml, hown, hw⟩ (c_Mod_putMany l D cI q0 q1 q2 q3 q4 q5 q6 q7 (dj_sub hd [0, 1, 2, 3, 4, 5, 6, 7] (by decide) rfl) s1 s2 u w1 hc) (cwV 2 hw g_73 rfl rfl rfl (by decide +kernel) ⟨Nat.le_of_ble_eq_true rfl, Nat.le_of_ble_eq_true rfl⟩) (pre_V (P_sub hC hP) hK rfl rfl) rfl rfl hl.1 rfl (lv_room (Nat.le_of_ble_eq_true rfl)) d_Mod_write_40 ⟨Nat.le_of_ble_eq_true rfl, Nat.le_of_ble_eq_true rfl⟩) hS hP (hD _) hC rfl rfl (fun H locs hP hS => ?_)
    obtain ⟨u2, e_u2, hf⟩ := tk_o hf
    have hP : va_P D cls (wMod cI q0 q1 q2 q3 q4 q5 q6 q7 u2) H := by rw [e_u2]; exact hP
    refine lv_aload_n hx hb d_Mod_write_43 rfl (lv_at hl 0 rfl) ?_
    refine lv_iconst (v := 1) hx hb d_Mod_write_44 (by decide) ?_
    have hC : [0, 1, 2, 3, 4, 5, 6, 7].map (fun i => (wMod cI q0 q1 q2 q3 q4 q5 q6 q7 u2)[i]?) = (wMod cI q0 q1 q2 q3 q4 q5 q6 q7 u2).map some := rfl
    obtain ⟨w3, hc, hf⟩ := bd_o hf
    refine rw_v (va_runV (As := [.int 1]) (rest := []) ⟨hx, hb, hml, hown, hw⟩ (c_Mod_put l D cI q0 q1 q2 q3 q4 q5 q6 q7 (dj_sub hd [0, 1, 2, 3, 4, 5, 6, 7] (by decide) rfl) 1 u2 w3 hc) (cwV 1 hw g_71 rfl rfl rfl (by decide +kernel) ⟨Nat.le_of_ble_eq_true rfl, Nat.le_of_ble_eq_true rfl⟩) (pre_V (P_sub hC hP) hK rfl rfl) rfl rfl hl.1 rfl (lv_room (Nat.le_of_ble_eq_true rfl)) d_Mod_write_45 ⟨Nat.le_of_ble_eq_true rfl, Nat.le_of_ble_eq_true rfl⟩) hS hP (hD _) hC rfl rfl (fun H locs hP hS => ?_)
    obtain ⟨u4, e_u4, hf⟩ := tk_o hf
    have hP : va_P D cls (wMod cI q0 q1 q2 q3 q4 q5 q6 q7 u4) H := by rw [e_u4]; exact hP
    refine lv_iload hx hb d_Mod_write_48 (lv_at hl 3 rfl) ?_
    refine lv_if_eq (tgt := 67) hx hb d_Mod_write_50 (by decide) (fun hc => ?_) (fun hc => ?_)
    · have hf := bq_t hf hc
      refine lv_aload_n hx hb d_Mod_write_67 rfl (lv_at hl 0 rfl) ?_
      refine lv_iload_n hx hb d_Mod_write_68 rfl (lv_at hl 1 rfl) ?_
      refine lv_iconst (v := 1) hx hb d_Mod_write_69 (by decide) ?_
      refine lv_iload_n hx hb d_Mod_write_70 rfl (lv_at hl 2 rfl) ?_
      refine lv_ishl hx hb d_Mod_write_71 ?_
      refine lv_iconst (v := 1) hx hb d_Mod_write_72 (by decide) ?_
      refine lv_isub hx hb d_Mod_write_73 ?_
      refine lv_iand hx hb d_Mod_write_74 ?_
      refine lv_iload_n hx hb d_Mod_write_75 rfl (lv_at hl 2 rfl) ?_
      have hC : [0, 1, 2, 3, 4, 5, 6, 7].map (fun i => (wMod cI q0 q1 q2 q3 q4 q5 q6 q7 u4)[i]?) = (wMod cI q0 q1 q2 q3 q4 q5 q6 q7 u4).map some := rfl
      obtain ⟨w5, hc, hf⟩ := bd_o hf
      refine rw_v (va_runV (As := [.int (l1 &&& ((1 <<< (l2 &&& 31)) - 1)), .int l2]) (rest := []) ⟨hx, hb, hml, hown, hw⟩ (c_Mod_putMany l D cI q0 q1 q2 q3 q4 q5 q6 q7 (dj_sub hd [0, 1, 2, 3, 4, 5, 6, 7] (by decide) rfl) (l1 &&& ((1 <<< (l2 &&& 31)) - 1)) l2 u4 w5 hc) (cwV 2 hw g_73 rfl rfl rfl (by decide +kernel) ⟨Nat.le_of_ble_eq_true rfl, Nat.le_of_ble_eq_true rfl⟩) (pre_V (P_sub hC hP) hK rfl rfl) rfl rfl hl.1 rfl (lv_room (Nat.le_of_ble_eq_true rfl)) d_Mod_write_76 ⟨Nat.le_of_ble_eq_true rfl, Nat.le_of_ble_eq_true rfl⟩) hS hP (hD _) hC rfl rfl (fun H locs hP hS => ?_)
      obtain ⟨u6, e_u6, hf⟩ := tk_o hf
      have hP : va_P D cls (wMod cI q0 q1 q2 q3 q4 q5 q6 q7 u6) H := by rw [e_u6]; exact hP
      exact rt_v (wMod cI q0 q1 q2 q3 q4 q5 q6 q7) hx hb hr hlocks hS hP hf d_Mod_write_79
    have hf := bq_n hf hc
    refine lv_aload_n hx hb d_Mod_write_53 rfl (lv_at hl 0 rfl) ?_
    refine lv_iload_n hx hb d_Mod_write_54 rfl (lv_at hl 1 rfl) ?_
    refine lv_iconst (v := 1) hx hb d_Mod_write_55 (by decide) ?_
    refine lv_isub hx hb d_Mod_write_56 ?_
    refine lv_aload_n hx hb d_Mod_write_57 rfl (lv_at hl 0 rfl) ?_
    refine va_get (D := D) (ci := 7) (v := .int (u4 0 7)) (C := R_Mod) (T := F_Mod) (N := 28) hx hb hw in_Mod hown hK hP 0 rfl rfl 7 (by decide) (hw _ m_435) (fun _ h9 => h9) rfl d_Mod_write_58 ?_
    have hC : [0, 1, 2, 3, 4, 5, 6, 7].map (fun i => (wMod cI q0 q1 q2 q3 q4 q5 q6 q7 u4)[i]?) = (wMod cI q0 q1 q2 q3 q4 q5 q6 q7 u4).map some := rfl
    obtain ⟨w7, hc, hf⟩ := bd_o hf
    refine rw_v (va_runV (As := [.int (l1 - 1), .int (u4 0 7)]) (rest := []) ⟨hx, hb, hml, hown, hw⟩ (c_Mod_putMany l D cI q0 q1 q2 q3 q4 q5 q6 q7 (dj_sub hd [0, 1, 2, 3, 4, 5, 6, 7] (by decide) rfl) (l1 - 1) (u4 0 7) u4 w7 hc) (cwV 2 hw g_73 rfl rfl rfl (by decide +kernel) ⟨Nat.le_of_ble_eq_true rfl, Nat.le_of_ble_eq_true rfl⟩) (pre_V (P_sub hC hP) hK rfl rfl) rfl rfl hl.1 rfl (lv_room (Nat.le_of_ble_eq_true rfl)) d_Mod_write_61 ⟨Nat.le_of_ble_eq_true rfl, Nat.le_of_ble_eq_true rfl⟩) hS hP (hD _) hC rfl rfl (fun H locs hP hS => ?_)
    obtain ⟨u8, e_u8, hf⟩ := tk_o hf
    have hP : va_P D cls (wMod cI q0 q1 q2 q3 q4 q5 q6 q7 u8) H := by rw [e_u8]; exact hP
    refine lv_goto (tgt := 79) hx hb d_Mod_write_64 (by decide) ?_
    exact rt_v (wMod cI q0 q1 q2 q3 q4 q5 q6 q7) hx hb hr hlocks hS hP hf d_Mod_write_79
  have j23 : ∀ (ls : Array Slot) (H : Heap) (locs : List Loc) (l1 : Int32) (l2 : Int32) (l4 : Int32) (s0 : Int32) (u : gU), lv_has ls 6 [(0, .ref q0), (1, .int l1), (2, .int l2), (4, .int l4)] → va_P D cls (wMod cI q0 q1 q2 q3 q4 q5 q6 q7 u) H → va_S (ad [q0, q1, q2, q3, q4, q5, q6, q7]) s.heap H locs → J_Mod_write_23 l1 l2 l4 s0 u = some v → W p l e ({ frames := 3, cells := 0, slots := 0, locals := 65 }) s m [.ref q0, .int a1, .int a2, .int a3].toArray below meth c H locs 0 0 (MQ below (va_Qv (fun (_ : Unit) => True) (fun _ t => va_P D cls (wMod cI q0 q1 q2 q3 q4 q5 q6 q7 v) t.heap) (ad [q0, q1, q2, q3, q4, q5, q6, q7])) [.ref q0, .int a1, .int a2, .int a3].toArray s 0 0 (ad [q0, q1, q2, q3, q4, q5, q6, q7])) (F0 m 23 ls [.int s0]) := by
    intro ls H locs l1 l2 l4 s0 u hl hP hS hf
    unfold J_Mod_write_23 at hf
    refine lv_istore (lv' := [(5, .int s0), (0, .ref q0), (1, .int l1), (2, .int l2), (4, .int l4)]) hx hb d_Mod_write_23 hl (by decide) rfl (fun ls hl => ?_)
    refine lv_aload_n hx hb d_Mod_write_25 rfl (lv_at hl 1 rfl) ?_
    refine lv_iconst (v := 0) hx hb d_Mod_write_26 (by decide) ?_
    refine lv_iload hx hb d_Mod_write_27 (lv_at hl 0 rfl) ?_
    refine lv_if_eq (tgt := 37) hx hb d_Mod_write_29 (by decide) (fun hc => ?_) (fun hc => ?_)
    · have hf := bq_t hf hc
      refine lv_iload_n hx hb d_Mod_write_37 rfl (lv_at hl 2 rfl) ?_
      refine lv_iload_n hx hb d_Mod_write_38 rfl (lv_at hl 3 rfl) ?_
      refine lv_ishr hx hb d_Mod_write_39 ?_
      exact j40 _ _ _ l1 l2 s0 0 (l1 >>> (l2 &&& 31)) u (lv_sub hl [1, 2, 3, 0] rfl) hP hS hf
    have hf := bq_n hf hc
    refine lv_iload hx hb d_Mod_write_32 (lv_at hl 4 rfl) ?_
    refine lv_goto (tgt := 40) hx hb d_Mod_write_34 (by decide) ?_
    exact j40 _ _ _ l1 l2 s0 0 l4 u (lv_sub hl [1, 2, 3, 0] rfl) hP hS hf
  unfold f_Mod_write at hf
  refine lv_iload_n hx hb d_Mod_write_0 rfl (lv_at hl 3 rfl) ?_
  refine lv_aload_n hx hb d_Mod_write_1 rfl (lv_at hl 0 rfl) ?_
  refine va_get (D := D) (ci := 7) (v := .int (u 0 7)) (C := R_Mod) (T := F_Mod) (N := 28) hx hb hw in_Mod hown hK hP 0 rfl rfl 7 (by decide) (hw _ m_435) (fun _ h9 => h9) rfl d_Mod_write_2 ?_
  refine lv_isub hx hb d_Mod_write_5 ?_
  refine lv_iconst (v := 1) hx hb d_Mod_write_6 (by decide) ?_
  refine lv_isub hx hb d_Mod_write_7 ?_
  refine lv_topi (fun x1 e_x1 => ?_)
  have hf := tk_e hf e_x1
  refine lv_istore (lv' := [(4, .int x1), (0, .ref q0), (1, .int a1), (2, .int a2), (3, .int a3)]) hx hb d_Mod_write_8 hl (by decide) rfl (fun ls hl => ?_)
  refine lv_iload_n hx hb d_Mod_write_10 rfl (lv_at hl 2 rfl) ?_
  refine lv_iload_n hx hb d_Mod_write_11 rfl (lv_at hl 3 rfl) ?_
  refine lv_ishr hx hb d_Mod_write_12 ?_
  refine lv_iload hx hb d_Mod_write_13 (lv_at hl 0 rfl) ?_
  refine lv_icmp_lt (tgt := 22) hx hb d_Mod_write_15 (by decide) (fun hc => ?_) (fun hc => ?_)
  · have hf := bq_t hf hc
    refine lv_iconst (v := 0) hx hb d_Mod_write_22 (by decide) ?_
    exact j23 _ _ _ a1 a2 x1 0 u (lv_sub hl [1, 2, 3, 0] rfl) hP hS hf
  have hf := bq_n hf hc
  refine lv_iconst (v := 1) hx hb d_Mod_write_18 (by decide) ?_
  refine lv_goto (tgt := 23) hx hb d_Mod_write_19 (by decide) ?_
  exact j23 _ _ _ a1 a2 x1 1 u (lv_sub hl [1, 2, 3, 0] rfl) hP hS hf
def J_Mod_read_43 (l1 : Int32) (l3 : Int32) (l4 : Int32) (u : gU) : Option (Int32 × gU) := bq (l4 = l3) (bd (f_Mod_getMany (u 0 7) u) fun w3 => tk (w3.2) fun u4 => some (w3.1 + 1, u4)) (bd (f_Mod_getMany l1 u) fun w1 => tk (w1.2) fun u2 => some ((l4 <<< (l1 &&& 31)) ||| w1.1, u2))
def L_Mod_read_12 : Nat → Int32 → Int32 → Int32 → gU → Option (Int32 × gU)
  | 0, _, _, _, _ => none
  | n + 1, l1, l3, l4, u => bq ((u 0 20) = 0) (J_Mod_read_43 l1 l3 l4 u) (bd (f_Mod_get u) fun w1 => tk (w1.2) fun u2 => bq (w1.1 = 0) (tk (l4 + 1) fun x3 => bq (x3 ≤ l3) ((L_Mod_read_12 n) l1 l3 x3 u2) (tk (st2 u2 0 20 0) fun u4 => (L_Mod_read_12 n) l1 l3 x3 u4)) (J_Mod_read_43 l1 l3 l4 u2))
theorem L_Mod_read_12_z (l1 : Int32) (l3 : Int32) (l4 : Int32) (u : gU) : L_Mod_read_12 0 l1 l3 l4 u = none := rfl
theorem L_Mod_read_12_s (n : Nat) (l1 : Int32) (l3 : Int32) (l4 : Int32) (u : gU) : L_Mod_read_12 (n + 1) l1 l3 l4 u = bq ((u 0 20) = 0) (J_Mod_read_43 l1 l3 l4 u) (bd (f_Mod_get u) fun w1 => tk (w1.2) fun u2 => bq (w1.1 = 0) (tk (l4 + 1) fun x3 => bq (x3 ≤ l3) ((L_Mod_read_12 n) l1 l3 x3 u2) (tk (st2 u2 0 20 0) fun u4 => (L_Mod_read_12 n) l1 l3 x3 u4)) (J_Mod_read_43 l1 l3 l4 u2)) := rfl
def f_Mod_read (a1 : Int32) (a2 : Int32) (u : gU) : Option (Int32 × gU) := tk ((a2 - (u 0 7)) - 1) fun x1 => L_Mod_read_12 2000 a1 x1 0 u
set_option maxHeartbeats 4000000 in
set_option maxRecDepth 100000 in
theorem c_Mod_read (l : Launch) (D : va_G) (cI : ClassId) (q0 : Nat) (q1 : Nat) (q2 : Nat) (q3 : Nat) (q4 : Nat) (q5 : Nat) (q6 : Nat) (q7 : Nat) (hd : dj [q0, q1, q2, q3, q4, q5, q6, q7]) (a1 : Int32) (a2 : Int32) (u : gU) (r : Int32) (v : gU) (hf : f_Mod_read a1 a2 u = some (r, v)) : Met l y_Mod_read (.code y_Mod_read b_Mod_read 5 (some .int) :: TS) ({ frames := 2, cells := 0, slots := 0, locals := 44 }) (va_Pc [.ref q0, .int a1, .int a2] (fun U => va_P D cls (wMod cI q0 q1 q2 q3 q4 q5 q6 q7 u) U.heap ∧ va_K D cls [(cI, .int)] U)) (va_Qi (fun x (_ : Unit) => x = r) (fun _ t => va_P D cls (wMod cI q0 q1 q2 q3 q4 q5 q6 q7 v) t.heap) (ad [q0, q1, q2, q3, q4, q5, q6, q7])) 0 0 (ad [q0, q1, q2, q3, q4, q5, q6, q7]) := by
  refine ct_of (by decide +kernel) (Nat.le_of_ble_eq_true rfl) ?_
  intro p e s m below meth c ls hx hb hml hr hlocks hown hw hP hK hl
  have hS : va_S (ad [q0, q1, q2, q3, q4, q5, q6, q7]) s.heap s.heap [] := va_S.rf
  have hD : ∀ v, va_D (ad [q0, q1, q2, q3, q4, q5, q6, q7]) (wMod cI q0 q1 q2 q3 q4 q5 q6 q7 v) := fun _ => dj_D rfl hd
  have hl : lv_has ls 5 [(0, .ref q0), (1, .int a1), (2, .int a2)] := hl
  have hP : va_P D cls (wMod cI q0 q1 q2 q3 q4 q5 q6 q7 u) s.heap := hP
  have j43 : ∀ (ls : Array Slot) (H : Heap) (locs : List Loc) (l1 : Int32) (l3 : Int32) (l4 : Int32) (u : gU), lv_has ls 5 [(0, .ref q0), (1, .int l1), (3, .int l3), (4, .int l4)] → va_P D cls (wMod cI q0 q1 q2 q3 q4 q5 q6 q7 u) H → va_S (ad [q0, q1, q2, q3, q4, q5, q6, q7]) s.heap H locs → J_Mod_read_43 l1 l3 l4 u = some (r, v) → W p l e ({ frames := 2, cells := 0, slots := 0, locals := 44 }) s m [.ref q0, .int a1, .int a2].toArray below meth c H locs 0 0 (MQ below (va_Qi (fun x (_ : Unit) => x = r) (fun _ t => va_P D cls (wMod cI q0 q1 q2 q3 q4 q5 q6 q7 v) t.heap) (ad [q0, q1, q2, q3, q4, q5, q6, q7])) [.ref q0, .int a1, .int a2].toArray s 0 0 (ad [q0, q1, q2, q3, q4, q5, q6, q7])) (F0 m 43 ls []) := by
    intro ls H locs l1 l3 l4 u hl hP hS hf
    unfold J_Mod_read_43 at hf
    refine lv_iload hx hb d_Mod_read_43 (lv_at hl 3 rfl) ?_
    refine lv_iload_n hx hb d_Mod_read_45 rfl (lv_at hl 2 rfl) ?_
    refine lv_icmp_ne (tgt := 62) hx hb d_Mod_read_46 (by decide) (fun hc => ?_) (fun hc => ?_)
    · have hf := bq_n hf hc
      refine lv_iload hx hb d_Mod_read_62 (lv_at hl 3 rfl) ?_
      refine lv_iload_n hx hb d_Mod_read_64 rfl (lv_at hl 1 rfl) ?_
      refine lv_ishl hx hb d_Mod_read_65 ?_
      refine lv_aload_n hx hb d_Mod_read_66 rfl (lv_at hl 0 rfl) ?_
      refine lv_iload_n hx hb d_Mod_read_67 rfl (lv_at hl 1 rfl) ?_
      have hC : [0, 1, 2, 3, 4, 5, 6, 7].map (fun i => (wMod cI q0 q1 q2 q3 q4 q5 q6 q7 u)[i]?) = (wMod cI q0 q1 q2 q3 q4 q5 q6 q7 u).map some := rfl
      obtain ⟨w1, hc, hf⟩ := bd_o hf
      refine rw_i (va_runV (As := [.int l1]) (rest := [.int (l4 <<< (l1 &&& 31))]) ⟨hx, hb, hml, hown, hw⟩ (c_Mod_getMany l D cI q0 q1 q2 q3 q4 q5 q6 q7 (dj_sub hd [0, 1, 2, 3, 4, 5, 6, 7] (by decide) rfl) l1 u w1.1 w1.2 hc) (cwV 1 hw g_74 rfl rfl rfl (by decide +kernel) ⟨Nat.le_of_ble_eq_true rfl, Nat.le_of_ble_eq_true rfl⟩) (pre_V (P_sub hC hP) hK rfl rfl) rfl rfl hl.1 rfl (lv_room (Nat.le_of_ble_eq_true rfl)) d_Mod_read_68 ⟨Nat.le_of_ble_eq_true rfl, Nat.le_of_ble_eq_true rfl⟩) hS hP (hD _) hC rfl rfl (fun H locs hP hS => ?_)
      obtain ⟨u2, e_u2, hf⟩ := tk_o hf
      have hP : va_P D cls (wMod cI q0 q1 q2 q3 q4 q5 q6 q7 u2) H := by rw [e_u2]; exact hP
      refine lv_ior hx hb d_Mod_read_71 ?_
      exact rt_i (wMod cI q0 q1 q2 q3 q4 q5 q6 q7) hx hb hr hlocks hS hP hf d_Mod_read_72
    have hf := bq_t hf hc
    refine lv_aload_n hx hb d_Mod_read_49 rfl (lv_at hl 0 rfl) ?_
    refine lv_aload_n hx hb d_Mod_read_50 rfl (lv_at hl 0 rfl) ?_
    refine va_get (D := D) (ci := 7) (v := .int (u 0 7)) (C := R_Mod) (T := F_Mod) (N := 28) hx hb hw in_Mod hown hK hP 0 rfl rfl 7 (by decide) (hw _ m_435) (fun _ h9 => h9) rfl d_Mod_read_51 ?_
    have hC : [0, 1, 2, 3, 4, 5, 6, 7].map (fun i => (wMod cI q0 q1 q2 q3 q4 q5 q6 q7 u)[i]?) = (wMod cI q0 q1 q2 q3 q4 q5 q6 q7 u).map some := rfl
    obtain ⟨w3, hc, hf⟩ := bd_o hf
    refine rw_i (va_runV (As := [.int (u 0 7)]) (rest := []) ⟨hx, hb, hml, hown, hw⟩ (c_Mod_getMany l D cI q0 q1 q2 q3 q4 q5 q6 q7 (dj_sub hd [0, 1, 2, 3, 4, 5, 6, 7] (by decide) rfl) (u 0 7) u w3.1 w3.2 hc) (cwV 1 hw g_74 rfl rfl rfl (by decide +kernel) ⟨Nat.le_of_ble_eq_true rfl, Nat.le_of_ble_eq_true rfl⟩) (pre_V (P_sub hC hP) hK rfl rfl) rfl rfl hl.1 rfl (lv_room (Nat.le_of_ble_eq_true rfl)) d_Mod_read_54 ⟨Nat.le_of_ble_eq_true rfl, Nat.le_of_ble_eq_true rfl⟩) hS hP (hD _) hC rfl rfl (fun H locs hP hS => ?_)
    obtain ⟨u4, e_u4, hf⟩ := tk_o hf
    have hP : va_P D cls (wMod cI q0 q1 q2 q3 q4 q5 q6 q7 u4) H := by rw [e_u4]; exact hP
    refine lv_iconst (v := 1) hx hb d_Mod_read_57 (by decide) ?_
    refine lv_iadd hx hb d_Mod_read_58 ?_
    refine lv_goto (tgt := 72) hx hb d_Mod_read_59 (by decide) ?_
    exact rt_i (wMod cI q0 q1 q2 q3 q4 q5 q6 q7) hx hb hr hlocks hS hP hf d_Mod_read_72
  have lp12 : ∀ (n12 : Nat), ∀ (ls : Array Slot) (H : Heap) (locs : List Loc) (l1 : Int32) (l3 : Int32) (l4 : Int32) (u : gU), lv_has ls 5 [(0, .ref q0), (1, .int l1), (3, .int l3), (4, .int l4)] → va_P D cls (wMod cI q0 q1 q2 q3 q4 q5 q6 q7 u) H → va_S (ad [q0, q1, q2, q3, q4, q5, q6, q7]) s.heap H locs → L_Mod_read_12 n12 l1 l3 l4 u = some (r, v) → W p l e ({ frames := 2, cells := 0, slots := 0, locals := 44 }) s m [.ref q0, .int a1, .int a2].toArray below meth c H locs 0 0 (MQ below (va_Qi (fun x (_ : Unit) => x = r) (fun _ t => va_P D cls (wMod cI q0 q1 q2 q3 q4 q5 q6 q7 v) t.heap) (ad [q0, q1, q2, q3, q4, q5, q6, q7])) [.ref q0, .int a1, .int a2].toArray s 0 0 (ad [q0, q1, q2, q3, q4, q5, q6, q7])) (F0 m 12 ls []) := by
    intro n12
    induction n12 with
    | zero =>
      intro ls H locs l1 l3 l4 u hl hP hS hf
      rw [L_Mod_read_12_z] at hf
      cases hf
    | succ n12 ih12 =>
      intro ls H locs l1 l3 l4 u hl hP hS hf
      rw [L_Mod_read_12_s] at hf
      refine lv_aload_n hx hb d_Mod_read_12 rfl (lv_at hl 0 rfl) ?_
      refine va_get (D := D) (ci := 7) (v := .int (u 0 20)) (C := R_Mod) (T := F_Mod) (N := 28) hx hb hw in_Mod hown hK hP 0 rfl rfl 24 (by decide) (hw _ m_480) (fun _ h9 => h9) rfl d_Mod_read_13 ?_
      refine lv_if_eq (tgt := 43) hx hb d_Mod_read_16 (by decide) (fun hc => ?_) (fun hc => ?_)
      · have hf := bq_t hf hc
        exact j43 _ _ _ l1 l3 l4 u (lv_sub hl [0, 1, 2, 3] rfl) hP hS hf
      have hf := bq_n hf hc
      refine lv_aload_n hx hb d_Mod_read_19 rfl (lv_at hl 0 rfl) ?_
      have hC : [0, 1, 2, 3, 4, 5, 6, 7].map (fun i => (wMod cI q0 q1 q2 q3 q4 q5 q6 q7 u)[i]?) = (wMod cI q0 q1 q2 q3 q4 q5 q6 q7 u).map some := rfl
      obtain ⟨w1, hc, hf⟩ := bd_o hf
      refine rw_i (va_runV (As := []) (rest := []) ⟨hx, hb, hml, hown, hw⟩ (c_Mod_get l D cI q0 q1 q2 q3 q4 q5 q6 q7 (dj_sub hd [0, 1, 2, 3, 4, 5, 6, 7] (by decide) rfl) u w1.1 w1.2 hc) (cwV 0 hw g_72 rfl rfl rfl (by decide +kernel) ⟨Nat.le_of_ble_eq_true rfl, Nat.le_of_ble_eq_true rfl⟩) (pre_V (P_sub hC hP) hK rfl rfl) rfl rfl hl.1 rfl (lv_room (Nat.le_of_ble_eq_true rfl)) d_Mod_read_20 ⟨Nat.le_of_ble_eq_true rfl, Nat.le_of_ble_eq_true rfl⟩) hS hP (hD _) hC rfl rfl (fun H locs hP hS => ?_)
      obtain ⟨u2, e_u2, hf⟩ := tk_o hf
      have hP : va_P D cls (wMod cI q0 q1 q2 q3 q4 q5 q6 q7 u2) H := by rw [e_u2]; exact hP
      refine lv_if_ne (tgt := 43) hx hb d_Mod_read_23 (by decide) (fun hc => ?_) (fun hc => ?_)
      · have hf := bq_n hf hc
        exact j43 _ _ _ l1 l3 l4 u2 (lv_sub hl [0, 1, 2, 3] rfl) hP hS hf
      have hf := bq_t hf hc
      obtain ⟨x3, e_x3, hf⟩ := tk_o hf
      refine lv_iinc (v := x3) (lv' := [(4, .int x3), (0, .ref q0), (1, .int l1), (3, .int l3)]) hx hb d_Mod_read_26 hl (k := 3) rfl e_x3.symm (by decide) rfl (fun ls hl => ?_)
      refine lv_iload hx hb d_Mod_read_29 (lv_at hl 0 rfl) ?_
      refine lv_iload_n hx hb d_Mod_read_31 rfl (lv_at hl 3 rfl) ?_
      refine lv_icmp_le (tgt := 12) hx hb d_Mod_read_32 (by decide) (fun hc => ?_) (fun hc => ?_)
      · have hf := bq_t hf hc
        exact ih12 _ _ _ l1 l3 x3 u2 (lv_sub hl [1, 2, 3, 0] rfl) hP hS hf
      have hf := bq_n hf hc
      refine lv_aload_n hx hb d_Mod_read_35 rfl (lv_at hl 1 rfl) ?_
      refine lv_iconst (v := 0) hx hb d_Mod_read_36 (by decide) ?_
      refine va_put (D := D) (ci := 7) (v := .int 0) (ty := .boolean) (C := R_Mod) (T := F_Mod) (N := 28) hx hb hw in_Mod t_Mod t_Mod_ok n_Mod hown hK hP (hD _) hS 0 rfl rfl 24 (by decide) (hw _ m_480) (fun _ h9 => h9) rfl (by decide +kernel) rfl rfl (Nat.le_of_ble_eq_true rfl) d_Mod_read_37 (fun H locs hP _ hS => ?_)
      obtain ⟨u4, e_u4, hf⟩ := tk_o hf
      have hP : va_P D cls (wMod cI q0 q1 q2 q3 q4 q5 q6 q7 u4) H := by rw [e_u4]; exact hP
      refine lv_goto (tgt := 12) hx hb d_Mod_read_40 (by decide) ?_
      exact ih12 _ _ _ l1 l3 x3 u4 (lv_sub hl [1, 2, 3, 0] rfl) hP hS hf
  unfold f_Mod_read at hf
  refine lv_iload_n hx hb d_Mod_read_0 rfl (lv_at hl 2 rfl) ?_
  refine lv_aload_n hx hb d_Mod_read_1 rfl (lv_at hl 0 rfl) ?_
  refine va_get (D := D) (ci := 7) (v := .int (u 0 7)) (C := R_Mod) (T := F_Mod) (N := 28) hx hb hw in_Mod hown hK hP 0 rfl rfl 7 (by decide) (hw _ m_435) (fun _ h9 => h9) rfl d_Mod_read_2 ?_
  refine lv_isub hx hb d_Mod_read_5 ?_
  refine lv_iconst (v := 1) hx hb d_Mod_read_6 (by decide) ?_
  refine lv_isub hx hb d_Mod_read_7 ?_
  refine lv_topi (fun x1 e_x1 => ?_)
  have hf := tk_e hf e_x1
  refine lv_istore_n (lv' := [(3, .int x1), (0, .ref q0), (1, .int a1), (2, .int a2)]) hx hb d_Mod_read_8 rfl hl (by decide) rfl (fun ls hl => ?_)
  refine lv_iconst (v := 0) hx hb d_Mod_read_9 (by decide) ?_
  refine lv_istore (lv' := [(4, .int 0), (3, .int x1), (0, .ref q0), (1, .int a1), (2, .int a2)]) hx hb d_Mod_read_10 hl (by decide) rfl (fun ls hl => ?_)
  exact lp12 2000 _ _ _ a1 x1 0 u (lv_sub hl [2, 3, 1, 0] rfl) hP hS hf
def f_Mod_value (a1 : Int32) (a2 : Int32) (u : gU) : Option (Int32) := bq (0 ≤ a2) (gd (ix ((8 * a2) + a1) 64) (some (u 2 (tc ((8 * a2) + a1))))) (some 0)
set_option maxHeartbeats 4000000 in
set_option maxRecDepth 100000 in
theorem c_Mod_value (l : Launch) (D : va_G) (cI : ClassId) (q0 : Nat) (q1 : Nat) (q2 : Nat) (q3 : Nat) (q4 : Nat) (q5 : Nat) (q6 : Nat) (q7 : Nat) (a1 : Int32) (a2 : Int32) (u : gU) (r : Int32) (hf : f_Mod_value a1 a2 u = some r) : Met l y_Mod_value (.code y_Mod_value b_Mod_value 3 (some .int) :: TS) ({ frames := 0, cells := 0, slots := 0, locals := 0 }) (va_Pc [.ref q0, .int a1, .int a2] (fun U => va_P D cls (wMod cI q0 q1 q2 q3 q4 q5 q6 q7 u) U.heap ∧ va_K D cls [(cI, .int)] U)) (va_Qi (fun x (_ : Unit) => x = r) (fun _ _ => True) (fun _ => False)) 0 0 (fun _ => False) := by
  refine ct_of (by decide +kernel) (Nat.le_of_ble_eq_true rfl) ?_
  intro p e s m below meth c ls hx hb hml hr hlocks hown hw hP hK hl
  have hS : va_S (fun _ => False) s.heap s.heap [] := va_S.rf
  have hl : lv_has ls 3 [(0, .ref q0), (1, .int a1), (2, .int a2)] := hl
  have hP : va_P D cls (wMod cI q0 q1 q2 q3 q4 q5 q6 q7 u) s.heap := hP
  unfold f_Mod_value at hf
  refine lv_iload_n hx hb d_Mod_value_0 rfl (lv_at hl 2 rfl) ?_
  refine lv_if_ge (tgt := 8) hx hb d_Mod_value_1 (by decide) (fun hc => ?_) (fun hc => ?_)
  · have hf := bq_t hf hc
    refine lv_aload_n hx hb d_Mod_value_8 rfl (lv_at hl 0 rfl) ?_
    refine va_get (D := D) (ci := 7) (v := .ref q2) (C := R_Mod) (T := F_Mod) (N := 28) hx hb hw in_Mod hown hK hP 0 rfl rfl 13 (by decide) (hw _ m_447) (fun _ h9 => h9) rfl d_Mod_value_9 ?_
    refine lv_bipush (v := 8) hx hb d_Mod_value_12 (by decide) ?_
    refine lv_iload_n hx hb d_Mod_value_14 rfl (lv_at hl 2 rfl) ?_
    refine lv_imul hx hb d_Mod_value_15 ?_
    refine lv_iload_n hx hb d_Mod_value_16 rfl (lv_at hl 1 rfl) ?_
    refine lv_iadd hx hb d_Mod_value_17 ?_
    obtain ⟨h1, hf⟩ := gd_o hf
    refine va_iald hx hb hK hP 2 0 rfl rfl (ix_in h1) d_Mod_value_18 ?_
    exact rt_roi hx hb hr hlocks hS hf d_Mod_value_19
  have hf := bq_n hf hc
  refine lv_iconst (v := 0) hx hb d_Mod_value_4 (by decide) ?_
  refine lv_goto (tgt := 19) hx hb d_Mod_value_5 (by decide) ?_
  exact rt_roi hx hb hr hlocks hS hf d_Mod_value_19
def f_Mod_above (a1 : Int32) (a2 : Int32) (u : gU) : Option (Int32) := bd (f_Mod_value a1 (a2 - 1) u) fun x1 => some x1
set_option maxHeartbeats 4000000 in
set_option maxRecDepth 100000 in
theorem c_Mod_above (l : Launch) (D : va_G) (cI : ClassId) (q0 : Nat) (q1 : Nat) (q2 : Nat) (q3 : Nat) (q4 : Nat) (q5 : Nat) (q6 : Nat) (q7 : Nat) (a1 : Int32) (a2 : Int32) (u : gU) (r : Int32) (hf : f_Mod_above a1 a2 u = some r) : Met l y_Mod_above (.code y_Mod_above b_Mod_above 3 (some .int) :: TS) ({ frames := 1, cells := 0, slots := 0, locals := 22 }) (va_Pc [.ref q0, .int a1, .int a2] (fun U => va_P D cls (wMod cI q0 q1 q2 q3 q4 q5 q6 q7 u) U.heap ∧ va_K D cls [(cI, .int)] U)) (va_Qi (fun x (_ : Unit) => x = r) (fun _ _ => True) (fun _ => False)) 0 0 (fun _ => False) := by
  refine ct_of (by decide +kernel) (Nat.le_of_ble_eq_true rfl) ?_
  intro p e s m below meth c ls hx hb hml hr hlocks hown hw hP hK hl
  have hS : va_S (fun _ => False) s.heap s.heap [] := va_S.rf
  have hl : lv_has ls 3 [(0, .ref q0), (1, .int a1), (2, .int a2)] := hl
  have hP : va_P D cls (wMod cI q0 q1 q2 q3 q4 q5 q6 q7 u) s.heap := hP
  unfold f_Mod_above at hf
  refine lv_aload_n hx hb d_Mod_above_0 rfl (lv_at hl 0 rfl) ?_
  refine lv_iload_n hx hb d_Mod_above_1 rfl (lv_at hl 1 rfl) ?_
  refine lv_iload_n hx hb d_Mod_above_2 rfl (lv_at hl 2 rfl) ?_
  refine lv_iconst (v := 1) hx hb d_Mod_above_3 (by decide) ?_
  refine lv_isub hx hb d_Mod_above_4 ?_
  have hC : [0, 1, 2, 3, 4, 5, 6, 7].map (fun i => (wMod cI q0 q1 q2 q3 q4 q5 q6 q7 u)[i]?) = (wMod cI q0 q1 q2 q3 q4 q5 q6 q7 u).map some := rfl
  obtain ⟨x1, hc, hf⟩ := bd_o hf
  refine ro_i (va_runV (As := [.int a1, .int (a2 - 1)]) (rest := []) ⟨hx, hb, hml, hown, hw⟩ (c_Mod_value l D cI q0 q1 q2 q3 q4 q5 q6 q7 a1 (a2 - 1) u x1 hc) (cwV 2 hw g_75 rfl rfl rfl (by decide +kernel) ⟨Nat.le_of_ble_eq_true rfl, Nat.le_of_ble_eq_true rfl⟩) (pre_V (P_sub hC hP) hK rfl rfl) rfl rfl hl.1 rfl (lv_room (Nat.le_of_ble_eq_true rfl)) d_Mod_above_5 ⟨Nat.le_of_ble_eq_true rfl, Nat.le_of_ble_eq_true rfl⟩) hS hP (fun H locs hP hS => ?_)
  exact rt_roi hx hb hr hlocks hS hf d_Mod_above_8
def f_Mod_before (a1 : Int32) (a2 : Int32) (u : gU) : Option (Int32) := bq (a1 ≤ 0) (bd (f_Mod_above 0 a2 u) fun x1 => some x1) (bd (f_Mod_value (a1 - 1) a2 u) fun x2 => some x2)
set_option maxHeartbeats 4000000 in
set_option maxRecDepth 100000 in
theorem c_Mod_before (l : Launch) (D : va_G) (cI : ClassId) (q0 : Nat) (q1 : Nat) (q2 : Nat) (q3 : Nat) (q4 : Nat) (q5 : Nat) (q6 : Nat) (q7 : Nat) (a1 : Int32) (a2 : Int32) (u : gU) (r : Int32) (hf : f_Mod_before a1 a2 u = some r) : Met l y_Mod_before (.code y_Mod_before b_Mod_before 3 (some .int) :: TS) ({ frames := 2, cells := 0, slots := 0, locals := 44 }) (va_Pc [.ref q0, .int a1, .int a2] (fun U => va_P D cls (wMod cI q0 q1 q2 q3 q4 q5 q6 q7 u) U.heap ∧ va_K D cls [(cI, .int)] U)) (va_Qi (fun x (_ : Unit) => x = r) (fun _ _ => True) (fun _ => False)) 0 0 (fun _ => False) := by
  refine ct_of (by decide +kernel) (Nat.le_of_ble_eq_true rfl) ?_
  intro p e s m below meth c ls hx hb hml hr hlocks hown hw hP hK hl
  have hS : va_S (fun _ => False) s.heap s.heap [] := va_S.rf
  have hl : lv_has ls 3 [(0, .ref q0), (1, .int a1), (2, .int a2)] := hl
  have hP : va_P D cls (wMod cI q0 q1 q2 q3 q4 q5 q6 q7 u) s.heap := hP
  unfold f_Mod_before at hf
  refine lv_iload_n hx hb d_Mod_before_0 rfl (lv_at hl 1 rfl) ?_
  refine lv_if_le (tgt := 15) hx hb d_Mod_before_1 (by decide) (fun hc => ?_) (fun hc => ?_)
  · have hf := bq_t hf hc
    refine lv_aload_n hx hb d_Mod_before_15 rfl (lv_at hl 0 rfl) ?_
    refine lv_iconst (v := 0) hx hb d_Mod_before_16 (by decide) ?_
    refine lv_iload_n hx hb d_Mod_before_17 rfl (lv_at hl 2 rfl) ?_
    have hC : [0, 1, 2, 3, 4, 5, 6, 7].map (fun i => (wMod cI q0 q1 q2 q3 q4 q5 q6 q7 u)[i]?) = (wMod cI q0 q1 q2 q3 q4 q5 q6 q7 u).map some := rfl
    obtain ⟨x1, hc, hf⟩ := bd_o hf
    refine ro_i (va_runV (As := [.int 0, .int a2]) (rest := []) ⟨hx, hb, hml, hown, hw⟩ (c_Mod_above l D cI q0 q1 q2 q3 q4 q5 q6 q7 0 a2 u x1 hc) (cwV 2 hw g_76 rfl rfl rfl (by decide +kernel) ⟨Nat.le_of_ble_eq_true rfl, Nat.le_of_ble_eq_true rfl⟩) (pre_V (P_sub hC hP) hK rfl rfl) rfl rfl hl.1 rfl (lv_room (Nat.le_of_ble_eq_true rfl)) d_Mod_before_18 ⟨Nat.le_of_ble_eq_true rfl, Nat.le_of_ble_eq_true rfl⟩) hS hP (fun H locs hP hS => ?_)
    exact rt_roi hx hb hr hlocks hS hf d_Mod_before_21
  have hf := bq_n hf hc
  refine lv_aload_n hx hb d_Mod_before_4 rfl (lv_at hl 0 rfl) ?_
  refine lv_iload_n hx hb d_Mod_before_5 rfl (lv_at hl 1 rfl) ?_
  refine lv_iconst (v := 1) hx hb d_Mod_before_6 (by decide) ?_
  refine lv_isub hx hb d_Mod_before_7 ?_
  refine lv_iload_n hx hb d_Mod_before_8 rfl (lv_at hl 2 rfl) ?_
  have hC : [0, 1, 2, 3, 4, 5, 6, 7].map (fun i => (wMod cI q0 q1 q2 q3 q4 q5 q6 q7 u)[i]?) = (wMod cI q0 q1 q2 q3 q4 q5 q6 q7 u).map some := rfl
  obtain ⟨x2, hc, hf⟩ := bd_o hf
  refine ro_i (va_runV (As := [.int (a1 - 1), .int a2]) (rest := []) ⟨hx, hb, hml, hown, hw⟩ (c_Mod_value l D cI q0 q1 q2 q3 q4 q5 q6 q7 (a1 - 1) a2 u x2 hc) (cwV 2 hw g_75 rfl rfl rfl (by decide +kernel) ⟨Nat.le_of_ble_eq_true rfl, Nat.le_of_ble_eq_true rfl⟩) (pre_V (P_sub hC hP) hK rfl rfl) rfl rfl hl.1 rfl (lv_room (Nat.le_of_ble_eq_true rfl)) d_Mod_before_9 ⟨Nat.le_of_ble_eq_true rfl, Nat.le_of_ble_eq_true rfl⟩) hS hP (fun H locs hP hS => ?_)
  refine lv_goto (tgt := 21) hx hb d_Mod_before_12 (by decide) ?_
  exact rt_roi hx hb hr hlocks hS hf d_Mod_before_21
def f_Mod_corner (a1 : Int32) (a2 : Int32) (u : gU) : Option (Int32) := bq (a1 ≤ 0) (bq (a2 ≤ 0) (some 0) (bd (f_Mod_before 0 (a2 - 1) u) fun x1 => some x1)) (bd (f_Mod_value (a1 - 1) (a2 - 1) u) fun x2 => some x2)
set_option maxHeartbeats 4000000 in
set_option maxRecDepth 100000 in
theorem c_Mod_corner (l : Launch) (D : va_G) (cI : ClassId) (q0 : Nat) (q1 : Nat) (q2 : Nat) (q3 : Nat) (q4 : Nat) (q5 : Nat) (q6 : Nat) (q7 : Nat) (a1 : Int32) (a2 : Int32) (u : gU) (r : Int32) (hf : f_Mod_corner a1 a2 u = some r) : Met l y_Mod_corner (.code y_Mod_corner b_Mod_corner 3 (some .int) :: TS) ({ frames := 3, cells := 0, slots := 0, locals := 66 }) (va_Pc [.ref q0, .int a1, .int a2] (fun U => va_P D cls (wMod cI q0 q1 q2 q3 q4 q5 q6 q7 u) U.heap ∧ va_K D cls [(cI, .int)] U)) (va_Qi (fun x (_ : Unit) => x = r) (fun _ _ => True) (fun _ => False)) 0 0 (fun _ => False) := by
  refine ct_of (by decide +kernel) (Nat.le_of_ble_eq_true rfl) ?_
  intro p e s m below meth c ls hx hb hml hr hlocks hown hw hP hK hl
  have hS : va_S (fun _ => False) s.heap s.heap [] := va_S.rf
  have hl : lv_has ls 3 [(0, .ref q0), (1, .int a1), (2, .int a2)] := hl
  have hP : va_P D cls (wMod cI q0 q1 q2 q3 q4 q5 q6 q7 u) s.heap := hP
  unfold f_Mod_corner at hf
  refine lv_iload_n hx hb d_Mod_corner_0 rfl (lv_at hl 1 rfl) ?_
  refine lv_if_le (tgt := 17) hx hb d_Mod_corner_1 (by decide) (fun hc => ?_) (fun hc => ?_)
  · have hf := bq_t hf hc
    refine lv_iload_n hx hb d_Mod_corner_17 rfl (lv_at hl 2 rfl) ?_
    refine lv_if_le (tgt := 32) hx hb d_Mod_corner_18 (by decide) (fun hc => ?_) (fun hc => ?_)
    · have hf := bq_t hf hc
      refine lv_iconst (v := 0) hx hb d_Mod_corner_32 (by decide) ?_
      exact rt_roi hx hb hr hlocks hS hf d_Mod_corner_33
    have hf := bq_n hf hc
    refine lv_aload_n hx hb d_Mod_corner_21 rfl (lv_at hl 0 rfl) ?_
    refine lv_iconst (v := 0) hx hb d_Mod_corner_22 (by decide) ?_
    refine lv_iload_n hx hb d_Mod_corner_23 rfl (lv_at hl 2 rfl) ?_
    refine lv_iconst (v := 1) hx hb d_Mod_corner_24 (by decide) ?_
    refine lv_isub hx hb d_Mod_corner_25 ?_
    have hC : [0, 1, 2, 3, 4, 5, 6, 7].map (fun i => (wMod cI q0 q1 q2 q3 q4 q5 q6 q7 u)[i]?) = (wMod cI q0 q1 q2 q3 q4 q5 q6 q7 u).map some := rfl
    obtain ⟨x1, hc, hf⟩ := bd_o hf
    refine ro_i (va_runV (As := [.int 0, .int (a2 - 1)]) (rest := []) ⟨hx, hb, hml, hown, hw⟩ (c_Mod_before l D cI q0 q1 q2 q3 q4 q5 q6 q7 0 (a2 - 1) u x1 hc) (cwV 2 hw g_77 rfl rfl rfl (by decide +kernel) ⟨Nat.le_of_ble_eq_true rfl, Nat.le_of_ble_eq_true rfl⟩) (pre_V (P_sub hC hP) hK rfl rfl) rfl rfl hl.1 rfl (lv_room (Nat.le_of_ble_eq_true rfl)) d_Mod_corner_26 ⟨Nat.le_of_ble_eq_true rfl, Nat.le_of_ble_eq_true rfl⟩) hS hP (fun H locs hP hS => ?_)
    refine lv_goto (tgt := 33) hx hb d_Mod_corner_29 (by decide) ?_
    exact rt_roi hx hb hr hlocks hS hf d_Mod_corner_33
  have hf := bq_n hf hc
  refine lv_aload_n hx hb d_Mod_corner_4 rfl (lv_at hl 0 rfl) ?_
  refine lv_iload_n hx hb d_Mod_corner_5 rfl (lv_at hl 1 rfl) ?_
  refine lv_iconst (v := 1) hx hb d_Mod_corner_6 (by decide) ?_
  refine lv_isub hx hb d_Mod_corner_7 ?_
  refine lv_iload_n hx hb d_Mod_corner_8 rfl (lv_at hl 2 rfl) ?_
  refine lv_iconst (v := 1) hx hb d_Mod_corner_9 (by decide) ?_
  refine lv_isub hx hb d_Mod_corner_10 ?_
  have hC : [0, 1, 2, 3, 4, 5, 6, 7].map (fun i => (wMod cI q0 q1 q2 q3 q4 q5 q6 q7 u)[i]?) = (wMod cI q0 q1 q2 q3 q4 q5 q6 q7 u).map some := rfl
  obtain ⟨x2, hc, hf⟩ := bd_o hf
  refine ro_i (va_runV (As := [.int (a1 - 1), .int (a2 - 1)]) (rest := []) ⟨hx, hb, hml, hown, hw⟩ (c_Mod_value l D cI q0 q1 q2 q3 q4 q5 q6 q7 (a1 - 1) (a2 - 1) u x2 hc) (cwV 2 hw g_75 rfl rfl rfl (by decide +kernel) ⟨Nat.le_of_ble_eq_true rfl, Nat.le_of_ble_eq_true rfl⟩) (pre_V (P_sub hC hP) hK rfl rfl) rfl rfl hl.1 rfl (lv_room (Nat.le_of_ble_eq_true rfl)) d_Mod_corner_11 ⟨Nat.le_of_ble_eq_true rfl, Nat.le_of_ble_eq_true rfl⟩) hS hP (fun H locs hP hS => ?_)
  refine lv_goto (tgt := 33) hx hb d_Mod_corner_14 (by decide) ?_
  exact rt_roi hx hb hr hlocks hS hf d_Mod_corner_33
def f_Mod_beyond (a1 : Int32) (a2 : Int32) (u : gU) : Option (Int32) := bq (((u 0 1) - 1) ≤ a1) (bd (f_Mod_above a1 a2 u) fun x1 => some x1) (bd (f_Mod_value (a1 + 1) (a2 - 1) u) fun x2 => some x2)
set_option maxHeartbeats 4000000 in
set_option maxRecDepth 100000 in
theorem c_Mod_beyond (l : Launch) (D : va_G) (cI : ClassId) (q0 : Nat) (q1 : Nat) (q2 : Nat) (q3 : Nat) (q4 : Nat) (q5 : Nat) (q6 : Nat) (q7 : Nat) (a1 : Int32) (a2 : Int32) (u : gU) (r : Int32) (hf : f_Mod_beyond a1 a2 u = some r) : Met l y_Mod_beyond (.code y_Mod_beyond b_Mod_beyond 3 (some .int) :: TS) ({ frames := 2, cells := 0, slots := 0, locals := 44 }) (va_Pc [.ref q0, .int a1, .int a2] (fun U => va_P D cls (wMod cI q0 q1 q2 q3 q4 q5 q6 q7 u) U.heap ∧ va_K D cls [(cI, .int)] U)) (va_Qi (fun x (_ : Unit) => x = r) (fun _ _ => True) (fun _ => False)) 0 0 (fun _ => False) := by
  refine ct_of (by decide +kernel) (Nat.le_of_ble_eq_true rfl) ?_
  intro p e s m below meth c ls hx hb hml hr hlocks hown hw hP hK hl
  have hS : va_S (fun _ => False) s.heap s.heap [] := va_S.rf
  have hl : lv_has ls 3 [(0, .ref q0), (1, .int a1), (2, .int a2)] := hl
  have hP : va_P D cls (wMod cI q0 q1 q2 q3 q4 q5 q6 q7 u) s.heap := hP
  unfold f_Mod_beyond at hf
  refine lv_iload_n hx hb d_Mod_beyond_0 rfl (lv_at hl 1 rfl) ?_
  refine lv_aload_n hx hb d_Mod_beyond_1 rfl (lv_at hl 0 rfl) ?_
  refine va_get (D := D) (ci := 7) (v := .int (u 0 1)) (C := R_Mod) (T := F_Mod) (N := 28) hx hb hw in_Mod hown hK hP 0 rfl rfl 1 (by decide) (hw _ m_455) (fun _ h9 => h9) rfl d_Mod_beyond_2 ?_
  refine lv_iconst (v := 1) hx hb d_Mod_beyond_5 (by decide) ?_
  refine lv_isub hx hb d_Mod_beyond_6 ?_
  refine lv_icmp_ge (tgt := 23) hx hb d_Mod_beyond_7 (by decide) (fun hc => ?_) (fun hc => ?_)
  · have hf := bq_t hf hc
    refine lv_aload_n hx hb d_Mod_beyond_23 rfl (lv_at hl 0 rfl) ?_
    refine lv_iload_n hx hb d_Mod_beyond_24 rfl (lv_at hl 1 rfl) ?_
    refine lv_iload_n hx hb d_Mod_beyond_25 rfl (lv_at hl 2 rfl) ?_
    have hC : [0, 1, 2, 3, 4, 5, 6, 7].map (fun i => (wMod cI q0 q1 q2 q3 q4 q5 q6 q7 u)[i]?) = (wMod cI q0 q1 q2 q3 q4 q5 q6 q7 u).map some := rfl
    obtain ⟨x1, hc, hf⟩ := bd_o hf
    refine ro_i (va_runV (As := [.int a1, .int a2]) (rest := []) ⟨hx, hb, hml, hown, hw⟩ (c_Mod_above l D cI q0 q1 q2 q3 q4 q5 q6 q7 a1 a2 u x1 hc) (cwV 2 hw g_76 rfl rfl rfl (by decide +kernel) ⟨Nat.le_of_ble_eq_true rfl, Nat.le_of_ble_eq_true rfl⟩) (pre_V (P_sub hC hP) hK rfl rfl) rfl rfl hl.1 rfl (lv_room (Nat.le_of_ble_eq_true rfl)) d_Mod_beyond_26 ⟨Nat.le_of_ble_eq_true rfl, Nat.le_of_ble_eq_true rfl⟩) hS hP (fun H locs hP hS => ?_)
    exact rt_roi hx hb hr hlocks hS hf d_Mod_beyond_29
  have hf := bq_n hf hc
  refine lv_aload_n hx hb d_Mod_beyond_10 rfl (lv_at hl 0 rfl) ?_
  refine lv_iload_n hx hb d_Mod_beyond_11 rfl (lv_at hl 1 rfl) ?_
  refine lv_iconst (v := 1) hx hb d_Mod_beyond_12 (by decide) ?_
  refine lv_iadd hx hb d_Mod_beyond_13 ?_
  refine lv_iload_n hx hb d_Mod_beyond_14 rfl (lv_at hl 2 rfl) ?_
  refine lv_iconst (v := 1) hx hb d_Mod_beyond_15 (by decide) ?_
  refine lv_isub hx hb d_Mod_beyond_16 ?_
  have hC : [0, 1, 2, 3, 4, 5, 6, 7].map (fun i => (wMod cI q0 q1 q2 q3 q4 q5 q6 q7 u)[i]?) = (wMod cI q0 q1 q2 q3 q4 q5 q6 q7 u).map some := rfl
  obtain ⟨x2, hc, hf⟩ := bd_o hf
  refine ro_i (va_runV (As := [.int (a1 + 1), .int (a2 - 1)]) (rest := []) ⟨hx, hb, hml, hown, hw⟩ (c_Mod_value l D cI q0 q1 q2 q3 q4 q5 q6 q7 (a1 + 1) (a2 - 1) u x2 hc) (cwV 2 hw g_75 rfl rfl rfl (by decide +kernel) ⟨Nat.le_of_ble_eq_true rfl, Nat.le_of_ble_eq_true rfl⟩) (pre_V (P_sub hC hP) hK rfl rfl) rfl rfl hl.1 rfl (lv_room (Nat.le_of_ble_eq_true rfl)) d_Mod_beyond_17 ⟨Nat.le_of_ble_eq_true rfl, Nat.le_of_ble_eq_true rfl⟩) hS hP (fun H locs hP hS => ?_)
  refine lv_goto (tgt := 29) hx hb d_Mod_beyond_20 (by decide) ?_
  exact rt_roi hx hb hr hlocks hS hf d_Mod_beyond_29
def f_Mod_isNear (a1 : Int32) (u : gU) : Option (Int32) := bq (a1 < (-(u 0 4))) (some 0) (bq ((u 0 4) < a1) (some 0) (some 1))
set_option maxHeartbeats 4000000 in
set_option maxRecDepth 100000 in
theorem c_Mod_isNear (l : Launch) (D : va_G) (cI : ClassId) (q0 : Nat) (q1 : Nat) (q2 : Nat) (q3 : Nat) (q4 : Nat) (q5 : Nat) (q6 : Nat) (q7 : Nat) (a1 : Int32) (u : gU) (r : Int32) (hf : f_Mod_isNear a1 u = some r) : Met l y_Mod_isNear (.code y_Mod_isNear b_Mod_isNear 2 (some .boolean) :: TS) ({ frames := 0, cells := 0, slots := 0, locals := 0 }) (va_Pc [.ref q0, .int a1] (fun U => va_P D cls (wMod cI q0 q1 q2 q3 q4 q5 q6 q7 u) U.heap ∧ va_K D cls [(cI, .int)] U)) (va_Qi (fun x (_ : Unit) => x = r) (fun _ _ => True) (fun _ => False)) 0 0 (fun _ => False) := by
  refine ct_of (by decide +kernel) (Nat.le_of_ble_eq_true rfl) ?_
  intro p e s m below meth c ls hx hb hml hr hlocks hown hw hP hK hl
  have hS : va_S (fun _ => False) s.heap s.heap [] := va_S.rf
  have hl : lv_has ls 2 [(0, .ref q0), (1, .int a1)] := hl
  have hP : va_P D cls (wMod cI q0 q1 q2 q3 q4 q5 q6 q7 u) s.heap := hP
  unfold f_Mod_isNear at hf
  refine lv_iload_n hx hb d_Mod_isNear_0 rfl (lv_at hl 1 rfl) ?_
  refine lv_aload_n hx hb d_Mod_isNear_1 rfl (lv_at hl 0 rfl) ?_
  refine va_get (D := D) (ci := 7) (v := .int (u 0 4)) (C := R_Mod) (T := F_Mod) (N := 28) hx hb hw in_Mod hown hK hP 0 rfl rfl 4 (by decide) (hw _ m_428) (fun _ h9 => h9) rfl d_Mod_isNear_2 ?_
  refine lv_ineg hx hb d_Mod_isNear_5 ?_
  refine lv_icmp_lt (tgt := 21) hx hb d_Mod_isNear_6 (by decide) (fun hc => ?_) (fun hc => ?_)
  · have hf := bq_t hf hc
    refine lv_iconst (v := 0) hx hb d_Mod_isNear_21 (by decide) ?_
    exact rt_roz hx hb hr hlocks (Or.inl rfl) hS hf d_Mod_isNear_22
  have hf := bq_n hf hc
  refine lv_iload_n hx hb d_Mod_isNear_9 rfl (lv_at hl 1 rfl) ?_
  refine lv_aload_n hx hb d_Mod_isNear_10 rfl (lv_at hl 0 rfl) ?_
  refine va_get (D := D) (ci := 7) (v := .int (u 0 4)) (C := R_Mod) (T := F_Mod) (N := 28) hx hb hw in_Mod hown hK hP 0 rfl rfl 4 (by decide) (hw _ m_428) (fun _ h9 => h9) rfl d_Mod_isNear_11 ?_
  refine lv_icmp_gt (tgt := 21) hx hb d_Mod_isNear_14 (by decide) (fun hc => ?_) (fun hc => ?_)
  · have hf := bq_t hf hc
    refine lv_iconst (v := 0) hx hb d_Mod_isNear_21 (by decide) ?_
    exact rt_roz hx hb hr hlocks (Or.inl rfl) hS hf d_Mod_isNear_22
  have hf := bq_n hf hc
  refine lv_iconst (v := 1) hx hb d_Mod_isNear_17 (by decide) ?_
  refine lv_goto (tgt := 22) hx hb d_Mod_isNear_18 (by decide) ?_
  exact rt_roz hx hb hr hlocks (Or.inr rfl) hS hf d_Mod_isNear_22
def f_Mod_held (a1 : Int32) (u : gU) : Option (Int32) := bq (0 ≤ a1) (bq (a1 ≤ (u 0 3)) (some a1) (some (u 0 3))) (some 0)
set_option maxHeartbeats 4000000 in
set_option maxRecDepth 100000 in
theorem c_Mod_held (l : Launch) (D : va_G) (cI : ClassId) (q0 : Nat) (q1 : Nat) (q2 : Nat) (q3 : Nat) (q4 : Nat) (q5 : Nat) (q6 : Nat) (q7 : Nat) (a1 : Int32) (u : gU) (r : Int32) (hf : f_Mod_held a1 u = some r) : Met l y_Mod_held (.code y_Mod_held b_Mod_held 2 (some .int) :: TS) ({ frames := 0, cells := 0, slots := 0, locals := 0 }) (va_Pc [.ref q0, .int a1] (fun U => va_P D cls (wMod cI q0 q1 q2 q3 q4 q5 q6 q7 u) U.heap ∧ va_K D cls [(cI, .int)] U)) (va_Qi (fun x (_ : Unit) => x = r) (fun _ _ => True) (fun _ => False)) 0 0 (fun _ => False) := by
  refine ct_of (by decide +kernel) (Nat.le_of_ble_eq_true rfl) ?_
  intro p e s m below meth c ls hx hb hml hr hlocks hown hw hP hK hl
  have hS : va_S (fun _ => False) s.heap s.heap [] := va_S.rf
  have hl : lv_has ls 2 [(0, .ref q0), (1, .int a1)] := hl
  have hP : va_P D cls (wMod cI q0 q1 q2 q3 q4 q5 q6 q7 u) s.heap := hP
  unfold f_Mod_held at hf
  refine lv_iload_n hx hb d_Mod_held_0 rfl (lv_at hl 1 rfl) ?_
  refine lv_if_ge (tgt := 8) hx hb d_Mod_held_1 (by decide) (fun hc => ?_) (fun hc => ?_)
  · have hf := bq_t hf hc
    refine lv_iload_n hx hb d_Mod_held_8 rfl (lv_at hl 1 rfl) ?_
    refine lv_aload_n hx hb d_Mod_held_9 rfl (lv_at hl 0 rfl) ?_
    refine va_get (D := D) (ci := 7) (v := .int (u 0 3)) (C := R_Mod) (T := F_Mod) (N := 28) hx hb hw in_Mod hown hK hP 0 rfl rfl 3 (by decide) (hw _ m_427) (fun _ h9 => h9) rfl d_Mod_held_10 ?_
    refine lv_icmp_le (tgt := 23) hx hb d_Mod_held_13 (by decide) (fun hc => ?_) (fun hc => ?_)
    · have hf := bq_t hf hc
      refine lv_iload_n hx hb d_Mod_held_23 rfl (lv_at hl 1 rfl) ?_
      exact rt_roi hx hb hr hlocks hS hf d_Mod_held_24
    have hf := bq_n hf hc
    refine lv_aload_n hx hb d_Mod_held_16 rfl (lv_at hl 0 rfl) ?_
    refine va_get (D := D) (ci := 7) (v := .int (u 0 3)) (C := R_Mod) (T := F_Mod) (N := 28) hx hb hw in_Mod hown hK hP 0 rfl rfl 3 (by decide) (hw _ m_427) (fun _ h9 => h9) rfl d_Mod_held_17 ?_
    refine lv_goto (tgt := 24) hx hb d_Mod_held_20 (by decide) ?_
    exact rt_roi hx hb hr hlocks hS hf d_Mod_held_24
  have hf := bq_n hf hc
  refine lv_iconst (v := 0) hx hb d_Mod_held_4 (by decide) ?_
  refine lv_goto (tgt := 24) hx hb d_Mod_held_5 (by decide) ?_
  exact rt_roi hx hb hr hlocks hS hf d_Mod_held_24
def f_Mod_divided (a1 : Int32) (u : gU) : Option (Int32) := bq (a1 ≤ 0) (gd (¬ (u 0 5) = 0) (some (-(((u 0 4) - a1) / (u 0 5))))) (gd (¬ (u 0 5) = 0) (some ((a1 + (u 0 4)) / (u 0 5))))
set_option maxHeartbeats 4000000 in
set_option maxRecDepth 100000 in
theorem c_Mod_divided (l : Launch) (D : va_G) (cI : ClassId) (q0 : Nat) (q1 : Nat) (q2 : Nat) (q3 : Nat) (q4 : Nat) (q5 : Nat) (q6 : Nat) (q7 : Nat) (a1 : Int32) (u : gU) (r : Int32) (hf : f_Mod_divided a1 u = some r) : Met l y_Mod_divided (.code y_Mod_divided b_Mod_divided 2 (some .int) :: TS) ({ frames := 0, cells := 0, slots := 0, locals := 0 }) (va_Pc [.ref q0, .int a1] (fun U => va_P D cls (wMod cI q0 q1 q2 q3 q4 q5 q6 q7 u) U.heap ∧ va_K D cls [(cI, .int)] U)) (va_Qi (fun x (_ : Unit) => x = r) (fun _ _ => True) (fun _ => False)) 0 0 (fun _ => False) := by
  refine ct_of (by decide +kernel) (Nat.le_of_ble_eq_true rfl) ?_
  intro p e s m below meth c ls hx hb hml hr hlocks hown hw hP hK hl
  have hS : va_S (fun _ => False) s.heap s.heap [] := va_S.rf
  have hl : lv_has ls 2 [(0, .ref q0), (1, .int a1)] := hl
  have hP : va_P D cls (wMod cI q0 q1 q2 q3 q4 q5 q6 q7 u) s.heap := hP
  unfold f_Mod_divided at hf
  refine lv_iload_n hx hb d_Mod_divided_0 rfl (lv_at hl 1 rfl) ?_
  refine lv_if_le (tgt := 18) hx hb d_Mod_divided_1 (by decide) (fun hc => ?_) (fun hc => ?_)
  · have hf := bq_t hf hc
    refine lv_aload_n hx hb d_Mod_divided_18 rfl (lv_at hl 0 rfl) ?_
    refine va_get (D := D) (ci := 7) (v := .int (u 0 4)) (C := R_Mod) (T := F_Mod) (N := 28) hx hb hw in_Mod hown hK hP 0 rfl rfl 4 (by decide) (hw _ m_428) (fun _ h9 => h9) rfl d_Mod_divided_19 ?_
    refine lv_iload_n hx hb d_Mod_divided_22 rfl (lv_at hl 1 rfl) ?_
    refine lv_isub hx hb d_Mod_divided_23 ?_
    refine lv_aload_n hx hb d_Mod_divided_24 rfl (lv_at hl 0 rfl) ?_
    refine va_get (D := D) (ci := 7) (v := .int (u 0 5)) (C := R_Mod) (T := F_Mod) (N := 28) hx hb hw in_Mod hown hK hP 0 rfl rfl 5 (by decide) (hw _ m_429) (fun _ h9 => h9) rfl d_Mod_divided_25 ?_
    obtain ⟨h1, hf⟩ := gd_o hf
    refine lv_idiv hx hb d_Mod_divided_28 h1 ?_
    refine lv_ineg hx hb d_Mod_divided_29 ?_
    exact rt_roi hx hb hr hlocks hS hf d_Mod_divided_30
  have hf := bq_n hf hc
  refine lv_iload_n hx hb d_Mod_divided_4 rfl (lv_at hl 1 rfl) ?_
  refine lv_aload_n hx hb d_Mod_divided_5 rfl (lv_at hl 0 rfl) ?_
  refine va_get (D := D) (ci := 7) (v := .int (u 0 4)) (C := R_Mod) (T := F_Mod) (N := 28) hx hb hw in_Mod hown hK hP 0 rfl rfl 4 (by decide) (hw _ m_428) (fun _ h9 => h9) rfl d_Mod_divided_6 ?_
  refine lv_iadd hx hb d_Mod_divided_9 ?_
  refine lv_aload_n hx hb d_Mod_divided_10 rfl (lv_at hl 0 rfl) ?_
  refine va_get (D := D) (ci := 7) (v := .int (u 0 5)) (C := R_Mod) (T := F_Mod) (N := 28) hx hb hw in_Mod hown hK hP 0 rfl rfl 5 (by decide) (hw _ m_429) (fun _ h9 => h9) rfl d_Mod_divided_11 ?_
  obtain ⟨h2, hf⟩ := gd_o hf
  refine lv_idiv hx hb d_Mod_divided_14 h2 ?_
  refine lv_goto (tgt := 30) hx hb d_Mod_divided_15 (by decide) ?_
  exact rt_roi hx hb hr hlocks hS hf d_Mod_divided_30
def J_Mod_reduced_14 (s0 : Int32) (u : gU) : Option (Int32) := bq (s0 < (((u 0 6) + 1) / 2)) (some s0) (some (s0 - (u 0 6)))
def f_Mod_reduced (a1 : Int32) (u : gU) : Option (Int32) := bq (0 ≤ a1) (J_Mod_reduced_14 a1 u) (J_Mod_reduced_14 (a1 + (u 0 6)) u)
set_option maxHeartbeats 4000000 in
set_option maxRecDepth 100000 in
theorem c_Mod_reduced (l : Launch) (D : va_G) (cI : ClassId) (q0 : Nat) (q1 : Nat) (q2 : Nat) (q3 : Nat) (q4 : Nat) (q5 : Nat) (q6 : Nat) (q7 : Nat) (a1 : Int32) (u : gU) (r : Int32) (hf : f_Mod_reduced a1 u = some r) : Met l y_Mod_reduced (.code y_Mod_reduced b_Mod_reduced 3 (some .int) :: TS) ({ frames := 0, cells := 0, slots := 0, locals := 0 }) (va_Pc [.ref q0, .int a1] (fun U => va_P D cls (wMod cI q0 q1 q2 q3 q4 q5 q6 q7 u) U.heap ∧ va_K D cls [(cI, .int)] U)) (va_Qi (fun x (_ : Unit) => x = r) (fun _ _ => True) (fun _ => False)) 0 0 (fun _ => False) := by
  refine ct_of (by decide +kernel) (Nat.le_of_ble_eq_true rfl) ?_
  intro p e s m below meth c ls hx hb hml hr hlocks hown hw hP hK hl
  have hS : va_S (fun _ => False) s.heap s.heap [] := va_S.rf
  have hl : lv_has ls 3 [(0, .ref q0), (1, .int a1)] := hl
  have hP : va_P D cls (wMod cI q0 q1 q2 q3 q4 q5 q6 q7 u) s.heap := hP
  have j14 : ∀ (ls : Array Slot) (H : Heap) (locs : List Loc) (s0 : Int32) (u : gU), lv_has ls 3 [(0, .ref q0)] → va_P D cls (wMod cI q0 q1 q2 q3 q4 q5 q6 q7 u) H → va_S (fun _ => False) s.heap H locs → J_Mod_reduced_14 s0 u = some r → W p l e ({ frames := 0, cells := 0, slots := 0, locals := 0 }) s m [.ref q0, .int a1].toArray below meth c H locs 0 0 (MQ below (va_Qi (fun x (_ : Unit) => x = r) (fun _ _ => True) (fun _ => False)) [.ref q0, .int a1].toArray s 0 0 (fun _ => False)) (F0 m 14 ls [.int s0]) := by
    intro ls H locs s0 u hl hP hS hf
    unfold J_Mod_reduced_14 at hf
    refine lv_istore_n (lv' := [(2, .int s0), (0, .ref q0)]) hx hb d_Mod_reduced_14 rfl hl (by decide) rfl (fun ls hl => ?_)
    refine lv_iload_n hx hb d_Mod_reduced_15 rfl (lv_at hl 0 rfl) ?_
    refine lv_aload_n hx hb d_Mod_reduced_16 rfl (lv_at hl 1 rfl) ?_
    refine va_get (D := D) (ci := 7) (v := .int (u 0 6)) (C := R_Mod) (T := F_Mod) (N := 28) hx hb hw in_Mod hown hK hP 0 rfl rfl 6 (by decide) (hw _ m_430) (fun _ h9 => h9) rfl d_Mod_reduced_17 ?_
    refine lv_iconst (v := 1) hx hb d_Mod_reduced_20 (by decide) ?_
    refine lv_iadd hx hb d_Mod_reduced_21 ?_
    refine lv_iconst (v := 2) hx hb d_Mod_reduced_22 (by decide) ?_
    refine lv_idiv hx hb d_Mod_reduced_23 (by decide) ?_
    refine lv_icmp_lt (tgt := 36) hx hb d_Mod_reduced_24 (by decide) (fun hc => ?_) (fun hc => ?_)
    · have hf := bq_t hf hc
      refine lv_iload_n hx hb d_Mod_reduced_36 rfl (lv_at hl 0 rfl) ?_
      exact rt_roi hx hb hr hlocks hS hf d_Mod_reduced_37
    have hf := bq_n hf hc
    refine lv_iload_n hx hb d_Mod_reduced_27 rfl (lv_at hl 0 rfl) ?_
    refine lv_aload_n hx hb d_Mod_reduced_28 rfl (lv_at hl 1 rfl) ?_
    refine va_get (D := D) (ci := 7) (v := .int (u 0 6)) (C := R_Mod) (T := F_Mod) (N := 28) hx hb hw in_Mod hown hK hP 0 rfl rfl 6 (by decide) (hw _ m_430) (fun _ h9 => h9) rfl d_Mod_reduced_29 ?_
    refine lv_isub hx hb d_Mod_reduced_32 ?_
    refine lv_goto (tgt := 37) hx hb d_Mod_reduced_33 (by decide) ?_
    exact rt_roi hx hb hr hlocks hS hf d_Mod_reduced_37
  unfold f_Mod_reduced at hf
  refine lv_iload_n hx hb d_Mod_reduced_0 rfl (lv_at hl 1 rfl) ?_
  refine lv_if_ge (tgt := 13) hx hb d_Mod_reduced_1 (by decide) (fun hc => ?_) (fun hc => ?_)
  · have hf := bq_t hf hc
    refine lv_iload_n hx hb d_Mod_reduced_13 rfl (lv_at hl 1 rfl) ?_
    exact j14 _ _ _ a1 u (lv_sub hl [0] rfl) hP hS hf
  have hf := bq_n hf hc
  refine lv_iload_n hx hb d_Mod_reduced_4 rfl (lv_at hl 1 rfl) ?_
  refine lv_aload_n hx hb d_Mod_reduced_5 rfl (lv_at hl 0 rfl) ?_
  refine va_get (D := D) (ci := 7) (v := .int (u 0 6)) (C := R_Mod) (T := F_Mod) (N := 28) hx hb hw in_Mod hown hK hP 0 rfl rfl 6 (by decide) (hw _ m_430) (fun _ h9 => h9) rfl d_Mod_reduced_6 ?_
  refine lv_iadd hx hb d_Mod_reduced_9 ?_
  refine lv_goto (tgt := 14) hx hb d_Mod_reduced_10 (by decide) ?_
  exact j14 _ _ _ (a1 + (u 0 6)) u (lv_sub hl [0] rfl) hP hS hf
def f_Mod_half (a0 : Int32) : Option (Int32) := some (a0 >>> (1 &&& 31))
set_option maxHeartbeats 4000000 in
set_option maxRecDepth 100000 in
theorem c_Mod_half (l : Launch) (D : va_G) (cI : ClassId) (a0 : Int32) (r : Int32) (hf : f_Mod_half a0 = some r) : Met l y_Mod_half (.code y_Mod_half b_Mod_half 1 (some .int) :: TS) ({ frames := 0, cells := 0, slots := 0, locals := 0 }) (va_Pc [.int a0] (fun U => va_P D cls (([] : va_W)) U.heap ∧ va_K D cls [(cI, .int)] U)) (va_Qi (fun x (_ : Unit) => x = r) (fun _ _ => True) (fun _ => False)) 0 0 (fun _ => False) := by
  refine ct_of (by decide +kernel) (Nat.le_of_ble_eq_true rfl) ?_
  intro p e s m below meth c ls hx hb hml hr hlocks hown hw hP hK hl
  have hS : va_S (fun _ => False) s.heap s.heap [] := va_S.rf
  have hl : lv_has ls 1 [(0, .int a0)] := hl
  have hP : va_P D cls (([] : va_W)) s.heap := hP
  unfold f_Mod_half at hf
  refine lv_iload_n hx hb d_Mod_half_0 rfl (lv_at hl 0 rfl) ?_
  refine lv_iconst (v := 1) hx hb d_Mod_half_1 (by decide) ?_
  refine lv_ishr hx hb d_Mod_half_2 ?_
  exact rt_roi hx hb hr hlocks hS hf d_Mod_half_3
def f_Mod_errorOf (a1 : Int32) (a2 : Int32) (a3 : Int32) (a4 : Int32) (u : gU) : Option (Int32 × gU) := gd (ix ((8 * a2) + a1) 64) (bd (f_Mod_divided (a4 * ((u 1 (tc ((8 * a2) + a1))) - a3)) u) fun x2 => bd (f_Mod_held (a3 + ((a4 * x2) * (u 0 5))) u) fun x3 => gd (ix ((8 * a2) + a1) 64) (tk (st2 u 2 (tc ((8 * a2) + a1)) x3) fun u5 => bd (f_Mod_reduced x2 u5) fun x6 => some (x6, u5)))
set_option maxHeartbeats 4000000 in
set_option maxRecDepth 100000 in
theorem c_Mod_errorOf (l : Launch) (D : va_G) (cI : ClassId) (q0 : Nat) (q1 : Nat) (q2 : Nat) (q3 : Nat) (q4 : Nat) (q5 : Nat) (q6 : Nat) (q7 : Nat) (hd : dj [q0, q1, q2, q3, q4, q5, q6, q7]) (a1 : Int32) (a2 : Int32) (a3 : Int32) (a4 : Int32) (u : gU) (r : Int32) (v : gU) (hf : f_Mod_errorOf a1 a2 a3 a4 u = some (r, v)) : Met l y_Mod_errorOf (.code y_Mod_errorOf b_Mod_errorOf 6 (some .int) :: TS) ({ frames := 1, cells := 0, slots := 0, locals := 22 }) (va_Pc [.ref q0, .int a1, .int a2, .int a3, .int a4] (fun U => va_P D cls (wMod cI q0 q1 q2 q3 q4 q5 q6 q7 u) U.heap ∧ va_K D cls [(cI, .int)] U)) (va_Qi (fun x (_ : Unit) => x = r) (fun _ t => va_P D cls (wMod cI q0 q1 q2 q3 q4 q5 q6 q7 v) t.heap) (ad [q0, q1, q2, q3, q4, q5, q6, q7])) 0 0 (ad [q0, q1, q2, q3, q4, q5, q6, q7]) := by
  refine ct_of (by decide +kernel) (Nat.le_of_ble_eq_true rfl) ?_
  intro p e s m below meth c ls hx hb hml hr hlocks hown hw hP hK hl
  have hS : va_S (ad [q0, q1, q2, q3, q4, q5, q6, q7]) s.heap s.heap [] := va_S.rf
  have hD : ∀ v, va_D (ad [q0, q1, q2, q3, q4, q5, q6, q7]) (wMod cI q0 q1 q2 q3 q4 q5 q6 q7 v) := fun _ => dj_D rfl hd
  have hl : lv_has ls 6 [(0, .ref q0), (1, .int a1), (2, .int a2), (3, .int a3), (4, .int a4)] := hl
  have hP : va_P D cls (wMod cI q0 q1 q2 q3 q4 q5 q6 q7 u) s.heap := hP
  unfold f_Mod_errorOf at hf
  refine lv_aload_n hx hb d_Mod_errorOf_0 rfl (lv_at hl 0 rfl) ?_
  refine lv_iload hx hb d_Mod_errorOf_1 (lv_at hl 4 rfl) ?_
  refine lv_aload_n hx hb d_Mod_errorOf_3 rfl (lv_at hl 0 rfl) ?_
  refine va_get (D := D) (ci := 7) (v := .ref q1) (C := R_Mod) (T := F_Mod) (N := 28) hx hb hw in_Mod hown hK hP 0 rfl rfl 12 (by decide) (hw _ m_451) (fun _ h9 => h9) rfl d_Mod_errorOf_4 ?_
  refine lv_bipush (v := 8) hx hb d_Mod_errorOf_7 (by decide) ?_
  refine lv_iload_n hx hb d_Mod_errorOf_9 rfl (lv_at hl 2 rfl) ?_
  refine lv_imul hx hb d_Mod_errorOf_10 ?_
  refine lv_iload_n hx hb d_Mod_errorOf_11 rfl (lv_at hl 1 rfl) ?_
  refine lv_iadd hx hb d_Mod_errorOf_12 ?_
  obtain ⟨h1, hf⟩ := gd_o hf
  refine va_iald hx hb hK hP 1 0 rfl rfl (ix_in h1) d_Mod_errorOf_13 ?_
  refine lv_iload_n hx hb d_Mod_errorOf_14 rfl (lv_at hl 3 rfl) ?_
  refine lv_isub hx hb d_Mod_errorOf_15 ?_
  refine lv_imul hx hb d_Mod_errorOf_16 ?_
  have hC : [0, 1, 2, 3, 4, 5, 6, 7].map (fun i => (wMod cI q0 q1 q2 q3 q4 q5 q6 q7 u)[i]?) = (wMod cI q0 q1 q2 q3 q4 q5 q6 q7 u).map some := rfl
  obtain ⟨x2, hc, hf⟩ := bd_o hf
  refine ro_i (va_runV (As := [.int (a4 * ((u 1 (tc ((8 * a2) + a1))) - a3))]) (rest := []) ⟨hx, hb, hml, hown, hw⟩ (c_Mod_divided l D cI q0 q1 q2 q3 q4 q5 q6 q7 (a4 * ((u 1 (tc ((8 * a2) + a1))) - a3)) u x2 hc) (cwV 1 hw g_78 rfl rfl rfl (by decide +kernel) ⟨Nat.le_of_ble_eq_true rfl, Nat.le_of_ble_eq_true rfl⟩) (pre_V (P_sub hC hP) hK rfl rfl) rfl rfl hl.1 rfl (lv_room (Nat.le_of_ble_eq_true rfl)) d_Mod_errorOf_17 ⟨Nat.le_of_ble_eq_true rfl, Nat.le_of_ble_eq_true rfl⟩) hS hP (fun H locs hP hS => ?_)
  refine lv_istore (lv' := [(5, .int x2), (0, .ref q0), (1, .int a1), (2, .int a2), (3, .int a3), (4, .int a4)]) hx hb d_Mod_errorOf_20 hl (by decide) rfl (fun ls hl => ?_)
  refine lv_aload_n hx hb d_Mod_errorOf_22 rfl (lv_at hl 1 rfl) ?_
  refine va_get (D := D) (ci := 7) (v := .ref q2) (C := R_Mod) (T := F_Mod) (N := 28) hx hb hw in_Mod hown hK hP 0 rfl rfl 13 (by decide) (hw _ m_447) (fun _ h9 => h9) rfl d_Mod_errorOf_23 ?_
  refine lv_bipush (v := 8) hx hb d_Mod_errorOf_26 (by decide) ?_
  refine lv_iload_n hx hb d_Mod_errorOf_28 rfl (lv_at hl 3 rfl) ?_
  refine lv_imul hx hb d_Mod_errorOf_29 ?_
  refine lv_iload_n hx hb d_Mod_errorOf_30 rfl (lv_at hl 2 rfl) ?_
  refine lv_iadd hx hb d_Mod_errorOf_31 ?_
  refine lv_aload_n hx hb d_Mod_errorOf_32 rfl (lv_at hl 1 rfl) ?_
  refine lv_iload_n hx hb d_Mod_errorOf_33 rfl (lv_at hl 4 rfl) ?_
  refine lv_iload hx hb d_Mod_errorOf_34 (lv_at hl 5 rfl) ?_
  refine lv_iload hx hb d_Mod_errorOf_36 (lv_at hl 0 rfl) ?_
  refine lv_imul hx hb d_Mod_errorOf_38 ?_
  refine lv_aload_n hx hb d_Mod_errorOf_39 rfl (lv_at hl 1 rfl) ?_
  refine va_get (D := D) (ci := 7) (v := .int (u 0 5)) (C := R_Mod) (T := F_Mod) (N := 28) hx hb hw in_Mod hown hK hP 0 rfl rfl 5 (by decide) (hw _ m_429) (fun _ h9 => h9) rfl d_Mod_errorOf_40 ?_
  refine lv_imul hx hb d_Mod_errorOf_43 ?_
  refine lv_iadd hx hb d_Mod_errorOf_44 ?_
  have hC : [0, 1, 2, 3, 4, 5, 6, 7].map (fun i => (wMod cI q0 q1 q2 q3 q4 q5 q6 q7 u)[i]?) = (wMod cI q0 q1 q2 q3 q4 q5 q6 q7 u).map some := rfl
  obtain ⟨x3, hc, hf⟩ := bd_o hf
  refine ro_i (va_runV (As := [.int (a3 + ((a4 * x2) * (u 0 5)))]) (rest := [.int ((8 * a2) + a1), .ref q2]) ⟨hx, hb, hml, hown, hw⟩ (c_Mod_held l D cI q0 q1 q2 q3 q4 q5 q6 q7 (a3 + ((a4 * x2) * (u 0 5))) u x3 hc) (cwV 1 hw g_79 rfl rfl rfl (by decide +kernel) ⟨Nat.le_of_ble_eq_true rfl, Nat.le_of_ble_eq_true rfl⟩) (pre_V (P_sub hC hP) hK rfl rfl) rfl rfl hl.1 rfl (lv_room (Nat.le_of_ble_eq_true rfl)) d_Mod_errorOf_45 ⟨Nat.le_of_ble_eq_true rfl, Nat.le_of_ble_eq_true rfl⟩) hS hP (fun H locs hP hS => ?_)
  obtain ⟨h4, hf⟩ := gd_o hf
  refine va_iast hx hb hK hP (hD _) hS 2 0 rfl rfl (ix_in h4) d_Mod_errorOf_48 (fun H locs hP _ hS => ?_)
  obtain ⟨u5, e_u5, hf⟩ := tk_o hf
  have hP : va_P D cls (wMod cI q0 q1 q2 q3 q4 q5 q6 q7 u5) H := by rw [e_u5]; exact hP
  refine lv_aload_n hx hb d_Mod_errorOf_49 rfl (lv_at hl 1 rfl) ?_
  refine lv_iload hx hb d_Mod_errorOf_50 (lv_at hl 0 rfl) ?_
  have hC : [0, 1, 2, 3, 4, 5, 6, 7].map (fun i => (wMod cI q0 q1 q2 q3 q4 q5 q6 q7 u5)[i]?) = (wMod cI q0 q1 q2 q3 q4 q5 q6 q7 u5).map some := rfl
  obtain ⟨x6, hc, hf⟩ := bd_o hf
  refine ro_i (va_runV (As := [.int x2]) (rest := []) ⟨hx, hb, hml, hown, hw⟩ (c_Mod_reduced l D cI q0 q1 q2 q3 q4 q5 q6 q7 x2 u5 x6 hc) (cwV 1 hw g_80 rfl rfl rfl (by decide +kernel) ⟨Nat.le_of_ble_eq_true rfl, Nat.le_of_ble_eq_true rfl⟩) (pre_V (P_sub hC hP) hK rfl rfl) rfl rfl hl.1 rfl (lv_room (Nat.le_of_ble_eq_true rfl)) d_Mod_errorOf_52 ⟨Nat.le_of_ble_eq_true rfl, Nat.le_of_ble_eq_true rfl⟩) hS hP (fun H locs hP hS => ?_)
  exact rt_i (wMod cI q0 q1 q2 q3 q4 q5 q6 q7) hx hb hr hlocks hS hP hf d_Mod_errorOf_55
def J_Mod_settle_100 (l1 : Int32) (l2 : Int32) (s0 : Int32) (u : gU) : Option (gU) := bd (f_Mod_held s0 u) fun x1 => gd (ix ((8 * l2) + l1) 64) (tk (st2 u 2 (tc ((8 * l2) + l1)) x1) fun u3 => bd (f_Mod_held s0 u3) fun x4 => gd (ix ((8 * l2) + l1) 64) (tk (st2 u3 1 (tc ((8 * l2) + l1)) x4) fun u6 => some u6))
def J_Mod_settle_30 (l1 : Int32) (l2 : Int32) (l3 : Int32) (l4 : Int32) (l5 : Int32) (u : gU) : Option (gU) := tk (l3 + ((l4 * l5) * (u 0 5))) fun x1 => bq ((-(u 0 4)) ≤ x1) (bq (x1 ≤ ((u 0 3) + (u 0 4))) (J_Mod_settle_100 l1 l2 x1 u) (J_Mod_settle_100 l1 l2 (x1 - ((u 0 6) * (u 0 5))) u)) (J_Mod_settle_100 l1 l2 (x1 + ((u 0 6) * (u 0 5))) u)
def J_Mod_settle_25 (l1 : Int32) (l2 : Int32) (l3 : Int32) (l4 : Int32) (l5 : Int32) (u : gU) : Option (gU) := tk (st2 u 0 20 0) fun u1 => J_Mod_settle_30 l1 l2 l3 l4 l5 u1
def f_Mod_settle (a1 : Int32) (a2 : Int32) (a3 : Int32) (a4 : Int32) (a5 : Int32) (u : gU) : Option (gU) := bq (a5 < (-((u 0 6) / 2))) (J_Mod_settle_25 a1 a2 a3 a4 a5 u) (bq (a5 < (((u 0 6) + 1) / 2)) (J_Mod_settle_30 a1 a2 a3 a4 a5 u) (J_Mod_settle_25 a1 a2 a3 a4 a5 u))
set_option maxHeartbeats 4000000 in
set_option maxRecDepth 100000 in
theorem c_Mod_settle (l : Launch) (D : va_G) (cI : ClassId) (q0 : Nat) (q1 : Nat) (q2 : Nat) (q3 : Nat) (q4 : Nat) (q5 : Nat) (q6 : Nat) (q7 : Nat) (hd : dj [q0, q1, q2, q3, q4, q5, q6, q7]) (a1 : Int32) (a2 : Int32) (a3 : Int32) (a4 : Int32) (a5 : Int32) (u : gU) (v : gU) (hf : f_Mod_settle a1 a2 a3 a4 a5 u = some v) : Met l y_Mod_settle (.code y_Mod_settle b_Mod_settle 7 none :: TS) ({ frames := 1, cells := 0, slots := 0, locals := 21 }) (va_Pc [.ref q0, .int a1, .int a2, .int a3, .int a4, .int a5] (fun U => va_P D cls (wMod cI q0 q1 q2 q3 q4 q5 q6 q7 u) U.heap ∧ va_K D cls [(cI, .int)] U)) (va_Qv (fun (_ : Unit) => True) (fun _ t => va_P D cls (wMod cI q0 q1 q2 q3 q4 q5 q6 q7 v) t.heap) (ad [q0, q1, q2, q3, q4, q5, q6, q7])) 0 0 (ad [q0, q1, q2, q3, q4, q5, q6, q7]) := by
  refine ct_of (by decide +kernel) (Nat.le_of_ble_eq_true rfl) ?_
  intro p e s m below meth c ls hx hb hml hr hlocks hown hw hP hK hl
  have hS : va_S (ad [q0, q1, q2, q3, q4, q5, q6, q7]) s.heap s.heap [] := va_S.rf
  have hD : ∀ v, va_D (ad [q0, q1, q2, q3, q4, q5, q6, q7]) (wMod cI q0 q1 q2 q3 q4 q5 q6 q7 v) := fun _ => dj_D rfl hd
  have hl : lv_has ls 7 [(0, .ref q0), (1, .int a1), (2, .int a2), (3, .int a3), (4, .int a4), (5, .int a5)] := hl
  have hP : va_P D cls (wMod cI q0 q1 q2 q3 q4 q5 q6 q7 u) s.heap := hP
  have j100 : ∀ (ls : Array Slot) (H : Heap) (locs : List Loc) (l1 : Int32) (l2 : Int32) (s0 : Int32) (u : gU), lv_has ls 7 [(0, .ref q0), (1, .int l1), (2, .int l2)] → va_P D cls (wMod cI q0 q1 q2 q3 q4 q5 q6 q7 u) H → va_S (ad [q0, q1, q2, q3, q4, q5, q6, q7]) s.heap H locs → J_Mod_settle_100 l1 l2 s0 u = some v → W p l e ({ frames := 1, cells := 0, slots := 0, locals := 21 }) s m [.ref q0, .int a1, .int a2, .int a3, .int a4, .int a5].toArray below meth c H locs 0 0 (MQ below (va_Qv (fun (_ : Unit) => True) (fun _ t => va_P D cls (wMod cI q0 q1 q2 q3 q4 q5 q6 q7 v) t.heap) (ad [q0, q1, q2, q3, q4, q5, q6, q7])) [.ref q0, .int a1, .int a2, .int a3, .int a4, .int a5].toArray s 0 0 (ad [q0, q1, q2, q3, q4, q5, q6, q7])) (F0 m 100 ls [.int s0]) := by
    intro ls H locs l1 l2 s0 u hl hP hS hf
    unfold J_Mod_settle_100 at hf
    refine lv_istore (lv' := [(6, .int s0), (0, .ref q0), (1, .int l1), (2, .int l2)]) hx hb d_Mod_settle_100 hl (by decide) rfl (fun ls hl => ?_)
    refine lv_aload_n hx hb d_Mod_settle_102 rfl (lv_at hl 1 rfl) ?_
    refine va_get (D := D) (ci := 7) (v := .ref q2) (C := R_Mod) (T := F_Mod) (N := 28) hx hb hw in_Mod hown hK hP 0 rfl rfl 13 (by decide) (hw _ m_447) (fun _ h9 => h9) rfl d_Mod_settle_103 ?_
    refine lv_bipush (v := 8) hx hb d_Mod_settle_106 (by decide) ?_
    refine lv_iload_n hx hb d_Mod_settle_108 rfl (lv_at hl 3 rfl) ?_
    refine lv_imul hx hb d_Mod_settle_109 ?_
    refine lv_iload_n hx hb d_Mod_settle_110 rfl (lv_at hl 2 rfl) ?_
    refine lv_iadd hx hb d_Mod_settle_111 ?_
    refine lv_aload_n hx hb d_Mod_settle_112 rfl (lv_at hl 1 rfl) ?_
    refine lv_iload hx hb d_Mod_settle_113 (lv_at hl 0 rfl) ?_
    have hC : [0, 1, 2, 3, 4, 5, 6, 7].map (fun i => (wMod cI q0 q1 q2 q3 q4 q5 q6 q7 u)[i]?) = (wMod cI q0 q1 q2 q3 q4 q5 q6 q7 u).map some := rfl
    obtain ⟨x1, hc, hf⟩ := bd_o hf
    refine ro_i (va_runV (As := [.int s0]) (rest := [.int ((8 * l2) + l1), .ref q2]) ⟨hx, hb, hml, hown, hw⟩ (c_Mod_held l D cI q0 q1 q2 q3 q4 q5 q6 q7 s0 u x1 hc) (cwV 1 hw g_79 rfl rfl rfl (by decide +kernel) ⟨Nat.le_of_ble_eq_true rfl, Nat.le_of_ble_eq_true rfl⟩) (pre_V (P_sub hC hP) hK rfl rfl) rfl rfl hl.1 rfl (lv_room (Nat.le_of_ble_eq_true rfl)) d_Mod_settle_115 ⟨Nat.le_of_ble_eq_true rfl, Nat.le_of_ble_eq_true rfl⟩) hS hP (fun H locs hP hS => ?_)
    obtain ⟨h2, hf⟩ := gd_o hf
    refine va_iast hx hb hK hP (hD _) hS 2 0 rfl rfl (ix_in h2) d_Mod_settle_118 (fun H locs hP _ hS => ?_)
    obtain ⟨u3, e_u3, hf⟩ := tk_o hf
    have hP : va_P D cls (wMod cI q0 q1 q2 q3 q4 q5 q6 q7 u3) H := by rw [e_u3]; exact hP
    refine lv_aload_n hx hb d_Mod_settle_119 rfl (lv_at hl 1 rfl) ?_
    refine va_get (D := D) (ci := 7) (v := .ref q1) (C := R_Mod) (T := F_Mod) (N := 28) hx hb hw in_Mod hown hK hP 0 rfl rfl 12 (by decide) (hw _ m_451) (fun _ h9 => h9) rfl d_Mod_settle_120 ?_
    refine lv_bipush (v := 8) hx hb d_Mod_settle_123 (by decide) ?_
    refine lv_iload_n hx hb d_Mod_settle_125 rfl (lv_at hl 3 rfl) ?_
    refine lv_imul hx hb d_Mod_settle_126 ?_
    refine lv_iload_n hx hb d_Mod_settle_127 rfl (lv_at hl 2 rfl) ?_
    refine lv_iadd hx hb d_Mod_settle_128 ?_
    refine lv_aload_n hx hb d_Mod_settle_129 rfl (lv_at hl 1 rfl) ?_
    refine lv_iload hx hb d_Mod_settle_130 (lv_at hl 0 rfl) ?_
    have hC : [0, 1, 2, 3, 4, 5, 6, 7].map (fun i => (wMod cI q0 q1 q2 q3 q4 q5 q6 q7 u3)[i]?) = (wMod cI q0 q1 q2 q3 q4 q5 q6 q7 u3).map some := rfl
    obtain ⟨x4, hc, hf⟩ := bd_o hf
    refine ro_i (va_runV (As := [.int s0]) (rest := [.int ((8 * l2) + l1), .ref q1]) ⟨hx, hb, hml, hown, hw⟩ (c_Mod_held l D cI q0 q1 q2 q3 q4 q5 q6 q7 s0 u3 x4 hc) (cwV 1 hw g_79 rfl rfl rfl (by decide +kernel) ⟨Nat.le_of_ble_eq_true rfl, Nat.le_of_ble_eq_true rfl⟩) (pre_V (P_sub hC hP) hK rfl rfl) rfl rfl hl.1 rfl (lv_room (Nat.le_of_ble_eq_true rfl)) d_Mod_settle_132 ⟨Nat.le_of_ble_eq_true rfl, Nat.le_of_ble_eq_true rfl⟩) hS hP (fun H locs hP hS => ?_)
    obtain ⟨h5, hf⟩ := gd_o hf
    refine va_iast hx hb hK hP (hD _) hS 1 0 rfl rfl (ix_in h5) d_Mod_settle_135 (fun H locs hP _ hS => ?_)
    obtain ⟨u6, e_u6, hf⟩ := tk_o hf
    have hP : va_P D cls (wMod cI q0 q1 q2 q3 q4 q5 q6 q7 u6) H := by rw [e_u6]; exact hP
    exact rt_v (wMod cI q0 q1 q2 q3 q4 q5 q6 q7) hx hb hr hlocks hS hP hf d_Mod_settle_136
  have j30 : ∀ (ls : Array Slot) (H : Heap) (locs : List Loc) (l1 : Int32) (l2 : Int32) (l3 : Int32) (l4 : Int32) (l5 : Int32) (u : gU), lv_has ls 7 [(0, .ref q0), (1, .int l1), (2, .int l2), (3, .int l3), (4, .int l4), (5, .int l5)] → va_P D cls (wMod cI q0 q1 q2 q3 q4 q5 q6 q7 u) H → va_S (ad [q0, q1, q2, q3, q4, q5, q6, q7]) s.heap H locs → J_Mod_settle_30 l1 l2 l3 l4 l5 u = some v → W p l e ({ frames := 1, cells := 0, slots := 0, locals := 21 }) s m [.ref q0, .int a1, .int a2, .int a3, .int a4, .int a5].toArray below meth c H locs 0 0 (MQ below (va_Qv (fun (_ : Unit) => True) (fun _ t => va_P D cls (wMod cI q0 q1 q2 q3 q4 q5 q6 q7 v) t.heap) (ad [q0, q1, q2, q3, q4, q5, q6, q7])) [.ref q0, .int a1, .int a2, .int a3, .int a4, .int a5].toArray s 0 0 (ad [q0, q1, q2, q3, q4, q5, q6, q7])) (F0 m 30 ls []) := by
    intro ls H locs l1 l2 l3 l4 l5 u hl hP hS hf
    unfold J_Mod_settle_30 at hf
    refine lv_iload_n hx hb d_Mod_settle_30 rfl (lv_at hl 3 rfl) ?_
    refine lv_iload hx hb d_Mod_settle_31 (lv_at hl 4 rfl) ?_
    refine lv_iload hx hb d_Mod_settle_33 (lv_at hl 5 rfl) ?_
    refine lv_imul hx hb d_Mod_settle_35 ?_
    refine lv_aload_n hx hb d_Mod_settle_36 rfl (lv_at hl 0 rfl) ?_
    refine va_get (D := D) (ci := 7) (v := .int (u 0 5)) (C := R_Mod) (T := F_Mod) (N := 28) hx hb hw in_Mod hown hK hP 0 rfl rfl 5 (by decide) (hw _ m_429) (fun _ h9 => h9) rfl d_Mod_settle_37 ?_
    refine lv_imul hx hb d_Mod_settle_40 ?_
    refine lv_iadd hx hb d_Mod_settle_41 ?_
    refine lv_topi (fun x1 e_x1 => ?_)
    have hf := tk_e hf e_x1
    refine lv_istore (lv' := [(6, .int x1), (0, .ref q0), (1, .int l1), (2, .int l2), (3, .int l3), (4, .int l4), (5, .int l5)]) hx hb d_Mod_settle_42 hl (by decide) rfl (fun ls hl => ?_)
    refine lv_iload hx hb d_Mod_settle_44 (lv_at hl 0 rfl) ?_
    refine lv_aload_n hx hb d_Mod_settle_46 rfl (lv_at hl 1 rfl) ?_
    refine va_get (D := D) (ci := 7) (v := .int (u 0 4)) (C := R_Mod) (T := F_Mod) (N := 28) hx hb hw in_Mod hown hK hP 0 rfl rfl 4 (by decide) (hw _ m_428) (fun _ h9 => h9) rfl d_Mod_settle_47 ?_
    refine lv_ineg hx hb d_Mod_settle_50 ?_
    refine lv_icmp_ge (tgt := 69) hx hb d_Mod_settle_51 (by decide) (fun hc => ?_) (fun hc => ?_)
    · have hf := bq_t hf hc
      refine lv_iload hx hb d_Mod_settle_69 (lv_at hl 0 rfl) ?_
      refine lv_aload_n hx hb d_Mod_settle_71 rfl (lv_at hl 1 rfl) ?_
      refine va_get (D := D) (ci := 7) (v := .int (u 0 3)) (C := R_Mod) (T := F_Mod) (N := 28) hx hb hw in_Mod hown hK hP 0 rfl rfl 3 (by decide) (hw _ m_427) (fun _ h9 => h9) rfl d_Mod_settle_72 ?_
      refine lv_aload_n hx hb d_Mod_settle_75 rfl (lv_at hl 1 rfl) ?_
      refine va_get (D := D) (ci := 7) (v := .int (u 0 4)) (C := R_Mod) (T := F_Mod) (N := 28) hx hb hw in_Mod hown hK hP 0 rfl rfl 4 (by decide) (hw _ m_428) (fun _ h9 => h9) rfl d_Mod_settle_76 ?_
      refine lv_iadd hx hb d_Mod_settle_79 ?_
      refine lv_icmp_le (tgt := 98) hx hb d_Mod_settle_80 (by decide) (fun hc => ?_) (fun hc => ?_)
      · have hf := bq_t hf hc
        refine lv_iload hx hb d_Mod_settle_98 (lv_at hl 0 rfl) ?_
        exact j100 _ _ _ l1 l2 x1 u (lv_sub hl [1, 2, 3] rfl) hP hS hf
      have hf := bq_n hf hc
      refine lv_iload hx hb d_Mod_settle_83 (lv_at hl 0 rfl) ?_
      refine lv_aload_n hx hb d_Mod_settle_85 rfl (lv_at hl 1 rfl) ?_
      refine va_get (D := D) (ci := 7) (v := .int (u 0 6)) (C := R_Mod) (T := F_Mod) (N := 28) hx hb hw in_Mod hown hK hP 0 rfl rfl 6 (by decide) (hw _ m_430) (fun _ h9 => h9) rfl d_Mod_settle_86 ?_
      refine lv_aload_n hx hb d_Mod_settle_89 rfl (lv_at hl 1 rfl) ?_
      refine va_get (D := D) (ci := 7) (v := .int (u 0 5)) (C := R_Mod) (T := F_Mod) (N := 28) hx hb hw in_Mod hown hK hP 0 rfl rfl 5 (by decide) (hw _ m_429) (fun _ h9 => h9) rfl d_Mod_settle_90 ?_
      refine lv_imul hx hb d_Mod_settle_93 ?_
      refine lv_isub hx hb d_Mod_settle_94 ?_
      refine lv_goto (tgt := 100) hx hb d_Mod_settle_95 (by decide) ?_
      exact j100 _ _ _ l1 l2 (x1 - ((u 0 6) * (u 0 5))) u (lv_sub hl [1, 2, 3] rfl) hP hS hf
    have hf := bq_n hf hc
    refine lv_iload hx hb d_Mod_settle_54 (lv_at hl 0 rfl) ?_
    refine lv_aload_n hx hb d_Mod_settle_56 rfl (lv_at hl 1 rfl) ?_
    refine va_get (D := D) (ci := 7) (v := .int (u 0 6)) (C := R_Mod) (T := F_Mod) (N := 28) hx hb hw in_Mod hown hK hP 0 rfl rfl 6 (by decide) (hw _ m_430) (fun _ h9 => h9) rfl d_Mod_settle_57 ?_
    refine lv_aload_n hx hb d_Mod_settle_60 rfl (lv_at hl 1 rfl) ?_
    refine va_get (D := D) (ci := 7) (v := .int (u 0 5)) (C := R_Mod) (T := F_Mod) (N := 28) hx hb hw in_Mod hown hK hP 0 rfl rfl 5 (by decide) (hw _ m_429) (fun _ h9 => h9) rfl d_Mod_settle_61 ?_
    refine lv_imul hx hb d_Mod_settle_64 ?_
    refine lv_iadd hx hb d_Mod_settle_65 ?_
    refine lv_goto (tgt := 100) hx hb d_Mod_settle_66 (by decide) ?_
    exact j100 _ _ _ l1 l2 (x1 + ((u 0 6) * (u 0 5))) u (lv_sub hl [1, 2, 3] rfl) hP hS hf
  have j25 : ∀ (ls : Array Slot) (H : Heap) (locs : List Loc) (l1 : Int32) (l2 : Int32) (l3 : Int32) (l4 : Int32) (l5 : Int32) (u : gU), lv_has ls 7 [(0, .ref q0), (1, .int l1), (2, .int l2), (3, .int l3), (4, .int l4), (5, .int l5)] → va_P D cls (wMod cI q0 q1 q2 q3 q4 q5 q6 q7 u) H → va_S (ad [q0, q1, q2, q3, q4, q5, q6, q7]) s.heap H locs → J_Mod_settle_25 l1 l2 l3 l4 l5 u = some v → W p l e ({ frames := 1, cells := 0, slots := 0, locals := 21 }) s m [.ref q0, .int a1, .int a2, .int a3, .int a4, .int a5].toArray below meth c H locs 0 0 (MQ below (va_Qv (fun (_ : Unit) => True) (fun _ t => va_P D cls (wMod cI q0 q1 q2 q3 q4 q5 q6 q7 v) t.heap) (ad [q0, q1, q2, q3, q4, q5, q6, q7])) [.ref q0, .int a1, .int a2, .int a3, .int a4, .int a5].toArray s 0 0 (ad [q0, q1, q2, q3, q4, q5, q6, q7])) (F0 m 25 ls []) := by
    intro ls H locs l1 l2 l3 l4 l5 u hl hP hS hf
    unfold J_Mod_settle_25 at hf
    refine lv_aload_n hx hb d_Mod_settle_25 rfl (lv_at hl 0 rfl) ?_
    refine lv_iconst (v := 0) hx hb d_Mod_settle_26 (by decide) ?_
    refine va_put (D := D) (ci := 7) (v := .int 0) (ty := .boolean) (C := R_Mod) (T := F_Mod) (N := 28) hx hb hw in_Mod t_Mod t_Mod_ok n_Mod hown hK hP (hD _) hS 0 rfl rfl 24 (by decide) (hw _ m_480) (fun _ h9 => h9) rfl (by decide +kernel) rfl rfl (Nat.le_of_ble_eq_true rfl) d_Mod_settle_27 (fun H locs hP _ hS => ?_)
    obtain ⟨u1, e_u1, hf⟩ := tk_o hf
    have hP : va_P D cls (wMod cI q0 q1 q2 q3 q4 q5 q6 q7 u1) H := by rw [e_u1]; exact hP
    exact j30 _ _ _ l1 l2 l3 l4 l5 u1 (lv_sub hl [0, 1, 2, 3, 4, 5] rfl) hP hS hf
  unfold f_Mod_settle at hf
  refine lv_iload hx hb d_Mod_settle_0 (lv_at hl 5 rfl) ?_
  refine lv_aload_n hx hb d_Mod_settle_2 rfl (lv_at hl 0 rfl) ?_
  refine va_get (D := D) (ci := 7) (v := .int (u 0 6)) (C := R_Mod) (T := F_Mod) (N := 28) hx hb hw in_Mod hown hK hP 0 rfl rfl 6 (by decide) (hw _ m_430) (fun _ h9 => h9) rfl d_Mod_settle_3 ?_
  refine lv_iconst (v := 2) hx hb d_Mod_settle_6 (by decide) ?_
  refine lv_idiv hx hb d_Mod_settle_7 (by decide) ?_
  refine lv_ineg hx hb d_Mod_settle_8 ?_
  refine lv_icmp_lt (tgt := 25) hx hb d_Mod_settle_9 (by decide) (fun hc => ?_) (fun hc => ?_)
  · have hf := bq_t hf hc
    exact j25 _ _ _ a1 a2 a3 a4 a5 u (lv_sub hl [0, 1, 2, 3, 4, 5] rfl) hP hS hf
  have hf := bq_n hf hc
  refine lv_iload hx hb d_Mod_settle_12 (lv_at hl 5 rfl) ?_
  refine lv_aload_n hx hb d_Mod_settle_14 rfl (lv_at hl 0 rfl) ?_
  refine va_get (D := D) (ci := 7) (v := .int (u 0 6)) (C := R_Mod) (T := F_Mod) (N := 28) hx hb hw in_Mod hown hK hP 0 rfl rfl 6 (by decide) (hw _ m_430) (fun _ h9 => h9) rfl d_Mod_settle_15 ?_
  refine lv_iconst (v := 1) hx hb d_Mod_settle_18 (by decide) ?_
  refine lv_iadd hx hb d_Mod_settle_19 ?_
  refine lv_iconst (v := 2) hx hb d_Mod_settle_20 (by decide) ?_
  refine lv_idiv hx hb d_Mod_settle_21 (by decide) ?_
  refine lv_icmp_lt (tgt := 30) hx hb d_Mod_settle_22 (by decide) (fun hc => ?_) (fun hc => ?_)
  · have hf := bq_t hf hc
    exact j30 _ _ _ a1 a2 a3 a4 a5 u (lv_sub hl [0, 1, 2, 3, 4, 5] rfl) hP hS hf
  have hf := bq_n hf hc
  exact j25 _ _ _ a1 a2 a3 a4 a5 u (lv_sub hl [0, 1, 2, 3, 4, 5] rfl) hP hS hf
def L_Mod_kFor_2 : Nat → Int32 → Int32 → Int32 → Option (Int32)
  | 0, _, _, _ => none
  | n + 1, l0, l1, l2 => bq (l1 ≤ (l0 <<< (l2 &&& 31))) (some l2) (tk (l2 + 1) fun x1 => (L_Mod_kFor_2 n) l0 l1 x1)
theorem L_Mod_kFor_2_z (l0 : Int32) (l1 : Int32) (l2 : Int32) : L_Mod_kFor_2 0 l0 l1 l2 = none := rfl
theorem L_Mod_kFor_2_s (n : Nat) (l0 : Int32) (l1 : Int32) (l2 : Int32) : L_Mod_kFor_2 (n + 1) l0 l1 l2 = bq (l1 ≤ (l0 <<< (l2 &&& 31))) (some l2) (tk (l2 + 1) fun x1 => (L_Mod_kFor_2 n) l0 l1 x1) := rfl
def f_Mod_kFor (a0 : Int32) (a1 : Int32) : Option (Int32) := L_Mod_kFor_2 2000 a0 a1 0
set_option maxHeartbeats 4000000 in
set_option maxRecDepth 100000 in
theorem c_Mod_kFor (l : Launch) (D : va_G) (cI : ClassId) (a0 : Int32) (a1 : Int32) (r : Int32) (hf : f_Mod_kFor a0 a1 = some r) : Met l y_Mod_kFor (.code y_Mod_kFor b_Mod_kFor 3 (some .int) :: TS) ({ frames := 0, cells := 0, slots := 0, locals := 0 }) (va_Pc [.int a0, .int a1] (fun U => va_P D cls (([] : va_W)) U.heap ∧ va_K D cls [(cI, .int)] U)) (va_Qi (fun x (_ : Unit) => x = r) (fun _ _ => True) (fun _ => False)) 0 0 (fun _ => False) := by
  refine ct_of (by decide +kernel) (Nat.le_of_ble_eq_true rfl) ?_
  intro p e s m below meth c ls hx hb hml hr hlocks hown hw hP hK hl
  have hS : va_S (fun _ => False) s.heap s.heap [] := va_S.rf
  have hl : lv_has ls 3 [(0, .int a0), (1, .int a1)] := hl
  have hP : va_P D cls (([] : va_W)) s.heap := hP
  have lp2 : ∀ (n2 : Nat), ∀ (ls : Array Slot) (H : Heap) (locs : List Loc) (l0 : Int32) (l1 : Int32) (l2 : Int32), lv_has ls 3 [(0, .int l0), (1, .int l1), (2, .int l2)] → va_P D cls (([] : va_W)) H → va_S (fun _ => False) s.heap H locs → L_Mod_kFor_2 n2 l0 l1 l2 = some r → W p l e ({ frames := 0, cells := 0, slots := 0, locals := 0 }) s m [.int a0, .int a1].toArray below meth c H locs 0 0 (MQ below (va_Qi (fun x (_ : Unit) => x = r) (fun _ _ => True) (fun _ => False)) [.int a0, .int a1].toArray s 0 0 (fun _ => False)) (F0 m 2 ls []) := by
    intro n2
    induction n2 with
    | zero =>
      intro ls H locs l0 l1 l2 hl hP hS hf
      rw [L_Mod_kFor_2_z] at hf
      cases hf
    | succ n2 ih2 =>
      intro ls H locs l0 l1 l2 hl hP hS hf
      rw [L_Mod_kFor_2_s] at hf
      refine lv_iload_n hx hb d_Mod_kFor_2 rfl (lv_at hl 0 rfl) ?_
      refine lv_iload_n hx hb d_Mod_kFor_3 rfl (lv_at hl 2 rfl) ?_
      refine lv_ishl hx hb d_Mod_kFor_4 ?_
      refine lv_iload_n hx hb d_Mod_kFor_5 rfl (lv_at hl 1 rfl) ?_
      refine lv_icmp_ge (tgt := 15) hx hb d_Mod_kFor_6 (by decide) (fun hc => ?_) (fun hc => ?_)
      · have hf := bq_t hf hc
        refine lv_iload_n hx hb d_Mod_kFor_15 rfl (lv_at hl 2 rfl) ?_
        exact rt_roi hx hb hr hlocks hS hf d_Mod_kFor_16
      have hf := bq_n hf hc
      obtain ⟨x1, e_x1, hf⟩ := tk_o hf
      refine lv_iinc (v := x1) (lv' := [(2, .int x1), (0, .int l0), (1, .int l1)]) hx hb d_Mod_kFor_9 hl (k := 2) rfl e_x1.symm (by decide) rfl (fun ls hl => ?_)
      refine lv_goto (tgt := 2) hx hb d_Mod_kFor_12 (by decide) ?_
      exact ih2 _ _ _ l0 l1 x1 (lv_sub hl [1, 2, 0] rfl) hP hS hf
  unfold f_Mod_kFor at hf
  refine lv_iconst (v := 0) hx hb d_Mod_kFor_0 (by decide) ?_
  refine lv_istore_n (lv' := [(2, .int 0), (0, .int a0), (1, .int a1)]) hx hb d_Mod_kFor_1 rfl hl (by decide) rfl (fun ls hl => ?_)
  exact lp2 2000 _ _ _ a0 a1 0 (lv_sub hl [1, 2, 0] rfl) hP hS hf
def f_Mod_quantized (a1 : Int32) (u : gU) : Option (Int32) := bq (0 ≤ a1) (bq ((u 0 4) < a1) (bq ((u 0 9) ≤ a1) (bq ((u 0 10) ≤ a1) (bq ((u 0 11) ≤ a1) (some 4) (some 3)) (some 2)) (some 1)) (some 0)) (bq ((-(u 0 11)) < a1) (bq ((-(u 0 10)) < a1) (bq ((-(u 0 9)) < a1) (bq ((-(u 0 4)) ≤ a1) (some 0) (some (-1))) (some (-2))) (some (-3))) (some (-4)))
set_option maxHeartbeats 4000000 in
set_option maxRecDepth 100000 in
theorem c_Mod_quantized (l : Launch) (D : va_G) (cI : ClassId) (q0 : Nat) (q1 : Nat) (q2 : Nat) (q3 : Nat) (q4 : Nat) (q5 : Nat) (q6 : Nat) (q7 : Nat) (a1 : Int32) (u : gU) (r : Int32) (hf : f_Mod_quantized a1 u = some r) : Met l y_Mod_quantized (.code y_Mod_quantized b_Mod_quantized 2 (some .int) :: TS) ({ frames := 0, cells := 0, slots := 0, locals := 0 }) (va_Pc [.ref q0, .int a1] (fun U => va_P D cls (wMod cI q0 q1 q2 q3 q4 q5 q6 q7 u) U.heap ∧ va_K D cls [(cI, .int)] U)) (va_Qi (fun x (_ : Unit) => x = r) (fun _ _ => True) (fun _ => False)) 0 0 (fun _ => False) := by
  refine ct_of (by decide +kernel) (Nat.le_of_ble_eq_true rfl) ?_
  intro p e s m below meth c ls hx hb hml hr hlocks hown hw hP hK hl
  have hS : va_S (fun _ => False) s.heap s.heap [] := va_S.rf
  have hl : lv_has ls 2 [(0, .ref q0), (1, .int a1)] := hl
  have hP : va_P D cls (wMod cI q0 q1 q2 q3 q4 q5 q6 q7 u) s.heap := hP
  unfold f_Mod_quantized at hf
  refine lv_iload_n hx hb d_Mod_quantized_0 rfl (lv_at hl 1 rfl) ?_
  refine lv_if_ge (tgt := 61) hx hb d_Mod_quantized_1 (by decide) (fun hc => ?_) (fun hc => ?_)
  · have hf := bq_t hf hc
    refine lv_iload_n hx hb d_Mod_quantized_61 rfl (lv_at hl 1 rfl) ?_
    refine lv_aload_n hx hb d_Mod_quantized_62 rfl (lv_at hl 0 rfl) ?_
    refine va_get (D := D) (ci := 7) (v := .int (u 0 4)) (C := R_Mod) (T := F_Mod) (N := 28) hx hb hw in_Mod hown hK hP 0 rfl rfl 4 (by decide) (hw _ m_428) (fun _ h9 => h9) rfl d_Mod_quantized_63 ?_
    refine lv_icmp_gt (tgt := 73) hx hb d_Mod_quantized_66 (by decide) (fun hc => ?_) (fun hc => ?_)
    · have hf := bq_t hf hc
      refine lv_iload_n hx hb d_Mod_quantized_73 rfl (lv_at hl 1 rfl) ?_
      refine lv_aload_n hx hb d_Mod_quantized_74 rfl (lv_at hl 0 rfl) ?_
      refine va_get (D := D) (ci := 7) (v := .int (u 0 9)) (C := R_Mod) (T := F_Mod) (N := 28) hx hb hw in_Mod hown hK hP 0 rfl rfl 9 (by decide) (hw _ m_444) (fun _ h9 => h9) rfl d_Mod_quantized_75 ?_
      refine lv_icmp_ge (tgt := 85) hx hb d_Mod_quantized_78 (by decide) (fun hc => ?_) (fun hc => ?_)
      · have hf := bq_t hf hc
        refine lv_iload_n hx hb d_Mod_quantized_85 rfl (lv_at hl 1 rfl) ?_
        refine lv_aload_n hx hb d_Mod_quantized_86 rfl (lv_at hl 0 rfl) ?_
        refine va_get (D := D) (ci := 7) (v := .int (u 0 10)) (C := R_Mod) (T := F_Mod) (N := 28) hx hb hw in_Mod hown hK hP 0 rfl rfl 10 (by decide) (hw _ m_445) (fun _ h9 => h9) rfl d_Mod_quantized_87 ?_
        refine lv_icmp_ge (tgt := 97) hx hb d_Mod_quantized_90 (by decide) (fun hc => ?_) (fun hc => ?_)
        · have hf := bq_t hf hc
          refine lv_iload_n hx hb d_Mod_quantized_97 rfl (lv_at hl 1 rfl) ?_
          refine lv_aload_n hx hb d_Mod_quantized_98 rfl (lv_at hl 0 rfl) ?_
          refine va_get (D := D) (ci := 7) (v := .int (u 0 11)) (C := R_Mod) (T := F_Mod) (N := 28) hx hb hw in_Mod hown hK hP 0 rfl rfl 11 (by decide) (hw _ m_446) (fun _ h9 => h9) rfl d_Mod_quantized_99 ?_
          refine lv_icmp_ge (tgt := 109) hx hb d_Mod_quantized_102 (by decide) (fun hc => ?_) (fun hc => ?_)
          · have hf := bq_t hf hc
            refine lv_iconst (v := 4) hx hb d_Mod_quantized_109 (by decide) ?_
            exact rt_roi hx hb hr hlocks hS hf d_Mod_quantized_110
          have hf := bq_n hf hc
          refine lv_iconst (v := 3) hx hb d_Mod_quantized_105 (by decide) ?_
          refine lv_goto (tgt := 110) hx hb d_Mod_quantized_106 (by decide) ?_
          exact rt_roi hx hb hr hlocks hS hf d_Mod_quantized_110
        have hf := bq_n hf hc
        refine lv_iconst (v := 2) hx hb d_Mod_quantized_93 (by decide) ?_
        refine lv_goto (tgt := 110) hx hb d_Mod_quantized_94 (by decide) ?_
        exact rt_roi hx hb hr hlocks hS hf d_Mod_quantized_110
      have hf := bq_n hf hc
      refine lv_iconst (v := 1) hx hb d_Mod_quantized_81 (by decide) ?_
      refine lv_goto (tgt := 110) hx hb d_Mod_quantized_82 (by decide) ?_
      exact rt_roi hx hb hr hlocks hS hf d_Mod_quantized_110
    have hf := bq_n hf hc
    refine lv_iconst (v := 0) hx hb d_Mod_quantized_69 (by decide) ?_
    refine lv_goto (tgt := 110) hx hb d_Mod_quantized_70 (by decide) ?_
    exact rt_roi hx hb hr hlocks hS hf d_Mod_quantized_110
  have hf := bq_n hf hc
  refine lv_iload_n hx hb d_Mod_quantized_4 rfl (lv_at hl 1 rfl) ?_
  refine lv_aload_n hx hb d_Mod_quantized_5 rfl (lv_at hl 0 rfl) ?_
  refine va_get (D := D) (ci := 7) (v := .int (u 0 11)) (C := R_Mod) (T := F_Mod) (N := 28) hx hb hw in_Mod hown hK hP 0 rfl rfl 11 (by decide) (hw _ m_446) (fun _ h9 => h9) rfl d_Mod_quantized_6 ?_
  refine lv_ineg hx hb d_Mod_quantized_9 ?_
  refine lv_icmp_gt (tgt := 18) hx hb d_Mod_quantized_10 (by decide) (fun hc => ?_) (fun hc => ?_)
  · have hf := bq_t hf hc
    refine lv_iload_n hx hb d_Mod_quantized_18 rfl (lv_at hl 1 rfl) ?_
    refine lv_aload_n hx hb d_Mod_quantized_19 rfl (lv_at hl 0 rfl) ?_
    refine va_get (D := D) (ci := 7) (v := .int (u 0 10)) (C := R_Mod) (T := F_Mod) (N := 28) hx hb hw in_Mod hown hK hP 0 rfl rfl 10 (by decide) (hw _ m_445) (fun _ h9 => h9) rfl d_Mod_quantized_20 ?_
    refine lv_ineg hx hb d_Mod_quantized_23 ?_
    refine lv_icmp_gt (tgt := 32) hx hb d_Mod_quantized_24 (by decide) (fun hc => ?_) (fun hc => ?_)
    · have hf := bq_t hf hc
      refine lv_iload_n hx hb d_Mod_quantized_32 rfl (lv_at hl 1 rfl) ?_
      refine lv_aload_n hx hb d_Mod_quantized_33 rfl (lv_at hl 0 rfl) ?_
      refine va_get (D := D) (ci := 7) (v := .int (u 0 9)) (C := R_Mod) (T := F_Mod) (N := 28) hx hb hw in_Mod hown hK hP 0 rfl rfl 9 (by decide) (hw _ m_444) (fun _ h9 => h9) rfl d_Mod_quantized_34 ?_
      refine lv_ineg hx hb d_Mod_quantized_37 ?_
      refine lv_icmp_gt (tgt := 46) hx hb d_Mod_quantized_38 (by decide) (fun hc => ?_) (fun hc => ?_)
      · have hf := bq_t hf hc
        refine lv_iload_n hx hb d_Mod_quantized_46 rfl (lv_at hl 1 rfl) ?_
        refine lv_aload_n hx hb d_Mod_quantized_47 rfl (lv_at hl 0 rfl) ?_
        refine va_get (D := D) (ci := 7) (v := .int (u 0 4)) (C := R_Mod) (T := F_Mod) (N := 28) hx hb hw in_Mod hown hK hP 0 rfl rfl 4 (by decide) (hw _ m_428) (fun _ h9 => h9) rfl d_Mod_quantized_48 ?_
        refine lv_ineg hx hb d_Mod_quantized_51 ?_
        refine lv_icmp_ge (tgt := 59) hx hb d_Mod_quantized_52 (by decide) (fun hc => ?_) (fun hc => ?_)
        · have hf := bq_t hf hc
          refine lv_iconst (v := 0) hx hb d_Mod_quantized_59 (by decide) ?_
          exact rt_roi hx hb hr hlocks hS hf d_Mod_quantized_60
        have hf := bq_n hf hc
        refine lv_iconst (v := (-1)) hx hb d_Mod_quantized_55 (by decide) ?_
        refine lv_goto (tgt := 60) hx hb d_Mod_quantized_56 (by decide) ?_
        exact rt_roi hx hb hr hlocks hS hf d_Mod_quantized_60
      have hf := bq_n hf hc
      refine lv_bipush (v := (-2)) hx hb d_Mod_quantized_41 (by decide) ?_
      refine lv_goto (tgt := 60) hx hb d_Mod_quantized_43 (by decide) ?_
      exact rt_roi hx hb hr hlocks hS hf d_Mod_quantized_60
    have hf := bq_n hf hc
    refine lv_bipush (v := (-3)) hx hb d_Mod_quantized_27 (by decide) ?_
    refine lv_goto (tgt := 60) hx hb d_Mod_quantized_29 (by decide) ?_
    exact rt_roi hx hb hr hlocks hS hf d_Mod_quantized_60
  have hf := bq_n hf hc
  refine lv_bipush (v := (-4)) hx hb d_Mod_quantized_13 (by decide) ?_
  refine lv_goto (tgt := 60) hx hb d_Mod_quantized_15 (by decide) ?_
  exact rt_roi hx hb hr hlocks hS hf d_Mod_quantized_60
