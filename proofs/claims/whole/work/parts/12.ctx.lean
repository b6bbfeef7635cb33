def L_Arrs_fill_102_5 (nn : Nat) : Nat → Int32 → Int32 → Int32 → gU → Option (gU)
  | 0, _, _, _, _ => none
  | n + 1, l1, l2, l3, u => bq (l3 ≤ l2) (some u) (gd (ix l2 nn) (tk (st2 u 0 (tc l2) l1) fun u2 => tk (l2 + 1) fun x3 => (L_Arrs_fill_102_5 nn n) l1 x3 l3 u2))
theorem L_Arrs_fill_102_5_z (nn : Nat) (l1 : Int32) (l2 : Int32) (l3 : Int32) (u : gU) : L_Arrs_fill_102_5 nn 0 l1 l2 l3 u = none := rfl
theorem L_Arrs_fill_102_5_s (nn : Nat) (n : Nat) (l1 : Int32) (l2 : Int32) (l3 : Int32) (u : gU) : L_Arrs_fill_102_5 nn (n + 1) l1 l2 l3 u = bq (l3 ≤ l2) (some u) (gd (ix l2 nn) (tk (st2 u 0 (tc l2) l1) fun u2 => tk (l2 + 1) fun x3 => (L_Arrs_fill_102_5 nn n) l1 x3 l3 u2)) := rfl
def f_Arrs_fill_102 (nn : Nat) (a1 : Int32) (u : gU) : Option (gU) := tk (nI nn) fun x1 => L_Arrs_fill_102_5 nn 2000 a1 0 x1 u
set_option maxHeartbeats 4000000 in
set_option maxRecDepth 100000 in
theorem c_Arrs_fill_102 (l : Launch) (D : va_G) (cI : ClassId) (nn : Nat) (q0 : Nat) (hd : dj [q0]) (a1 : Int32) (u : gU) (v : gU) (hf : f_Arrs_fill_102 nn a1 u = some v) : Met l y_Arrs_fill_102 (.code y_Arrs_fill_102 b_Arrs_fill_102 4 none :: TS) ({ frames := 0, cells := 0, slots := 0, locals := 0 }) (va_Pc [.ref q0, .int a1] (fun U => va_P D cls (wArrN cI nn q0 u) U.heap ∧ va_K D cls [(cI, .int)] U)) (va_Qv (fun (_ : Unit) => True) (fun _ t => va_P D cls (wArrN cI nn q0 v) t.heap) (ad [q0])) 0 0 (ad [q0]) := by
  refine ct_of (by decide +kernel) (Nat.le_of_ble_eq_true rfl) ?_
  intro p e s m below meth c ls hx hb hml hr hlocks hown hw hP hK hl
  have hS : va_S (ad [q0]) s.heap s.heap [] := va_S.rf
  have hD : ∀ v, va_D (ad [q0]) (wArrN cI nn q0 v) := fun _ => dj_D rfl hd
  have hl : lv_has ls 4 [(0, .ref q0), (1, .int a1)] := hl
  have hP : va_P D cls (wArrN cI nn q0 u) s.heap := hP
  have lp5 : ∀ (n5 : Nat), ∀ (ls : Array Slot) (H : Heap) (locs : List Loc) (l1 : Int32) (l2 : Int32) (l3 : Int32) (u : gU), lv_has ls 4 [(0, .ref q0), (1, .int l1), (2, .int l2), (3, .int l3)] → va_P D cls (wArrN cI nn q0 u) H → va_S (ad [q0]) s.heap H locs → L_Arrs_fill_102_5 nn n5 l1 l2 l3 u = some v → W p l e ({ frames := 0, cells := 0, slots := 0, locals := 0 }) s m [.ref q0, .int a1].toArray below meth c H locs 0 0 (MQ below (va_Qv (fun (_ : Unit) => True) (fun _ t => va_P D cls (wArrN cI nn q0 v) t.heap) (ad [q0])) [.ref q0, .int a1].toArray s 0 0 (ad [q0])) (F0 m 5 ls []) := by
    intro n5
    induction n5 with
    | zero =>
      intro ls H locs l1 l2 l3 u hl hP hS hf
      rw [L_Arrs_fill_102_5_z] at hf
      cases hf
    | succ n5 ih5 =>
      intro ls H locs l1 l2 l3 u hl hP hS hf
      rw [L_Arrs_fill_102_5_s] at hf
      refine lv_iload_n hx hb d_Arrs_fill_102_5 rfl (lv_at hl 2 rfl) ?_
      refine lv_iload_n hx hb d_Arrs_fill_102_6 rfl (lv_at hl 3 rfl) ?_
      refine lv_icmp_ge (tgt := 20) hx hb d_Arrs_fill_102_7 (by decide) (fun hc => ?_) (fun hc => ?_)
      · have hf := bq_t hf hc
        exact rt_v (wArrN cI nn q0) hx hb hr hlocks hS hP hf d_Arrs_fill_102_20
      have hf := bq_n hf hc
      refine lv_aload_n hx hb d_Arrs_fill_102_10 rfl (lv_at hl 0 rfl) ?_
      refine lv_iload_n hx hb d_Arrs_fill_102_11 rfl (lv_at hl 2 rfl) ?_
      refine lv_iload_n hx hb d_Arrs_fill_102_12 rfl (lv_at hl 1 rfl) ?_
      obtain ⟨h1, hf⟩ := gd_o hf
      refine va_iast hx hb hK hP (hD _) hS 0 0 rfl rfl (ix_in h1) d_Arrs_fill_102_13 (fun H locs hP _ hS => ?_)
      obtain ⟨u2, e_u2, hf⟩ := tk_o hf
      have hP : va_P D cls (wArrN cI nn q0 u2) H := by rw [e_u2]; exact hP
      obtain ⟨x3, e_x3, hf⟩ := tk_o hf
      refine lv_iinc (v := x3) (lv' := [(2, .int x3), (0, .ref q0), (1, .int l1), (3, .int l3)]) hx hb d_Arrs_fill_102_14 hl (k := 2) rfl e_x3.symm (by decide) rfl (fun ls hl => ?_)
      refine lv_goto (tgt := 5) hx hb d_Arrs_fill_102_17 (by decide) ?_
      exact ih5 _ _ _ l1 x3 l3 u2 (lv_sub hl [1, 2, 0, 3] rfl) hP hS hf
  unfold f_Arrs_fill_102 at hf
  refine lv_iconst (v := 0) hx hb d_Arrs_fill_102_0 (by decide) ?_
  refine lv_istore_n (lv' := [(2, .int 0), (0, .ref q0), (1, .int a1)]) hx hb d_Arrs_fill_102_1 rfl hl (by decide) rfl (fun ls hl => ?_)
  refine lv_aload_n hx hb d_Arrs_fill_102_2 rfl (lv_at hl 1 rfl) ?_
  refine va_alen (v := nI nn) hx hb hK hP 0 0 rfl rfl rfl d_Arrs_fill_102_3 ?_
  refine lv_topi (fun x1 e_x1 => ?_)
  have hf := tk_e hf e_x1
  refine lv_istore_n (lv' := [(3, .int x1), (2, .int 0), (0, .ref q0), (1, .int a1)]) hx hb d_Arrs_fill_102_4 rfl hl (by decide) rfl (fun ls hl => ?_)
  exact lp5 2000 _ _ _ a1 0 x1 u (lv_sub hl [2, 3, 1, 0] rfl) hP hS hf
def f_Ctx_j (u : gU) : Option (Int32) := gd (ix (u 0 0) 32) (some (jv (tc (u 0 0))))
set_option maxHeartbeats 4000000 in
set_option maxRecDepth 100000 in
theorem c_Ctx_j (l : Launch) (D : va_G) (cI : ClassId) (tJ : Nat) (q0 : Nat) (q1 : Nat) (q2 : Nat) (q3 : Nat) (q4 : Nat) (q5 : Nat) (u : gU) (r : Int32) (hf : f_Ctx_j u = some r) : Met l y_Ctx_j (.code y_Ctx_j b_Ctx_j 1 (some .int) :: TS) ({ frames := 0, cells := 0, slots := 0, locals := 0 }) (va_Pc [.ref q0] (fun U => va_P D cls (wCtx cI q0 q1 q2 q3 q4 q5 u) U.heap ∧ va_K D cls [(cI, .int)] U ∧ Jt tJ (fun _ => False) U)) (va_Qi (fun x (_ : Unit) => x = r) (fun _ _ => True) (fun _ => False)) 0 0 (fun _ => False) := by
  refine ct_ofJ (by decide +kernel) (Nat.le_of_ble_eq_true rfl) ?_
  intro p e s m below meth c ls hx hb hml hr hlocks hown hw hP hK hJ hl
  have hS : va_S (fun _ => False) s.heap s.heap [] := va_S.rf
  have hl : lv_has ls 1 [(0, .ref q0)] := hl
  have hP : va_P D cls (wCtx cI q0 q1 q2 q3 q4 q5 u) s.heap := hP
  unfold f_Ctx_j at hf
  refine va_gets hx hb hJ.1 hS hown (hw _ m_112) (fun _ h9 => h9) d_Ctx_j_0 ?_
  refine lv_aload_n hx hb d_Ctx_j_3 rfl (lv_at hl 0 rfl) ?_
  refine va_get (D := D) (ci := 2) (v := .int (u 0 0)) (C := R_Ctx) (T := F_Ctx) (N := 6) hx hb hw in_Ctx hown hK hP 0 rfl rfl 5 (by decide) (hw _ m_113) (fun _ h9 => h9) rfl d_Ctx_j_4 ?_
  obtain ⟨h1, hf⟩ := gd_o hf
  refine va_ti hx hb hJ.2.1 hS (ix_in h1) (v := .int (jv (tc (u 0 0)))) rfl d_Ctx_j_7 ?_
  exact rt_roi hx hb hr hlocks hS hf d_Ctx_j_8
def f_Ctx_raiseRunIndex (u : gU) : Option (gU) := bq (31 ≤ (u 0 0)) (some u) (tk (st2 u 0 0 ((u 0 0) + 1)) fun u1 => some u1)
set_option maxHeartbeats 4000000 in
set_option maxRecDepth 100000 in
theorem c_Ctx_raiseRunIndex (l : Launch) (D : va_G) (cI : ClassId) (q0 : Nat) (q1 : Nat) (q2 : Nat) (q3 : Nat) (q4 : Nat) (q5 : Nat) (hd : dj [q0, q1, q2, q3, q4, q5]) (u : gU) (v : gU) (hf : f_Ctx_raiseRunIndex u = some v) : Met l y_Ctx_raiseRunIndex (.code y_Ctx_raiseRunIndex b_Ctx_raiseRunIndex 1 none :: TS) ({ frames := 0, cells := 0, slots := 0, locals := 0 }) (va_Pc [.ref q0] (fun U => va_P D cls (wCtx cI q0 q1 q2 q3 q4 q5 u) U.heap ∧ va_K D cls [(cI, .int)] U)) (va_Qv (fun (_ : Unit) => True) (fun _ t => va_P D cls (wCtx cI q0 q1 q2 q3 q4 q5 v) t.heap) (ad [q0, q1, q2, q3, q4, q5])) 0 0 (ad [q0, q1, q2, q3, q4, q5]) := by
  refine ct_of (by decide +kernel) (Nat.le_of_ble_eq_true rfl) ?_
  intro p e s m below meth c ls hx hb hml hr hlocks hown hw hP hK hl
  have hS : va_S (ad [q0, q1, q2, q3, q4, q5]) s.heap s.heap [] := va_S.rf
  have hD : ∀ v, va_D (ad [q0, q1, q2, q3, q4, q5]) (wCtx cI q0 q1 q2 q3 q4 q5 v) := fun _ => dj_D rfl hd
  have hl : lv_has ls 1 [(0, .ref q0)] := hl
  have hP : va_P D cls (wCtx cI q0 q1 q2 q3 q4 q5 u) s.heap := hP
  unfold f_Ctx_raiseRunIndex at hf
  refine lv_aload_n hx hb d_Ctx_raiseRunIndex_0 rfl (lv_at hl 0 rfl) ?_
  refine va_get (D := D) (ci := 2) (v := .int (u 0 0)) (C := R_Ctx) (T := F_Ctx) (N := 6) hx hb hw in_Ctx hown hK hP 0 rfl rfl 5 (by decide) (hw _ m_113) (fun _ h9 => h9) rfl d_Ctx_raiseRunIndex_1 ?_
  refine lv_bipush (v := 31) hx hb d_Ctx_raiseRunIndex_4 (by decide) ?_
  refine lv_icmp_ge (tgt := 19) hx hb d_Ctx_raiseRunIndex_6 (by decide) (fun hc => ?_) (fun hc => ?_)
  · have hf := bq_t hf hc
    exact rt_v (wCtx cI q0 q1 q2 q3 q4 q5) hx hb hr hlocks hS hP hf d_Ctx_raiseRunIndex_19
  have hf := bq_n hf hc
  refine lv_aload_n hx hb d_Ctx_raiseRunIndex_9 rfl (lv_at hl 0 rfl) ?_
  refine lv_dup hx hb d_Ctx_raiseRunIndex_10 rfl ?_
  refine va_get (D := D) (ci := 2) (v := .int (u 0 0)) (C := R_Ctx) (T := F_Ctx) (N := 6) hx hb hw in_Ctx hown hK hP 0 rfl rfl 5 (by decide) (hw _ m_113) (fun _ h9 => h9) rfl d_Ctx_raiseRunIndex_11 ?_
  refine lv_iconst (v := 1) hx hb d_Ctx_raiseRunIndex_14 (by decide) ?_
  refine lv_iadd hx hb d_Ctx_raiseRunIndex_15 ?_
  refine va_put (D := D) (ci := 2) (v := .int ((u 0 0) + 1)) (ty := .int) (C := R_Ctx) (T := F_Ctx) (N := 6) hx hb hw in_Ctx t_Ctx t_Ctx_ok n_Ctx hown hK hP (hD _) hS 0 rfl rfl 5 (by decide) (hw _ m_113) (fun _ h9 => h9) rfl (by decide +kernel) rfl rfl (Nat.le_of_ble_eq_true rfl) d_Ctx_raiseRunIndex_16 (fun H locs hP _ hS => ?_)
  obtain ⟨u1, e_u1, hf⟩ := tk_o hf
  have hP : va_P D cls (wCtx cI q0 q1 q2 q3 q4 q5 u1) H := by rw [e_u1]; exact hP
  exact rt_v (wCtx cI q0 q1 q2 q3 q4 q5) hx hb hr hlocks hS hP hf d_Ctx_raiseRunIndex_19
def f_Ctx_lowerRunIndex (u : gU) : Option (gU) := bq ((u 0 0) ≤ 0) (some u) (tk (st2 u 0 0 ((u 0 0) - 1)) fun u1 => some u1)
set_option maxHeartbeats 4000000 in
set_option maxRecDepth 100000 in
theorem c_Ctx_lowerRunIndex (l : Launch) (D : va_G) (cI : ClassId) (q0 : Nat) (q1 : Nat) (q2 : Nat) (q3 : Nat) (q4 : Nat) (q5 : Nat) (hd : dj [q0, q1, q2, q3, q4, q5]) (u : gU) (v : gU) (hf : f_Ctx_lowerRunIndex u = some v) : Met l y_Ctx_lowerRunIndex (.code y_Ctx_lowerRunIndex b_Ctx_lowerRunIndex 1 none :: TS) ({ frames := 0, cells := 0, slots := 0, locals := 0 }) (va_Pc [.ref q0] (fun U => va_P D cls (wCtx cI q0 q1 q2 q3 q4 q5 u) U.heap ∧ va_K D cls [(cI, .int)] U)) (va_Qv (fun (_ : Unit) => True) (fun _ t => va_P D cls (wCtx cI q0 q1 q2 q3 q4 q5 v) t.heap) (ad [q0, q1, q2, q3, q4, q5])) 0 0 (ad [q0, q1, q2, q3, q4, q5]) := by
  refine ct_of (by decide +kernel) (Nat.le_of_ble_eq_true rfl) ?_
  intro p e s m below meth c ls hx hb hml hr hlocks hown hw hP hK hl
  have hS : va_S (ad [q0, q1, q2, q3, q4, q5]) s.heap s.heap [] := va_S.rf
  have hD : ∀ v, va_D (ad [q0, q1, q2, q3, q4, q5]) (wCtx cI q0 q1 q2 q3 q4 q5 v) := fun _ => dj_D rfl hd
  have hl : lv_has ls 1 [(0, .ref q0)] := hl
  have hP : va_P D cls (wCtx cI q0 q1 q2 q3 q4 q5 u) s.heap := hP
  unfold f_Ctx_lowerRunIndex at hf
  refine lv_aload_n hx hb d_Ctx_lowerRunIndex_0 rfl (lv_at hl 0 rfl) ?_
  refine va_get (D := D) (ci := 2) (v := .int (u 0 0)) (C := R_Ctx) (T := F_Ctx) (N := 6) hx hb hw in_Ctx hown hK hP 0 rfl rfl 5 (by decide) (hw _ m_113) (fun _ h9 => h9) rfl d_Ctx_lowerRunIndex_1 ?_
  refine lv_if_le (tgt := 17) hx hb d_Ctx_lowerRunIndex_4 (by decide) (fun hc => ?_) (fun hc => ?_)
  · have hf := bq_t hf hc
    exact rt_v (wCtx cI q0 q1 q2 q3 q4 q5) hx hb hr hlocks hS hP hf d_Ctx_lowerRunIndex_17
  have hf := bq_n hf hc
  refine lv_aload_n hx hb d_Ctx_lowerRunIndex_7 rfl (lv_at hl 0 rfl) ?_
  refine lv_dup hx hb d_Ctx_lowerRunIndex_8 rfl ?_
  refine va_get (D := D) (ci := 2) (v := .int (u 0 0)) (C := R_Ctx) (T := F_Ctx) (N := 6) hx hb hw in_Ctx hown hK hP 0 rfl rfl 5 (by decide) (hw _ m_113) (fun _ h9 => h9) rfl d_Ctx_lowerRunIndex_9 ?_
  refine lv_iconst (v := 1) hx hb d_Ctx_lowerRunIndex_12 (by decide) ?_
  refine lv_isub hx hb d_Ctx_lowerRunIndex_13 ?_
  refine va_put (D := D) (ci := 2) (v := .int ((u 0 0) - 1)) (ty := .int) (C := R_Ctx) (T := F_Ctx) (N := 6) hx hb hw in_Ctx t_Ctx t_Ctx_ok n_Ctx hown hK hP (hD _) hS 0 rfl rfl 5 (by decide) (hw _ m_113) (fun _ h9 => h9) rfl (by decide +kernel) rfl rfl (Nat.le_of_ble_eq_true rfl) d_Ctx_lowerRunIndex_14 (fun H locs hP _ hS => ?_)
  obtain ⟨u1, e_u1, hf⟩ := tk_o hf
  have hP : va_P D cls (wCtx cI q0 q1 q2 q3 q4 q5 u1) H := by rw [e_u1]; exact hP
  exact rt_v (wCtx cI q0 q1 q2 q3 q4 q5) hx hb hr hlocks hS hP hf d_Ctx_lowerRunIndex_17
def L_Ctx_leastK_2 : Nat → Int32 → Int32 → Int32 → gU → Option (Int32)
  | 0, _, _, _, _ => none
  | n + 1, l1, l2, l3, u => bq (24 ≤ l3) (some l3) (gd (ix l1 367) (bq (l2 ≤ ((u 4 (tc l1)) <<< (l3 &&& 31))) (some l3) (tk (l3 + 1) fun x2 => (L_Ctx_leastK_2 n) l1 l2 x2 u)))
theorem L_Ctx_leastK_2_z (l1 : Int32) (l2 : Int32) (l3 : Int32) (u : gU) : L_Ctx_leastK_2 0 l1 l2 l3 u = none := rfl
theorem L_Ctx_leastK_2_s (n : Nat) (l1 : Int32) (l2 : Int32) (l3 : Int32) (u : gU) : L_Ctx_leastK_2 (n + 1) l1 l2 l3 u = bq (24 ≤ l3) (some l3) (gd (ix l1 367) (bq (l2 ≤ ((u 4 (tc l1)) <<< (l3 &&& 31))) (some l3) (tk (l3 + 1) fun x2 => (L_Ctx_leastK_2 n) l1 l2 x2 u))) := rfl
def f_Ctx_leastK (a1 : Int32) (a2 : Int32) (u : gU) : Option (Int32) := L_Ctx_leastK_2 40 a1 a2 0 u
set_option maxHeartbeats 4000000 in
set_option maxRecDepth 100000 in
theorem c_Ctx_leastK (l : Launch) (D : va_G) (cI : ClassId) (q0 : Nat) (q1 : Nat) (q2 : Nat) (q3 : Nat) (q4 : Nat) (q5 : Nat) (a1 : Int32) (a2 : Int32) (u : gU) (r : Int32) (hf : f_Ctx_leastK a1 a2 u = some r) : Met l y_Ctx_leastK (.code y_Ctx_leastK b_Ctx_leastK 4 (some .int) :: TS) ({ frames := 0, cells := 0, slots := 0, locals := 0 }) (va_Pc [.ref q0, .int a1, .int a2] (fun U => va_P D cls (wCtx cI q0 q1 q2 q3 q4 q5 u) U.heap ∧ va_K D cls [(cI, .int)] U)) (va_Qi (fun x (_ : Unit) => x = r) (fun _ _ => True) (fun _ => False)) 0 0 (fun _ => False) := by
  refine ct_of (by decide +kernel) (Nat.le_of_ble_eq_true rfl) ?_
  intro p e s m below meth c ls hx hb hml hr hlocks hown hw hP hK hl
  have hS : va_S (fun _ => False) s.heap s.heap [] := va_S.rf
  have hl : lv_has ls 4 [(0, .ref q0), (1, .int a1), (2, .int a2)] := hl
  have hP : va_P D cls (wCtx cI q0 q1 q2 q3 q4 q5 u) s.heap := hP
  have lp2 : ∀ (n2 : Nat), ∀ (ls : Array Slot) (H : Heap) (locs : List Loc) (l1 : Int32) (l2 : Int32) (l3 : Int32) (u : gU), lv_has ls 4 [(0, .ref q0), (1, .int l1), (2, .int l2), (3, .int l3)] → va_P D cls (wCtx cI q0 q1 q2 q3 q4 q5 u) H → va_S (fun _ => False) s.heap H locs → L_Ctx_leastK_2 n2 l1 l2 l3 u = some r → W p l e ({ frames := 0, cells := 0, slots := 0, locals := 0 }) s m [.ref q0, .int a1, .int a2].toArray below meth c H locs 0 0 (MQ below (va_Qi (fun x (_ : Unit) => x = r) (fun _ _ => True) (fun _ => False)) [.ref q0, .int a1, .int a2].toArray s 0 0 (fun _ => False)) (F0 m 2 ls []) := by
    intro n2
    induction n2 with
    | zero =>
      intro ls H locs l1 l2 l3 u hl hP hS hf
      rw [L_Ctx_leastK_2_z] at hf
      cases hf
    | succ n2 ih2 =>
      intro ls H locs l1 l2 l3 u hl hP hS hf
      rw [L_Ctx_leastK_2_s] at hf
      refine lv_iload_n hx hb d_Ctx_leastK_2 rfl (lv_at hl 3 rfl) ?_
      refine lv_bipush (v := 24) hx hb d_Ctx_leastK_3 (by decide) ?_
      refine lv_icmp_ge (tgt := 26) hx hb d_Ctx_leastK_5 (by decide) (fun hc => ?_) (fun hc => ?_)
      · have hf := bq_t hf hc
        refine lv_iload_n hx hb d_Ctx_leastK_26 rfl (lv_at hl 3 rfl) ?_
        exact rt_roi hx hb hr hlocks hS hf d_Ctx_leastK_27
      have hf := bq_n hf hc
      refine lv_aload_n hx hb d_Ctx_leastK_8 rfl (lv_at hl 0 rfl) ?_
      refine va_get (D := D) (ci := 2) (v := .ref q4) (C := R_Ctx) (T := F_Ctx) (N := 6) hx hb hw in_Ctx hown hK hP 0 rfl rfl 3 (by decide) (hw _ m_114) (fun _ h9 => h9) rfl d_Ctx_leastK_9 ?_
      refine lv_iload_n hx hb d_Ctx_leastK_12 rfl (lv_at hl 1 rfl) ?_
      obtain ⟨h1, hf⟩ := gd_o hf
      refine va_iald hx hb hK hP 4 0 rfl rfl (ix_in h1) d_Ctx_leastK_13 ?_
      refine lv_iload_n hx hb d_Ctx_leastK_14 rfl (lv_at hl 3 rfl) ?_
      refine lv_ishl hx hb d_Ctx_leastK_15 ?_
      refine lv_iload_n hx hb d_Ctx_leastK_16 rfl (lv_at hl 2 rfl) ?_
      refine lv_icmp_ge (tgt := 26) hx hb d_Ctx_leastK_17 (by decide) (fun hc => ?_) (fun hc => ?_)
      · have hf := bq_t hf hc
        refine lv_iload_n hx hb d_Ctx_leastK_26 rfl (lv_at hl 3 rfl) ?_
        exact rt_roi hx hb hr hlocks hS hf d_Ctx_leastK_27
      have hf := bq_n hf hc
      obtain ⟨x2, e_x2, hf⟩ := tk_o hf
      refine lv_iinc (v := x2) (lv' := [(3, .int x2), (0, .ref q0), (1, .int l1), (2, .int l2)]) hx hb d_Ctx_leastK_20 hl (k := 3) rfl e_x2.symm (by decide) rfl (fun ls hl => ?_)
      refine lv_goto (tgt := 2) hx hb d_Ctx_leastK_23 (by decide) ?_
      exact ih2 _ _ _ l1 l2 x2 u (lv_sub hl [1, 2, 3, 0] rfl) hP hS hf
  unfold f_Ctx_leastK at hf
  refine lv_iconst (v := 0) hx hb d_Ctx_leastK_0 (by decide) ?_
  refine lv_istore_n (lv' := [(3, .int 0), (0, .ref q0), (1, .int a1), (2, .int a2)]) hx hb d_Ctx_leastK_1 rfl hl (by decide) rfl (fun ls hl => ?_)
  exact lp2 40 _ _ _ a1 a2 0 u (lv_sub hl [1, 2, 3, 0] rfl) hP hS hf
def f_Ctx_kOfRegular (a1 : Int32) (u : gU) : Option (Int32) := gd (ix a1 367) (bd (f_Ctx_leastK a1 (u 1 (tc a1)) u) fun x2 => some x2)
set_option maxHeartbeats 4000000 in
set_option maxRecDepth 100000 in
theorem c_Ctx_kOfRegular (l : Launch) (D : va_G) (cI : ClassId) (q0 : Nat) (q1 : Nat) (q2 : Nat) (q3 : Nat) (q4 : Nat) (q5 : Nat) (a1 : Int32) (u : gU) (r : Int32) (hf : f_Ctx_kOfRegular a1 u = some r) : Met l y_Ctx_kOfRegular (.code y_Ctx_kOfRegular b_Ctx_kOfRegular 2 (some .int) :: TS) ({ frames := 1, cells := 0, slots := 0, locals := 23 }) (va_Pc [.ref q0, .int a1] (fun U => va_P D cls (wCtx cI q0 q1 q2 q3 q4 q5 u) U.heap ∧ va_K D cls [(cI, .int)] U)) (va_Qi (fun x (_ : Unit) => x = r) (fun _ _ => True) (fun _ => False)) 0 0 (fun _ => False) := by
  refine ct_of (by decide +kernel) (Nat.le_of_ble_eq_true rfl) ?_
  intro p e s m below meth c ls hx hb hml hr hlocks hown hw hP hK hl
  have hS : va_S (fun _ => False) s.heap s.heap [] := va_S.rf
  have hl : lv_has ls 2 [(0, .ref q0), (1, .int a1)] := hl
  have hP : va_P D cls (wCtx cI q0 q1 q2 q3 q4 q5 u) s.heap := hP
  unfold f_Ctx_kOfRegular at hf
  refine lv_aload_n hx hb d_Ctx_kOfRegular_0 rfl (lv_at hl 0 rfl) ?_
  refine lv_iload_n hx hb d_Ctx_kOfRegular_1 rfl (lv_at hl 1 rfl) ?_
  refine lv_aload_n hx hb d_Ctx_kOfRegular_2 rfl (lv_at hl 0 rfl) ?_
  refine va_get (D := D) (ci := 2) (v := .ref q1) (C := R_Ctx) (T := F_Ctx) (N := 6) hx hb hw in_Ctx hown hK hP 0 rfl rfl 0 (by decide) (hw _ m_115) (fun _ h9 => h9) rfl d_Ctx_kOfRegular_3 ?_
  refine lv_iload_n hx hb d_Ctx_kOfRegular_6 rfl (lv_at hl 1 rfl) ?_
  obtain ⟨h1, hf⟩ := gd_o hf
  refine va_iald hx hb hK hP 1 0 rfl rfl (ix_in h1) d_Ctx_kOfRegular_7 ?_
  have hC : [0, 1, 2, 3, 4, 5].map (fun i => (wCtx cI q0 q1 q2 q3 q4 q5 u)[i]?) = (wCtx cI q0 q1 q2 q3 q4 q5 u).map some := rfl
  obtain ⟨x2, hc, hf⟩ := bd_o hf
  refine ro_i (va_runV (As := [.int a1, .int (u 1 (tc a1))]) (rest := []) ⟨hx, hb, hml, hown, hw⟩ (c_Ctx_leastK l D cI q0 q1 q2 q3 q4 q5 a1 (u 1 (tc a1)) u x2 hc) (cwV 2 hw g_4 rfl rfl rfl (by decide +kernel) ⟨Nat.le_of_ble_eq_true rfl, Nat.le_of_ble_eq_true rfl⟩) (pre_V (P_sub hC hP) hK rfl rfl) rfl rfl hl.1 rfl (lv_room (Nat.le_of_ble_eq_true rfl)) d_Ctx_kOfRegular_8 ⟨Nat.le_of_ble_eq_true rfl, Nat.le_of_ble_eq_true rfl⟩) hS hP (fun H locs hP hS => ?_)
  exact rt_roi hx hb hr hlocks hS hf d_Ctx_kOfRegular_11
def f_Ctx_kOfEnd (a1 : Int32) (u : gU) : Option (Int32) := gd (ix a1 367) (gd (ix a1 367) (tk ((u 1 (tc a1)) + ((a1 - 365) * ((u 4 (tc a1)) / 2))) fun x3 => bd (f_Ctx_leastK a1 x3 u) fun x4 => some x4))
set_option maxHeartbeats 4000000 in
set_option maxRecDepth 100000 in
theorem c_Ctx_kOfEnd (l : Launch) (D : va_G) (cI : ClassId) (q0 : Nat) (q1 : Nat) (q2 : Nat) (q3 : Nat) (q4 : Nat) (q5 : Nat) (a1 : Int32) (u : gU) (r : Int32) (hf : f_Ctx_kOfEnd a1 u = some r) : Met l y_Ctx_kOfEnd (.code y_Ctx_kOfEnd b_Ctx_kOfEnd 2 (some .int) :: TS) ({ frames := 1, cells := 0, slots := 0, locals := 23 }) (va_Pc [.ref q0, .int a1] (fun U => va_P D cls (wCtx cI q0 q1 q2 q3 q4 q5 u) U.heap ∧ va_K D cls [(cI, .int)] U)) (va_Qi (fun x (_ : Unit) => x = r) (fun _ _ => True) (fun _ => False)) 0 0 (fun _ => False) := by
  refine ct_of (by decide +kernel) (Nat.le_of_ble_eq_true rfl) ?_
  intro p e s m below meth c ls hx hb hml hr hlocks hown hw hP hK hl
  have hS : va_S (fun _ => False) s.heap s.heap [] := va_S.rf
  have hl : lv_has ls 2 [(0, .ref q0), (1, .int a1)] := hl
  have hP : va_P D cls (wCtx cI q0 q1 q2 q3 q4 q5 u) s.heap := hP
  unfold f_Ctx_kOfEnd at hf
  refine lv_aload_n hx hb d_Ctx_kOfEnd_0 rfl (lv_at hl 0 rfl) ?_
  refine lv_iload_n hx hb d_Ctx_kOfEnd_1 rfl (lv_at hl 1 rfl) ?_
  refine lv_aload_n hx hb d_Ctx_kOfEnd_2 rfl (lv_at hl 0 rfl) ?_
  refine va_get (D := D) (ci := 2) (v := .ref q1) (C := R_Ctx) (T := F_Ctx) (N := 6) hx hb hw in_Ctx hown hK hP 0 rfl rfl 0 (by decide) (hw _ m_115) (fun _ h9 => h9) rfl d_Ctx_kOfEnd_3 ?_
  refine lv_iload_n hx hb d_Ctx_kOfEnd_6 rfl (lv_at hl 1 rfl) ?_
  obtain ⟨h1, hf⟩ := gd_o hf
  refine va_iald hx hb hK hP 1 0 rfl rfl (ix_in h1) d_Ctx_kOfEnd_7 ?_
  refine lv_iload_n hx hb d_Ctx_kOfEnd_8 rfl (lv_at hl 1 rfl) ?_
  refine lv_sipush (v := 365) hx hb d_Ctx_kOfEnd_9 (by decide) ?_
  refine lv_isub hx hb d_Ctx_kOfEnd_12 ?_
  refine lv_aload_n hx hb d_Ctx_kOfEnd_13 rfl (lv_at hl 0 rfl) ?_
  refine va_get (D := D) (ci := 2) (v := .ref q4) (C := R_Ctx) (T := F_Ctx) (N := 6) hx hb hw in_Ctx hown hK hP 0 rfl rfl 3 (by decide) (hw _ m_114) (fun _ h9 => h9) rfl d_Ctx_kOfEnd_14 ?_
  refine lv_iload_n hx hb d_Ctx_kOfEnd_17 rfl (lv_at hl 1 rfl) ?_
  obtain ⟨h2, hf⟩ := gd_o hf
  refine va_iald hx hb hK hP 4 0 rfl rfl (ix_in h2) d_Ctx_kOfEnd_18 ?_
  refine lv_iconst (v := 2) hx hb d_Ctx_kOfEnd_19 (by decide) ?_
  refine lv_idiv hx hb d_Ctx_kOfEnd_20 (by decide) ?_
  refine lv_imul hx hb d_Ctx_kOfEnd_21 ?_
  refine lv_iadd hx hb d_Ctx_kOfEnd_22 ?_
  refine lv_topi (fun x3 e_x3 => ?_)
  have hf := tk_e hf e_x3
  have hC : [0, 1, 2, 3, 4, 5].map (fun i => (wCtx cI q0 q1 q2 q3 q4 q5 u)[i]?) = (wCtx cI q0 q1 q2 q3 q4 q5 u).map some := rfl
  obtain ⟨x4, hc, hf⟩ := bd_o hf
  refine ro_i (va_runV (As := [.int a1, .int x3]) (rest := []) ⟨hx, hb, hml, hown, hw⟩ (c_Ctx_leastK l D cI q0 q1 q2 q3 q4 q5 a1 x3 u x4 hc) (cwV 2 hw g_4 rfl rfl rfl (by decide +kernel) ⟨Nat.le_of_ble_eq_true rfl, Nat.le_of_ble_eq_true rfl⟩) (pre_V (P_sub hC hP) hK rfl rfl) rfl rfl hl.1 rfl (lv_room (Nat.le_of_ble_eq_true rfl)) d_Ctx_kOfEnd_23 ⟨Nat.le_of_ble_eq_true rfl, Nat.le_of_ble_eq_true rfl⟩) hS hP (fun H locs hP hS => ?_)
  exact rt_roi hx hb hr hlocks hS hf d_Ctx_kOfEnd_26
def f_Ctx_leansDown (a1 : Int32) (u : gU) : Option (Int32) := gd (ix a1 367) (gd (ix a1 367) (bq ((-(u 4 (tc a1))) < (2 * (u 2 (tc a1)))) (some 0) (some 1)))
set_option maxHeartbeats 4000000 in
set_option maxRecDepth 100000 in
theorem c_Ctx_leansDown (l : Launch) (D : va_G) (cI : ClassId) (q0 : Nat) (q1 : Nat) (q2 : Nat) (q3 : Nat) (q4 : Nat) (q5 : Nat) (a1 : Int32) (u : gU) (r : Int32) (hf : f_Ctx_leansDown a1 u = some r) : Met l y_Ctx_leansDown (.code y_Ctx_leansDown b_Ctx_leansDown 2 (some .boolean) :: TS) ({ frames := 0, cells := 0, slots := 0, locals := 0 }) (va_Pc [.ref q0, .int a1] (fun U => va_P D cls (wCtx cI q0 q1 q2 q3 q4 q5 u) U.heap ∧ va_K D cls [(cI, .int)] U)) (va_Qi (fun x (_ : Unit) => x = r) (fun _ _ => True) (fun _ => False)) 0 0 (fun _ => False) := by
  refine ct_of (by decide +kernel) (Nat.le_of_ble_eq_true rfl) ?_
  intro p e s m below meth c ls hx hb hml hr hlocks hown hw hP hK hl
  have hS : va_S (fun _ => False) s.heap s.heap [] := va_S.rf
  have hl : lv_has ls 2 [(0, .ref q0), (1, .int a1)] := hl
  have hP : va_P D cls (wCtx cI q0 q1 q2 q3 q4 q5 u) s.heap := hP
  unfold f_Ctx_leansDown at hf
  refine lv_iconst (v := 2) hx hb d_Ctx_leansDown_0 (by decide) ?_
  refine lv_aload_n hx hb d_Ctx_leansDown_1 rfl (lv_at hl 0 rfl) ?_
  refine va_get (D := D) (ci := 2) (v := .ref q2) (C := R_Ctx) (T := F_Ctx) (N := 6) hx hb hw in_Ctx hown hK hP 0 rfl rfl 1 (by decide) (hw _ m_121) (fun _ h9 => h9) rfl d_Ctx_leansDown_2 ?_
  refine lv_iload_n hx hb d_Ctx_leansDown_5 rfl (lv_at hl 1 rfl) ?_
  obtain ⟨h1, hf⟩ := gd_o hf
  refine va_iald hx hb hK hP 2 0 rfl rfl (ix_in h1) d_Ctx_leansDown_6 ?_
  refine lv_imul hx hb d_Ctx_leansDown_7 ?_
  refine lv_aload_n hx hb d_Ctx_leansDown_8 rfl (lv_at hl 0 rfl) ?_
  refine va_get (D := D) (ci := 2) (v := .ref q4) (C := R_Ctx) (T := F_Ctx) (N := 6) hx hb hw in_Ctx hown hK hP 0 rfl rfl 3 (by decide) (hw _ m_114) (fun _ h9 => h9) rfl d_Ctx_leansDown_9 ?_
  refine lv_iload_n hx hb d_Ctx_leansDown_12 rfl (lv_at hl 1 rfl) ?_
  obtain ⟨h2, hf⟩ := gd_o hf
  refine va_iald hx hb hK hP 4 0 rfl rfl (ix_in h2) d_Ctx_leansDown_13 ?_
  refine lv_ineg hx hb d_Ctx_leansDown_14 ?_
  refine lv_icmp_gt (tgt := 22) hx hb d_Ctx_leansDown_15 (by decide) (fun hc => ?_) (fun hc => ?_)
  · have hf := bq_t hf hc
    refine lv_iconst (v := 0) hx hb d_Ctx_leansDown_22 (by decide) ?_
    exact rt_roz hx hb hr hlocks (Or.inl rfl) hS hf d_Ctx_leansDown_23
  have hf := bq_n hf hc
  refine lv_iconst (v := 1) hx hb d_Ctx_leansDown_18 (by decide) ?_
  refine lv_goto (tgt := 23) hx hb d_Ctx_leansDown_19 (by decide) ?_
  exact rt_roz hx hb hr hlocks (Or.inr rfl) hS hf d_Ctx_leansDown_23
def f_Ctx_isMostlyBelow (a1 : Int32) (u : gU) : Option (Int32) := gd (ix a1 367) (gd (ix a1 367) (bq ((2 * (u 5 (tc a1))) < (u 4 (tc a1))) (some 0) (some 1)))
set_option maxHeartbeats 4000000 in
set_option maxRecDepth 100000 in
theorem c_Ctx_isMostlyBelow (l : Launch) (D : va_G) (cI : ClassId) (q0 : Nat) (q1 : Nat) (q2 : Nat) (q3 : Nat) (q4 : Nat) (q5 : Nat) (a1 : Int32) (u : gU) (r : Int32) (hf : f_Ctx_isMostlyBelow a1 u = some r) : Met l y_Ctx_isMostlyBelow (.code y_Ctx_isMostlyBelow b_Ctx_isMostlyBelow 2 (some .boolean) :: TS) ({ frames := 0, cells := 0, slots := 0, locals := 0 }) (va_Pc [.ref q0, .int a1] (fun U => va_P D cls (wCtx cI q0 q1 q2 q3 q4 q5 u) U.heap ∧ va_K D cls [(cI, .int)] U)) (va_Qi (fun x (_ : Unit) => x = r) (fun _ _ => True) (fun _ => False)) 0 0 (fun _ => False) := by
  refine ct_of (by decide +kernel) (Nat.le_of_ble_eq_true rfl) ?_
  intro p e s m below meth c ls hx hb hml hr hlocks hown hw hP hK hl
  have hS : va_S (fun _ => False) s.heap s.heap [] := va_S.rf
  have hl : lv_has ls 2 [(0, .ref q0), (1, .int a1)] := hl
  have hP : va_P D cls (wCtx cI q0 q1 q2 q3 q4 q5 u) s.heap := hP
  unfold f_Ctx_isMostlyBelow at hf
  refine lv_iconst (v := 2) hx hb d_Ctx_isMostlyBelow_0 (by decide) ?_
  refine lv_aload_n hx hb d_Ctx_isMostlyBelow_1 rfl (lv_at hl 0 rfl) ?_
  refine va_get (D := D) (ci := 2) (v := .ref q5) (C := R_Ctx) (T := F_Ctx) (N := 6) hx hb hw in_Ctx hown hK hP 0 rfl rfl 4 (by decide) (hw _ m_122) (fun _ h9 => h9) rfl d_Ctx_isMostlyBelow_2 ?_
  refine lv_iload_n hx hb d_Ctx_isMostlyBelow_5 rfl (lv_at hl 1 rfl) ?_
  obtain ⟨h1, hf⟩ := gd_o hf
  refine va_iald hx hb hK hP 5 0 rfl rfl (ix_in h1) d_Ctx_isMostlyBelow_6 ?_
  refine lv_imul hx hb d_Ctx_isMostlyBelow_7 ?_
  refine lv_aload_n hx hb d_Ctx_isMostlyBelow_8 rfl (lv_at hl 0 rfl) ?_
  refine va_get (D := D) (ci := 2) (v := .ref q4) (C := R_Ctx) (T := F_Ctx) (N := 6) hx hb hw in_Ctx hown hK hP 0 rfl rfl 3 (by decide) (hw _ m_114) (fun _ h9 => h9) rfl d_Ctx_isMostlyBelow_9 ?_
  refine lv_iload_n hx hb d_Ctx_isMostlyBelow_12 rfl (lv_at hl 1 rfl) ?_
  obtain ⟨h2, hf⟩ := gd_o hf
  refine va_iald hx hb hK hP 4 0 rfl rfl (ix_in h2) d_Ctx_isMostlyBelow_13 ?_
  refine lv_icmp_lt (tgt := 21) hx hb d_Ctx_isMostlyBelow_14 (by decide) (fun hc => ?_) (fun hc => ?_)
  · have hf := bq_t hf hc
    refine lv_iconst (v := 0) hx hb d_Ctx_isMostlyBelow_21 (by decide) ?_
    exact rt_roz hx hb hr hlocks (Or.inl rfl) hS hf d_Ctx_isMostlyBelow_22
  have hf := bq_n hf hc
  refine lv_iconst (v := 1) hx hb d_Ctx_isMostlyBelow_17 (by decide) ?_
  refine lv_goto (tgt := 22) hx hb d_Ctx_isMostlyBelow_18 (by decide) ?_
  exact rt_roz hx hb hr hlocks (Or.inr rfl) hS hf d_Ctx_isMostlyBelow_22
def f_Ctx_correctDown (a1 : Int32) (u : gU) : Option (gU) := gd (ix a1 367) (gd (ix a1 367) (gd (ix a1 367) (tk (if ((u 2 (tc a1)) + (u 4 (tc a1))) < (1 - (u 4 (tc a1))) then (1 - (u 4 (tc a1))) else ((u 2 (tc a1)) + (u 4 (tc a1)))) fun x4 => gd (ix a1 367) (tk (st2 u 2 (tc a1) x4) fun u6 => gd (ix a1 367) (tk (if ((u6 3 (tc a1)) - 1) < (-128) then (-128) else ((u6 3 (tc a1)) - 1)) fun x8 => gd (ix a1 367) (tk (st2 u6 3 (tc a1) x8) fun u10 => some u10))))))
set_option maxHeartbeats 4000000 in
set_option maxRecDepth 100000 in
theorem c_Ctx_correctDown (l : Launch) (D : va_G) (cI : ClassId) (q0 : Nat) (q1 : Nat) (q2 : Nat) (q3 : Nat) (q4 : Nat) (q5 : Nat) (hd : dj [q0, q1, q2, q3, q4, q5]) (a1 : Int32) (u : gU) (v : gU) (hf : f_Ctx_correctDown a1 u = some v) : Met l y_Ctx_correctDown (.code y_Ctx_correctDown b_Ctx_correctDown 2 none :: TS) ({ frames := 1, cells := 0, slots := 0, locals := 24 }) (va_Pc [.ref q0, .int a1] (fun U => va_P D cls (wCtx cI q0 q1 q2 q3 q4 q5 u) U.heap ∧ va_K D cls [(cI, .int)] U)) (va_Qv (fun (_ : Unit) => True) (fun _ t => va_P D cls (wCtx cI q0 q1 q2 q3 q4 q5 v) t.heap) (ad [q0, q1, q2, q3, q4, q5])) 0 0 (ad [q0, q1, q2, q3, q4, q5]) := by
  refine ct_of (by decide +kernel) (Nat.le_of_ble_eq_true rfl) ?_
  intro p e s m below meth c ls hx hb hml hr hlocks hown hw hP hK hl
  have hS : va_S (ad [q0, q1, q2, q3, q4, q5]) s.heap s.heap [] := va_S.rf
  have hD : ∀ v, va_D (ad [q0, q1, q2, q3, q4, q5]) (wCtx cI q0 q1 q2 q3 q4 q5 v) := fun _ => dj_D rfl hd
  have hl : lv_has ls 2 [(0, .ref q0), (1, .int a1)] := hl
  have hP : va_P D cls (wCtx cI q0 q1 q2 q3 q4 q5 u) s.heap := hP
  unfold f_Ctx_correctDown at hf
  refine lv_aload_n hx hb d_Ctx_correctDown_0 rfl (lv_at hl 0 rfl) ?_
  refine va_get (D := D) (ci := 2) (v := .ref q2) (C := R_Ctx) (T := F_Ctx) (N := 6) hx hb hw in_Ctx hown hK hP 0 rfl rfl 1 (by decide) (hw _ m_121) (fun _ h9 => h9) rfl d_Ctx_correctDown_1 ?_
  refine lv_iload_n hx hb d_Ctx_correctDown_4 rfl (lv_at hl 1 rfl) ?_
  refine lv_aload_n hx hb d_Ctx_correctDown_5 rfl (lv_at hl 0 rfl) ?_
  refine va_get (D := D) (ci := 2) (v := .ref q2) (C := R_Ctx) (T := F_Ctx) (N := 6) hx hb hw in_Ctx hown hK hP 0 rfl rfl 1 (by decide) (hw _ m_121) (fun _ h9 => h9) rfl d_Ctx_correctDown_6 ?_
  refine lv_iload_n hx hb d_Ctx_correctDown_9 rfl (lv_at hl 1 rfl) ?_
  obtain ⟨h1, hf⟩ := gd_o hf
  refine va_iald hx hb hK hP 2 0 rfl rfl (ix_in h1) d_Ctx_correctDown_10 ?_
  refine lv_aload_n hx hb d_Ctx_correctDown_11 rfl (lv_at hl 0 rfl) ?_
  refine va_get (D := D) (ci := 2) (v := .ref q4) (C := R_Ctx) (T := F_Ctx) (N := 6) hx hb hw in_Ctx hown hK hP 0 rfl rfl 3 (by decide) (hw _ m_114) (fun _ h9 => h9) rfl d_Ctx_correctDown_12 ?_
  refine lv_iload_n hx hb d_Ctx_correctDown_15 rfl (lv_at hl 1 rfl) ?_
  obtain ⟨h2, hf⟩ := gd_o hf
  refine va_iald hx hb hK hP 4 0 rfl rfl (ix_in h2) d_Ctx_correctDown_16 ?_
  refine lv_iadd hx hb d_Ctx_correctDown_17 ?_
  refine lv_iconst (v := 1) hx hb d_Ctx_correctDown_18 (by decide) ?_
  refine lv_aload_n hx hb d_Ctx_correctDown_19 rfl (lv_at hl 0 rfl) ?_
  refine va_get (D := D) (ci := 2) (v := .ref q4) (C := R_Ctx) (T := F_Ctx) (N := 6) hx hb hw in_Ctx hown hK hP 0 rfl rfl 3 (by decide) (hw _ m_114) (fun _ h9 => h9) rfl d_Ctx_correctDown_20 ?_
  refine lv_iload_n hx hb d_Ctx_correctDown_23 rfl (lv_at hl 1 rfl) ?_
  obtain ⟨h3, hf⟩ := gd_o hf
  refine va_iald hx hb hK hP 4 0 rfl rfl (ix_in h3) d_Ctx_correctDown_24 ?_
  refine lv_isub hx hb d_Ctx_correctDown_25 ?_
  refine va_mmax hx hb (hml.trans hl.1.symm) hown (hw _ m_123) (hw _ m_86) (hw _ m_87) (hw _ m_88) (Nat.le_of_ble_eq_true rfl) (Nat.le_of_ble_eq_true rfl) (Nat.le_of_ble_eq_true rfl) (Nat.le_of_ble_eq_true rfl) d_Ctx_correctDown_26 ?_
  refine lv_topi (fun x4 e_x4 => ?_)
  have hf := tk_e hf e_x4
  obtain ⟨h5, hf⟩ := gd_o hf
  refine va_iast hx hb hK hP (hD _) hS 2 0 rfl rfl (ix_in h5) d_Ctx_correctDown_29 (fun H locs hP _ hS => ?_)
  obtain ⟨u6, e_u6, hf⟩ := tk_o hf
  have hP : va_P D cls (wCtx cI q0 q1 q2 q3 q4 q5 u6) H := by rw [e_u6]; exact hP
  refine lv_aload_n hx hb d_Ctx_correctDown_30 rfl (lv_at hl 0 rfl) ?_
  refine va_get (D := D) (ci := 2) (v := .ref q3) (C := R_Ctx) (T := F_Ctx) (N := 6) hx hb hw in_Ctx hown hK hP 0 rfl rfl 2 (by decide) (hw _ m_124) (fun _ h9 => h9) rfl d_Ctx_correctDown_31 ?_
  refine lv_iload_n hx hb d_Ctx_correctDown_34 rfl (lv_at hl 1 rfl) ?_
  refine lv_aload_n hx hb d_Ctx_correctDown_35 rfl (lv_at hl 0 rfl) ?_
  refine va_get (D := D) (ci := 2) (v := .ref q3) (C := R_Ctx) (T := F_Ctx) (N := 6) hx hb hw in_Ctx hown hK hP 0 rfl rfl 2 (by decide) (hw _ m_124) (fun _ h9 => h9) rfl d_Ctx_correctDown_36 ?_
  refine lv_iload_n hx hb d_Ctx_correctDown_39 rfl (lv_at hl 1 rfl) ?_
  obtain ⟨h7, hf⟩ := gd_o hf
  refine va_iald hx hb hK hP 3 0 rfl rfl (ix_in h7) d_Ctx_correctDown_40 ?_
  refine lv_iconst (v := 1) hx hb d_Ctx_correctDown_41 (by decide) ?_
  refine lv_isub hx hb d_Ctx_correctDown_42 ?_
  refine lv_bipush (v := (-128)) hx hb d_Ctx_correctDown_43 (by decide) ?_
  refine va_mmax hx hb (hml.trans hl.1.symm) hown (hw _ m_123) (hw _ m_86) (hw _ m_87) (hw _ m_88) (Nat.le_of_ble_eq_true rfl) (Nat.le_of_ble_eq_true rfl) (Nat.le_of_ble_eq_true rfl) (Nat.le_of_ble_eq_true rfl) d_Ctx_correctDown_45 ?_
  refine lv_topi (fun x8 e_x8 => ?_)
  have hf := tk_e hf e_x8
  obtain ⟨h9, hf⟩ := gd_o hf
  refine va_iast hx hb hK hP (hD _) hS 3 0 rfl rfl (ix_in h9) d_Ctx_correctDown_48 (fun H locs hP _ hS => ?_)
  obtain ⟨u10, e_u10, hf⟩ := tk_o hf
  have hP : va_P D cls (wCtx cI q0 q1 q2 q3 q4 q5 u10) H := by rw [e_u10]; exact hP
  exact rt_v (wCtx cI q0 q1 q2 q3 q4 q5) hx hb hr hlocks hS hP hf d_Ctx_correctDown_49
def f_Ctx_correctUp (a1 : Int32) (u : gU) : Option (gU) := gd (ix a1 367) (gd (ix a1 367) (tk (if 0 < ((u 2 (tc a1)) - (u 4 (tc a1))) then 0 else ((u 2 (tc a1)) - (u 4 (tc a1)))) fun x3 => gd (ix a1 367) (tk (st2 u 2 (tc a1) x3) fun u5 => gd (ix a1 367) (tk (if 127 < ((u5 3 (tc a1)) + 1) then 127 else ((u5 3 (tc a1)) + 1)) fun x7 => gd (ix a1 367) (tk (st2 u5 3 (tc a1) x7) fun u9 => some u9)))))
set_option maxHeartbeats 4000000 in
set_option maxRecDepth 100000 in
theorem c_Ctx_correctUp (l : Launch) (D : va_G) (cI : ClassId) (q0 : Nat) (q1 : Nat) (q2 : Nat) (q3 : Nat) (q4 : Nat) (q5 : Nat) (hd : dj [q0, q1, q2, q3, q4, q5]) (a1 : Int32) (u : gU) (v : gU) (hf : f_Ctx_correctUp a1 u = some v) : Met l y_Ctx_correctUp (.code y_Ctx_correctUp b_Ctx_correctUp 2 none :: TS) ({ frames := 1, cells := 0, slots := 0, locals := 24 }) (va_Pc [.ref q0, .int a1] (fun U => va_P D cls (wCtx cI q0 q1 q2 q3 q4 q5 u) U.heap ∧ va_K D cls [(cI, .int)] U)) (va_Qv (fun (_ : Unit) => True) (fun _ t => va_P D cls (wCtx cI q0 q1 q2 q3 q4 q5 v) t.heap) (ad [q0, q1, q2, q3, q4, q5])) 0 0 (ad [q0, q1, q2, q3, q4, q5]) := by
  refine ct_of (by decide +kernel) (Nat.le_of_ble_eq_true rfl) ?_
  intro p e s m below meth c ls hx hb hml hr hlocks hown hw hP hK hl
  have hS : va_S (ad [q0, q1, q2, q3, q4, q5]) s.heap s.heap [] := va_S.rf
  have hD : ∀ v, va_D (ad [q0, q1, q2, q3, q4, q5]) (wCtx cI q0 q1 q2 q3 q4 q5 v) := fun _ => dj_D rfl hd
  have hl : lv_has ls 2 [(0, .ref q0), (1, .int a1)] := hl
  have hP : va_P D cls (wCtx cI q0 q1 q2 q3 q4 q5 u) s.heap := hP
  unfold f_Ctx_correctUp at hf
  refine lv_aload_n hx hb d_Ctx_correctUp_0 rfl (lv_at hl 0 rfl) ?_
  refine va_get (D := D) (ci := 2) (v := .ref q2) (C := R_Ctx) (T := F_Ctx) (N := 6) hx hb hw in_Ctx hown hK hP 0 rfl rfl 1 (by decide) (hw _ m_121) (fun _ h9 => h9) rfl d_Ctx_correctUp_1 ?_
  refine lv_iload_n hx hb d_Ctx_correctUp_4 rfl (lv_at hl 1 rfl) ?_
  refine lv_aload_n hx hb d_Ctx_correctUp_5 rfl (lv_at hl 0 rfl) ?_
  refine va_get (D := D) (ci := 2) (v := .ref q2) (C := R_Ctx) (T := F_Ctx) (N := 6) hx hb hw in_Ctx hown hK hP 0 rfl rfl 1 (by decide) (hw _ m_121) (fun _ h9 => h9) rfl d_Ctx_correctUp_6 ?_
  refine lv_iload_n hx hb d_Ctx_correctUp_9 rfl (lv_at hl 1 rfl) ?_
  obtain ⟨h1, hf⟩ := gd_o hf
  refine va_iald hx hb hK hP 2 0 rfl rfl (ix_in h1) d_Ctx_correctUp_10 ?_
  refine lv_aload_n hx hb d_Ctx_correctUp_11 rfl (lv_at hl 0 rfl) ?_
  refine va_get (D := D) (ci := 2) (v := .ref q4) (C := R_Ctx) (T := F_Ctx) (N := 6) hx hb hw in_Ctx hown hK hP 0 rfl rfl 3 (by decide) (hw _ m_114) (fun _ h9 => h9) rfl d_Ctx_correctUp_12 ?_
  refine lv_iload_n hx hb d_Ctx_correctUp_15 rfl (lv_at hl 1 rfl) ?_
  obtain ⟨h2, hf⟩ := gd_o hf
  refine va_iald hx hb hK hP 4 0 rfl rfl (ix_in h2) d_Ctx_correctUp_16 ?_
  refine lv_isub hx hb d_Ctx_correctUp_17 ?_
  refine lv_iconst (v := 0) hx hb d_Ctx_correctUp_18 (by decide) ?_
  refine va_mmin hx hb (hml.trans hl.1.symm) hown (hw _ m_125) (hw _ m_107) (hw _ m_87) (hw _ m_108) (Nat.le_of_ble_eq_true rfl) (Nat.le_of_ble_eq_true rfl) (Nat.le_of_ble_eq_true rfl) (Nat.le_of_ble_eq_true rfl) d_Ctx_correctUp_19 ?_
  refine lv_topi (fun x3 e_x3 => ?_)
  have hf := tk_e hf e_x3
  obtain ⟨h4, hf⟩ := gd_o hf
  refine va_iast hx hb hK hP (hD _) hS 2 0 rfl rfl (ix_in h4) d_Ctx_correctUp_22 (fun H locs hP _ hS => ?_)
  obtain ⟨u5, e_u5, hf⟩ := tk_o hf
  have hP : va_P D cls (wCtx cI q0 q1 q2 q3 q4 q5 u5) H := by rw [e_u5]; exact hP
  refine lv_aload_n hx hb d_Ctx_correctUp_23 rfl (lv_at hl 0 rfl) ?_
  refine va_get (D := D) (ci := 2) (v := .ref q3) (C := R_Ctx) (T := F_Ctx) (N := 6) hx hb hw in_Ctx hown hK hP 0 rfl rfl 2 (by decide) (hw _ m_124) (fun _ h9 => h9) rfl d_Ctx_correctUp_24 ?_
  refine lv_iload_n hx hb d_Ctx_correctUp_27 rfl (lv_at hl 1 rfl) ?_
  refine lv_aload_n hx hb d_Ctx_correctUp_28 rfl (lv_at hl 0 rfl) ?_
  refine va_get (D := D) (ci := 2) (v := .ref q3) (C := R_Ctx) (T := F_Ctx) (N := 6) hx hb hw in_Ctx hown hK hP 0 rfl rfl 2 (by decide) (hw _ m_124) (fun _ h9 => h9) rfl d_Ctx_correctUp_29 ?_
  refine lv_iload_n hx hb d_Ctx_correctUp_32 rfl (lv_at hl 1 rfl) ?_
  obtain ⟨h6, hf⟩ := gd_o hf
  refine va_iald hx hb hK hP 3 0 rfl rfl (ix_in h6) d_Ctx_correctUp_33 ?_
  refine lv_iconst (v := 1) hx hb d_Ctx_correctUp_34 (by decide) ?_
  refine lv_iadd hx hb d_Ctx_correctUp_35 ?_
  refine lv_bipush (v := 127) hx hb d_Ctx_correctUp_36 (by decide) ?_
  refine va_mmin hx hb (hml.trans hl.1.symm) hown (hw _ m_125) (hw _ m_107) (hw _ m_87) (hw _ m_108) (Nat.le_of_ble_eq_true rfl) (Nat.le_of_ble_eq_true rfl) (Nat.le_of_ble_eq_true rfl) (Nat.le_of_ble_eq_true rfl) d_Ctx_correctUp_38 ?_
  refine lv_topi (fun x7 e_x7 => ?_)
  have hf := tk_e hf e_x7
  obtain ⟨h8, hf⟩ := gd_o hf
  refine va_iast hx hb hK hP (hD _) hS 3 0 rfl rfl (ix_in h8) d_Ctx_correctUp_41 (fun H locs hP _ hS => ?_)
  obtain ⟨u9, e_u9, hf⟩ := tk_o hf
  have hP : va_P D cls (wCtx cI q0 q1 q2 q3 q4 q5 u9) H := by rw [e_u9]; exact hP
  exact rt_v (wCtx cI q0 q1 q2 q3 q4 q5) hx hb hr hlocks hS hP hf d_Ctx_correctUp_42
def J_Ctx_learnRegular_66 (l1 : Int32) (u : gU) : Option (gU) := gd (ix l1 367) (gd (ix l1 367) (tk (st2 u 4 (tc l1) ((u 4 (tc l1)) + 1)) fun u3 => gd (ix l1 367) (gd (ix l1 367) (bq ((-(u3 4 (tc l1))) < (u3 2 (tc l1))) (gd (ix l1 367) (bq ((u3 2 (tc l1)) ≤ 0) (some u3) (bd (f_Ctx_correctUp l1 u3) fun w7 => tk (w7) fun u8 => some u8))) (bd (f_Ctx_correctDown l1 u3) fun w9 => tk (w9) fun u10 => some u10)))))
def f_Ctx_learnRegular (a1 : Int32) (a2 : Int32) (a3 : Int32) (u : gU) : Option (gU) := gd (ix a1 367) (gd (ix a1 367) (tk (st2 u 2 (tc a1) ((u 2 (tc a1)) + (a2 * a3))) fun u3 => gd (ix a1 367) (tk (if 0 ≤ a2 then a2 else 0 - a2) fun x5 => gd (ix a1 367) (tk (st2 u3 1 (tc a1) ((u3 1 (tc a1)) + x5)) fun u7 => gd (ix a1 367) (bq ((u7 4 (tc a1)) = 64) (gd (ix a1 367) (gd (ix a1 367) (tk (st2 u7 1 (tc a1) ((u7 1 (tc a1)) >>> (1 &&& 31))) fun u11 => gd (ix a1 367) (gd (ix a1 367) (tk (st2 u11 2 (tc a1) ((u11 2 (tc a1)) >>> (1 &&& 31))) fun u14 => gd (ix a1 367) (gd (ix a1 367) (tk (st2 u14 4 (tc a1) ((u14 4 (tc a1)) >>> (1 &&& 31))) fun u17 => J_Ctx_learnRegular_66 a1 u17))))))) (J_Ctx_learnRegular_66 a1 u7))))))
set_option maxHeartbeats 4000000 in
set_option maxRecDepth 100000 in
theorem c_Ctx_learnRegular (l : Launch) (D : va_G) (cI : ClassId) (q0 : Nat) (q1 : Nat) (q2 : Nat) (q3 : Nat) (q4 : Nat) (q5 : Nat) (hd : dj [q0, q1, q2, q3, q4, q5]) (a1 : Int32) (a2 : Int32) (a3 : Int32) (u : gU) (v : gU) (hf : f_Ctx_learnRegular a1 a2 a3 u = some v) : Met l y_Ctx_learnRegular (.code y_Ctx_learnRegular b_Ctx_learnRegular 4 none :: TS) ({ frames := 2, cells := 0, slots := 0, locals := 45 }) (va_Pc [.ref q0, .int a1, .int a2, .int a3] (fun U => va_P D cls (wCtx cI q0 q1 q2 q3 q4 q5 u) U.heap ∧ va_K D cls [(cI, .int)] U)) (va_Qv (fun (_ : Unit) => True) (fun _ t => va_P D cls (wCtx cI q0 q1 q2 q3 q4 q5 v) t.heap) (ad [q0, q1, q2, q3, q4, q5])) 0 0 (ad [q0, q1, q2, q3, q4, q5]) := by
  refine ct_of (by decide +kernel) (Nat.le_of_ble_eq_true rfl) ?_
  intro p e s m below meth c ls hx hb hml hr hlocks hown hw hP hK hl
  have hS : va_S (ad [q0, q1, q2, q3, q4, q5]) s.heap s.heap [] := va_S.rf
  have hD : ∀ v, va_D (ad [q0, q1, q2, q3, q4, q5]) (wCtx cI q0 q1 q2 q3 q4 q5 v) := fun _ => dj_D rfl hd
  have hl : lv_has ls 4 [(0, .ref q0), (1, .int a1), (2, .int a2), (3, .int a3)] := hl
  have hP : va_P D cls (wCtx cI q0 q1 q2 q3 q4 q5 u) s.heap := hP
  have j66 : ∀ (ls : Array Slot) (H : Heap) (locs : List Loc) (l1 : Int32) (u : gU), lv_has ls 4 [(0, .ref q0), (1, .int l1)] → va_P D cls (wCtx cI q0 q1 q2 q3 q4 q5 u) H → va_S (ad [q0, q1, q2, q3, q4, q5]) s.heap H locs → J_Ctx_learnRegular_66 l1 u = some v → W p l e ({ frames := 2, cells := 0, slots := 0, locals := 45 }) s m [.ref q0, .int a1, .int a2, .int a3].toArray below meth c H locs 0 0 (MQ below (va_Qv (fun (_ : Unit) => True) (fun _ t => va_P D cls (wCtx cI q0 q1 q2 q3 q4 q5 v) t.heap) (ad [q0, q1, q2, q3, q4, q5])) [.ref q0, .int a1, .int a2, .int a3].toArray s 0 0 (ad [q0, q1, q2, q3, q4, q5])) (F0 m 66 ls []) := by
    intro ls H locs l1 u hl hP hS hf
    unfold J_Ctx_learnRegular_66 at hf
    refine lv_aload_n hx hb d_Ctx_learnRegular_66 rfl (lv_at hl 0 rfl) ?_
    refine va_get (D := D) (ci := 2) (v := .ref q4) (C := R_Ctx) (T := F_Ctx) (N := 6) hx hb hw in_Ctx hown hK hP 0 rfl rfl 3 (by decide) (hw _ m_114) (fun _ h9 => h9) rfl d_Ctx_learnRegular_67 ?_
    refine lv_iload_n hx hb d_Ctx_learnRegular_70 rfl (lv_at hl 1 rfl) ?_
    refine lv_dup2_11 hx hb d_Ctx_learnRegular_71 rfl rfl ?_
    obtain ⟨h1, hf⟩ := gd_o hf
    refine va_iald hx hb hK hP 4 0 rfl rfl (ix_in h1) d_Ctx_learnRegular_72 ?_
    refine lv_iconst (v := 1) hx hb d_Ctx_learnRegular_73 (by decide) ?_
    refine lv_iadd hx hb d_Ctx_learnRegular_74 ?_
    obtain ⟨h2, hf⟩ := gd_o hf
    refine va_iast hx hb hK hP (hD _) hS 4 0 rfl rfl (ix_in h2) d_Ctx_learnRegular_75 (fun H locs hP _ hS => ?_)
    obtain ⟨u3, e_u3, hf⟩ := tk_o hf
    have hP : va_P D cls (wCtx cI q0 q1 q2 q3 q4 q5 u3) H := by rw [e_u3]; exact hP
    refine lv_aload_n hx hb d_Ctx_learnRegular_76 rfl (lv_at hl 0 rfl) ?_
    refine va_get (D := D) (ci := 2) (v := .ref q2) (C := R_Ctx) (T := F_Ctx) (N := 6) hx hb hw in_Ctx hown hK hP 0 rfl rfl 1 (by decide) (hw _ m_121) (fun _ h9 => h9) rfl d_Ctx_learnRegular_77 ?_
    refine lv_iload_n hx hb d_Ctx_learnRegular_80 rfl (lv_at hl 1 rfl) ?_
    obtain ⟨h4, hf⟩ := gd_o hf
    refine va_iald hx hb hK hP 2 0 rfl rfl (ix_in h4) d_Ctx_learnRegular_81 ?_
    refine lv_aload_n hx hb d_Ctx_learnRegular_82 rfl (lv_at hl 0 rfl) ?_
    refine va_get (D := D) (ci := 2) (v := .ref q4) (C := R_Ctx) (T := F_Ctx) (N := 6) hx hb hw in_Ctx hown hK hP 0 rfl rfl 3 (by decide) (hw _ m_114) (fun _ h9 => h9) rfl d_Ctx_learnRegular_83 ?_
    refine lv_iload_n hx hb d_Ctx_learnRegular_86 rfl (lv_at hl 1 rfl) ?_
    obtain ⟨h5, hf⟩ := gd_o hf
    refine va_iald hx hb hK hP 4 0 rfl rfl (ix_in h5) d_Ctx_learnRegular_87 ?_
    refine lv_ineg hx hb d_Ctx_learnRegular_88 ?_
    refine lv_icmp_gt (tgt := 100) hx hb d_Ctx_learnRegular_89 (by decide) (fun hc => ?_) (fun hc => ?_)
    · have hf := bq_t hf hc
      refine lv_aload_n hx hb d_Ctx_learnRegular_100 rfl (lv_at hl 0 rfl) ?_
      refine va_get (D := D) (ci := 2) (v := .ref q2) (C := R_Ctx) (T := F_Ctx) (N := 6) hx hb hw in_Ctx hown hK hP 0 rfl rfl 1 (by decide) (hw _ m_121) (fun _ h9 => h9) rfl d_Ctx_learnRegular_101 ?_
      refine lv_iload_n hx hb d_Ctx_learnRegular_104 rfl (lv_at hl 1 rfl) ?_
      obtain ⟨h6, hf⟩ := gd_o hf
      refine va_iald hx hb hK hP 2 0 rfl rfl (ix_in h6) d_Ctx_learnRegular_105 ?_
      refine lv_if_le (tgt := 114) hx hb d_Ctx_learnRegular_106 (by decide) (fun hc => ?_) (fun hc => ?_)
      · have hf := bq_t hf hc
        exact rt_v (wCtx cI q0 q1 q2 q3 q4 q5) hx hb hr hlocks hS hP hf d_Ctx_learnRegular_114
      have hf := bq_n hf hc
      refine lv_aload_n hx hb d_Ctx_learnRegular_109 rfl (lv_at hl 0 rfl) ?_
      refine lv_iload_n hx hb d_Ctx_learnRegular_110 rfl (lv_at hl 1 rfl) ?_
      have hC : [0, 1, 2, 3, 4, 5].map (fun i => (wCtx cI q0 q1 q2 q3 q4 q5 u3)[i]?) = (wCtx cI q0 q1 q2 q3 q4 q5 u3).map some := rfl
      obtain ⟨w7, hc, hf⟩ := bd_o hf
      refine rw_v (va_runV (As := [.int l1]) (rest := []) ⟨hx, hb, hml, hown, hw⟩ (c_Ctx_correctUp l D cI q0 q1 q2 q3 q4 q5 (dj_sub hd [0, 1, 2, 3, 4, 5] (by decide) rfl) l1 u3 w7 hc) (cwV 1 hw g_5 rfl rfl rfl (by decide +kernel) ⟨Nat.le_of_ble_eq_true rfl, Nat.le_of_ble_eq_true rfl⟩) (pre_V (P_sub hC hP) hK rfl rfl) rfl rfl hl.1 rfl (lv_room (Nat.le_of_ble_eq_true rfl)) d_Ctx_learnRegular_111 ⟨Nat.le_of_ble_eq_true rfl, Nat.le_of_ble_eq_true rfl⟩) hS hP (hD _) hC rfl rfl (fun H locs hP hS => ?_)
      obtain ⟨u8, e_u8, hf⟩ := tk_o hf
      have hP : va_P D cls (wCtx cI q0 q1 q2 q3 q4 q5 u8) H := by rw [e_u8]; exact hP
      exact rt_v (wCtx cI q0 q1 q2 q3 q4 q5) hx hb hr hlocks hS hP hf d_Ctx_learnRegular_114
    have hf := bq_n hf hc
    refine lv_aload_n hx hb d_Ctx_learnRegular_92 rfl (lv_at hl 0 rfl) ?_
    refine lv_iload_n hx hb d_Ctx_learnRegular_93 rfl (lv_at hl 1 rfl) ?_
    have hC : [0, 1, 2, 3, 4, 5].map (fun i => (wCtx cI q0 q1 q2 q3 q4 q5 u3)[i]?) = (wCtx cI q0 q1 q2 q3 q4 q5 u3).map some := rfl
    obtain ⟨w9, hc, hf⟩ := bd_o hf
    refine rw_v (va_runV (As := [.int l1]) (rest := []) ⟨hx, hb, hml, hown, hw⟩ (c_Ctx_correctDown l D cI q0 q1 q2 q3 q4 q5 (dj_sub hd [0, 1, 2, 3, 4, 5] (by decide) rfl) l1 u3 w9 hc) (cwV 1 hw g_6 rfl rfl rfl (by decide +kernel) ⟨Nat.le_of_ble_eq_true rfl, Nat.le_of_ble_eq_true rfl⟩) (pre_V (P_sub hC hP) hK rfl rfl) rfl rfl hl.1 rfl (lv_room (Nat.le_of_ble_eq_true rfl)) d_Ctx_learnRegular_94 ⟨Nat.le_of_ble_eq_true rfl, Nat.le_of_ble_eq_true rfl⟩) hS hP (hD _) hC rfl rfl (fun H locs hP hS => ?_)
    obtain ⟨u10, e_u10, hf⟩ := tk_o hf
    have hP : va_P D cls (wCtx cI q0 q1 q2 q3 q4 q5 u10) H := by rw [e_u10]; exact hP
    refine lv_goto (tgt := 114) hx hb d_Ctx_learnRegular_97 (by decide) ?_
    exact rt_v (wCtx cI q0 q1 q2 q3 q4 q5) hx hb hr hlocks hS hP hf d_Ctx_learnRegular_114
  unfold f_Ctx_learnRegular at hf
  refine lv_aload_n hx hb d_Ctx_learnRegular_0 rfl (lv_at hl 0 rfl) ?_
  refine va_get (D := D) (ci := 2) (v := .ref q2) (C := R_Ctx) (T := F_Ctx) (N := 6) hx hb hw in_Ctx hown hK hP 0 rfl rfl 1 (by decide) (hw _ m_121) (fun _ h9 => h9) rfl d_Ctx_learnRegular_1 ?_
  refine lv_iload_n hx hb d_Ctx_learnRegular_4 rfl (lv_at hl 1 rfl) ?_
  refine lv_dup2_11 hx hb d_Ctx_learnRegular_5 rfl rfl ?_
  obtain ⟨h1, hf⟩ := gd_o hf
  refine va_iald hx hb hK hP 2 0 rfl rfl (ix_in h1) d_Ctx_learnRegular_6 ?_
  refine lv_iload_n hx hb d_Ctx_learnRegular_7 rfl (lv_at hl 2 rfl) ?_
  refine lv_iload_n hx hb d_Ctx_learnRegular_8 rfl (lv_at hl 3 rfl) ?_
  refine lv_imul hx hb d_Ctx_learnRegular_9 ?_
  refine lv_iadd hx hb d_Ctx_learnRegular_10 ?_
  obtain ⟨h2, hf⟩ := gd_o hf
  refine va_iast hx hb hK hP (hD _) hS 2 0 rfl rfl (ix_in h2) d_Ctx_learnRegular_11 (fun H locs hP _ hS => ?_)
  obtain ⟨u3, e_u3, hf⟩ := tk_o hf
  have hP : va_P D cls (wCtx cI q0 q1 q2 q3 q4 q5 u3) H := by rw [e_u3]; exact hP
  refine lv_aload_n hx hb d_Ctx_learnRegular_12 rfl (lv_at hl 0 rfl) ?_
  refine va_get (D := D) (ci := 2) (v := .ref q1) (C := R_Ctx) (T := F_Ctx) (N := 6) hx hb hw in_Ctx hown hK hP 0 rfl rfl 0 (by decide) (hw _ m_115) (fun _ h9 => h9) rfl d_Ctx_learnRegular_13 ?_
  refine lv_iload_n hx hb d_Ctx_learnRegular_16 rfl (lv_at hl 1 rfl) ?_
  refine lv_dup2_11 hx hb d_Ctx_learnRegular_17 rfl rfl ?_
  obtain ⟨h4, hf⟩ := gd_o hf
  refine va_iald hx hb hK hP 1 0 rfl rfl (ix_in h4) d_Ctx_learnRegular_18 ?_
  refine lv_iload_n hx hb d_Ctx_learnRegular_19 rfl (lv_at hl 2 rfl) ?_
  refine va_mabs hx hb (hml.trans hl.1.symm) hown (hw _ m_134) (hw _ m_110) (hw _ m_87) (hw _ m_111) (Nat.le_of_ble_eq_true rfl) (Nat.le_of_ble_eq_true rfl) (Nat.le_of_ble_eq_true rfl) (Nat.le_of_ble_eq_true rfl) d_Ctx_learnRegular_20 ?_
  refine lv_topi (fun x5 e_x5 => ?_)
  have hf := tk_e hf e_x5
  refine lv_iadd hx hb d_Ctx_learnRegular_23 ?_
  obtain ⟨h6, hf⟩ := gd_o hf
  refine va_iast hx hb hK hP (hD _) hS 1 0 rfl rfl (ix_in h6) d_Ctx_learnRegular_24 (fun H locs hP _ hS => ?_)
  obtain ⟨u7, e_u7, hf⟩ := tk_o hf
  have hP : va_P D cls (wCtx cI q0 q1 q2 q3 q4 q5 u7) H := by rw [e_u7]; exact hP
  refine lv_aload_n hx hb d_Ctx_learnRegular_25 rfl (lv_at hl 0 rfl) ?_
  refine va_get (D := D) (ci := 2) (v := .ref q4) (C := R_Ctx) (T := F_Ctx) (N := 6) hx hb hw in_Ctx hown hK hP 0 rfl rfl 3 (by decide) (hw _ m_114) (fun _ h9 => h9) rfl d_Ctx_learnRegular_26 ?_
  refine lv_iload_n hx hb d_Ctx_learnRegular_29 rfl (lv_at hl 1 rfl) ?_
  obtain ⟨h8, hf⟩ := gd_o hf
  refine va_iald hx hb hK hP 4 0 rfl rfl (ix_in h8) d_Ctx_learnRegular_30 ?_
  refine lv_bipush (v := 64) hx hb d_Ctx_learnRegular_31 (by decide) ?_
  refine lv_icmp_ne (tgt := 66) hx hb d_Ctx_learnRegular_33 (by decide) (fun hc => ?_) (fun hc => ?_)
  · have hf := bq_n hf hc
    exact j66 _ _ _ a1 u7 (lv_sub hl [0, 1] rfl) hP hS hf
  have hf := bq_t hf hc
  refine lv_aload_n hx hb d_Ctx_learnRegular_36 rfl (lv_at hl 0 rfl) ?_
  refine va_get (D := D) (ci := 2) (v := .ref q1) (C := R_Ctx) (T := F_Ctx) (N := 6) hx hb hw in_Ctx hown hK hP 0 rfl rfl 0 (by decide) (hw _ m_115) (fun _ h9 => h9) rfl d_Ctx_learnRegular_37 ?_
  refine lv_iload_n hx hb d_Ctx_learnRegular_40 rfl (lv_at hl 1 rfl) ?_
  refine lv_dup2_11 hx hb d_Ctx_learnRegular_41 rfl rfl ?_
  obtain ⟨h9, hf⟩ := gd_o hf
  refine va_iald hx hb hK hP 1 0 rfl rfl (ix_in h9) d_Ctx_learnRegular_42 ?_
  refine lv_iconst (v := 1) hx hb d_Ctx_learnRegular_43 (by decide) ?_
  refine lv_ishr hx hb d_Ctx_learnRegular_44 ?_
  obtain ⟨h10, hf⟩ := gd_o hf
  refine va_iast hx hb hK hP (hD _) hS 1 0 rfl rfl (ix_in h10) d_Ctx_learnRegular_45 (fun H locs hP _ hS => ?_)
  obtain ⟨u11, e_u11, hf⟩ := tk_o hf
  have hP : va_P D cls (wCtx cI q0 q1 q2 q3 q4 q5 u11) H := by rw [e_u11]; exact hP
  refine lv_aload_n hx hb d_Ctx_learnRegular_46 rfl (lv_at hl 0 rfl) ?_
  refine va_get (D := D) (ci := 2) (v := .ref q2) (C := R_Ctx) (T := F_Ctx) (N := 6) hx hb hw in_Ctx hown hK hP 0 rfl rfl 1 (by decide) (hw _ m_121) (fun _ h9 => h9) rfl d_Ctx_learnRegular_47 ?_
  refine lv_iload_n hx hb d_Ctx_learnRegular_50 rfl (lv_at hl 1 rfl) ?_
  refine lv_dup2_11 hx hb d_Ctx_learnRegular_51 rfl rfl ?_
  obtain ⟨h12, hf⟩ := gd_o hf
  refine va_iald hx hb hK hP 2 0 rfl rfl (ix_in h12) d_Ctx_learnRegular_52 ?_
  refine lv_iconst (v := 1) hx hb d_Ctx_learnRegular_53 (by decide) ?_
  refine lv_ishr hx hb d_Ctx_learnRegular_54 ?_
  obtain ⟨h13, hf⟩ := gd_o hf
  refine va_iast hx hb hK hP (hD _) hS 2 0 rfl rfl (ix_in h13) d_Ctx_learnRegular_55 (fun H locs hP _ hS => ?_)
  obtain ⟨u14, e_u14, hf⟩ := tk_o hf
  have hP : va_P D cls (wCtx cI q0 q1 q2 q3 q4 q5 u14) H := by rw [e_u14]; exact hP
  refine lv_aload_n hx hb d_Ctx_learnRegular_56 rfl (lv_at hl 0 rfl) ?_
  refine va_get (D := D) (ci := 2) (v := .ref q4) (C := R_Ctx) (T := F_Ctx) (N := 6) hx hb hw in_Ctx hown hK hP 0 rfl rfl 3 (by decide) (hw _ m_114) (fun _ h9 => h9) rfl d_Ctx_learnRegular_57 ?_
  refine lv_iload_n hx hb d_Ctx_learnRegular_60 rfl (lv_at hl 1 rfl) ?_
  refine lv_dup2_11 hx hb d_Ctx_learnRegular_61 rfl rfl ?_
  obtain ⟨h15, hf⟩ := gd_o hf
  refine va_iald hx hb hK hP 4 0 rfl rfl (ix_in h15) d_Ctx_learnRegular_62 ?_
  refine lv_iconst (v := 1) hx hb d_Ctx_learnRegular_63 (by decide) ?_
  refine lv_ishr hx hb d_Ctx_learnRegular_64 ?_
  obtain ⟨h16, hf⟩ := gd_o hf
  refine va_iast hx hb hK hP (hD _) hS 4 0 rfl rfl (ix_in h16) d_Ctx_learnRegular_65 (fun H locs hP _ hS => ?_)
  obtain ⟨u17, e_u17, hf⟩ := tk_o hf
  have hP : va_P D cls (wCtx cI q0 q1 q2 q3 q4 q5 u17) H := by rw [e_u17]; exact hP
  exact j66 _ _ _ a1 u17 (lv_sub hl [0, 1] rfl) hP hS hf
def J_Ctx_learnEnd_75 (l1 : Int32) (u : gU) : Option (gU) := gd (ix l1 367) (gd (ix l1 367) (tk (st2 u 4 (tc l1) ((u 4 (tc l1)) + 1)) fun u3 => some u3))
def J_Ctx_learnEnd_14 (l1 : Int32) (l3 : Int32) (u : gU) : Option (gU) := gd (ix l1 367) (gd (ix l1 367) (tk (st2 u 1 (tc l1) ((u 1 (tc l1)) + (((l3 + 1) - (l1 - 365)) / 2))) fun u3 => gd (ix l1 367) (bq ((u3 4 (tc l1)) = 64) (gd (ix l1 367) (gd (ix l1 367) (tk (st2 u3 1 (tc l1) ((u3 1 (tc l1)) >>> (1 &&& 31))) fun u7 => gd (ix l1 367) (gd (ix l1 367) (tk (st2 u7 4 (tc l1) ((u7 4 (tc l1)) >>> (1 &&& 31))) fun u10 => gd (ix l1 367) (gd (ix l1 367) (tk (st2 u10 5 (tc l1) ((u10 5 (tc l1)) >>> (1 &&& 31))) fun u13 => J_Ctx_learnEnd_75 l1 u13))))))) (J_Ctx_learnEnd_75 l1 u3))))
def f_Ctx_learnEnd (a1 : Int32) (a2 : Int32) (a3 : Int32) (u : gU) : Option (gU) := bq (0 ≤ a2) (J_Ctx_learnEnd_14 a1 a3 u) (gd (ix a1 367) (gd (ix a1 367) (tk (st2 u 5 (tc a1) ((u 5 (tc a1)) + 1)) fun u3 => J_Ctx_learnEnd_14 a1 a3 u3)))
set_option maxHeartbeats 4000000 in
set_option maxRecDepth 100000 in
theorem c_Ctx_learnEnd (l : Launch) (D : va_G) (cI : ClassId) (q0 : Nat) (q1 : Nat) (q2 : Nat) (q3 : Nat) (q4 : Nat) (q5 : Nat) (hd : dj [q0, q1, q2, q3, q4, q5]) (a1 : Int32) (a2 : Int32) (a3 : Int32) (u : gU) (v : gU) (hf : f_Ctx_learnEnd a1 a2 a3 u = some v) : Met l y_Ctx_learnEnd (.code y_Ctx_learnEnd b_Ctx_learnEnd 4 none :: TS) ({ frames := 0, cells := 0, slots := 0, locals := 0 }) (va_Pc [.ref q0, .int a1, .int a2, .int a3] (fun U => va_P D cls (wCtx cI q0 q1 q2 q3 q4 q5 u) U.heap ∧ va_K D cls [(cI, .int)] U)) (va_Qv (fun (_ : Unit) => True) (fun _ t => va_P D cls (wCtx cI q0 q1 q2 q3 q4 q5 v) t.heap) (ad [q0, q1, q2, q3, q4, q5])) 0 0 (ad [q0, q1, q2, q3, q4, q5]) := by
  refine ct_of (by decide +kernel) (Nat.le_of_ble_eq_true rfl) ?_
  intro p e s m below meth c ls hx hb hml hr hlocks hown hw hP hK hl
  have hS : va_S (ad [q0, q1, q2, q3, q4, q5]) s.heap s.heap [] := va_S.rf
  have hD : ∀ v, va_D (ad [q0, q1, q2, q3, q4, q5]) (wCtx cI q0 q1 q2 q3 q4 q5 v) := fun _ => dj_D rfl hd
  have hl : lv_has ls 4 [(0, .ref q0), (1, .int a1), (2, .int a2), (3, .int a3)] := hl
  have hP : va_P D cls (wCtx cI q0 q1 q2 q3 q4 q5 u) s.heap := hP
  have j75 : ∀ (ls : Array Slot) (H : Heap) (locs : List Loc) (l1 : Int32) (u : gU), lv_has ls 4 [(0, .ref q0), (1, .int l1)] → va_P D cls (wCtx cI q0 q1 q2 q3 q4 q5 u) H → va_S (ad [q0, q1, q2, q3, q4, q5]) s.heap H locs → J_Ctx_learnEnd_75 l1 u = some v → W p l e ({ frames := 0, cells := 0, slots := 0, locals := 0 }) s m [.ref q0, .int a1, .int a2, .int a3].toArray below meth c H locs 0 0 (MQ below (va_Qv (fun (_ : Unit) => True) (fun _ t => va_P D cls (wCtx cI q0 q1 q2 q3 q4 q5 v) t.heap) (ad [q0, q1, q2, q3, q4, q5])) [.ref q0, .int a1, .int a2, .int a3].toArray s 0 0 (ad [q0, q1, q2, q3, q4, q5])) (F0 m 75 ls []) := by
    intro ls H locs l1 u hl hP hS hf
    unfold J_Ctx_learnEnd_75 at hf
    refine lv_aload_n hx hb d_Ctx_learnEnd_75 rfl (lv_at hl 0 rfl) ?_
    refine va_get (D := D) (ci := 2) (v := .ref q4) (C := R_Ctx) (T := F_Ctx) (N := 6) hx hb hw in_Ctx hown hK hP 0 rfl rfl 3 (by decide) (hw _ m_114) (fun _ h9 => h9) rfl d_Ctx_learnEnd_76 ?_
    refine lv_iload_n hx hb d_Ctx_learnEnd_79 rfl (lv_at hl 1 rfl) ?_
    refine lv_dup2_11 hx hb d_Ctx_learnEnd_80 rfl rfl ?_
    obtain ⟨h1, hf⟩ := gd_o hf
    refine va_iald hx hb hK hP 4 0 rfl rfl (ix_in h1) d_Ctx_learnEnd_81 ?_
    refine lv_iconst (v := 1) hx hb d_Ctx_learnEnd_82 (by decide) ?_
    refine lv_iadd hx hb d_Ctx_learnEnd_83 ?_
    obtain ⟨h2, hf⟩ := gd_o hf
    refine va_iast hx hb hK hP (hD _) hS 4 0 rfl rfl (ix_in h2) d_Ctx_learnEnd_84 (fun H locs hP _ hS => ?_)
    obtain ⟨u3, e_u3, hf⟩ := tk_o hf
    have hP : va_P D cls (wCtx cI q0 q1 q2 q3 q4 q5 u3) H := by rw [e_u3]; exact hP
    exact rt_v (wCtx cI q0 q1 q2 q3 q4 q5) hx hb hr hlocks hS hP hf d_Ctx_learnEnd_85
  have j14 : ∀ (ls : Array Slot) (H : Heap) (locs : List Loc) (l1 : Int32) (l3 : Int32) (u : gU), lv_has ls 4 [(0, .ref q0), (1, .int l1), (3, .int l3)] → va_P D cls (wCtx cI q0 q1 q2 q3 q4 q5 u) H → va_S (ad [q0, q1, q2, q3, q4, q5]) s.heap H locs → J_Ctx_learnEnd_14 l1 l3 u = some v → W p l e ({ frames := 0, cells := 0, slots := 0, locals := 0 }) s m [.ref q0, .int a1, .int a2, .int a3].toArray below meth c H locs 0 0 (MQ below (va_Qv (fun (_ : Unit) => True) (fun _ t => va_P D cls (wCtx cI q0 q1 q2 q3 q4 q5 v) t.heap) (ad [q0, q1, q2, q3, q4, q5])) [.ref q0, .int a1, .int a2, .int a3].toArray s 0 0 (ad [q0, q1, q2, q3, q4, q5])) (F0 m 14 ls []) := by
    intro ls H locs l1 l3 u hl hP hS hf
    unfold J_Ctx_learnEnd_14 at hf
    refine lv_aload_n hx hb d_Ctx_learnEnd_14 rfl (lv_at hl 0 rfl) ?_
    refine va_get (D := D) (ci := 2) (v := .ref q1) (C := R_Ctx) (T := F_Ctx) (N := 6) hx hb hw in_Ctx hown hK hP 0 rfl rfl 0 (by decide) (hw _ m_115) (fun _ h9 => h9) rfl d_Ctx_learnEnd_15 ?_
    refine lv_iload_n hx hb d_Ctx_learnEnd_18 rfl (lv_at hl 1 rfl) ?_
    refine lv_dup2_11 hx hb d_Ctx_learnEnd_19 rfl rfl ?_
    obtain ⟨h1, hf⟩ := gd_o hf
    refine va_iald hx hb hK hP 1 0 rfl rfl (ix_in h1) d_Ctx_learnEnd_20 ?_
    refine lv_iload_n hx hb d_Ctx_learnEnd_21 rfl (lv_at hl 2 rfl) ?_
    refine lv_iconst (v := 1) hx hb d_Ctx_learnEnd_22 (by decide) ?_
    refine lv_iadd hx hb d_Ctx_learnEnd_23 ?_
    refine lv_iload_n hx hb d_Ctx_learnEnd_24 rfl (lv_at hl 1 rfl) ?_
    refine lv_sipush (v := 365) hx hb d_Ctx_learnEnd_25 (by decide) ?_
    refine lv_isub hx hb d_Ctx_learnEnd_28 ?_
    refine lv_isub hx hb d_Ctx_learnEnd_29 ?_
    refine lv_iconst (v := 2) hx hb d_Ctx_learnEnd_30 (by decide) ?_
    refine lv_idiv hx hb d_Ctx_learnEnd_31 (by decide) ?_
    refine lv_iadd hx hb d_Ctx_learnEnd_32 ?_
    obtain ⟨h2, hf⟩ := gd_o hf
    refine va_iast hx hb hK hP (hD _) hS 1 0 rfl rfl (ix_in h2) d_Ctx_learnEnd_33 (fun H locs hP _ hS => ?_)
    obtain ⟨u3, e_u3, hf⟩ := tk_o hf
    have hP : va_P D cls (wCtx cI q0 q1 q2 q3 q4 q5 u3) H := by rw [e_u3]; exact hP
    refine lv_aload_n hx hb d_Ctx_learnEnd_34 rfl (lv_at hl 0 rfl) ?_
    refine va_get (D := D) (ci := 2) (v := .ref q4) (C := R_Ctx) (T := F_Ctx) (N := 6) hx hb hw in_Ctx hown hK hP 0 rfl rfl 3 (by decide) (hw _ m_114) (fun _ h9 => h9) rfl d_Ctx_learnEnd_35 ?_
    refine lv_iload_n hx hb d_Ctx_learnEnd_38 rfl (lv_at hl 1 rfl) ?_
    obtain ⟨h4, hf⟩ := gd_o hf
    refine va_iald hx hb hK hP 4 0 rfl rfl (ix_in h4) d_Ctx_learnEnd_39 ?_
    refine lv_bipush (v := 64) hx hb d_Ctx_learnEnd_40 (by decide) ?_
    refine lv_icmp_ne (tgt := 75) hx hb d_Ctx_learnEnd_42 (by decide) (fun hc => ?_) (fun hc => ?_)
    · have hf := bq_n hf hc
      exact j75 _ _ _ l1 u3 (lv_sub hl [0, 1] rfl) hP hS hf
    have hf := bq_t hf hc
    refine lv_aload_n hx hb d_Ctx_learnEnd_45 rfl (lv_at hl 0 rfl) ?_
    refine va_get (D := D) (ci := 2) (v := .ref q1) (C := R_Ctx) (T := F_Ctx) (N := 6) hx hb hw in_Ctx hown hK hP 0 rfl rfl 0 (by decide) (hw _ m_115) (fun _ h9 => h9) rfl d_Ctx_learnEnd_46 ?_
    refine lv_iload_n hx hb d_Ctx_learnEnd_49 rfl (lv_at hl 1 rfl) ?_
    refine lv_dup2_11 hx hb d_Ctx_learnEnd_50 rfl rfl ?_
    obtain ⟨h5, hf⟩ := gd_o hf
    refine va_iald hx hb hK hP 1 0 rfl rfl (ix_in h5) d_Ctx_learnEnd_51 ?_
    refine lv_iconst (v := 1) hx hb d_Ctx_learnEnd_52 (by decide) ?_
    refine lv_ishr hx hb d_Ctx_learnEnd_53 ?_
    obtain ⟨h6, hf⟩ := gd_o hf
    refine va_iast hx hb hK hP (hD _) hS 1 0 rfl rfl (ix_in h6) d_Ctx_learnEnd_54 (fun H locs hP _ hS => ?_)
    obtain ⟨u7, e_u7, hf⟩ := tk_o hf
    have hP : va_P D cls (wCtx cI q0 q1 q2 q3 q4 q5 u7) H := by rw [e_u7]; exact hP
    refine lv_aload_n hx hb d_Ctx_learnEnd_55 rfl (lv_at hl 0 rfl) ?_
    refine va_get (D := D) (ci := 2) (v := .ref q4) (C := R_Ctx) (T := F_Ctx) (N := 6) hx hb hw in_Ctx hown hK hP 0 rfl rfl 3 (by decide) (hw _ m_114) (fun _ h9 => h9) rfl d_Ctx_learnEnd_56 ?_
    refine lv_iload_n hx hb d_Ctx_learnEnd_59 rfl (lv_at hl 1 rfl) ?_
    refine lv_dup2_11 hx hb d_Ctx_learnEnd_60 rfl rfl ?_
    obtain ⟨h8, hf⟩ := gd_o hf
    refine va_iald hx hb hK hP 4 0 rfl rfl (ix_in h8) d_Ctx_learnEnd_61 ?_
    refine lv_iconst (v := 1) hx hb d_Ctx_learnEnd_62 (by decide) ?_
    refine lv_ishr hx hb d_Ctx_learnEnd_63 ?_
    obtain ⟨h9, hf⟩ := gd_o hf
    refine va_iast hx hb hK hP (hD _) hS 4 0 rfl rfl (ix_in h9) d_Ctx_learnEnd_64 (fun H locs hP _ hS => ?_)
    obtain ⟨u10, e_u10, hf⟩ := tk_o hf
    have hP : va_P D cls (wCtx cI q0 q1 q2 q3 q4 q5 u10) H := by rw [e_u10]; exact hP
    refine lv_aload_n hx hb d_Ctx_learnEnd_65 rfl (lv_at hl 0 rfl) ?_
    refine va_get (D := D) (ci := 2) (v := .ref q5) (C := R_Ctx) (T := F_Ctx) (N := 6) hx hb hw in_Ctx hown hK hP 0 rfl rfl 4 (by decide) (hw _ m_122) (fun _ h9 => h9) rfl d_Ctx_learnEnd_66 ?_
    refine lv_iload_n hx hb d_Ctx_learnEnd_69 rfl (lv_at hl 1 rfl) ?_
    refine lv_dup2_11 hx hb d_Ctx_learnEnd_70 rfl rfl ?_
    obtain ⟨h11, hf⟩ := gd_o hf
    refine va_iald hx hb hK hP 5 0 rfl rfl (ix_in h11) d_Ctx_learnEnd_71 ?_
    refine lv_iconst (v := 1) hx hb d_Ctx_learnEnd_72 (by decide) ?_
    refine lv_ishr hx hb d_Ctx_learnEnd_73 ?_
    obtain ⟨h12, hf⟩ := gd_o hf
    refine va_iast hx hb hK hP (hD _) hS 5 0 rfl rfl (ix_in h12) d_Ctx_learnEnd_74 (fun H locs hP _ hS => ?_)
    obtain ⟨u13, e_u13, hf⟩ := tk_o hf
    have hP : va_P D cls (wCtx cI q0 q1 q2 q3 q4 q5 u13) H := by rw [e_u13]; exact hP
    exact j75 _ _ _ l1 u13 (lv_sub hl [0, 1] rfl) hP hS hf
  unfold f_Ctx_learnEnd at hf
  refine lv_iload_n hx hb d_Ctx_learnEnd_0 rfl (lv_at hl 2 rfl) ?_
  refine lv_if_ge (tgt := 14) hx hb d_Ctx_learnEnd_1 (by decide) (fun hc => ?_) (fun hc => ?_)
  · have hf := bq_t hf hc
    exact j14 _ _ _ a1 a3 u (lv_sub hl [0, 1, 3] rfl) hP hS hf
  have hf := bq_n hf hc
  refine lv_aload_n hx hb d_Ctx_learnEnd_4 rfl (lv_at hl 0 rfl) ?_
  refine va_get (D := D) (ci := 2) (v := .ref q5) (C := R_Ctx) (T := F_Ctx) (N := 6) hx hb hw in_Ctx hown hK hP 0 rfl rfl 4 (by decide) (hw _ m_122) (fun _ h9 => h9) rfl d_Ctx_learnEnd_5 ?_
  refine lv_iload_n hx hb d_Ctx_learnEnd_8 rfl (lv_at hl 1 rfl) ?_
  refine lv_dup2_11 hx hb d_Ctx_learnEnd_9 rfl rfl ?_
  obtain ⟨h1, hf⟩ := gd_o hf
  refine va_iald hx hb hK hP 5 0 rfl rfl (ix_in h1) d_Ctx_learnEnd_10 ?_
  refine lv_iconst (v := 1) hx hb d_Ctx_learnEnd_11 (by decide) ?_
  refine lv_iadd hx hb d_Ctx_learnEnd_12 ?_
  obtain ⟨h2, hf⟩ := gd_o hf
  refine va_iast hx hb hK hP (hD _) hS 5 0 rfl rfl (ix_in h2) d_Ctx_learnEnd_13 (fun H locs hP _ hS => ?_)
  obtain ⟨u3, e_u3, hf⟩ := tk_o hf
  have hP : va_P D cls (wCtx cI q0 q1 q2 q3 q4 q5 u3) H := by rw [e_u3]; exact hP
  exact j14 _ _ _ a1 a3 u3 (lv_sub hl [0, 1, 3] rfl) hP hS hf
def f_Ctx_restart (a1 : Int32) (u : gU) : Option (gU) := tk (if 2 < ((a1 + 32) / 64) then ((a1 + 32) / 64) else 2) fun x1 => bd (f_Arrs_fill_102 367 x1 (sb [1] u)) fun w2 => tk (mg [1] 0 u w2) fun u3 => bd (f_Arrs_fill_102 367 0 (sb [2] u3)) fun w4 => tk (mg [2] 0 u3 w4) fun u5 => bd (f_Arrs_fill_102 367 0 (sb [3] u5)) fun w6 => tk (mg [3] 0 u5 w6) fun u7 => bd (f_Arrs_fill_102 367 1 (sb [4] u7)) fun w8 => tk (mg [4] 0 u7 w8) fun u9 => bd (f_Arrs_fill_102 367 0 (sb [5] u9)) fun w10 => tk (mg [5] 0 u9 w10) fun u11 => tk (st2 u11 0 0 0) fun u12 => some u12
set_option maxHeartbeats 4000000 in
set_option maxRecDepth 100000 in
theorem c_Ctx_restart (l : Launch) (D : va_G) (cI : ClassId) (q0 : Nat) (q1 : Nat) (q2 : Nat) (q3 : Nat) (q4 : Nat) (q5 : Nat) (hd : dj [q0, q1, q2, q3, q4, q5]) (a1 : Int32) (u : gU) (v : gU) (hf : f_Ctx_restart a1 u = some v) : Met l y_Ctx_restart (.code y_Ctx_restart b_Ctx_restart 2 none :: TS) ({ frames := 1, cells := 0, slots := 0, locals := 24 }) (va_Pc [.ref q0, .int a1] (fun U => va_P D cls (wCtx cI q0 q1 q2 q3 q4 q5 u) U.heap ∧ va_K D cls [(cI, .int)] U)) (va_Qv (fun (_ : Unit) => True) (fun _ t => va_P D cls (wCtx cI q0 q1 q2 q3 q4 q5 v) t.heap) (ad [q0, q1, q2, q3, q4, q5])) 0 0 (ad [q0, q1, q2, q3, q4, q5]) := by
  refine ct_of (by decide +kernel) (Nat.le_of_ble_eq_true rfl) ?_
  intro p e s m below meth c ls hx hb hml hr hlocks hown hw hP hK hl
  have hS : va_S (ad [q0, q1, q2, q3, q4, q5]) s.heap s.heap [] := va_S.rf
  have hD : ∀ v, va_D (ad [q0, q1, q2, q3, q4, q5]) (wCtx cI q0 q1 q2 q3 q4 q5 v) := fun _ => dj_D rfl hd
  have hl : lv_has ls 2 [(0, .ref q0), (1, .int a1)] := hl
  have hP : va_P D cls (wCtx cI q0 q1 q2 q3 q4 q5 u) s.heap := hP
  unfold f_Ctx_restart at hf
  refine lv_aload_n hx hb d_Ctx_restart_0 rfl (lv_at hl 0 rfl) ?_
  refine va_get (D := D) (ci := 2) (v := .ref q1) (C := R_Ctx) (T := F_Ctx) (N := 6) hx hb hw in_Ctx hown hK hP 0 rfl rfl 0 (by decide) (hw _ m_115) (fun _ h9 => h9) rfl d_Ctx_restart_1 ?_
  refine lv_iconst (v := 2) hx hb d_Ctx_restart_4 (by decide) ?_
  refine lv_iload_n hx hb d_Ctx_restart_5 rfl (lv_at hl 1 rfl) ?_
  refine lv_bipush (v := 32) hx hb d_Ctx_restart_6 (by decide) ?_
  refine lv_iadd hx hb d_Ctx_restart_8 ?_
  refine lv_bipush (v := 64) hx hb d_Ctx_restart_9 (by decide) ?_
  refine lv_idiv hx hb d_Ctx_restart_11 (by decide) ?_
  refine va_mmax hx hb (hml.trans hl.1.symm) hown (hw _ m_123) (hw _ m_86) (hw _ m_87) (hw _ m_88) (Nat.le_of_ble_eq_true rfl) (Nat.le_of_ble_eq_true rfl) (Nat.le_of_ble_eq_true rfl) (Nat.le_of_ble_eq_true rfl) d_Ctx_restart_12 ?_
  refine lv_topi (fun x1 e_x1 => ?_)
  have hf := tk_e hf e_x1
  have hC : [1].map (fun i => (wCtx cI q0 q1 q2 q3 q4 q5 u)[i]?) = (wArrN cI 367 q1 (sb [1] u)).map some := rfl
  obtain ⟨w2, hc, hf⟩ := bd_o hf
  refine rw_v (va_runS (As := [.ref q1, .int x1]) (rest := []) ⟨hx, hb, hml, hown, hw⟩ (c_Arrs_fill_102 l D cI 367 q1 (dj_sub hd [1] (by decide) rfl) x1 (sb [1] u) w2 hc) (va_cwS 2 hw g_7 rfl rfl rfl (by decide +kernel) ⟨Nat.le_of_ble_eq_true rfl, Nat.le_of_ble_eq_true rfl⟩) (pre_S (P_sub hC hP) hK) rfl rfl hl.1 rfl (lv_room (Nat.le_of_ble_eq_true rfl)) d_Ctx_restart_15 ⟨Nat.le_of_ble_eq_true rfl, Nat.le_of_ble_eq_true rfl⟩) hS hP (hD _) hC rfl rfl (fun H locs hP hS => ?_)
  obtain ⟨u3, e_u3, hf⟩ := tk_o hf
  have hP : va_P D cls (wCtx cI q0 q1 q2 q3 q4 q5 u3) H := by rw [e_u3]; exact hP
  refine lv_aload_n hx hb d_Ctx_restart_18 rfl (lv_at hl 0 rfl) ?_
  refine va_get (D := D) (ci := 2) (v := .ref q2) (C := R_Ctx) (T := F_Ctx) (N := 6) hx hb hw in_Ctx hown hK hP 0 rfl rfl 1 (by decide) (hw _ m_121) (fun _ h9 => h9) rfl d_Ctx_restart_19 ?_
  refine lv_iconst (v := 0) hx hb d_Ctx_restart_22 (by decide) ?_
  have hC : [2].map (fun i => (wCtx cI q0 q1 q2 q3 q4 q5 u3)[i]?) = (wArrN cI 367 q2 (sb [2] u3)).map some := rfl
  obtain ⟨w4, hc, hf⟩ := bd_o hf
  refine rw_v (va_runS (As := [.ref q2, .int 0]) (rest := []) ⟨hx, hb, hml, hown, hw⟩ (c_Arrs_fill_102 l D cI 367 q2 (dj_sub hd [2] (by decide) rfl) 0 (sb [2] u3) w4 hc) (va_cwS 2 hw g_7 rfl rfl rfl (by decide +kernel) ⟨Nat.le_of_ble_eq_true rfl, Nat.le_of_ble_eq_true rfl⟩) (pre_S (P_sub hC hP) hK) rfl rfl hl.1 rfl (lv_room (Nat.le_of_ble_eq_true rfl)) d_Ctx_restart_23 ⟨Nat.le_of_ble_eq_true rfl, Nat.le_of_ble_eq_true rfl⟩) hS hP (hD _) hC rfl rfl (fun H locs hP hS => ?_)
  obtain ⟨u5, e_u5, hf⟩ := tk_o hf
  have hP : va_P D cls (wCtx cI q0 q1 q2 q3 q4 q5 u5) H := by rw [e_u5]; exact hP
  refine lv_aload_n hx hb d_Ctx_restart_26 rfl (lv_at hl 0 rfl) ?_
  refine va_get (D := D) (ci := 2) (v := .ref q3) (C := R_Ctx) (T := F_Ctx) (N := 6) hx hb hw in_Ctx hown hK hP 0 rfl rfl 2 (by decide) (hw _ m_124) (fun _ h9 => h9) rfl d_Ctx_restart_27 ?_
  refine lv_iconst (v := 0) hx hb d_Ctx_restart_30 (by decide) ?_
  have hC : [3].map (fun i => (wCtx cI q0 q1 q2 q3 q4 q5 u5)[i]?) = (wArrN cI 367 q3 (sb [3] u5)).map some := rfl
  obtain ⟨w6, hc, hf⟩ := bd_o hf
  refine rw_v (va_runS (As := [.ref q3, .int 0]) (rest := []) ⟨hx, hb, hml, hown, hw⟩ (c_Arrs_fill_102 l D cI 367 q3 (dj_sub hd [3] (by decide) rfl) 0 (sb [3] u5) w6 hc) (va_cwS 2 hw g_7 rfl rfl rfl (by decide +kernel) ⟨Nat.le_of_ble_eq_true rfl, Nat.le_of_ble_eq_true rfl⟩) (pre_S (P_sub hC hP) hK) rfl rfl hl.1 rfl (lv_room (Nat.le_of_ble_eq_true rfl)) d_Ctx_restart_31 ⟨Nat.le_of_ble_eq_true rfl, Nat.le_of_ble_eq_true rfl⟩) hS hP (hD _) hC rfl rfl (fun H locs hP hS => ?_)
  obtain ⟨u7, e_u7, hf⟩ := tk_o hf
  have hP : va_P D cls (wCtx cI q0 q1 q2 q3 q4 q5 u7) H := by rw [e_u7]; exact hP
  refine lv_aload_n hx hb d_Ctx_restart_34 rfl (lv_at hl 0 rfl) ?_
  refine va_get (D := D) (ci := 2) (v := .ref q4) (C := R_Ctx) (T := F_Ctx) (N := 6) hx hb hw in_Ctx hown hK hP 0 rfl rfl 3 (by decide) (hw _ m_114) (fun _ h9 => h9) rfl d_Ctx_restart_35 ?_
  refine lv_iconst (v := 1) hx hb d_Ctx_restart_38 (by decide) ?_
  have hC : [4].map (fun i => (wCtx cI q0 q1 q2 q3 q4 q5 u7)[i]?) = (wArrN cI 367 q4 (sb [4] u7)).map some := rfl
  obtain ⟨w8, hc, hf⟩ := bd_o hf
  refine rw_v (va_runS (As := [.ref q4, .int 1]) (rest := []) ⟨hx, hb, hml, hown, hw⟩ (c_Arrs_fill_102 l D cI 367 q4 (dj_sub hd [4] (by decide) rfl) 1 (sb [4] u7) w8 hc) (va_cwS 2 hw g_7 rfl rfl rfl (by decide +kernel) ⟨Nat.le_of_ble_eq_true rfl, Nat.le_of_ble_eq_true rfl⟩) (pre_S (P_sub hC hP) hK) rfl rfl hl.1 rfl (lv_room (Nat.le_of_ble_eq_true rfl)) d_Ctx_restart_39 ⟨Nat.le_of_ble_eq_true rfl, Nat.le_of_ble_eq_true rfl⟩) hS hP (hD _) hC rfl rfl (fun H locs hP hS => ?_)
  obtain ⟨u9, e_u9, hf⟩ := tk_o hf
  have hP : va_P D cls (wCtx cI q0 q1 q2 q3 q4 q5 u9) H := by rw [e_u9]; exact hP
  refine lv_aload_n hx hb d_Ctx_restart_42 rfl (lv_at hl 0 rfl) ?_
  refine va_get (D := D) (ci := 2) (v := .ref q5) (C := R_Ctx) (T := F_Ctx) (N := 6) hx hb hw in_Ctx hown hK hP 0 rfl rfl 4 (by decide) (hw _ m_122) (fun _ h9 => h9) rfl d_Ctx_restart_43 ?_
  refine lv_iconst (v := 0) hx hb d_Ctx_restart_46 (by decide) ?_
  have hC : [5].map (fun i => (wCtx cI q0 q1 q2 q3 q4 q5 u9)[i]?) = (wArrN cI 367 q5 (sb [5] u9)).map some := rfl
  obtain ⟨w10, hc, hf⟩ := bd_o hf
  refine rw_v (va_runS (As := [.ref q5, .int 0]) (rest := []) ⟨hx, hb, hml, hown, hw⟩ (c_Arrs_fill_102 l D cI 367 q5 (dj_sub hd [5] (by decide) rfl) 0 (sb [5] u9) w10 hc) (va_cwS 2 hw g_7 rfl rfl rfl (by decide +kernel) ⟨Nat.le_of_ble_eq_true rfl, Nat.le_of_ble_eq_true rfl⟩) (pre_S (P_sub hC hP) hK) rfl rfl hl.1 rfl (lv_room (Nat.le_of_ble_eq_true rfl)) d_Ctx_restart_47 ⟨Nat.le_of_ble_eq_true rfl, Nat.le_of_ble_eq_true rfl⟩) hS hP (hD _) hC rfl rfl (fun H locs hP hS => ?_)
  obtain ⟨u11, e_u11, hf⟩ := tk_o hf
  have hP : va_P D cls (wCtx cI q0 q1 q2 q3 q4 q5 u11) H := by rw [e_u11]; exact hP
  refine lv_aload_n hx hb d_Ctx_restart_50 rfl (lv_at hl 0 rfl) ?_
  refine lv_iconst (v := 0) hx hb d_Ctx_restart_51 (by decide) ?_
  refine va_put (D := D) (ci := 2) (v := .int 0) (ty := .int) (C := R_Ctx) (T := F_Ctx) (N := 6) hx hb hw in_Ctx t_Ctx t_Ctx_ok n_Ctx hown hK hP (hD _) hS 0 rfl rfl 5 (by decide) (hw _ m_113) (fun _ h9 => h9) rfl (by decide +kernel) rfl rfl (Nat.le_of_ble_eq_true rfl) d_Ctx_restart_52 (fun H locs hP _ hS => ?_)
  obtain ⟨u12, e_u12, hf⟩ := tk_o hf
  have hP : va_P D cls (wCtx cI q0 q1 q2 q3 q4 q5 u12) H := by rw [e_u12]; exact hP
  exact rt_v (wCtx cI q0 q1 q2 q3 q4 q5) hx hb hr hlocks hS hP hf d_Ctx_restart_55
def f_Ctx_takeOver (u : gU) : Option (gU) := tk (st1 u 1 (va_cpy (u 7) (u 1) 0 0 (tc 367))) fun u1 => tk (st1 u1 2 (va_cpy (u1 8) (u1 2) 0 0 (tc 367))) fun u2 => tk (st1 u2 3 (va_cpy (u2 9) (u2 3) 0 0 (tc 367))) fun u3 => tk (st1 u3 4 (va_cpy (u3 10) (u3 4) 0 0 (tc 367))) fun u4 => tk (st1 u4 5 (va_cpy (u4 11) (u4 5) 0 0 (tc 367))) fun u5 => tk (st2 u5 0 0 (u5 6 0)) fun u6 => some u6
set_option maxHeartbeats 4000000 in
set_option maxRecDepth 100000 in
theorem c_Ctx_takeOver (l : Launch) (D : va_G) (cI : ClassId) (q0 : Nat) (q1 : Nat) (q2 : Nat) (q3 : Nat) (q4 : Nat) (q5 : Nat) (q6 : Nat) (q7 : Nat) (q8 : Nat) (q9 : Nat) (q10 : Nat) (q11 : Nat) (hd : dj [q0, q1, q2, q3, q4, q5, q6, q7, q8, q9, q10, q11]) (u : gU) (v : gU) (hf : f_Ctx_takeOver u = some v) : Met l y_Ctx_takeOver (.code y_Ctx_takeOver b_Ctx_takeOver 2 none :: TS) ({ frames := 1, cells := 0, slots := 0, locals := 40 }) (va_Pc [.ref q0, .ref q6] (fun U => va_P D cls (wCtxCtx cI q0 q1 q2 q3 q4 q5 q6 q7 q8 q9 q10 q11 u) U.heap ∧ va_K D cls [(cI, .int)] U)) (va_Qv (fun (_ : Unit) => True) (fun _ t => va_P D cls (wCtxCtx cI q0 q1 q2 q3 q4 q5 q6 q7 q8 q9 q10 q11 v) t.heap) (ad [q0, q1, q2, q3, q4, q5, q6, q7, q8, q9, q10, q11])) 0 0 (ad [q0, q1, q2, q3, q4, q5, q6, q7, q8, q9, q10, q11]) := by
  refine ct_of (by decide +kernel) (Nat.le_of_ble_eq_true rfl) ?_
  intro p e s m below meth c ls hx hb hml hr hlocks hown hw hP hK hl
  have hS : va_S (ad [q0, q1, q2, q3, q4, q5, q6, q7, q8, q9, q10, q11]) s.heap s.heap [] := va_S.rf
  have hD : ∀ v, va_D (ad [q0, q1, q2, q3, q4, q5, q6, q7, q8, q9, q10, q11]) (wCtxCtx cI q0 q1 q2 q3 q4 q5 q6 q7 q8 q9 q10 q11 v) := fun _ => dj_D rfl hd
  have hl : lv_has ls 2 [(0, .ref q0), (1, .ref q6)] := hl
  have hP : va_P D cls (wCtxCtx cI q0 q1 q2 q3 q4 q5 q6 q7 q8 q9 q10 q11 u) s.heap := hP
  unfold f_Ctx_takeOver at hf
  refine lv_aload_n hx hb d_Ctx_takeOver_0 rfl (lv_at hl 1 rfl) ?_
  refine va_get (D := D) (ci := 2) (v := .ref q7) (C := R_Ctx) (T := F_Ctx) (N := 6) hx hb hw in_Ctx hown hK hP 6 rfl rfl 0 (by decide) (hw _ m_115) (fun _ h9 => h9) rfl d_Ctx_takeOver_1 ?_
  refine lv_iconst (v := 0) hx hb d_Ctx_takeOver_4 (by decide) ?_
  refine lv_aload_n hx hb d_Ctx_takeOver_5 rfl (lv_at hl 0 rfl) ?_
  refine va_get (D := D) (ci := 2) (v := .ref q1) (C := R_Ctx) (T := F_Ctx) (N := 6) hx hb hw in_Ctx hown hK hP 0 rfl rfl 0 (by decide) (hw _ m_115) (fun _ h9 => h9) rfl d_Ctx_takeOver_6 ?_
  refine lv_iconst (v := 0) hx hb d_Ctx_takeOver_9 (by decide) ?_
  refine lv_sipush (v := 367) hx hb d_Ctx_takeOver_10 (by decide) ?_
  refine va_copyi (ty := .int) hx hb (hml.trans hl.1.symm) hown (hw _ m_139) (hw _ m_140) (hw _ m_141) (hw _ m_142) hK hP (hD _) hS 7 1 0 0 rfl rfl rfl rfl rfl (by decide) (by decide) (by decide) (by decide) (by decide) (fun _ _ => rfl) (Nat.le_of_ble_eq_true rfl) (by decide) d_Ctx_takeOver_13 (fun H locs hP _ hS => ?_)
  obtain ⟨u1, e_u1, hf⟩ := tk_o hf
  have hP : va_P D cls (wCtxCtx cI q0 q1 q2 q3 q4 q5 q6 q7 q8 q9 q10 q11 u1) H := by rw [e_u1]; exact hP
  refine lv_aload_n hx hb d_Ctx_takeOver_16 rfl (lv_at hl 1 rfl) ?_
  refine va_get (D := D) (ci := 2) (v := .ref q8) (C := R_Ctx) (T := F_Ctx) (N := 6) hx hb hw in_Ctx hown hK hP 6 rfl rfl 1 (by decide) (hw _ m_121) (fun _ h9 => h9) rfl d_Ctx_takeOver_17 ?_
  refine lv_iconst (v := 0) hx hb d_Ctx_takeOver_20 (by decide) ?_
  refine lv_aload_n hx hb d_Ctx_takeOver_21 rfl (lv_at hl 0 rfl) ?_
  refine va_get (D := D) (ci := 2) (v := .ref q2) (C := R_Ctx) (T := F_Ctx) (N := 6) hx hb hw in_Ctx hown hK hP 0 rfl rfl 1 (by decide) (hw _ m_121) (fun _ h9 => h9) rfl d_Ctx_takeOver_22 ?_
  refine lv_iconst (v := 0) hx hb d_Ctx_takeOver_25 (by decide) ?_
  refine lv_sipush (v := 367) hx hb d_Ctx_takeOver_26 (by decide) ?_
  refine va_copyi (ty := .int) hx hb (hml.trans hl.1.symm) hown (hw _ m_139) (hw _ m_140) (hw _ m_141) (hw _ m_142) hK hP (hD _) hS 8 2 0 0 rfl rfl rfl rfl rfl (by decide) (by decide) (by decide) (by decide) (by decide) (fun _ _ => rfl) (Nat.le_of_ble_eq_true rfl) (by decide) d_Ctx_takeOver_29 (fun H locs hP _ hS => ?_)
  obtain ⟨u2, e_u2, hf⟩ := tk_o hf
  have hP : va_P D cls (wCtxCtx cI q0 q1 q2 q3 q4 q5 q6 q7 q8 q9 q10 q11 u2) H := by rw [e_u2]; exact hP
  refine lv_aload_n hx hb d_Ctx_takeOver_32 rfl (lv_at hl 1 rfl) ?_
  refine va_get (D := D) (ci := 2) (v := .ref q9) (C := R_Ctx) (T := F_Ctx) (N := 6) hx hb hw in_Ctx hown hK hP 6 rfl rfl 2 (by decide) (hw _ m_124) (fun _ h9 => h9) rfl d_Ctx_takeOver_33 ?_
  refine lv_iconst (v := 0) hx hb d_Ctx_takeOver_36 (by decide) ?_
  refine lv_aload_n hx hb d_Ctx_takeOver_37 rfl (lv_at hl 0 rfl) ?_
  refine va_get (D := D) (ci := 2) (v := .ref q3) (C := R_Ctx) (T := F_Ctx) (N := 6) hx hb hw in_Ctx hown hK hP 0 rfl rfl 2 (by decide) (hw _ m_124) (fun _ h9 => h9) rfl d_Ctx_takeOver_38 ?_
  refine lv_iconst (v := 0) hx hb d_Ctx_takeOver_41 (by decide) ?_
  refine lv_sipush (v := 367) hx hb d_Ctx_takeOver_42 (by decide) ?_
  refine va_copyi (ty := .int) hx hb (hml.trans hl.1.symm) hown (hw _ m_139) (hw _ m_140) (hw _ m_141) (hw _ m_142) hK hP (hD _) hS 9 3 0 0 rfl rfl rfl rfl rfl (by decide) (by decide) (by decide) (by decide) (by decide) (fun _ _ => rfl) (Nat.le_of_ble_eq_true rfl) (by decide) d_Ctx_takeOver_45 (fun H locs hP _ hS => ?_)
  obtain ⟨u3, e_u3, hf⟩ := tk_o hf
  have hP : va_P D cls (wCtxCtx cI q0 q1 q2 q3 q4 q5 q6 q7 q8 q9 q10 q11 u3) H := by rw [e_u3]; exact hP
  refine lv_aload_n hx hb d_Ctx_takeOver_48 rfl (lv_at hl 1 rfl) ?_
  refine va_get (D := D) (ci := 2) (v := .ref q10) (C := R_Ctx) (T := F_Ctx) (N := 6) hx hb hw in_Ctx hown hK hP 6 rfl rfl 3 (by decide) (hw _ m_114) (fun _ h9 => h9) rfl d_Ctx_takeOver_49 ?_
  refine lv_iconst (v := 0) hx hb d_Ctx_takeOver_52 (by decide) ?_
  refine lv_aload_n hx hb d_Ctx_takeOver_53 rfl (lv_at hl 0 rfl) ?_
  refine va_get (D := D) (ci := 2) (v := .ref q4) (C := R_Ctx) (T := F_Ctx) (N := 6) hx hb hw in_Ctx hown hK hP 0 rfl rfl 3 (by decide) (hw _ m_114) (fun _ h9 => h9) rfl d_Ctx_takeOver_54 ?_
  refine lv_iconst (v := 0) hx hb d_Ctx_takeOver_57 (by decide) ?_
  refine lv_sipush (v := 367) hx hb d_Ctx_takeOver_58 (by decide) ?_
  refine va_copyi (ty := .int) hx hb (hml.trans hl.1.symm) hown (hw _ m_139) (hw _ m_140) (hw _ m_141) (hw _ m_142) hK hP (hD _) hS 10 4 0 0 rfl rfl rfl rfl rfl (by decide) (by decide) (by decide) (by decide) (by decide) (fun _ _ => rfl) (Nat.le_of_ble_eq_true rfl) (by decide) d_Ctx_takeOver_61 (fun H locs hP _ hS => ?_)
  obtain ⟨u4, e_u4, hf⟩ := tk_o hf
  have hP : va_P D cls (wCtxCtx cI q0 q1 q2 q3 q4 q5 q6 q7 q8 q9 q10 q11 u4) H := by rw [e_u4]; exact hP
  refine lv_aload_n hx hb d_Ctx_takeOver_64 rfl (lv_at hl 1 rfl) ?_
  refine va_get (D := D) (ci := 2) (v := .ref q11) (C := R_Ctx) (T := F_Ctx) (N := 6) hx hb hw in_Ctx hown hK hP 6 rfl rfl 4 (by decide) (hw _ m_122) (fun _ h9 => h9) rfl d_Ctx_takeOver_65 ?_
  refine lv_iconst (v := 0) hx hb d_Ctx_takeOver_68 (by decide) ?_
  refine lv_aload_n hx hb d_Ctx_takeOver_69 rfl (lv_at hl 0 rfl) ?_
  refine va_get (D := D) (ci := 2) (v := .ref q5) (C := R_Ctx) (T := F_Ctx) (N := 6) hx hb hw in_Ctx hown hK hP 0 rfl rfl 4 (by decide) (hw _ m_122) (fun _ h9 => h9) rfl d_Ctx_takeOver_70 ?_
  refine lv_iconst (v := 0) hx hb d_Ctx_takeOver_73 (by decide) ?_
  refine lv_sipush (v := 367) hx hb d_Ctx_takeOver_74 (by decide) ?_
  refine va_copyi (ty := .int) hx hb (hml.trans hl.1.symm) hown (hw _ m_139) (hw _ m_140) (hw _ m_141) (hw _ m_142) hK hP (hD _) hS 11 5 0 0 rfl rfl rfl rfl rfl (by decide) (by decide) (by decide) (by decide) (by decide) (fun _ _ => rfl) (Nat.le_of_ble_eq_true rfl) (by decide) d_Ctx_takeOver_77 (fun H locs hP _ hS => ?_)
  obtain ⟨u5, e_u5, hf⟩ := tk_o hf
  have hP : va_P D cls (wCtxCtx cI q0 q1 q2 q3 q4 q5 q6 q7 q8 q9 q10 q11 u5) H := by rw [e_u5]; exact hP
  refine lv_aload_n hx hb d_Ctx_takeOver_80 rfl (lv_at hl 0 rfl) ?_
  refine lv_aload_n hx hb d_Ctx_takeOver_81 rfl (lv_at hl 1 rfl) ?_
  refine va_get (D := D) (ci := 2) (v := .int (u5 6 0)) (C := R_Ctx) (T := F_Ctx) (N := 6) hx hb hw in_Ctx hown hK hP 6 rfl rfl 5 (by decide) (hw _ m_113) (fun _ h9 => h9) rfl d_Ctx_takeOver_82 ?_
  refine va_put (D := D) (ci := 2) (v := .int (u5 6 0)) (ty := .int) (C := R_Ctx) (T := F_Ctx) (N := 6) hx hb hw in_Ctx t_Ctx t_Ctx_ok n_Ctx hown hK hP (hD _) hS 0 rfl rfl 5 (by decide) (hw _ m_113) (fun _ h9 => h9) rfl (by decide +kernel) rfl rfl (Nat.le_of_ble_eq_true rfl) d_Ctx_takeOver_85 (fun H locs hP _ hS => ?_)
  obtain ⟨u6, e_u6, hf⟩ := tk_o hf
  have hP : va_P D cls (wCtxCtx cI q0 q1 q2 q3 q4 q5 q6 q7 q8 q9 q10 q11 u6) H := by rw [e_u6]; exact hP
  exact rt_v (wCtxCtx cI q0 q1 q2 q3 q4 q5 q6 q7 q8 q9 q10 q11) hx hb hr hlocks hS hP hf d_Ctx_takeOver_88
