def f_Pic_place (a0 : Int32) (a1 : Int32) : Option (Int32) := some ((a1 * 8) + a0)
set_option maxHeartbeats 4000000 in
set_option maxRecDepth 100000 in
theorem c_Pic_place (l : Launch) (D : va_G) (cI : ClassId) (a0 : Int32) (a1 : Int32) (r : Int32) (hf : f_Pic_place a0 a1 = some r) : Met l y_Pic_place (.code y_Pic_place b_Pic_place 2 (some .int) :: TS) ({ frames := 0, cells := 0, slots := 0, locals := 0 }) (va_Pc [.int a0, .int a1] (fun U => va_P D cls (([] : va_W)) U.heap ∧ va_K D cls [(cI, .int)] U)) (va_Qi (fun x (_ : Unit) => x = r) (fun _ _ => True) (fun _ => False)) 0 0 (fun _ => False) := by
  refine ct_of (by decide +kernel) (Nat.le_of_ble_eq_true rfl) ?_
  intro p e s m below meth c ls hx hb hml hr hlocks hown hw hP hK hl
  have hS : va_S (fun _ => False) s.heap s.heap [] := va_S.rf
  have hl : lv_has ls 2 [(0, .int a0), (1, .int a1)] := hl
  have hP : va_P D cls (([] : va_W)) s.heap := hP
  unfold f_Pic_place at hf
  refine lv_iload_n hx hb d_Pic_place_0 rfl (lv_at hl 1 rfl) ?_
  refine lv_bipush (v := 8) hx hb d_Pic_place_1 (by decide) ?_
  refine lv_imul hx hb d_Pic_place_3 ?_
  refine lv_iload_n hx hb d_Pic_place_4 rfl (lv_at hl 0 rfl) ?_
  refine lv_iadd hx hb d_Pic_place_5 ?_
  exact rt_roi hx hb hr hlocks hS hf d_Pic_place_6
def f_Pic_fits (a0 : Int32) (a1 : Int32) (a2 : Int32) (a3 : Int32) : Option (Int32) := bq (a0 < 1) (some 0) (bq (8 < a0) (some 0) (bq (a1 < 1) (some 0) (bq (8 < a1) (some 0) (bq (a2 < 3) (some 0) (bq (255 < a2) (some 0) (bq (a3 < 0) (some 0) (bq (3 < a3) (some 0) (bq ((a2 / 2) < a3) (some 0) (some 1)))))))))
set_option maxHeartbeats 4000000 in
set_option maxRecDepth 100000 in
theorem c_Pic_fits (l : Launch) (D : va_G) (cI : ClassId) (a0 : Int32) (a1 : Int32) (a2 : Int32) (a3 : Int32) (r : Int32) (hf : f_Pic_fits a0 a1 a2 a3 = some r) : Met l y_Pic_fits (.code y_Pic_fits b_Pic_fits 4 (some .boolean) :: TS) ({ frames := 0, cells := 0, slots := 0, locals := 0 }) (va_Pc [.int a0, .int a1, .int a2, .int a3] (fun U => va_P D cls (([] : va_W)) U.heap ∧ va_K D cls [(cI, .int)] U)) (va_Qi (fun x (_ : Unit) => x = r) (fun _ _ => True) (fun _ => False)) 0 0 (fun _ => False) := by
  refine ct_of (by decide +kernel) (Nat.le_of_ble_eq_true rfl) ?_
  intro p e s m below meth c ls hx hb hml hr hlocks hown hw hP hK hl
  have hS : va_S (fun _ => False) s.heap s.heap [] := va_S.rf
  have hl : lv_has ls 4 [(0, .int a0), (1, .int a1), (2, .int a2), (3, .int a3)] := hl
  have hP : va_P D cls (([] : va_W)) s.heap := hP
  unfold f_Pic_fits at hf
  refine lv_iload_n hx hb d_Pic_fits_0 rfl (lv_at hl 0 rfl) ?_
  refine lv_iconst (v := 1) hx hb d_Pic_fits_1 (by decide) ?_
  refine lv_icmp_lt (tgt := 54) hx hb d_Pic_fits_2 (by decide) (fun hc => ?_) (fun hc => ?_)
  · have hf := bq_t hf hc
    refine lv_iconst (v := 0) hx hb d_Pic_fits_54 (by decide) ?_
    exact rt_roz hx hb hr hlocks (Or.inl rfl) hS hf d_Pic_fits_55
  have hf := bq_n hf hc
  refine lv_iload_n hx hb d_Pic_fits_5 rfl (lv_at hl 0 rfl) ?_
  refine lv_bipush (v := 8) hx hb d_Pic_fits_6 (by decide) ?_
  refine lv_icmp_gt (tgt := 54) hx hb d_Pic_fits_8 (by decide) (fun hc => ?_) (fun hc => ?_)
  · have hf := bq_t hf hc
    refine lv_iconst (v := 0) hx hb d_Pic_fits_54 (by decide) ?_
    exact rt_roz hx hb hr hlocks (Or.inl rfl) hS hf d_Pic_fits_55
  have hf := bq_n hf hc
  refine lv_iload_n hx hb d_Pic_fits_11 rfl (lv_at hl 1 rfl) ?_
  refine lv_iconst (v := 1) hx hb d_Pic_fits_12 (by decide) ?_
  refine lv_icmp_lt (tgt := 54) hx hb d_Pic_fits_13 (by decide) (fun hc => ?_) (fun hc => ?_)
  · have hf := bq_t hf hc
    refine lv_iconst (v := 0) hx hb d_Pic_fits_54 (by decide) ?_
    exact rt_roz hx hb hr hlocks (Or.inl rfl) hS hf d_Pic_fits_55
  have hf := bq_n hf hc
  refine lv_iload_n hx hb d_Pic_fits_16 rfl (lv_at hl 1 rfl) ?_
  refine lv_bipush (v := 8) hx hb d_Pic_fits_17 (by decide) ?_
  refine lv_icmp_gt (tgt := 54) hx hb d_Pic_fits_19 (by decide) (fun hc => ?_) (fun hc => ?_)
  · have hf := bq_t hf hc
    refine lv_iconst (v := 0) hx hb d_Pic_fits_54 (by decide) ?_
    exact rt_roz hx hb hr hlocks (Or.inl rfl) hS hf d_Pic_fits_55
  have hf := bq_n hf hc
  refine lv_iload_n hx hb d_Pic_fits_22 rfl (lv_at hl 2 rfl) ?_
  refine lv_iconst (v := 3) hx hb d_Pic_fits_23 (by decide) ?_
  refine lv_icmp_lt (tgt := 54) hx hb d_Pic_fits_24 (by decide) (fun hc => ?_) (fun hc => ?_)
  · have hf := bq_t hf hc
    refine lv_iconst (v := 0) hx hb d_Pic_fits_54 (by decide) ?_
    exact rt_roz hx hb hr hlocks (Or.inl rfl) hS hf d_Pic_fits_55
  have hf := bq_n hf hc
  refine lv_iload_n hx hb d_Pic_fits_27 rfl (lv_at hl 2 rfl) ?_
  refine lv_sipush (v := 255) hx hb d_Pic_fits_28 (by decide) ?_
  refine lv_icmp_gt (tgt := 54) hx hb d_Pic_fits_31 (by decide) (fun hc => ?_) (fun hc => ?_)
  · have hf := bq_t hf hc
    refine lv_iconst (v := 0) hx hb d_Pic_fits_54 (by decide) ?_
    exact rt_roz hx hb hr hlocks (Or.inl rfl) hS hf d_Pic_fits_55
  have hf := bq_n hf hc
  refine lv_iload_n hx hb d_Pic_fits_34 rfl (lv_at hl 3 rfl) ?_
  refine lv_if_lt (tgt := 54) hx hb d_Pic_fits_35 (by decide) (fun hc => ?_) (fun hc => ?_)
  · have hf := bq_t hf hc
    refine lv_iconst (v := 0) hx hb d_Pic_fits_54 (by decide) ?_
    exact rt_roz hx hb hr hlocks (Or.inl rfl) hS hf d_Pic_fits_55
  have hf := bq_n hf hc
  refine lv_iload_n hx hb d_Pic_fits_38 rfl (lv_at hl 3 rfl) ?_
  refine lv_iconst (v := 3) hx hb d_Pic_fits_39 (by decide) ?_
  refine lv_icmp_gt (tgt := 54) hx hb d_Pic_fits_40 (by decide) (fun hc => ?_) (fun hc => ?_)
  · have hf := bq_t hf hc
    refine lv_iconst (v := 0) hx hb d_Pic_fits_54 (by decide) ?_
    exact rt_roz hx hb hr hlocks (Or.inl rfl) hS hf d_Pic_fits_55
  have hf := bq_n hf hc
  refine lv_iload_n hx hb d_Pic_fits_43 rfl (lv_at hl 3 rfl) ?_
  refine lv_iload_n hx hb d_Pic_fits_44 rfl (lv_at hl 2 rfl) ?_
  refine lv_iconst (v := 2) hx hb d_Pic_fits_45 (by decide) ?_
  refine lv_idiv hx hb d_Pic_fits_46 (by decide) ?_
  refine lv_icmp_gt (tgt := 54) hx hb d_Pic_fits_47 (by decide) (fun hc => ?_) (fun hc => ?_)
  · have hf := bq_t hf hc
    refine lv_iconst (v := 0) hx hb d_Pic_fits_54 (by decide) ?_
    exact rt_roz hx hb hr hlocks (Or.inl rfl) hS hf d_Pic_fits_55
  have hf := bq_n hf hc
  refine lv_iconst (v := 1) hx hb d_Pic_fits_50 (by decide) ?_
  refine lv_goto (tgt := 55) hx hb d_Pic_fits_51 (by decide) ?_
  exact rt_roz hx hb hr hlocks (Or.inr rfl) hS hf d_Pic_fits_55
def L_Pic_leastPower_2 : Nat → Int32 → Int32 → Option (Int32)
  | 0, _, _ => none
  | n + 1, l1, l2 => bq (30 ≤ l2) (some l2) (bq (l1 ≤ (1 <<< (l2 &&& 31))) (some l2) (tk (l2 + 1) fun x1 => (L_Pic_leastPower_2 n) l1 x1))
theorem L_Pic_leastPower_2_z (l1 : Int32) (l2 : Int32) : L_Pic_leastPower_2 0 l1 l2 = none := rfl
theorem L_Pic_leastPower_2_s (n : Nat) (l1 : Int32) (l2 : Int32) : L_Pic_leastPower_2 (n + 1) l1 l2 = bq (30 ≤ l2) (some l2) (bq (l1 ≤ (1 <<< (l2 &&& 31))) (some l2) (tk (l2 + 1) fun x1 => (L_Pic_leastPower_2 n) l1 x1)) := rfl
def f_Pic_leastPower (a0 : Int32) (a1 : Int32) : Option (Int32) := L_Pic_leastPower_2 40 a1 a0
set_option maxHeartbeats 4000000 in
set_option maxRecDepth 100000 in
theorem c_Pic_leastPower (l : Launch) (D : va_G) (cI : ClassId) (a0 : Int32) (a1 : Int32) (r : Int32) (hf : f_Pic_leastPower a0 a1 = some r) : Met l y_Pic_leastPower (.code y_Pic_leastPower b_Pic_leastPower 3 (some .int) :: TS) ({ frames := 0, cells := 0, slots := 0, locals := 0 }) (va_Pc [.int a0, .int a1] (fun U => va_P D cls (([] : va_W)) U.heap ∧ va_K D cls [(cI, .int)] U)) (va_Qi (fun x (_ : Unit) => x = r) (fun _ _ => True) (fun _ => False)) 0 0 (fun _ => False) := by
  refine ct_of (by decide +kernel) (Nat.le_of_ble_eq_true rfl) ?_
  intro p e s m below meth c ls hx hb hml hr hlocks hown hw hP hK hl
  have hS : va_S (fun _ => False) s.heap s.heap [] := va_S.rf
  have hl : lv_has ls 3 [(0, .int a0), (1, .int a1)] := hl
  have hP : va_P D cls (([] : va_W)) s.heap := hP
  have lp2 : ∀ (n2 : Nat), ∀ (ls : Array Slot) (H : Heap) (locs : List Loc) (l1 : Int32) (l2 : Int32), lv_has ls 3 [(1, .int l1), (2, .int l2)] → va_P D cls (([] : va_W)) H → va_S (fun _ => False) s.heap H locs → L_Pic_leastPower_2 n2 l1 l2 = some r → W p l e ({ frames := 0, cells := 0, slots := 0, locals := 0 }) s m [.int a0, .int a1].toArray below meth c H locs 0 0 (MQ below (va_Qi (fun x (_ : Unit) => x = r) (fun _ _ => True) (fun _ => False)) [.int a0, .int a1].toArray s 0 0 (fun _ => False)) (F0 m 2 ls []) := by
    intro n2
    induction n2 with
    | zero =>
      intro ls H locs l1 l2 hl hP hS hf
      rw [L_Pic_leastPower_2_z] at hf
      cases hf
    | succ n2 ih2 =>
      intro ls H locs l1 l2 hl hP hS hf
      rw [L_Pic_leastPower_2_s] at hf
      refine lv_iload_n hx hb d_Pic_leastPower_2 rfl (lv_at hl 1 rfl) ?_
      refine lv_bipush (v := 30) hx hb d_Pic_leastPower_3 (by decide) ?_
      refine lv_icmp_ge (tgt := 21) hx hb d_Pic_leastPower_5 (by decide) (fun hc => ?_) (fun hc => ?_)
      · have hf := bq_t hf hc
        refine lv_iload_n hx hb d_Pic_leastPower_21 rfl (lv_at hl 1 rfl) ?_
        exact rt_roi hx hb hr hlocks hS hf d_Pic_leastPower_22
      have hf := bq_n hf hc
      refine lv_iconst (v := 1) hx hb d_Pic_leastPower_8 (by decide) ?_
      refine lv_iload_n hx hb d_Pic_leastPower_9 rfl (lv_at hl 1 rfl) ?_
      refine lv_ishl hx hb d_Pic_leastPower_10 ?_
      refine lv_iload_n hx hb d_Pic_leastPower_11 rfl (lv_at hl 0 rfl) ?_
      refine lv_icmp_ge (tgt := 21) hx hb d_Pic_leastPower_12 (by decide) (fun hc => ?_) (fun hc => ?_)
      · have hf := bq_t hf hc
        refine lv_iload_n hx hb d_Pic_leastPower_21 rfl (lv_at hl 1 rfl) ?_
        exact rt_roi hx hb hr hlocks hS hf d_Pic_leastPower_22
      have hf := bq_n hf hc
      obtain ⟨x1, e_x1, hf⟩ := tk_o hf
      refine lv_iinc (v := x1) (lv' := [(2, .int x1), (1, .int l1)]) hx hb d_Pic_leastPower_15 hl (k := 1) rfl e_x1.symm (by decide) rfl (fun ls hl => ?_)
      refine lv_goto (tgt := 2) hx hb d_Pic_leastPower_18 (by decide) ?_
      exact ih2 _ _ _ l1 x1 (lv_sub hl [1, 0] rfl) hP hS hf
  unfold f_Pic_leastPower at hf
  refine lv_iload_n hx hb d_Pic_leastPower_0 rfl (lv_at hl 0 rfl) ?_
  refine lv_istore_n (lv' := [(2, .int a0), (0, .int a0), (1, .int a1)]) hx hb d_Pic_leastPower_1 rfl hl (by decide) rfl (fun ls hl => ?_)
  exact lp2 40 _ _ _ a1 a0 (lv_sub hl [2, 0] rfl) hP hS hf
def f_Pic_clamp (a1 : Int32) (a2 : Int32) (u : gU) : Option (Int32) := bq ((u 0 2) < a1) (some a2) (bq (a2 ≤ a1) (some a1) (some a2))
set_option maxHeartbeats 4000000 in
set_option maxRecDepth 100000 in
theorem c_Pic_clamp (l : Launch) (D : va_G) (cI : ClassId) (q0 : Nat) (a1 : Int32) (a2 : Int32) (u : gU) (r : Int32) (hf : f_Pic_clamp a1 a2 u = some r) : Met l y_Pic_clamp (.code y_Pic_clamp b_Pic_clamp 3 (some .int) :: TS) ({ frames := 0, cells := 0, slots := 0, locals := 0 }) (va_Pc [.ref q0, .int a1, .int a2] (fun U => va_P D cls (wPic cI q0 u) U.heap ∧ va_K D cls [(cI, .int)] U)) (va_Qi (fun x (_ : Unit) => x = r) (fun _ _ => True) (fun _ => False)) 0 0 (fun _ => False) := by
  refine ct_of (by decide +kernel) (Nat.le_of_ble_eq_true rfl) ?_
  intro p e s m below meth c ls hx hb hml hr hlocks hown hw hP hK hl
  have hS : va_S (fun _ => False) s.heap s.heap [] := va_S.rf
  have hl : lv_has ls 3 [(0, .ref q0), (1, .int a1), (2, .int a2)] := hl
  have hP : va_P D cls (wPic cI q0 u) s.heap := hP
  unfold f_Pic_clamp at hf
  refine lv_iload_n hx hb d_Pic_clamp_0 rfl (lv_at hl 1 rfl) ?_
  refine lv_aload_n hx hb d_Pic_clamp_1 rfl (lv_at hl 0 rfl) ?_
  refine va_get (D := D) (ci := 1) (v := .int (u 0 2)) (C := R_Pic) (T := F_Pic) (N := 11) hx hb hw in_Pic hown hK hP 0 rfl rfl 2 (by decide) (hw _ m_75) (fun _ h9 => h9) rfl d_Pic_clamp_2 ?_
  refine lv_icmp_gt (tgt := 13) hx hb d_Pic_clamp_5 (by decide) (fun hc => ?_) (fun hc => ?_)
  · have hf := bq_t hf hc
    refine lv_iload_n hx hb d_Pic_clamp_13 rfl (lv_at hl 2 rfl) ?_
    refine lv_goto (tgt := 18) hx hb d_Pic_clamp_14 (by decide) ?_
    exact rt_roi hx hb hr hlocks hS hf d_Pic_clamp_18
  have hf := bq_n hf hc
  refine lv_iload_n hx hb d_Pic_clamp_8 rfl (lv_at hl 1 rfl) ?_
  refine lv_iload_n hx hb d_Pic_clamp_9 rfl (lv_at hl 2 rfl) ?_
  refine lv_icmp_ge (tgt := 17) hx hb d_Pic_clamp_10 (by decide) (fun hc => ?_) (fun hc => ?_)
  · have hf := bq_t hf hc
    refine lv_iload_n hx hb d_Pic_clamp_17 rfl (lv_at hl 1 rfl) ?_
    exact rt_roi hx hb hr hlocks hS hf d_Pic_clamp_18
  have hf := bq_n hf hc
  refine lv_iload_n hx hb d_Pic_clamp_13 rfl (lv_at hl 2 rfl) ?_
  refine lv_goto (tgt := 18) hx hb d_Pic_clamp_14 (by decide) ?_
  exact rt_roi hx hb hr hlocks hS hf d_Pic_clamp_18
def f_Pic_becomeFine (a1 : Int32) (u : gU) : Option (gU) := bd (f_Pic_clamp ((a1 + 2) + (3 * (u 0 3))) ((u 0 3) + 1) u) fun x1 => tk (st2 u 0 8 x1) fun u2 => bd (f_Pic_clamp (((4 * a1) + 3) + (5 * (u2 0 3))) (u2 0 8) u2) fun x3 => tk (st2 u2 0 9 x3) fun u4 => bd (f_Pic_clamp (((17 * a1) + 4) + (7 * (u4 0 3))) (u4 0 9) u4) fun x5 => tk (st2 u4 0 10 x5) fun u6 => some u6
set_option maxHeartbeats 4000000 in
set_option maxRecDepth 100000 in
theorem c_Pic_becomeFine (l : Launch) (D : va_G) (cI : ClassId) (q0 : Nat) (hd : dj [q0]) (a1 : Int32) (u : gU) (v : gU) (hf : f_Pic_becomeFine a1 u = some v) : Met l y_Pic_becomeFine (.code y_Pic_becomeFine b_Pic_becomeFine 2 none :: TS) ({ frames := 1, cells := 0, slots := 0, locals := 22 }) (va_Pc [.ref q0, .int a1] (fun U => va_P D cls (wPic cI q0 u) U.heap ∧ va_K D cls [(cI, .int)] U)) (va_Qv (fun (_ : Unit) => True) (fun _ t => va_P D cls (wPic cI q0 v) t.heap) (ad [q0])) 0 0 (ad [q0]) := by
  refine ct_of (by decide +kernel) (Nat.le_of_ble_eq_true rfl) ?_
  intro p e s m below meth c ls hx hb hml hr hlocks hown hw hP hK hl
  have hS : va_S (ad [q0]) s.heap s.heap [] := va_S.rf
  have hD : ∀ v, va_D (ad [q0]) (wPic cI q0 v) := fun _ => dj_D rfl hd
  have hl : lv_has ls 2 [(0, .ref q0), (1, .int a1)] := hl
  have hP : va_P D cls (wPic cI q0 u) s.heap := hP
  unfold f_Pic_becomeFine at hf
  refine lv_aload_n hx hb d_Pic_becomeFine_0 rfl (lv_at hl 0 rfl) ?_
  refine lv_aload_n hx hb d_Pic_becomeFine_1 rfl (lv_at hl 0 rfl) ?_
  refine lv_iload_n hx hb d_Pic_becomeFine_2 rfl (lv_at hl 1 rfl) ?_
  refine lv_iconst (v := 2) hx hb d_Pic_becomeFine_3 (by decide) ?_
  refine lv_iadd hx hb d_Pic_becomeFine_4 ?_
  refine lv_iconst (v := 3) hx hb d_Pic_becomeFine_5 (by decide) ?_
  refine lv_aload_n hx hb d_Pic_becomeFine_6 rfl (lv_at hl 0 rfl) ?_
  refine va_get (D := D) (ci := 1) (v := .int (u 0 3)) (C := R_Pic) (T := F_Pic) (N := 11) hx hb hw in_Pic hown hK hP 0 rfl rfl 3 (by decide) (hw _ m_76) (fun _ h9 => h9) rfl d_Pic_becomeFine_7 ?_
  refine lv_imul hx hb d_Pic_becomeFine_10 ?_
  refine lv_iadd hx hb d_Pic_becomeFine_11 ?_
  refine lv_aload_n hx hb d_Pic_becomeFine_12 rfl (lv_at hl 0 rfl) ?_
  refine va_get (D := D) (ci := 1) (v := .int (u 0 3)) (C := R_Pic) (T := F_Pic) (N := 11) hx hb hw in_Pic hown hK hP 0 rfl rfl 3 (by decide) (hw _ m_76) (fun _ h9 => h9) rfl d_Pic_becomeFine_13 ?_
  refine lv_iconst (v := 1) hx hb d_Pic_becomeFine_16 (by decide) ?_
  refine lv_iadd hx hb d_Pic_becomeFine_17 ?_
  have hC : [0].map (fun i => (wPic cI q0 u)[i]?) = (wPic cI q0 u).map some := rfl
  obtain ⟨x1, hc, hf⟩ := bd_o hf
  refine ro_i (va_runV (As := [.int ((a1 + 2) + (3 * (u 0 3))), .int ((u 0 3) + 1)]) (rest := [.ref q0]) ⟨hx, hb, hml, hown, hw⟩ (c_Pic_clamp l D cI q0 ((a1 + 2) + (3 * (u 0 3))) ((u 0 3) + 1) u x1 hc) (cwV 2 hw g_0 rfl rfl rfl (by decide +kernel) ⟨Nat.le_of_ble_eq_true rfl, Nat.le_of_ble_eq_true rfl⟩) (pre_V (P_sub hC hP) hK rfl rfl) rfl rfl hl.1 rfl (lv_room (Nat.le_of_ble_eq_true rfl)) d_Pic_becomeFine_18 ⟨Nat.le_of_ble_eq_true rfl, Nat.le_of_ble_eq_true rfl⟩) hS hP (fun H locs hP hS => ?_)
  refine va_put (D := D) (ci := 1) (v := .int x1) (ty := .int) (C := R_Pic) (T := F_Pic) (N := 11) hx hb hw in_Pic t_Pic t_Pic_ok n_Pic hown hK hP (hD _) hS 0 rfl rfl 8 (by decide) (hw _ m_82) (fun _ h9 => h9) rfl (by decide +kernel) rfl rfl (Nat.le_of_ble_eq_true rfl) d_Pic_becomeFine_21 (fun H locs hP _ hS => ?_)
  obtain ⟨u2, e_u2, hf⟩ := tk_o hf
  have hP : va_P D cls (wPic cI q0 u2) H := by rw [e_u2]; exact hP
  refine lv_aload_n hx hb d_Pic_becomeFine_24 rfl (lv_at hl 0 rfl) ?_
  refine lv_aload_n hx hb d_Pic_becomeFine_25 rfl (lv_at hl 0 rfl) ?_
  refine lv_iconst (v := 4) hx hb d_Pic_becomeFine_26 (by decide) ?_
  refine lv_iload_n hx hb d_Pic_becomeFine_27 rfl (lv_at hl 1 rfl) ?_
  refine lv_imul hx hb d_Pic_becomeFine_28 ?_
  refine lv_iconst (v := 3) hx hb d_Pic_becomeFine_29 (by decide) ?_
  refine lv_iadd hx hb d_Pic_becomeFine_30 ?_
  refine lv_iconst (v := 5) hx hb d_Pic_becomeFine_31 (by decide) ?_
  refine lv_aload_n hx hb d_Pic_becomeFine_32 rfl (lv_at hl 0 rfl) ?_
  refine va_get (D := D) (ci := 1) (v := .int (u2 0 3)) (C := R_Pic) (T := F_Pic) (N := 11) hx hb hw in_Pic hown hK hP 0 rfl rfl 3 (by decide) (hw _ m_76) (fun _ h9 => h9) rfl d_Pic_becomeFine_33 ?_
  refine lv_imul hx hb d_Pic_becomeFine_36 ?_
  refine lv_iadd hx hb d_Pic_becomeFine_37 ?_
  refine lv_aload_n hx hb d_Pic_becomeFine_38 rfl (lv_at hl 0 rfl) ?_
  refine va_get (D := D) (ci := 1) (v := .int (u2 0 8)) (C := R_Pic) (T := F_Pic) (N := 11) hx hb hw in_Pic hown hK hP 0 rfl rfl 8 (by decide) (hw _ m_82) (fun _ h9 => h9) rfl d_Pic_becomeFine_39 ?_
  have hC : [0].map (fun i => (wPic cI q0 u2)[i]?) = (wPic cI q0 u2).map some := rfl
  obtain ⟨x3, hc, hf⟩ := bd_o hf
  refine ro_i (va_runV (As := [.int (((4 * a1) + 3) + (5 * (u2 0 3))), .int (u2 0 8)]) (rest := [.ref q0]) ⟨hx, hb, hml, hown, hw⟩ (c_Pic_clamp l D cI q0 (((4 * a1) + 3) + (5 * (u2 0 3))) (u2 0 8) u2 x3 hc) (cwV 2 hw g_0 rfl rfl rfl (by decide +kernel) ⟨Nat.le_of_ble_eq_true rfl, Nat.le_of_ble_eq_true rfl⟩) (pre_V (P_sub hC hP) hK rfl rfl) rfl rfl hl.1 rfl (lv_room (Nat.le_of_ble_eq_true rfl)) d_Pic_becomeFine_42 ⟨Nat.le_of_ble_eq_true rfl, Nat.le_of_ble_eq_true rfl⟩) hS hP (fun H locs hP hS => ?_)
  refine va_put (D := D) (ci := 1) (v := .int x3) (ty := .int) (C := R_Pic) (T := F_Pic) (N := 11) hx hb hw in_Pic t_Pic t_Pic_ok n_Pic hown hK hP (hD _) hS 0 rfl rfl 9 (by decide) (hw _ m_83) (fun _ h9 => h9) rfl (by decide +kernel) rfl rfl (Nat.le_of_ble_eq_true rfl) d_Pic_becomeFine_45 (fun H locs hP _ hS => ?_)
  obtain ⟨u4, e_u4, hf⟩ := tk_o hf
  have hP : va_P D cls (wPic cI q0 u4) H := by rw [e_u4]; exact hP
  refine lv_aload_n hx hb d_Pic_becomeFine_48 rfl (lv_at hl 0 rfl) ?_
  refine lv_aload_n hx hb d_Pic_becomeFine_49 rfl (lv_at hl 0 rfl) ?_
  refine lv_bipush (v := 17) hx hb d_Pic_becomeFine_50 (by decide) ?_
  refine lv_iload_n hx hb d_Pic_becomeFine_52 rfl (lv_at hl 1 rfl) ?_
  refine lv_imul hx hb d_Pic_becomeFine_53 ?_
  refine lv_iconst (v := 4) hx hb d_Pic_becomeFine_54 (by decide) ?_
  refine lv_iadd hx hb d_Pic_becomeFine_55 ?_
  refine lv_bipush (v := 7) hx hb d_Pic_becomeFine_56 (by decide) ?_
  refine lv_aload_n hx hb d_Pic_becomeFine_58 rfl (lv_at hl 0 rfl) ?_
  refine va_get (D := D) (ci := 1) (v := .int (u4 0 3)) (C := R_Pic) (T := F_Pic) (N := 11) hx hb hw in_Pic hown hK hP 0 rfl rfl 3 (by decide) (hw _ m_76) (fun _ h9 => h9) rfl d_Pic_becomeFine_59 ?_
  refine lv_imul hx hb d_Pic_becomeFine_62 ?_
  refine lv_iadd hx hb d_Pic_becomeFine_63 ?_
  refine lv_aload_n hx hb d_Pic_becomeFine_64 rfl (lv_at hl 0 rfl) ?_
  refine va_get (D := D) (ci := 1) (v := .int (u4 0 9)) (C := R_Pic) (T := F_Pic) (N := 11) hx hb hw in_Pic hown hK hP 0 rfl rfl 9 (by decide) (hw _ m_83) (fun _ h9 => h9) rfl d_Pic_becomeFine_65 ?_
  have hC : [0].map (fun i => (wPic cI q0 u4)[i]?) = (wPic cI q0 u4).map some := rfl
  obtain ⟨x5, hc, hf⟩ := bd_o hf
  refine ro_i (va_runV (As := [.int (((17 * a1) + 4) + (7 * (u4 0 3))), .int (u4 0 9)]) (rest := [.ref q0]) ⟨hx, hb, hml, hown, hw⟩ (c_Pic_clamp l D cI q0 (((17 * a1) + 4) + (7 * (u4 0 3))) (u4 0 9) u4 x5 hc) (cwV 2 hw g_0 rfl rfl rfl (by decide +kernel) ⟨Nat.le_of_ble_eq_true rfl, Nat.le_of_ble_eq_true rfl⟩) (pre_V (P_sub hC hP) hK rfl rfl) rfl rfl hl.1 rfl (lv_room (Nat.le_of_ble_eq_true rfl)) d_Pic_becomeFine_68 ⟨Nat.le_of_ble_eq_true rfl, Nat.le_of_ble_eq_true rfl⟩) hS hP (fun H locs hP hS => ?_)
  refine va_put (D := D) (ci := 1) (v := .int x5) (ty := .int) (C := R_Pic) (T := F_Pic) (N := 11) hx hb hw in_Pic t_Pic t_Pic_ok n_Pic hown hK hP (hD _) hS 0 rfl rfl 10 (by decide) (hw _ m_84) (fun _ h9 => h9) rfl (by decide +kernel) rfl rfl (Nat.le_of_ble_eq_true rfl) d_Pic_becomeFine_71 (fun H locs hP _ hS => ?_)
  obtain ⟨u6, e_u6, hf⟩ := tk_o hf
  have hP : va_P D cls (wPic cI q0 u6) H := by rw [e_u6]; exact hP
  exact rt_v (wPic cI q0) hx hb hr hlocks hS hP hf d_Pic_becomeFine_74
def f_Pic_becomeCoarse (a1 : Int32) (u : gU) : Option (gU) := gd (¬ a1 = 0) (tk (if 2 < ((3 / a1) + (3 * (u 0 3))) then ((3 / a1) + (3 * (u 0 3))) else 2) fun x2 => bd (f_Pic_clamp x2 ((u 0 3) + 1) u) fun x3 => tk (st2 u 0 8 x3) fun u4 => gd (¬ a1 = 0) (tk (if 3 < ((7 / a1) + (5 * (u4 0 3))) then ((7 / a1) + (5 * (u4 0 3))) else 3) fun x6 => bd (f_Pic_clamp x6 (u4 0 8) u4) fun x7 => tk (st2 u4 0 9 x7) fun u8 => gd (¬ a1 = 0) (tk (if 4 < ((21 / a1) + (7 * (u8 0 3))) then ((21 / a1) + (7 * (u8 0 3))) else 4) fun x10 => bd (f_Pic_clamp x10 (u8 0 9) u8) fun x11 => tk (st2 u8 0 10 x11) fun u12 => some u12)))
set_option maxHeartbeats 4000000 in
set_option maxRecDepth 100000 in
theorem c_Pic_becomeCoarse (l : Launch) (D : va_G) (cI : ClassId) (q0 : Nat) (hd : dj [q0]) (a1 : Int32) (u : gU) (v : gU) (hf : f_Pic_becomeCoarse a1 u = some v) : Met l y_Pic_becomeCoarse (.code y_Pic_becomeCoarse b_Pic_becomeCoarse 2 none :: TS) ({ frames := 1, cells := 0, slots := 0, locals := 24 }) (va_Pc [.ref q0, .int a1] (fun U => va_P D cls (wPic cI q0 u) U.heap ∧ va_K D cls [(cI, .int)] U)) (va_Qv (fun (_ : Unit) => True) (fun _ t => va_P D cls (wPic cI q0 v) t.heap) (ad [q0])) 0 0 (ad [q0]) := by
  refine ct_of (by decide +kernel) (Nat.le_of_ble_eq_true rfl) ?_
  intro p e s m below meth c ls hx hb hml hr hlocks hown hw hP hK hl
  have hS : va_S (ad [q0]) s.heap s.heap [] := va_S.rf
  have hD : ∀ v, va_D (ad [q0]) (wPic cI q0 v) := fun _ => dj_D rfl hd
  have hl : lv_has ls 2 [(0, .ref q0), (1, .int a1)] := hl
  have hP : va_P D cls (wPic cI q0 u) s.heap := hP
  unfold f_Pic_becomeCoarse at hf
  refine lv_aload_n hx hb d_Pic_becomeCoarse_0 rfl (lv_at hl 0 rfl) ?_
  refine lv_aload_n hx hb d_Pic_becomeCoarse_1 rfl (lv_at hl 0 rfl) ?_
  refine lv_iconst (v := 2) hx hb d_Pic_becomeCoarse_2 (by decide) ?_
  refine lv_iconst (v := 3) hx hb d_Pic_becomeCoarse_3 (by decide) ?_
  refine lv_iload_n hx hb d_Pic_becomeCoarse_4 rfl (lv_at hl 1 rfl) ?_
  obtain ⟨h1, hf⟩ := gd_o hf
  refine lv_idiv hx hb d_Pic_becomeCoarse_5 h1 ?_
  refine lv_iconst (v := 3) hx hb d_Pic_becomeCoarse_6 (by decide) ?_
  refine lv_aload_n hx hb d_Pic_becomeCoarse_7 rfl (lv_at hl 0 rfl) ?_
  refine va_get (D := D) (ci := 1) (v := .int (u 0 3)) (C := R_Pic) (T := F_Pic) (N := 11) hx hb hw in_Pic hown hK hP 0 rfl rfl 3 (by decide) (hw _ m_76) (fun _ h9 => h9) rfl d_Pic_becomeCoarse_8 ?_
  refine lv_imul hx hb d_Pic_becomeCoarse_11 ?_
  refine lv_iadd hx hb d_Pic_becomeCoarse_12 ?_
  refine va_mmax hx hb (hml.trans hl.1.symm) hown (hw _ m_85) (hw _ m_86) (hw _ m_87) (hw _ m_88) (Nat.le_of_ble_eq_true rfl) (Nat.le_of_ble_eq_true rfl) (Nat.le_of_ble_eq_true rfl) (Nat.le_of_ble_eq_true rfl) d_Pic_becomeCoarse_13 ?_
  refine lv_topi (fun x2 e_x2 => ?_)
  have hf := tk_e hf e_x2
  refine lv_aload_n hx hb d_Pic_becomeCoarse_16 rfl (lv_at hl 0 rfl) ?_
  refine va_get (D := D) (ci := 1) (v := .int (u 0 3)) (C := R_Pic) (T := F_Pic) (N := 11) hx hb hw in_Pic hown hK hP 0 rfl rfl 3 (by decide) (hw _ m_76) (fun _ h9 => h9) rfl d_Pic_becomeCoarse_17 ?_
  refine lv_iconst (v := 1) hx hb d_Pic_becomeCoarse_20 (by decide) ?_
  refine lv_iadd hx hb d_Pic_becomeCoarse_21 ?_
  have hC : [0].map (fun i => (wPic cI q0 u)[i]?) = (wPic cI q0 u).map some := rfl
  obtain ⟨x3, hc, hf⟩ := bd_o hf
  refine ro_i (va_runV (As := [.int x2, .int ((u 0 3) + 1)]) (rest := [.ref q0]) ⟨hx, hb, hml, hown, hw⟩ (c_Pic_clamp l D cI q0 x2 ((u 0 3) + 1) u x3 hc) (cwV 2 hw g_0 rfl rfl rfl (by decide +kernel) ⟨Nat.le_of_ble_eq_true rfl, Nat.le_of_ble_eq_true rfl⟩) (pre_V (P_sub hC hP) hK rfl rfl) rfl rfl hl.1 rfl (lv_room (Nat.le_of_ble_eq_true rfl)) d_Pic_becomeCoarse_22 ⟨Nat.le_of_ble_eq_true rfl, Nat.le_of_ble_eq_true rfl⟩) hS hP (fun H locs hP hS => ?_)
  refine va_put (D := D) (ci := 1) (v := .int x3) (ty := .int) (C := R_Pic) (T := F_Pic) (N := 11) hx hb hw in_Pic t_Pic t_Pic_ok n_Pic hown hK hP (hD _) hS 0 rfl rfl 8 (by decide) (hw _ m_82) (fun _ h9 => h9) rfl (by decide +kernel) rfl rfl (Nat.le_of_ble_eq_true rfl) d_Pic_becomeCoarse_25 (fun H locs hP _ hS => ?_)
  obtain ⟨u4, e_u4, hf⟩ := tk_o hf
  have hP : va_P D cls (wPic cI q0 u4) H := by rw [e_u4]; exact hP
  refine lv_aload_n hx hb d_Pic_becomeCoarse_28 rfl (lv_at hl 0 rfl) ?_
  refine lv_aload_n hx hb d_Pic_becomeCoarse_29 rfl (lv_at hl 0 rfl) ?_
  refine lv_iconst (v := 3) hx hb d_Pic_becomeCoarse_30 (by decide) ?_
  refine lv_bipush (v := 7) hx hb d_Pic_becomeCoarse_31 (by decide) ?_
  refine lv_iload_n hx hb d_Pic_becomeCoarse_33 rfl (lv_at hl 1 rfl) ?_
  obtain ⟨h5, hf⟩ := gd_o hf
  refine lv_idiv hx hb d_Pic_becomeCoarse_34 h5 ?_
  refine lv_iconst (v := 5) hx hb d_Pic_becomeCoarse_35 (by decide) ?_
  refine lv_aload_n hx hb d_Pic_becomeCoarse_36 rfl (lv_at hl 0 rfl) ?_
  refine va_get (D := D) (ci := 1) (v := .int (u4 0 3)) (C := R_Pic) (T := F_Pic) (N := 11) hx hb hw in_Pic hown hK hP 0 rfl rfl 3 (by decide) (hw _ m_76) (fun _ h9 => h9) rfl d_Pic_becomeCoarse_37 ?_
  refine lv_imul hx hb d_Pic_becomeCoarse_40 ?_
  refine lv_iadd hx hb d_Pic_becomeCoarse_41 ?_
  refine va_mmax hx hb (hml.trans hl.1.symm) hown (hw _ m_85) (hw _ m_86) (hw _ m_87) (hw _ m_88) (Nat.le_of_ble_eq_true rfl) (Nat.le_of_ble_eq_true rfl) (Nat.le_of_ble_eq_true rfl) (Nat.le_of_ble_eq_true rfl) d_Pic_becomeCoarse_42 ?_
  refine lv_topi (fun x6 e_x6 => ?_)
  have hf := tk_e hf e_x6
  refine lv_aload_n hx hb d_Pic_becomeCoarse_45 rfl (lv_at hl 0 rfl) ?_
  refine va_get (D := D) (ci := 1) (v := .int (u4 0 8)) (C := R_Pic) (T := F_Pic) (N := 11) hx hb hw in_Pic hown hK hP 0 rfl rfl 8 (by decide) (hw _ m_82) (fun _ h9 => h9) rfl d_Pic_becomeCoarse_46 ?_
  have hC : [0].map (fun i => (wPic cI q0 u4)[i]?) = (wPic cI q0 u4).map some := rfl
  obtain ⟨x7, hc, hf⟩ := bd_o hf
  refine ro_i (va_runV (As := [.int x6, .int (u4 0 8)]) (rest := [.ref q0]) ⟨hx, hb, hml, hown, hw⟩ (c_Pic_clamp l D cI q0 x6 (u4 0 8) u4 x7 hc) (cwV 2 hw g_0 rfl rfl rfl (by decide +kernel) ⟨Nat.le_of_ble_eq_true rfl, Nat.le_of_ble_eq_true rfl⟩) (pre_V (P_sub hC hP) hK rfl rfl) rfl rfl hl.1 rfl (lv_room (Nat.le_of_ble_eq_true rfl)) d_Pic_becomeCoarse_49 ⟨Nat.le_of_ble_eq_true rfl, Nat.le_of_ble_eq_true rfl⟩) hS hP (fun H locs hP hS => ?_)
  refine va_put (D := D) (ci := 1) (v := .int x7) (ty := .int) (C := R_Pic) (T := F_Pic) (N := 11) hx hb hw in_Pic t_Pic t_Pic_ok n_Pic hown hK hP (hD _) hS 0 rfl rfl 9 (by decide) (hw _ m_83) (fun _ h9 => h9) rfl (by decide +kernel) rfl rfl (Nat.le_of_ble_eq_true rfl) d_Pic_becomeCoarse_52 (fun H locs hP _ hS => ?_)
  obtain ⟨u8, e_u8, hf⟩ := tk_o hf
  have hP : va_P D cls (wPic cI q0 u8) H := by rw [e_u8]; exact hP
  refine lv_aload_n hx hb d_Pic_becomeCoarse_55 rfl (lv_at hl 0 rfl) ?_
  refine lv_aload_n hx hb d_Pic_becomeCoarse_56 rfl (lv_at hl 0 rfl) ?_
  refine lv_iconst (v := 4) hx hb d_Pic_becomeCoarse_57 (by decide) ?_
  refine lv_bipush (v := 21) hx hb d_Pic_becomeCoarse_58 (by decide) ?_
  refine lv_iload_n hx hb d_Pic_becomeCoarse_60 rfl (lv_at hl 1 rfl) ?_
  obtain ⟨h9, hf⟩ := gd_o hf
  refine lv_idiv hx hb d_Pic_becomeCoarse_61 h9 ?_
  refine lv_bipush (v := 7) hx hb d_Pic_becomeCoarse_62 (by decide) ?_
  refine lv_aload_n hx hb d_Pic_becomeCoarse_64 rfl (lv_at hl 0 rfl) ?_
  refine va_get (D := D) (ci := 1) (v := .int (u8 0 3)) (C := R_Pic) (T := F_Pic) (N := 11) hx hb hw in_Pic hown hK hP 0 rfl rfl 3 (by decide) (hw _ m_76) (fun _ h9 => h9) rfl d_Pic_becomeCoarse_65 ?_
  refine lv_imul hx hb d_Pic_becomeCoarse_68 ?_
  refine lv_iadd hx hb d_Pic_becomeCoarse_69 ?_
  refine va_mmax hx hb (hml.trans hl.1.symm) hown (hw _ m_85) (hw _ m_86) (hw _ m_87) (hw _ m_88) (Nat.le_of_ble_eq_true rfl) (Nat.le_of_ble_eq_true rfl) (Nat.le_of_ble_eq_true rfl) (Nat.le_of_ble_eq_true rfl) d_Pic_becomeCoarse_70 ?_
  refine lv_topi (fun x10 e_x10 => ?_)
  have hf := tk_e hf e_x10
  refine lv_aload_n hx hb d_Pic_becomeCoarse_73 rfl (lv_at hl 0 rfl) ?_
  refine va_get (D := D) (ci := 1) (v := .int (u8 0 9)) (C := R_Pic) (T := F_Pic) (N := 11) hx hb hw in_Pic hown hK hP 0 rfl rfl 9 (by decide) (hw _ m_83) (fun _ h9 => h9) rfl d_Pic_becomeCoarse_74 ?_
  have hC : [0].map (fun i => (wPic cI q0 u8)[i]?) = (wPic cI q0 u8).map some := rfl
  obtain ⟨x11, hc, hf⟩ := bd_o hf
  refine ro_i (va_runV (As := [.int x10, .int (u8 0 9)]) (rest := [.ref q0]) ⟨hx, hb, hml, hown, hw⟩ (c_Pic_clamp l D cI q0 x10 (u8 0 9) u8 x11 hc) (cwV 2 hw g_0 rfl rfl rfl (by decide +kernel) ⟨Nat.le_of_ble_eq_true rfl, Nat.le_of_ble_eq_true rfl⟩) (pre_V (P_sub hC hP) hK rfl rfl) rfl rfl hl.1 rfl (lv_room (Nat.le_of_ble_eq_true rfl)) d_Pic_becomeCoarse_77 ⟨Nat.le_of_ble_eq_true rfl, Nat.le_of_ble_eq_true rfl⟩) hS hP (fun H locs hP hS => ?_)
  refine va_put (D := D) (ci := 1) (v := .int x11) (ty := .int) (C := R_Pic) (T := F_Pic) (N := 11) hx hb hw in_Pic t_Pic t_Pic_ok n_Pic hown hK hP (hD _) hS 0 rfl rfl 10 (by decide) (hw _ m_84) (fun _ h9 => h9) rfl (by decide +kernel) rfl rfl (Nat.le_of_ble_eq_true rfl) d_Pic_becomeCoarse_80 (fun H locs hP _ hS => ?_)
  obtain ⟨u12, e_u12, hf⟩ := tk_o hf
  have hP : va_P D cls (wPic cI q0 u12) H := by rw [e_u12]; exact hP
  exact rt_v (wPic cI q0) hx hb hr hlocks hS hP hf d_Pic_becomeCoarse_83
def f_Pic_become (a1 : Int32) (a2 : Int32) (a3 : Int32) (a4 : Int32) (u : gU) : Option (gU) := tk (st2 u 0 0 a1) fun u1 => tk (st2 u1 0 1 a2) fun u2 => tk (st2 u2 0 2 a3) fun u3 => tk (st2 u3 0 3 a4) fun u4 => tk (st2 u4 0 4 ((2 * (u4 0 3)) + 1)) fun u5 => gd (¬ (u5 0 4) = 0) (tk (st2 u5 0 5 ((((u5 0 2) + (2 * (u5 0 3))) / (u5 0 4)) + 1)) fun u7 => bd (f_Pic_leastPower 0 (u7 0 5)) fun x8 => tk (st2 u7 0 6 x8) fun u9 => bd (f_Pic_leastPower 2 ((u9 0 2) + 1)) fun x10 => tk (if 8 < x10 then x10 else 8) fun x11 => tk (st2 u9 0 7 (2 * (x10 + x11))) fun u12 => bq ((u12 0 2) < 128) (gd (¬ ((u12 0 2) + 1) = 0) (bd (f_Pic_becomeCoarse (256 / ((u12 0 2) + 1)) u12) fun w14 => tk (w14) fun u15 => some u15)) (bd (f_Pic_becomeFine (((u12 0 2) + 128) / 256) u12) fun w16 => tk (w16) fun u17 => some u17))
set_option maxHeartbeats 4000000 in
set_option maxRecDepth 100000 in
theorem c_Pic_become (l : Launch) (D : va_G) (cI : ClassId) (q0 : Nat) (hd : dj [q0]) (a1 : Int32) (a2 : Int32) (a3 : Int32) (a4 : Int32) (u : gU) (v : gU) (hf : f_Pic_become a1 a2 a3 a4 u = some v) : Met l y_Pic_become (.code y_Pic_become b_Pic_become 6 none :: TS) ({ frames := 2, cells := 0, slots := 0, locals := 45 }) (va_Pc [.ref q0, .int a1, .int a2, .int a3, .int a4] (fun U => va_P D cls (wPic cI q0 u) U.heap ∧ va_K D cls [(cI, .int)] U)) (va_Qv (fun (_ : Unit) => True) (fun _ t => va_P D cls (wPic cI q0 v) t.heap) (ad [q0])) 0 0 (ad [q0]) := by
  refine ct_of (by decide +kernel) (Nat.le_of_ble_eq_true rfl) ?_
  intro p e s m below meth c ls hx hb hml hr hlocks hown hw hP hK hl
  have hS : va_S (ad [q0]) s.heap s.heap [] := va_S.rf
  have hD : ∀ v, va_D (ad [q0]) (wPic cI q0 v) := fun _ => dj_D rfl hd
  have hl : lv_has ls 6 [(0, .ref q0), (1, .int a1), (2, .int a2), (3, .int a3), (4, .int a4)] := hl
  have hP : va_P D cls (wPic cI q0 u) s.heap := hP
  unfold f_Pic_become at hf
  refine lv_aload_n hx hb d_Pic_become_0 rfl (lv_at hl 0 rfl) ?_
  refine lv_iload_n hx hb d_Pic_become_1 rfl (lv_at hl 1 rfl) ?_
  refine va_put (D := D) (ci := 1) (v := .int a1) (ty := .int) (C := R_Pic) (T := F_Pic) (N := 11) hx hb hw in_Pic t_Pic t_Pic_ok n_Pic hown hK hP (hD _) hS 0 rfl rfl 0 (by decide) (hw _ m_89) (fun _ h9 => h9) rfl (by decide +kernel) rfl rfl (Nat.le_of_ble_eq_true rfl) d_Pic_become_2 (fun H locs hP _ hS => ?_)
  obtain ⟨u1, e_u1, hf⟩ := tk_o hf
  have hP : va_P D cls (wPic cI q0 u1) H := by rw [e_u1]; exact hP
  refine lv_aload_n hx hb d_Pic_become_5 rfl (lv_at hl 0 rfl) ?_
  refine lv_iload_n hx hb d_Pic_become_6 rfl (lv_at hl 2 rfl) ?_
  refine va_put (D := D) (ci := 1) (v := .int a2) (ty := .int) (C := R_Pic) (T := F_Pic) (N := 11) hx hb hw in_Pic t_Pic t_Pic_ok n_Pic hown hK hP (hD _) hS 0 rfl rfl 1 (by decide) (hw _ m_90) (fun _ h9 => h9) rfl (by decide +kernel) rfl rfl (Nat.le_of_ble_eq_true rfl) d_Pic_become_7 (fun H locs hP _ hS => ?_)
  obtain ⟨u2, e_u2, hf⟩ := tk_o hf
  have hP : va_P D cls (wPic cI q0 u2) H := by rw [e_u2]; exact hP
  refine lv_aload_n hx hb d_Pic_become_10 rfl (lv_at hl 0 rfl) ?_
  refine lv_iload_n hx hb d_Pic_become_11 rfl (lv_at hl 3 rfl) ?_
  refine va_put (D := D) (ci := 1) (v := .int a3) (ty := .int) (C := R_Pic) (T := F_Pic) (N := 11) hx hb hw in_Pic t_Pic t_Pic_ok n_Pic hown hK hP (hD _) hS 0 rfl rfl 2 (by decide) (hw _ m_75) (fun _ h9 => h9) rfl (by decide +kernel) rfl rfl (Nat.le_of_ble_eq_true rfl) d_Pic_become_12 (fun H locs hP _ hS => ?_)
  obtain ⟨u3, e_u3, hf⟩ := tk_o hf
  have hP : va_P D cls (wPic cI q0 u3) H := by rw [e_u3]; exact hP
  refine lv_aload_n hx hb d_Pic_become_15 rfl (lv_at hl 0 rfl) ?_
  refine lv_iload hx hb d_Pic_become_16 (lv_at hl 4 rfl) ?_
  refine va_put (D := D) (ci := 1) (v := .int a4) (ty := .int) (C := R_Pic) (T := F_Pic) (N := 11) hx hb hw in_Pic t_Pic t_Pic_ok n_Pic hown hK hP (hD _) hS 0 rfl rfl 3 (by decide) (hw _ m_76) (fun _ h9 => h9) rfl (by decide +kernel) rfl rfl (Nat.le_of_ble_eq_true rfl) d_Pic_become_18 (fun H locs hP _ hS => ?_)
  obtain ⟨u4, e_u4, hf⟩ := tk_o hf
  have hP : va_P D cls (wPic cI q0 u4) H := by rw [e_u4]; exact hP
  refine lv_aload_n hx hb d_Pic_become_21 rfl (lv_at hl 0 rfl) ?_
  refine lv_iconst (v := 2) hx hb d_Pic_become_22 (by decide) ?_
  refine lv_aload_n hx hb d_Pic_become_23 rfl (lv_at hl 0 rfl) ?_
  refine va_get (D := D) (ci := 1) (v := .int (u4 0 3)) (C := R_Pic) (T := F_Pic) (N := 11) hx hb hw in_Pic hown hK hP 0 rfl rfl 3 (by decide) (hw _ m_76) (fun _ h9 => h9) rfl d_Pic_become_24 ?_
  refine lv_imul hx hb d_Pic_become_27 ?_
  refine lv_iconst (v := 1) hx hb d_Pic_become_28 (by decide) ?_
  refine lv_iadd hx hb d_Pic_become_29 ?_
  refine va_put (D := D) (ci := 1) (v := .int ((2 * (u4 0 3)) + 1)) (ty := .int) (C := R_Pic) (T := F_Pic) (N := 11) hx hb hw in_Pic t_Pic t_Pic_ok n_Pic hown hK hP (hD _) hS 0 rfl rfl 4 (by decide) (hw _ m_91) (fun _ h9 => h9) rfl (by decide +kernel) rfl rfl (Nat.le_of_ble_eq_true rfl) d_Pic_become_30 (fun H locs hP _ hS => ?_)
  obtain ⟨u5, e_u5, hf⟩ := tk_o hf
  have hP : va_P D cls (wPic cI q0 u5) H := by rw [e_u5]; exact hP
  refine lv_aload_n hx hb d_Pic_become_33 rfl (lv_at hl 0 rfl) ?_
  refine lv_aload_n hx hb d_Pic_become_34 rfl (lv_at hl 0 rfl) ?_
  refine va_get (D := D) (ci := 1) (v := .int (u5 0 2)) (C := R_Pic) (T := F_Pic) (N := 11) hx hb hw in_Pic hown hK hP 0 rfl rfl 2 (by decide) (hw _ m_75) (fun _ h9 => h9) rfl d_Pic_become_35 ?_
  refine lv_iconst (v := 2) hx hb d_Pic_become_38 (by decide) ?_
  refine lv_aload_n hx hb d_Pic_become_39 rfl (lv_at hl 0 rfl) ?_
  refine va_get (D := D) (ci := 1) (v := .int (u5 0 3)) (C := R_Pic) (T := F_Pic) (N := 11) hx hb hw in_Pic hown hK hP 0 rfl rfl 3 (by decide) (hw _ m_76) (fun _ h9 => h9) rfl d_Pic_become_40 ?_
  refine lv_imul hx hb d_Pic_become_43 ?_
  refine lv_iadd hx hb d_Pic_become_44 ?_
  refine lv_aload_n hx hb d_Pic_become_45 rfl (lv_at hl 0 rfl) ?_
  refine va_get (D := D) (ci := 1) (v := .int (u5 0 4)) (C := R_Pic) (T := F_Pic) (N := 11) hx hb hw in_Pic hown hK hP 0 rfl rfl 4 (by decide) (hw _ m_91) (fun _ h9 => h9) rfl d_Pic_become_46 ?_
  obtain ⟨h6, hf⟩ := gd_o hf
  refine lv_idiv hx hb d_Pic_become_49 h6 ?_
  refine lv_iconst (v := 1) hx hb d_Pic_become_50 (by decide) ?_
  refine lv_iadd hx hb d_Pic_become_51 ?_
  refine va_put (D := D) (ci := 1) (v := .int ((((u5 0 2) + (2 * (u5 0 3))) / (u5 0 4)) + 1)) (ty := .int) (C := R_Pic) (T := F_Pic) (N := 11) hx hb hw in_Pic t_Pic t_Pic_ok n_Pic hown hK hP (hD _) hS 0 rfl rfl 5 (by decide) (hw _ m_92) (fun _ h9 => h9) rfl (by decide +kernel) rfl rfl (Nat.le_of_ble_eq_true rfl) d_Pic_become_52 (fun H locs hP _ hS => ?_)
  obtain ⟨u7, e_u7, hf⟩ := tk_o hf
  have hP : va_P D cls (wPic cI q0 u7) H := by rw [e_u7]; exact hP
  refine lv_aload_n hx hb d_Pic_become_55 rfl (lv_at hl 0 rfl) ?_
  refine lv_iconst (v := 0) hx hb d_Pic_become_56 (by decide) ?_
  refine lv_aload_n hx hb d_Pic_become_57 rfl (lv_at hl 0 rfl) ?_
  refine va_get (D := D) (ci := 1) (v := .int (u7 0 5)) (C := R_Pic) (T := F_Pic) (N := 11) hx hb hw in_Pic hown hK hP 0 rfl rfl 5 (by decide) (hw _ m_92) (fun _ h9 => h9) rfl d_Pic_become_58 ?_
  have hC : ([] : List Nat).map (fun i => (wPic cI q0 u7)[i]?) = ([] : va_W).map some := rfl
  obtain ⟨x8, hc, hf⟩ := bd_o hf
  refine ro_i (va_runS (As := [.int 0, .int (u7 0 5)]) (rest := [.ref q0]) ⟨hx, hb, hml, hown, hw⟩ (c_Pic_leastPower l D cI 0 (u7 0 5) x8 hc) (va_cwS 2 hw g_1 rfl rfl rfl (by decide +kernel) ⟨Nat.le_of_ble_eq_true rfl, Nat.le_of_ble_eq_true rfl⟩) (pre_S (P_sub hC hP) hK) rfl rfl hl.1 rfl (lv_room (Nat.le_of_ble_eq_true rfl)) d_Pic_become_61 ⟨Nat.le_of_ble_eq_true rfl, Nat.le_of_ble_eq_true rfl⟩) hS hP (fun H locs hP hS => ?_)
  refine va_put (D := D) (ci := 1) (v := .int x8) (ty := .int) (C := R_Pic) (T := F_Pic) (N := 11) hx hb hw in_Pic t_Pic t_Pic_ok n_Pic hown hK hP (hD _) hS 0 rfl rfl 6 (by decide) (hw _ m_96) (fun _ h9 => h9) rfl (by decide +kernel) rfl rfl (Nat.le_of_ble_eq_true rfl) d_Pic_become_64 (fun H locs hP _ hS => ?_)
  obtain ⟨u9, e_u9, hf⟩ := tk_o hf
  have hP : va_P D cls (wPic cI q0 u9) H := by rw [e_u9]; exact hP
  refine lv_iconst (v := 2) hx hb d_Pic_become_67 (by decide) ?_
  refine lv_aload_n hx hb d_Pic_become_68 rfl (lv_at hl 0 rfl) ?_
  refine va_get (D := D) (ci := 1) (v := .int (u9 0 2)) (C := R_Pic) (T := F_Pic) (N := 11) hx hb hw in_Pic hown hK hP 0 rfl rfl 2 (by decide) (hw _ m_75) (fun _ h9 => h9) rfl d_Pic_become_69 ?_
  refine lv_iconst (v := 1) hx hb d_Pic_become_72 (by decide) ?_
  refine lv_iadd hx hb d_Pic_become_73 ?_
  have hC : ([] : List Nat).map (fun i => (wPic cI q0 u9)[i]?) = ([] : va_W).map some := rfl
  obtain ⟨x10, hc, hf⟩ := bd_o hf
  refine ro_i (va_runS (As := [.int 2, .int ((u9 0 2) + 1)]) (rest := []) ⟨hx, hb, hml, hown, hw⟩ (c_Pic_leastPower l D cI 2 ((u9 0 2) + 1) x10 hc) (va_cwS 2 hw g_1 rfl rfl rfl (by decide +kernel) ⟨Nat.le_of_ble_eq_true rfl, Nat.le_of_ble_eq_true rfl⟩) (pre_S (P_sub hC hP) hK) rfl rfl hl.1 rfl (lv_room (Nat.le_of_ble_eq_true rfl)) d_Pic_become_74 ⟨Nat.le_of_ble_eq_true rfl, Nat.le_of_ble_eq_true rfl⟩) hS hP (fun H locs hP hS => ?_)
  refine lv_istore (lv' := [(5, .int x10), (0, .ref q0), (1, .int a1), (2, .int a2), (3, .int a3), (4, .int a4)]) hx hb d_Pic_become_77 hl (by decide) rfl (fun ls hl => ?_)
  refine lv_aload_n hx hb d_Pic_become_79 rfl (lv_at hl 1 rfl) ?_
  refine lv_iconst (v := 2) hx hb d_Pic_become_80 (by decide) ?_
  refine lv_iload hx hb d_Pic_become_81 (lv_at hl 0 rfl) ?_
  refine lv_bipush (v := 8) hx hb d_Pic_become_83 (by decide) ?_
  refine lv_iload hx hb d_Pic_become_85 (lv_at hl 0 rfl) ?_
  refine va_mmax hx hb (hml.trans hl.1.symm) hown (hw _ m_85) (hw _ m_86) (hw _ m_87) (hw _ m_88) (Nat.le_of_ble_eq_true rfl) (Nat.le_of_ble_eq_true rfl) (Nat.le_of_ble_eq_true rfl) (Nat.le_of_ble_eq_true rfl) d_Pic_become_87 ?_
  refine lv_topi (fun x11 e_x11 => ?_)
  have hf := tk_e hf e_x11
  refine lv_iadd hx hb d_Pic_become_90 ?_
  refine lv_imul hx hb d_Pic_become_91 ?_
  refine va_put (D := D) (ci := 1) (v := .int (2 * (x10 + x11))) (ty := .int) (C := R_Pic) (T := F_Pic) (N := 11) hx hb hw in_Pic t_Pic t_Pic_ok n_Pic hown hK hP (hD _) hS 0 rfl rfl 7 (by decide) (hw _ m_97) (fun _ h9 => h9) rfl (by decide +kernel) rfl rfl (Nat.le_of_ble_eq_true rfl) d_Pic_become_92 (fun H locs hP _ hS => ?_)
  obtain ⟨u12, e_u12, hf⟩ := tk_o hf
  have hP : va_P D cls (wPic cI q0 u12) H := by rw [e_u12]; exact hP
  refine lv_aload_n hx hb d_Pic_become_95 rfl (lv_at hl 1 rfl) ?_
  refine va_get (D := D) (ci := 1) (v := .int (u12 0 2)) (C := R_Pic) (T := F_Pic) (N := 11) hx hb hw in_Pic hown hK hP 0 rfl rfl 2 (by decide) (hw _ m_75) (fun _ h9 => h9) rfl d_Pic_become_96 ?_
  refine lv_sipush (v := 128) hx hb d_Pic_become_99 (by decide) ?_
  refine lv_icmp_lt (tgt := 124) hx hb d_Pic_become_102 (by decide) (fun hc => ?_) (fun hc => ?_)
  · have hf := bq_t hf hc
    refine lv_aload_n hx hb d_Pic_become_124 rfl (lv_at hl 1 rfl) ?_
    refine lv_sipush (v := 256) hx hb d_Pic_become_125 (by decide) ?_
    refine lv_aload_n hx hb d_Pic_become_128 rfl (lv_at hl 1 rfl) ?_
    refine va_get (D := D) (ci := 1) (v := .int (u12 0 2)) (C := R_Pic) (T := F_Pic) (N := 11) hx hb hw in_Pic hown hK hP 0 rfl rfl 2 (by decide) (hw _ m_75) (fun _ h9 => h9) rfl d_Pic_become_129 ?_
    refine lv_iconst (v := 1) hx hb d_Pic_become_132 (by decide) ?_
    refine lv_iadd hx hb d_Pic_become_133 ?_
    obtain ⟨h13, hf⟩ := gd_o hf
    refine lv_idiv hx hb d_Pic_become_134 h13 ?_
    have hC : [0].map (fun i => (wPic cI q0 u12)[i]?) = (wPic cI q0 u12).map some := rfl
    obtain ⟨w14, hc, hf⟩ := bd_o hf
    refine rw_v (va_runV (As := [.int (256 / ((u12 0 2) + 1))]) (rest := []) ⟨hx, hb, hml, hown, hw⟩ (c_Pic_becomeCoarse l D cI q0 (dj_sub hd [0] (by decide) rfl) (256 / ((u12 0 2) + 1)) u12 w14 hc) (cwV 1 hw g_2 rfl rfl rfl (by decide +kernel) ⟨Nat.le_of_ble_eq_true rfl, Nat.le_of_ble_eq_true rfl⟩) (pre_V (P_sub hC hP) hK rfl rfl) rfl rfl hl.1 rfl (lv_room (Nat.le_of_ble_eq_true rfl)) d_Pic_become_135 ⟨Nat.le_of_ble_eq_true rfl, Nat.le_of_ble_eq_true rfl⟩) hS hP (hD _) hC rfl rfl (fun H locs hP hS => ?_)
    obtain ⟨u15, e_u15, hf⟩ := tk_o hf
    have hP : va_P D cls (wPic cI q0 u15) H := by rw [e_u15]; exact hP
    exact rt_v (wPic cI q0) hx hb hr hlocks hS hP hf d_Pic_become_138
  have hf := bq_n hf hc
  refine lv_aload_n hx hb d_Pic_become_105 rfl (lv_at hl 1 rfl) ?_
  refine lv_aload_n hx hb d_Pic_become_106 rfl (lv_at hl 1 rfl) ?_
  refine va_get (D := D) (ci := 1) (v := .int (u12 0 2)) (C := R_Pic) (T := F_Pic) (N := 11) hx hb hw in_Pic hown hK hP 0 rfl rfl 2 (by decide) (hw _ m_75) (fun _ h9 => h9) rfl d_Pic_become_107 ?_
  refine lv_sipush (v := 128) hx hb d_Pic_become_110 (by decide) ?_
  refine lv_iadd hx hb d_Pic_become_113 ?_
  refine lv_sipush (v := 256) hx hb d_Pic_become_114 (by decide) ?_
  refine lv_idiv hx hb d_Pic_become_117 (by decide) ?_
  have hC : [0].map (fun i => (wPic cI q0 u12)[i]?) = (wPic cI q0 u12).map some := rfl
  obtain ⟨w16, hc, hf⟩ := bd_o hf
  refine rw_v (va_runV (As := [.int (((u12 0 2) + 128) / 256)]) (rest := []) ⟨hx, hb, hml, hown, hw⟩ (c_Pic_becomeFine l D cI q0 (dj_sub hd [0] (by decide) rfl) (((u12 0 2) + 128) / 256) u12 w16 hc) (cwV 1 hw g_3 rfl rfl rfl (by decide +kernel) ⟨Nat.le_of_ble_eq_true rfl, Nat.le_of_ble_eq_true rfl⟩) (pre_V (P_sub hC hP) hK rfl rfl) rfl rfl hl.1 rfl (lv_room (Nat.le_of_ble_eq_true rfl)) d_Pic_become_118 ⟨Nat.le_of_ble_eq_true rfl, Nat.le_of_ble_eq_true rfl⟩) hS hP (hD _) hC rfl rfl (fun H locs hP hS => ?_)
  obtain ⟨u17, e_u17, hf⟩ := tk_o hf
  have hP : va_P D cls (wPic cI q0 u17) H := by rw [e_u17]; exact hP
  refine lv_goto (tgt := 138) hx hb d_Pic_become_121 (by decide) ?_
  exact rt_v (wPic cI q0) hx hb hr hlocks hS hP hf d_Pic_become_138
def f_Pic_hasPlace (a1 : Int32) (a2 : Int32) (u : gU) : Option (Int32) := bq (a1 < 0) (some 0) (bq ((u 0 0) ≤ a1) (some 0) (bq (a2 < 0) (some 0) (bq ((u 0 1) ≤ a2) (some 0) (some 1))))
set_option maxHeartbeats 4000000 in
set_option maxRecDepth 100000 in
theorem c_Pic_hasPlace (l : Launch) (D : va_G) (cI : ClassId) (q0 : Nat) (a1 : Int32) (a2 : Int32) (u : gU) (r : Int32) (hf : f_Pic_hasPlace a1 a2 u = some r) : Met l y_Pic_hasPlace (.code y_Pic_hasPlace b_Pic_hasPlace 3 (some .boolean) :: TS) ({ frames := 0, cells := 0, slots := 0, locals := 0 }) (va_Pc [.ref q0, .int a1, .int a2] (fun U => va_P D cls (wPic cI q0 u) U.heap ∧ va_K D cls [(cI, .int)] U)) (va_Qi (fun x (_ : Unit) => x = r) (fun _ _ => True) (fun _ => False)) 0 0 (fun _ => False) := by
  refine ct_of (by decide +kernel) (Nat.le_of_ble_eq_true rfl) ?_
  intro p e s m below meth c ls hx hb hml hr hlocks hown hw hP hK hl
  have hS : va_S (fun _ => False) s.heap s.heap [] := va_S.rf
  have hl : lv_has ls 3 [(0, .ref q0), (1, .int a1), (2, .int a2)] := hl
  have hP : va_P D cls (wPic cI q0 u) s.heap := hP
  unfold f_Pic_hasPlace at hf
  refine lv_iload_n hx hb d_Pic_hasPlace_0 rfl (lv_at hl 1 rfl) ?_
  refine lv_if_lt (tgt := 28) hx hb d_Pic_hasPlace_1 (by decide) (fun hc => ?_) (fun hc => ?_)
  · have hf := bq_t hf hc
    refine lv_iconst (v := 0) hx hb d_Pic_hasPlace_28 (by decide) ?_
    exact rt_roz hx hb hr hlocks (Or.inl rfl) hS hf d_Pic_hasPlace_29
  have hf := bq_n hf hc
  refine lv_iload_n hx hb d_Pic_hasPlace_4 rfl (lv_at hl 1 rfl) ?_
  refine lv_aload_n hx hb d_Pic_hasPlace_5 rfl (lv_at hl 0 rfl) ?_
  refine va_get (D := D) (ci := 1) (v := .int (u 0 0)) (C := R_Pic) (T := F_Pic) (N := 11) hx hb hw in_Pic hown hK hP 0 rfl rfl 0 (by decide) (hw _ m_89) (fun _ h9 => h9) rfl d_Pic_hasPlace_6 ?_
  refine lv_icmp_ge (tgt := 28) hx hb d_Pic_hasPlace_9 (by decide) (fun hc => ?_) (fun hc => ?_)
  · have hf := bq_t hf hc
    refine lv_iconst (v := 0) hx hb d_Pic_hasPlace_28 (by decide) ?_
    exact rt_roz hx hb hr hlocks (Or.inl rfl) hS hf d_Pic_hasPlace_29
  have hf := bq_n hf hc
  refine lv_iload_n hx hb d_Pic_hasPlace_12 rfl (lv_at hl 2 rfl) ?_
  refine lv_if_lt (tgt := 28) hx hb d_Pic_hasPlace_13 (by decide) (fun hc => ?_) (fun hc => ?_)
  · have hf := bq_t hf hc
    refine lv_iconst (v := 0) hx hb d_Pic_hasPlace_28 (by decide) ?_
    exact rt_roz hx hb hr hlocks (Or.inl rfl) hS hf d_Pic_hasPlace_29
  have hf := bq_n hf hc
  refine lv_iload_n hx hb d_Pic_hasPlace_16 rfl (lv_at hl 2 rfl) ?_
  refine lv_aload_n hx hb d_Pic_hasPlace_17 rfl (lv_at hl 0 rfl) ?_
  refine va_get (D := D) (ci := 1) (v := .int (u 0 1)) (C := R_Pic) (T := F_Pic) (N := 11) hx hb hw in_Pic hown hK hP 0 rfl rfl 1 (by decide) (hw _ m_90) (fun _ h9 => h9) rfl d_Pic_hasPlace_18 ?_
  refine lv_icmp_ge (tgt := 28) hx hb d_Pic_hasPlace_21 (by decide) (fun hc => ?_) (fun hc => ?_)
  · have hf := bq_t hf hc
    refine lv_iconst (v := 0) hx hb d_Pic_hasPlace_28 (by decide) ?_
    exact rt_roz hx hb hr hlocks (Or.inl rfl) hS hf d_Pic_hasPlace_29
  have hf := bq_n hf hc
  refine lv_iconst (v := 1) hx hb d_Pic_hasPlace_24 (by decide) ?_
  refine lv_goto (tgt := 29) hx hb d_Pic_hasPlace_25 (by decide) ?_
  exact rt_roz hx hb hr hlocks (Or.inr rfl) hS hf d_Pic_hasPlace_29
def f_Pic_isNear (a1 : Int32) (u : gU) : Option (Int32) := bq (a1 < (-(u 0 3))) (some 0) (bq ((u 0 3) < a1) (some 0) (some 1))
set_option maxHeartbeats 4000000 in
set_option maxRecDepth 100000 in
theorem c_Pic_isNear (l : Launch) (D : va_G) (cI : ClassId) (q0 : Nat) (a1 : Int32) (u : gU) (r : Int32) (hf : f_Pic_isNear a1 u = some r) : Met l y_Pic_isNear (.code y_Pic_isNear b_Pic_isNear 2 (some .boolean) :: TS) ({ frames := 0, cells := 0, slots := 0, locals := 0 }) (va_Pc [.ref q0, .int a1] (fun U => va_P D cls (wPic cI q0 u) U.heap ∧ va_K D cls [(cI, .int)] U)) (va_Qi (fun x (_ : Unit) => x = r) (fun _ _ => True) (fun _ => False)) 0 0 (fun _ => False) := by
  refine ct_of (by decide +kernel) (Nat.le_of_ble_eq_true rfl) ?_
  intro p e s m below meth c ls hx hb hml hr hlocks hown hw hP hK hl
  have hS : va_S (fun _ => False) s.heap s.heap [] := va_S.rf
  have hl : lv_has ls 2 [(0, .ref q0), (1, .int a1)] := hl
  have hP : va_P D cls (wPic cI q0 u) s.heap := hP
  unfold f_Pic_isNear at hf
  refine lv_iload_n hx hb d_Pic_isNear_0 rfl (lv_at hl 1 rfl) ?_
  refine lv_aload_n hx hb d_Pic_isNear_1 rfl (lv_at hl 0 rfl) ?_
  refine va_get (D := D) (ci := 1) (v := .int (u 0 3)) (C := R_Pic) (T := F_Pic) (N := 11) hx hb hw in_Pic hown hK hP 0 rfl rfl 3 (by decide) (hw _ m_76) (fun _ h9 => h9) rfl d_Pic_isNear_2 ?_
  refine lv_ineg hx hb d_Pic_isNear_5 ?_
  refine lv_icmp_lt (tgt := 21) hx hb d_Pic_isNear_6 (by decide) (fun hc => ?_) (fun hc => ?_)
  · have hf := bq_t hf hc
    refine lv_iconst (v := 0) hx hb d_Pic_isNear_21 (by decide) ?_
    exact rt_roz hx hb hr hlocks (Or.inl rfl) hS hf d_Pic_isNear_22
  have hf := bq_n hf hc
  refine lv_iload_n hx hb d_Pic_isNear_9 rfl (lv_at hl 1 rfl) ?_
  refine lv_aload_n hx hb d_Pic_isNear_10 rfl (lv_at hl 0 rfl) ?_
  refine va_get (D := D) (ci := 1) (v := .int (u 0 3)) (C := R_Pic) (T := F_Pic) (N := 11) hx hb hw in_Pic hown hK hP 0 rfl rfl 3 (by decide) (hw _ m_76) (fun _ h9 => h9) rfl d_Pic_isNear_11 ?_
  refine lv_icmp_gt (tgt := 21) hx hb d_Pic_isNear_14 (by decide) (fun hc => ?_) (fun hc => ?_)
  · have hf := bq_t hf hc
    refine lv_iconst (v := 0) hx hb d_Pic_isNear_21 (by decide) ?_
    exact rt_roz hx hb hr hlocks (Or.inl rfl) hS hf d_Pic_isNear_22
  have hf := bq_n hf hc
  refine lv_iconst (v := 1) hx hb d_Pic_isNear_17 (by decide) ?_
  refine lv_goto (tgt := 22) hx hb d_Pic_isNear_18 (by decide) ?_
  exact rt_roz hx hb hr hlocks (Or.inr rfl) hS hf d_Pic_isNear_22
def f_Pic_bounded (a1 : Int32) (u : gU) : Option (Int32) := tk (if a1 < (u 0 2) then a1 else (u 0 2)) fun x1 => tk (if 0 < x1 then x1 else 0) fun x2 => some x2
set_option maxHeartbeats 4000000 in
set_option maxRecDepth 100000 in
theorem c_Pic_bounded (l : Launch) (D : va_G) (cI : ClassId) (q0 : Nat) (a1 : Int32) (u : gU) (r : Int32) (hf : f_Pic_bounded a1 u = some r) : Met l y_Pic_bounded (.code y_Pic_bounded b_Pic_bounded 2 (some .int) :: TS) ({ frames := 1, cells := 0, slots := 0, locals := 24 }) (va_Pc [.ref q0, .int a1] (fun U => va_P D cls (wPic cI q0 u) U.heap ∧ va_K D cls [(cI, .int)] U)) (va_Qi (fun x (_ : Unit) => x = r) (fun _ _ => True) (fun _ => False)) 0 0 (fun _ => False) := by
  refine ct_of (by decide +kernel) (Nat.le_of_ble_eq_true rfl) ?_
  intro p e s m below meth c ls hx hb hml hr hlocks hown hw hP hK hl
  have hS : va_S (fun _ => False) s.heap s.heap [] := va_S.rf
  have hl : lv_has ls 2 [(0, .ref q0), (1, .int a1)] := hl
  have hP : va_P D cls (wPic cI q0 u) s.heap := hP
  unfold f_Pic_bounded at hf
  refine lv_iconst (v := 0) hx hb d_Pic_bounded_0 (by decide) ?_
  refine lv_aload_n hx hb d_Pic_bounded_1 rfl (lv_at hl 0 rfl) ?_
  refine va_get (D := D) (ci := 1) (v := .int (u 0 2)) (C := R_Pic) (T := F_Pic) (N := 11) hx hb hw in_Pic hown hK hP 0 rfl rfl 2 (by decide) (hw _ m_75) (fun _ h9 => h9) rfl d_Pic_bounded_2 ?_
  refine lv_iload_n hx hb d_Pic_bounded_5 rfl (lv_at hl 1 rfl) ?_
  refine va_mmin hx hb (hml.trans hl.1.symm) hown (hw _ m_106) (hw _ m_107) (hw _ m_87) (hw _ m_108) (Nat.le_of_ble_eq_true rfl) (Nat.le_of_ble_eq_true rfl) (Nat.le_of_ble_eq_true rfl) (Nat.le_of_ble_eq_true rfl) d_Pic_bounded_6 ?_
  refine lv_topi (fun x1 e_x1 => ?_)
  have hf := tk_e hf e_x1
  refine va_mmax hx hb (hml.trans hl.1.symm) hown (hw _ m_85) (hw _ m_86) (hw _ m_87) (hw _ m_88) (Nat.le_of_ble_eq_true rfl) (Nat.le_of_ble_eq_true rfl) (Nat.le_of_ble_eq_true rfl) (Nat.le_of_ble_eq_true rfl) d_Pic_bounded_9 ?_
  refine lv_topi (fun x2 e_x2 => ?_)
  have hf := tk_e hf e_x2
  exact rt_roi hx hb hr hlocks hS hf d_Pic_bounded_12
def f_Pic_level (a1 : Int32) (u : gU) : Option (Int32) := bq ((-(u 0 10)) < a1) (bq ((-(u 0 9)) < a1) (bq ((-(u 0 8)) < a1) (bq ((-(u 0 3)) ≤ a1) (bq ((u 0 3) < a1) (bq ((u 0 8) ≤ a1) (bq ((u 0 9) ≤ a1) (bq ((u 0 10) ≤ a1) (some 4) (some 3)) (some 2)) (some 1)) (some 0)) (some (-1))) (some (-2))) (some (-3))) (some (-4))
set_option maxHeartbeats 4000000 in
set_option maxRecDepth 100000 in
theorem c_Pic_level (l : Launch) (D : va_G) (cI : ClassId) (q0 : Nat) (a1 : Int32) (u : gU) (r : Int32) (hf : f_Pic_level a1 u = some r) : Met l y_Pic_level (.code y_Pic_level b_Pic_level 2 (some .int) :: TS) ({ frames := 0, cells := 0, slots := 0, locals := 0 }) (va_Pc [.ref q0, .int a1] (fun U => va_P D cls (wPic cI q0 u) U.heap ∧ va_K D cls [(cI, .int)] U)) (va_Qi (fun x (_ : Unit) => x = r) (fun _ _ => True) (fun _ => False)) 0 0 (fun _ => False) := by
  refine ct_of (by decide +kernel) (Nat.le_of_ble_eq_true rfl) ?_
  intro p e s m below meth c ls hx hb hml hr hlocks hown hw hP hK hl
  have hS : va_S (fun _ => False) s.heap s.heap [] := va_S.rf
  have hl : lv_has ls 2 [(0, .ref q0), (1, .int a1)] := hl
  have hP : va_P D cls (wPic cI q0 u) s.heap := hP
  unfold f_Pic_level at hf
  refine lv_iload_n hx hb d_Pic_level_0 rfl (lv_at hl 1 rfl) ?_
  refine lv_aload_n hx hb d_Pic_level_1 rfl (lv_at hl 0 rfl) ?_
  refine va_get (D := D) (ci := 1) (v := .int (u 0 10)) (C := R_Pic) (T := F_Pic) (N := 11) hx hb hw in_Pic hown hK hP 0 rfl rfl 10 (by decide) (hw _ m_84) (fun _ h9 => h9) rfl d_Pic_level_2 ?_
  refine lv_ineg hx hb d_Pic_level_5 ?_
  refine lv_icmp_gt (tgt := 12) hx hb d_Pic_level_6 (by decide) (fun hc => ?_) (fun hc => ?_)
  · have hf := bq_t hf hc
    refine lv_iload_n hx hb d_Pic_level_12 rfl (lv_at hl 1 rfl) ?_
    refine lv_aload_n hx hb d_Pic_level_13 rfl (lv_at hl 0 rfl) ?_
    refine va_get (D := D) (ci := 1) (v := .int (u 0 9)) (C := R_Pic) (T := F_Pic) (N := 11) hx hb hw in_Pic hown hK hP 0 rfl rfl 9 (by decide) (hw _ m_83) (fun _ h9 => h9) rfl d_Pic_level_14 ?_
    refine lv_ineg hx hb d_Pic_level_17 ?_
    refine lv_icmp_gt (tgt := 24) hx hb d_Pic_level_18 (by decide) (fun hc => ?_) (fun hc => ?_)
    · have hf := bq_t hf hc
      refine lv_iload_n hx hb d_Pic_level_24 rfl (lv_at hl 1 rfl) ?_
      refine lv_aload_n hx hb d_Pic_level_25 rfl (lv_at hl 0 rfl) ?_
      refine va_get (D := D) (ci := 1) (v := .int (u 0 8)) (C := R_Pic) (T := F_Pic) (N := 11) hx hb hw in_Pic hown hK hP 0 rfl rfl 8 (by decide) (hw _ m_82) (fun _ h9 => h9) rfl d_Pic_level_26 ?_
      refine lv_ineg hx hb d_Pic_level_29 ?_
      refine lv_icmp_gt (tgt := 36) hx hb d_Pic_level_30 (by decide) (fun hc => ?_) (fun hc => ?_)
      · have hf := bq_t hf hc
        refine lv_iload_n hx hb d_Pic_level_36 rfl (lv_at hl 1 rfl) ?_
        refine lv_aload_n hx hb d_Pic_level_37 rfl (lv_at hl 0 rfl) ?_
        refine va_get (D := D) (ci := 1) (v := .int (u 0 3)) (C := R_Pic) (T := F_Pic) (N := 11) hx hb hw in_Pic hown hK hP 0 rfl rfl 3 (by decide) (hw _ m_76) (fun _ h9 => h9) rfl d_Pic_level_38 ?_
        refine lv_ineg hx hb d_Pic_level_41 ?_
        refine lv_icmp_ge (tgt := 47) hx hb d_Pic_level_42 (by decide) (fun hc => ?_) (fun hc => ?_)
        · have hf := bq_t hf hc
          refine lv_iload_n hx hb d_Pic_level_47 rfl (lv_at hl 1 rfl) ?_
          refine lv_aload_n hx hb d_Pic_level_48 rfl (lv_at hl 0 rfl) ?_
          refine va_get (D := D) (ci := 1) (v := .int (u 0 3)) (C := R_Pic) (T := F_Pic) (N := 11) hx hb hw in_Pic hown hK hP 0 rfl rfl 3 (by decide) (hw _ m_76) (fun _ h9 => h9) rfl d_Pic_level_49 ?_
          refine lv_icmp_gt (tgt := 57) hx hb d_Pic_level_52 (by decide) (fun hc => ?_) (fun hc => ?_)
          · have hf := bq_t hf hc
            refine lv_iload_n hx hb d_Pic_level_57 rfl (lv_at hl 1 rfl) ?_
            refine lv_aload_n hx hb d_Pic_level_58 rfl (lv_at hl 0 rfl) ?_
            refine va_get (D := D) (ci := 1) (v := .int (u 0 8)) (C := R_Pic) (T := F_Pic) (N := 11) hx hb hw in_Pic hown hK hP 0 rfl rfl 8 (by decide) (hw _ m_82) (fun _ h9 => h9) rfl d_Pic_level_59 ?_
            refine lv_icmp_ge (tgt := 67) hx hb d_Pic_level_62 (by decide) (fun hc => ?_) (fun hc => ?_)
            · have hf := bq_t hf hc
              refine lv_iload_n hx hb d_Pic_level_67 rfl (lv_at hl 1 rfl) ?_
              refine lv_aload_n hx hb d_Pic_level_68 rfl (lv_at hl 0 rfl) ?_
              refine va_get (D := D) (ci := 1) (v := .int (u 0 9)) (C := R_Pic) (T := F_Pic) (N := 11) hx hb hw in_Pic hown hK hP 0 rfl rfl 9 (by decide) (hw _ m_83) (fun _ h9 => h9) rfl d_Pic_level_69 ?_
              refine lv_icmp_ge (tgt := 77) hx hb d_Pic_level_72 (by decide) (fun hc => ?_) (fun hc => ?_)
              · have hf := bq_t hf hc
                refine lv_iload_n hx hb d_Pic_level_77 rfl (lv_at hl 1 rfl) ?_
                refine lv_aload_n hx hb d_Pic_level_78 rfl (lv_at hl 0 rfl) ?_
                refine va_get (D := D) (ci := 1) (v := .int (u 0 10)) (C := R_Pic) (T := F_Pic) (N := 11) hx hb hw in_Pic hown hK hP 0 rfl rfl 10 (by decide) (hw _ m_84) (fun _ h9 => h9) rfl d_Pic_level_79 ?_
                refine lv_icmp_ge (tgt := 87) hx hb d_Pic_level_82 (by decide) (fun hc => ?_) (fun hc => ?_)
                · have hf := bq_t hf hc
                  refine lv_iconst (v := 4) hx hb d_Pic_level_87 (by decide) ?_
                  exact rt_roi hx hb hr hlocks hS hf d_Pic_level_88
                have hf := bq_n hf hc
                refine lv_iconst (v := 3) hx hb d_Pic_level_85 (by decide) ?_
                exact rt_roi hx hb hr hlocks hS hf d_Pic_level_86
              have hf := bq_n hf hc
              refine lv_iconst (v := 2) hx hb d_Pic_level_75 (by decide) ?_
              exact rt_roi hx hb hr hlocks hS hf d_Pic_level_76
            have hf := bq_n hf hc
            refine lv_iconst (v := 1) hx hb d_Pic_level_65 (by decide) ?_
            exact rt_roi hx hb hr hlocks hS hf d_Pic_level_66
          have hf := bq_n hf hc
          refine lv_iconst (v := 0) hx hb d_Pic_level_55 (by decide) ?_
          exact rt_roi hx hb hr hlocks hS hf d_Pic_level_56
        have hf := bq_n hf hc
        refine lv_iconst (v := (-1)) hx hb d_Pic_level_45 (by decide) ?_
        exact rt_roi hx hb hr hlocks hS hf d_Pic_level_46
      have hf := bq_n hf hc
      refine lv_bipush (v := (-2)) hx hb d_Pic_level_33 (by decide) ?_
      exact rt_roi hx hb hr hlocks hS hf d_Pic_level_35
    have hf := bq_n hf hc
    refine lv_bipush (v := (-3)) hx hb d_Pic_level_21 (by decide) ?_
    exact rt_roi hx hb hr hlocks hS hf d_Pic_level_23
  have hf := bq_n hf hc
  refine lv_bipush (v := (-4)) hx hb d_Pic_level_9 (by decide) ?_
  exact rt_roi hx hb hr hlocks hS hf d_Pic_level_11
def f_Pic_divided (a1 : Int32) (u : gU) : Option (Int32) := bq (a1 ≤ 0) (gd (¬ (u 0 4) = 0) (some (-(((u 0 3) - a1) / (u 0 4))))) (gd (¬ (u 0 4) = 0) (some ((a1 + (u 0 3)) / (u 0 4))))
set_option maxHeartbeats 4000000 in
set_option maxRecDepth 100000 in
theorem c_Pic_divided (l : Launch) (D : va_G) (cI : ClassId) (q0 : Nat) (a1 : Int32) (u : gU) (r : Int32) (hf : f_Pic_divided a1 u = some r) : Met l y_Pic_divided (.code y_Pic_divided b_Pic_divided 2 (some .int) :: TS) ({ frames := 0, cells := 0, slots := 0, locals := 0 }) (va_Pc [.ref q0, .int a1] (fun U => va_P D cls (wPic cI q0 u) U.heap ∧ va_K D cls [(cI, .int)] U)) (va_Qi (fun x (_ : Unit) => x = r) (fun _ _ => True) (fun _ => False)) 0 0 (fun _ => False) := by
  refine ct_of (by decide +kernel) (Nat.le_of_ble_eq_true rfl) ?_
  intro p e s m below meth c ls hx hb hml hr hlocks hown hw hP hK hl
  have hS : va_S (fun _ => False) s.heap s.heap [] := va_S.rf
  have hl : lv_has ls 2 [(0, .ref q0), (1, .int a1)] := hl
  have hP : va_P D cls (wPic cI q0 u) s.heap := hP
  unfold f_Pic_divided at hf
  refine lv_iload_n hx hb d_Pic_divided_0 rfl (lv_at hl 1 rfl) ?_
  refine lv_if_le (tgt := 18) hx hb d_Pic_divided_1 (by decide) (fun hc => ?_) (fun hc => ?_)
  · have hf := bq_t hf hc
    refine lv_aload_n hx hb d_Pic_divided_18 rfl (lv_at hl 0 rfl) ?_
    refine va_get (D := D) (ci := 1) (v := .int (u 0 3)) (C := R_Pic) (T := F_Pic) (N := 11) hx hb hw in_Pic hown hK hP 0 rfl rfl 3 (by decide) (hw _ m_76) (fun _ h9 => h9) rfl d_Pic_divided_19 ?_
    refine lv_iload_n hx hb d_Pic_divided_22 rfl (lv_at hl 1 rfl) ?_
    refine lv_isub hx hb d_Pic_divided_23 ?_
    refine lv_aload_n hx hb d_Pic_divided_24 rfl (lv_at hl 0 rfl) ?_
    refine va_get (D := D) (ci := 1) (v := .int (u 0 4)) (C := R_Pic) (T := F_Pic) (N := 11) hx hb hw in_Pic hown hK hP 0 rfl rfl 4 (by decide) (hw _ m_91) (fun _ h9 => h9) rfl d_Pic_divided_25 ?_
    obtain ⟨h1, hf⟩ := gd_o hf
    refine lv_idiv hx hb d_Pic_divided_28 h1 ?_
    refine lv_ineg hx hb d_Pic_divided_29 ?_
    exact rt_roi hx hb hr hlocks hS hf d_Pic_divided_30
  have hf := bq_n hf hc
  refine lv_iload_n hx hb d_Pic_divided_4 rfl (lv_at hl 1 rfl) ?_
  refine lv_aload_n hx hb d_Pic_divided_5 rfl (lv_at hl 0 rfl) ?_
  refine va_get (D := D) (ci := 1) (v := .int (u 0 3)) (C := R_Pic) (T := F_Pic) (N := 11) hx hb hw in_Pic hown hK hP 0 rfl rfl 3 (by decide) (hw _ m_76) (fun _ h9 => h9) rfl d_Pic_divided_6 ?_
  refine lv_iadd hx hb d_Pic_divided_9 ?_
  refine lv_aload_n hx hb d_Pic_divided_10 rfl (lv_at hl 0 rfl) ?_
  refine va_get (D := D) (ci := 1) (v := .int (u 0 4)) (C := R_Pic) (T := F_Pic) (N := 11) hx hb hw in_Pic hown hK hP 0 rfl rfl 4 (by decide) (hw _ m_91) (fun _ h9 => h9) rfl d_Pic_divided_11 ?_
  obtain ⟨h2, hf⟩ := gd_o hf
  refine lv_idiv hx hb d_Pic_divided_14 h2 ?_
  refine lv_goto (tgt := 30) hx hb d_Pic_divided_15 (by decide) ?_
  exact rt_roi hx hb hr hlocks hS hf d_Pic_divided_30
def J_Pic_reduced_14 (s0 : Int32) (u : gU) : Option (Int32) := bq (s0 < (((u 0 5) + 1) / 2)) (some s0) (some (s0 - (u 0 5)))
def f_Pic_reduced (a1 : Int32) (u : gU) : Option (Int32) := bq (0 ≤ a1) (J_Pic_reduced_14 a1 u) (J_Pic_reduced_14 (a1 + (u 0 5)) u)
set_option maxHeartbeats 4000000 in
set_option maxRecDepth 100000 in
theorem c_Pic_reduced (l : Launch) (D : va_G) (cI : ClassId) (q0 : Nat) (a1 : Int32) (u : gU) (r : Int32) (hf : f_Pic_reduced a1 u = some r) : Met l y_Pic_reduced (.code y_Pic_reduced b_Pic_reduced 3 (some .int) :: TS) ({ frames := 0, cells := 0, slots := 0, locals := 0 }) (va_Pc [.ref q0, .int a1] (fun U => va_P D cls (wPic cI q0 u) U.heap ∧ va_K D cls [(cI, .int)] U)) (va_Qi (fun x (_ : Unit) => x = r) (fun _ _ => True) (fun _ => False)) 0 0 (fun _ => False) := by
  refine ct_of (by decide +kernel) (Nat.le_of_ble_eq_true rfl) ?_
  intro p e s m below meth c ls hx hb hml hr hlocks hown hw hP hK hl
  have hS : va_S (fun _ => False) s.heap s.heap [] := va_S.rf
  have hl : lv_has ls 3 [(0, .ref q0), (1, .int a1)] := hl
  have hP : va_P D cls (wPic cI q0 u) s.heap := hP
  have j14 : ∀ (ls : Array Slot) (H : Heap) (locs : List Loc) (s0 : Int32) (u : gU), lv_has ls 3 [(0, .ref q0)] → va_P D cls (wPic cI q0 u) H → va_S (fun _ => False) s.heap H locs → J_Pic_reduced_14 s0 u = some r → W p l e ({ frames := 0, cells := 0, slots := 0, locals := 0 }) s m [.ref q0, .int a1].toArray below meth c H locs 0 0 (MQ below (va_Qi (fun x (_ : Unit) => x = r) (fun _ _ => True) (fun _ => False)) [.ref q0, .int a1].toArray s 0 0 (fun _ => False)) (F0 m 14 ls [.int s0]) := by
    intro ls H locs s0 u hl hP hS hf
    unfold J_Pic_reduced_14 at hf
    refine lv_istore_n (lv' := [(2, .int s0), (0, .ref q0)]) hx hb d_Pic_reduced_14 rfl hl (by decide) rfl (fun ls hl => ?_)
    refine lv_iload_n hx hb d_Pic_reduced_15 rfl (lv_at hl 0 rfl) ?_
    refine lv_aload_n hx hb d_Pic_reduced_16 rfl (lv_at hl 1 rfl) ?_
    refine va_get (D := D) (ci := 1) (v := .int (u 0 5)) (C := R_Pic) (T := F_Pic) (N := 11) hx hb hw in_Pic hown hK hP 0 rfl rfl 5 (by decide) (hw _ m_92) (fun _ h9 => h9) rfl d_Pic_reduced_17 ?_
    refine lv_iconst (v := 1) hx hb d_Pic_reduced_20 (by decide) ?_
    refine lv_iadd hx hb d_Pic_reduced_21 ?_
    refine lv_iconst (v := 2) hx hb d_Pic_reduced_22 (by decide) ?_
    refine lv_idiv hx hb d_Pic_reduced_23 (by decide) ?_
    refine lv_icmp_lt (tgt := 36) hx hb d_Pic_reduced_24 (by decide) (fun hc => ?_) (fun hc => ?_)
    · have hf := bq_t hf hc
      refine lv_iload_n hx hb d_Pic_reduced_36 rfl (lv_at hl 0 rfl) ?_
      exact rt_roi hx hb hr hlocks hS hf d_Pic_reduced_37
    have hf := bq_n hf hc
    refine lv_iload_n hx hb d_Pic_reduced_27 rfl (lv_at hl 0 rfl) ?_
    refine lv_aload_n hx hb d_Pic_reduced_28 rfl (lv_at hl 1 rfl) ?_
    refine va_get (D := D) (ci := 1) (v := .int (u 0 5)) (C := R_Pic) (T := F_Pic) (N := 11) hx hb hw in_Pic hown hK hP 0 rfl rfl 5 (by decide) (hw _ m_92) (fun _ h9 => h9) rfl d_Pic_reduced_29 ?_
    refine lv_isub hx hb d_Pic_reduced_32 ?_
    refine lv_goto (tgt := 37) hx hb d_Pic_reduced_33 (by decide) ?_
    exact rt_roi hx hb hr hlocks hS hf d_Pic_reduced_37
  unfold f_Pic_reduced at hf
  refine lv_iload_n hx hb d_Pic_reduced_0 rfl (lv_at hl 1 rfl) ?_
  refine lv_if_ge (tgt := 13) hx hb d_Pic_reduced_1 (by decide) (fun hc => ?_) (fun hc => ?_)
  · have hf := bq_t hf hc
    refine lv_iload_n hx hb d_Pic_reduced_13 rfl (lv_at hl 1 rfl) ?_
    exact j14 _ _ _ a1 u (lv_sub hl [0] rfl) hP hS hf
  have hf := bq_n hf hc
  refine lv_iload_n hx hb d_Pic_reduced_4 rfl (lv_at hl 1 rfl) ?_
  refine lv_aload_n hx hb d_Pic_reduced_5 rfl (lv_at hl 0 rfl) ?_
  refine va_get (D := D) (ci := 1) (v := .int (u 0 5)) (C := R_Pic) (T := F_Pic) (N := 11) hx hb hw in_Pic hown hK hP 0 rfl rfl 5 (by decide) (hw _ m_92) (fun _ h9 => h9) rfl d_Pic_reduced_6 ?_
  refine lv_iadd hx hb d_Pic_reduced_9 ?_
  refine lv_goto (tgt := 14) hx hb d_Pic_reduced_10 (by decide) ?_
  exact j14 _ _ _ (a1 + (u 0 5)) u (lv_sub hl [0] rfl) hP hS hf
def f_Pic_isReduced (a1 : Int32) (u : gU) : Option (Int32) := bq (a1 < (-((u 0 5) / 2))) (some 0) (bq ((((u 0 5) + 1) / 2) ≤ a1) (some 0) (some 1))
set_option maxHeartbeats 4000000 in
set_option maxRecDepth 100000 in
theorem c_Pic_isReduced (l : Launch) (D : va_G) (cI : ClassId) (q0 : Nat) (a1 : Int32) (u : gU) (r : Int32) (hf : f_Pic_isReduced a1 u = some r) : Met l y_Pic_isReduced (.code y_Pic_isReduced b_Pic_isReduced 2 (some .boolean) :: TS) ({ frames := 0, cells := 0, slots := 0, locals := 0 }) (va_Pc [.ref q0, .int a1] (fun U => va_P D cls (wPic cI q0 u) U.heap ∧ va_K D cls [(cI, .int)] U)) (va_Qi (fun x (_ : Unit) => x = r) (fun _ _ => True) (fun _ => False)) 0 0 (fun _ => False) := by
  refine ct_of (by decide +kernel) (Nat.le_of_ble_eq_true rfl) ?_
  intro p e s m below meth c ls hx hb hml hr hlocks hown hw hP hK hl
  have hS : va_S (fun _ => False) s.heap s.heap [] := va_S.rf
  have hl : lv_has ls 2 [(0, .ref q0), (1, .int a1)] := hl
  have hP : va_P D cls (wPic cI q0 u) s.heap := hP
  unfold f_Pic_isReduced at hf
  refine lv_iload_n hx hb d_Pic_isReduced_0 rfl (lv_at hl 1 rfl) ?_
  refine lv_aload_n hx hb d_Pic_isReduced_1 rfl (lv_at hl 0 rfl) ?_
  refine va_get (D := D) (ci := 1) (v := .int (u 0 5)) (C := R_Pic) (T := F_Pic) (N := 11) hx hb hw in_Pic hown hK hP 0 rfl rfl 5 (by decide) (hw _ m_92) (fun _ h9 => h9) rfl d_Pic_isReduced_2 ?_
  refine lv_iconst (v := 2) hx hb d_Pic_isReduced_5 (by decide) ?_
  refine lv_idiv hx hb d_Pic_isReduced_6 (by decide) ?_
  refine lv_ineg hx hb d_Pic_isReduced_7 ?_
  refine lv_icmp_lt (tgt := 27) hx hb d_Pic_isReduced_8 (by decide) (fun hc => ?_) (fun hc => ?_)
  · have hf := bq_t hf hc
    refine lv_iconst (v := 0) hx hb d_Pic_isReduced_27 (by decide) ?_
    exact rt_roz hx hb hr hlocks (Or.inl rfl) hS hf d_Pic_isReduced_28
  have hf := bq_n hf hc
  refine lv_iload_n hx hb d_Pic_isReduced_11 rfl (lv_at hl 1 rfl) ?_
  refine lv_aload_n hx hb d_Pic_isReduced_12 rfl (lv_at hl 0 rfl) ?_
  refine va_get (D := D) (ci := 1) (v := .int (u 0 5)) (C := R_Pic) (T := F_Pic) (N := 11) hx hb hw in_Pic hown hK hP 0 rfl rfl 5 (by decide) (hw _ m_92) (fun _ h9 => h9) rfl d_Pic_isReduced_13 ?_
  refine lv_iconst (v := 1) hx hb d_Pic_isReduced_16 (by decide) ?_
  refine lv_iadd hx hb d_Pic_isReduced_17 ?_
  refine lv_iconst (v := 2) hx hb d_Pic_isReduced_18 (by decide) ?_
  refine lv_idiv hx hb d_Pic_isReduced_19 (by decide) ?_
  refine lv_icmp_ge (tgt := 27) hx hb d_Pic_isReduced_20 (by decide) (fun hc => ?_) (fun hc => ?_)
  · have hf := bq_t hf hc
    refine lv_iconst (v := 0) hx hb d_Pic_isReduced_27 (by decide) ?_
    exact rt_roz hx hb hr hlocks (Or.inl rfl) hS hf d_Pic_isReduced_28
  have hf := bq_n hf hc
  refine lv_iconst (v := 1) hx hb d_Pic_isReduced_23 (by decide) ?_
  refine lv_goto (tgt := 28) hx hb d_Pic_isReduced_24 (by decide) ?_
  exact rt_roz hx hb hr hlocks (Or.inr rfl) hS hf d_Pic_isReduced_28
def f_Pic_unreduced (a1 : Int32) (u : gU) : Option (Int32) := bq ((-(u 0 3)) ≤ a1) (bq (a1 ≤ ((u 0 2) + (u 0 3))) (some a1) (some (a1 - ((u 0 5) * (u 0 4))))) (some (a1 + ((u 0 5) * (u 0 4))))
set_option maxHeartbeats 4000000 in
set_option maxRecDepth 100000 in
theorem c_Pic_unreduced (l : Launch) (D : va_G) (cI : ClassId) (q0 : Nat) (a1 : Int32) (u : gU) (r : Int32) (hf : f_Pic_unreduced a1 u = some r) : Met l y_Pic_unreduced (.code y_Pic_unreduced b_Pic_unreduced 2 (some .int) :: TS) ({ frames := 0, cells := 0, slots := 0, locals := 0 }) (va_Pc [.ref q0, .int a1] (fun U => va_P D cls (wPic cI q0 u) U.heap ∧ va_K D cls [(cI, .int)] U)) (va_Qi (fun x (_ : Unit) => x = r) (fun _ _ => True) (fun _ => False)) 0 0 (fun _ => False) := by
  refine ct_of (by decide +kernel) (Nat.le_of_ble_eq_true rfl) ?_
  intro p e s m below meth c ls hx hb hml hr hlocks hown hw hP hK hl
  have hS : va_S (fun _ => False) s.heap s.heap [] := va_S.rf
  have hl : lv_has ls 2 [(0, .ref q0), (1, .int a1)] := hl
  have hP : va_P D cls (wPic cI q0 u) s.heap := hP
  unfold f_Pic_unreduced at hf
  refine lv_iload_n hx hb d_Pic_unreduced_0 rfl (lv_at hl 1 rfl) ?_
  refine lv_aload_n hx hb d_Pic_unreduced_1 rfl (lv_at hl 0 rfl) ?_
  refine va_get (D := D) (ci := 1) (v := .int (u 0 3)) (C := R_Pic) (T := F_Pic) (N := 11) hx hb hw in_Pic hown hK hP 0 rfl rfl 3 (by decide) (hw _ m_76) (fun _ h9 => h9) rfl d_Pic_unreduced_2 ?_
  refine lv_ineg hx hb d_Pic_unreduced_5 ?_
  refine lv_icmp_ge (tgt := 21) hx hb d_Pic_unreduced_6 (by decide) (fun hc => ?_) (fun hc => ?_)
  · have hf := bq_t hf hc
    refine lv_iload_n hx hb d_Pic_unreduced_21 rfl (lv_at hl 1 rfl) ?_
    refine lv_aload_n hx hb d_Pic_unreduced_22 rfl (lv_at hl 0 rfl) ?_
    refine va_get (D := D) (ci := 1) (v := .int (u 0 2)) (C := R_Pic) (T := F_Pic) (N := 11) hx hb hw in_Pic hown hK hP 0 rfl rfl 2 (by decide) (hw _ m_75) (fun _ h9 => h9) rfl d_Pic_unreduced_23 ?_
    refine lv_aload_n hx hb d_Pic_unreduced_26 rfl (lv_at hl 0 rfl) ?_
    refine va_get (D := D) (ci := 1) (v := .int (u 0 3)) (C := R_Pic) (T := F_Pic) (N := 11) hx hb hw in_Pic hown hK hP 0 rfl rfl 3 (by decide) (hw _ m_76) (fun _ h9 => h9) rfl d_Pic_unreduced_27 ?_
    refine lv_iadd hx hb d_Pic_unreduced_30 ?_
    refine lv_icmp_le (tgt := 48) hx hb d_Pic_unreduced_31 (by decide) (fun hc => ?_) (fun hc => ?_)
    · have hf := bq_t hf hc
      refine lv_iload_n hx hb d_Pic_unreduced_48 rfl (lv_at hl 1 rfl) ?_
      exact rt_roi hx hb hr hlocks hS hf d_Pic_unreduced_49
    have hf := bq_n hf hc
    refine lv_iload_n hx hb d_Pic_unreduced_34 rfl (lv_at hl 1 rfl) ?_
    refine lv_aload_n hx hb d_Pic_unreduced_35 rfl (lv_at hl 0 rfl) ?_
    refine va_get (D := D) (ci := 1) (v := .int (u 0 5)) (C := R_Pic) (T := F_Pic) (N := 11) hx hb hw in_Pic hown hK hP 0 rfl rfl 5 (by decide) (hw _ m_92) (fun _ h9 => h9) rfl d_Pic_unreduced_36 ?_
    refine lv_aload_n hx hb d_Pic_unreduced_39 rfl (lv_at hl 0 rfl) ?_
    refine va_get (D := D) (ci := 1) (v := .int (u 0 4)) (C := R_Pic) (T := F_Pic) (N := 11) hx hb hw in_Pic hown hK hP 0 rfl rfl 4 (by decide) (hw _ m_91) (fun _ h9 => h9) rfl d_Pic_unreduced_40 ?_
    refine lv_imul hx hb d_Pic_unreduced_43 ?_
    refine lv_isub hx hb d_Pic_unreduced_44 ?_
    refine lv_goto (tgt := 49) hx hb d_Pic_unreduced_45 (by decide) ?_
    exact rt_roi hx hb hr hlocks hS hf d_Pic_unreduced_49
  have hf := bq_n hf hc
  refine lv_iload_n hx hb d_Pic_unreduced_9 rfl (lv_at hl 1 rfl) ?_
  refine lv_aload_n hx hb d_Pic_unreduced_10 rfl (lv_at hl 0 rfl) ?_
  refine va_get (D := D) (ci := 1) (v := .int (u 0 5)) (C := R_Pic) (T := F_Pic) (N := 11) hx hb hw in_Pic hown hK hP 0 rfl rfl 5 (by decide) (hw _ m_92) (fun _ h9 => h9) rfl d_Pic_unreduced_11 ?_
  refine lv_aload_n hx hb d_Pic_unreduced_14 rfl (lv_at hl 0 rfl) ?_
  refine va_get (D := D) (ci := 1) (v := .int (u 0 4)) (C := R_Pic) (T := F_Pic) (N := 11) hx hb hw in_Pic hown hK hP 0 rfl rfl 4 (by decide) (hw _ m_91) (fun _ h9 => h9) rfl d_Pic_unreduced_15 ?_
  refine lv_imul hx hb d_Pic_unreduced_18 ?_
  refine lv_iadd hx hb d_Pic_unreduced_19 ?_
  exact rt_roi hx hb hr hlocks hS hf d_Pic_unreduced_20
