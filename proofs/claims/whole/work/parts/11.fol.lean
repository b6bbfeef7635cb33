def f_Fol_foldRegular (a0 : Int32) (a1 : Int32) : Option (Int32) := bq (a1 = 0) (bq (a0 < 0) (some (((-2) * a0) - 1)) (some (2 * a0))) (bq (a0 < 0) (some ((-2) * (a0 + 1))) (some ((2 * a0) + 1)))
set_option maxHeartbeats 4000000 in
set_option maxRecDepth 100000 in
theorem c_Fol_foldRegular (l : Launch) (D : va_G) (cI : ClassId) (a0 : Int32) (a1 : Int32) (r : Int32) (hf : f_Fol_foldRegular a0 a1 = some r) : Met l y_Fol_foldRegular (.code y_Fol_foldRegular b_Fol_foldRegular 2 (some .int) :: TS) ({ frames := 0, cells := 0, slots := 0, locals := 0 }) (va_Pc [.int a0, .int a1] (fun U => va_P D cls (([] : va_W)) U.heap ∧ va_K D cls [(cI, .int)] U)) (va_Qi (fun x (_ : Unit) => x = r) (fun _ _ => True) (fun _ => False)) 0 0 (fun _ => False) := by
  refine ct_of (by decide +kernel) (Nat.le_of_ble_eq_true rfl) ?_
  intro p e s m below meth c ls hx hb hml hr hlocks hown hw hP hK hl
  have hS : va_S (fun _ => False) s.heap s.heap [] := va_S.rf
  have hl : lv_has ls 2 [(0, .int a0), (1, .int a1)] := hl
  have hP : va_P D cls (([] : va_W)) s.heap := hP
  unfold f_Fol_foldRegular at hf
  refine lv_iload_n hx hb d_Fol_foldRegular_0 rfl (lv_at hl 1 rfl) ?_
  refine lv_if_eq (tgt := 23) hx hb d_Fol_foldRegular_1 (by decide) (fun hc => ?_) (fun hc => ?_)
  · have hf := bq_t hf hc
    refine lv_iload_n hx hb d_Fol_foldRegular_23 rfl (lv_at hl 0 rfl) ?_
    refine lv_if_lt (tgt := 33) hx hb d_Fol_foldRegular_24 (by decide) (fun hc => ?_) (fun hc => ?_)
    · have hf := bq_t hf hc
      refine lv_bipush (v := (-2)) hx hb d_Fol_foldRegular_33 (by decide) ?_
      refine lv_iload_n hx hb d_Fol_foldRegular_35 rfl (lv_at hl 0 rfl) ?_
      refine lv_imul hx hb d_Fol_foldRegular_36 ?_
      refine lv_iconst (v := 1) hx hb d_Fol_foldRegular_37 (by decide) ?_
      refine lv_isub hx hb d_Fol_foldRegular_38 ?_
      exact rt_roi hx hb hr hlocks hS hf d_Fol_foldRegular_39
    have hf := bq_n hf hc
    refine lv_iconst (v := 2) hx hb d_Fol_foldRegular_27 (by decide) ?_
    refine lv_iload_n hx hb d_Fol_foldRegular_28 rfl (lv_at hl 0 rfl) ?_
    refine lv_imul hx hb d_Fol_foldRegular_29 ?_
    refine lv_goto (tgt := 39) hx hb d_Fol_foldRegular_30 (by decide) ?_
    exact rt_roi hx hb hr hlocks hS hf d_Fol_foldRegular_39
  have hf := bq_n hf hc
  refine lv_iload_n hx hb d_Fol_foldRegular_4 rfl (lv_at hl 0 rfl) ?_
  refine lv_if_lt (tgt := 16) hx hb d_Fol_foldRegular_5 (by decide) (fun hc => ?_) (fun hc => ?_)
  · have hf := bq_t hf hc
    refine lv_bipush (v := (-2)) hx hb d_Fol_foldRegular_16 (by decide) ?_
    refine lv_iload_n hx hb d_Fol_foldRegular_18 rfl (lv_at hl 0 rfl) ?_
    refine lv_iconst (v := 1) hx hb d_Fol_foldRegular_19 (by decide) ?_
    refine lv_iadd hx hb d_Fol_foldRegular_20 ?_
    refine lv_imul hx hb d_Fol_foldRegular_21 ?_
    exact rt_roi hx hb hr hlocks hS hf d_Fol_foldRegular_22
  have hf := bq_n hf hc
  refine lv_iconst (v := 2) hx hb d_Fol_foldRegular_8 (by decide) ?_
  refine lv_iload_n hx hb d_Fol_foldRegular_9 rfl (lv_at hl 0 rfl) ?_
  refine lv_imul hx hb d_Fol_foldRegular_10 ?_
  refine lv_iconst (v := 1) hx hb d_Fol_foldRegular_11 (by decide) ?_
  refine lv_iadd hx hb d_Fol_foldRegular_12 ?_
  refine lv_goto (tgt := 22) hx hb d_Fol_foldRegular_13 (by decide) ?_
  exact rt_roi hx hb hr hlocks hS hf d_Fol_foldRegular_22
def J_Fol_unfoldRegular_12 (l0 : Int32) (l1 : Int32) (s0 : Int32) : Option (Int32) := bq (l1 = 0) (bq (s0 = 0) (some (l0 / 2)) (some ((-(l0 / 2)) - 1))) (bq (s0 = 0) (some ((-(l0 / 2)) - 1)) (some (l0 / 2)))
def f_Fol_unfoldRegular (a0 : Int32) (a1 : Int32) : Option (Int32) := bq ((a0 &&& 1) = 1) (J_Fol_unfoldRegular_12 a0 a1 1) (J_Fol_unfoldRegular_12 a0 a1 0)
set_option maxHeartbeats 4000000 in
set_option maxRecDepth 100000 in
theorem c_Fol_unfoldRegular (l : Launch) (D : va_G) (cI : ClassId) (a0 : Int32) (a1 : Int32) (r : Int32) (hf : f_Fol_unfoldRegular a0 a1 = some r) : Met l y_Fol_unfoldRegular (.code y_Fol_unfoldRegular b_Fol_unfoldRegular 3 (some .int) :: TS) ({ frames := 0, cells := 0, slots := 0, locals := 0 }) (va_Pc [.int a0, .int a1] (fun U => va_P D cls (([] : va_W)) U.heap ∧ va_K D cls [(cI, .int)] U)) (va_Qi (fun x (_ : Unit) => x = r) (fun _ _ => True) (fun _ => False)) 0 0 (fun _ => False) := by
  refine ct_of (by decide +kernel) (Nat.le_of_ble_eq_true rfl) ?_
  intro p e s m below meth c ls hx hb hml hr hlocks hown hw hP hK hl
  have hS : va_S (fun _ => False) s.heap s.heap [] := va_S.rf
  have hl : lv_has ls 3 [(0, .int a0), (1, .int a1)] := hl
  have hP : va_P D cls (([] : va_W)) s.heap := hP
  have j12 : ∀ (ls : Array Slot) (H : Heap) (locs : List Loc) (l0 : Int32) (l1 : Int32) (s0 : Int32), lv_has ls 3 [(0, .int l0), (1, .int l1)] → va_P D cls (([] : va_W)) H → va_S (fun _ => False) s.heap H locs → J_Fol_unfoldRegular_12 l0 l1 s0 = some r → W p l e ({ frames := 0, cells := 0, slots := 0, locals := 0 }) s m [.int a0, .int a1].toArray below meth c H locs 0 0 (MQ below (va_Qi (fun x (_ : Unit) => x = r) (fun _ _ => True) (fun _ => False)) [.int a0, .int a1].toArray s 0 0 (fun _ => False)) (F0 m 12 ls [.int s0]) := by
    intro ls H locs l0 l1 s0 hl hP hS hf
    unfold J_Fol_unfoldRegular_12 at hf
    refine lv_istore_n (lv' := [(2, .int s0), (0, .int l0), (1, .int l1)]) hx hb d_Fol_unfoldRegular_12 rfl hl (by decide) rfl (fun ls hl => ?_)
    refine lv_iload_n hx hb d_Fol_unfoldRegular_13 rfl (lv_at hl 2 rfl) ?_
    refine lv_if_eq (tgt := 34) hx hb d_Fol_unfoldRegular_14 (by decide) (fun hc => ?_) (fun hc => ?_)
    · have hf := bq_t hf hc
      refine lv_iload_n hx hb d_Fol_unfoldRegular_34 rfl (lv_at hl 0 rfl) ?_
      refine lv_if_eq (tgt := 47) hx hb d_Fol_unfoldRegular_35 (by decide) (fun hc => ?_) (fun hc => ?_)
      · have hf := bq_t hf hc
        refine lv_iload_n hx hb d_Fol_unfoldRegular_47 rfl (lv_at hl 1 rfl) ?_
        refine lv_iconst (v := 2) hx hb d_Fol_unfoldRegular_48 (by decide) ?_
        refine lv_idiv hx hb d_Fol_unfoldRegular_49 (by decide) ?_
        exact rt_roi hx hb hr hlocks hS hf d_Fol_unfoldRegular_50
      have hf := bq_n hf hc
      refine lv_iload_n hx hb d_Fol_unfoldRegular_38 rfl (lv_at hl 1 rfl) ?_
      refine lv_iconst (v := 2) hx hb d_Fol_unfoldRegular_39 (by decide) ?_
      refine lv_idiv hx hb d_Fol_unfoldRegular_40 (by decide) ?_
      refine lv_ineg hx hb d_Fol_unfoldRegular_41 ?_
      refine lv_iconst (v := 1) hx hb d_Fol_unfoldRegular_42 (by decide) ?_
      refine lv_isub hx hb d_Fol_unfoldRegular_43 ?_
      refine lv_goto (tgt := 50) hx hb d_Fol_unfoldRegular_44 (by decide) ?_
      exact rt_roi hx hb hr hlocks hS hf d_Fol_unfoldRegular_50
    have hf := bq_n hf hc
    refine lv_iload_n hx hb d_Fol_unfoldRegular_17 rfl (lv_at hl 0 rfl) ?_
    refine lv_if_eq (tgt := 27) hx hb d_Fol_unfoldRegular_18 (by decide) (fun hc => ?_) (fun hc => ?_)
    · have hf := bq_t hf hc
      refine lv_iload_n hx hb d_Fol_unfoldRegular_27 rfl (lv_at hl 1 rfl) ?_
      refine lv_iconst (v := 2) hx hb d_Fol_unfoldRegular_28 (by decide) ?_
      refine lv_idiv hx hb d_Fol_unfoldRegular_29 (by decide) ?_
      refine lv_ineg hx hb d_Fol_unfoldRegular_30 ?_
      refine lv_iconst (v := 1) hx hb d_Fol_unfoldRegular_31 (by decide) ?_
      refine lv_isub hx hb d_Fol_unfoldRegular_32 ?_
      exact rt_roi hx hb hr hlocks hS hf d_Fol_unfoldRegular_33
    have hf := bq_n hf hc
    refine lv_iload_n hx hb d_Fol_unfoldRegular_21 rfl (lv_at hl 1 rfl) ?_
    refine lv_iconst (v := 2) hx hb d_Fol_unfoldRegular_22 (by decide) ?_
    refine lv_idiv hx hb d_Fol_unfoldRegular_23 (by decide) ?_
    refine lv_goto (tgt := 33) hx hb d_Fol_unfoldRegular_24 (by decide) ?_
    exact rt_roi hx hb hr hlocks hS hf d_Fol_unfoldRegular_33
  unfold f_Fol_unfoldRegular at hf
  refine lv_iload_n hx hb d_Fol_unfoldRegular_0 rfl (lv_at hl 0 rfl) ?_
  refine lv_iconst (v := 1) hx hb d_Fol_unfoldRegular_1 (by decide) ?_
  refine lv_iand hx hb d_Fol_unfoldRegular_2 ?_
  refine lv_iconst (v := 1) hx hb d_Fol_unfoldRegular_3 (by decide) ?_
  refine lv_icmp_ne (tgt := 11) hx hb d_Fol_unfoldRegular_4 (by decide) (fun hc => ?_) (fun hc => ?_)
  · have hf := bq_n hf hc
    refine lv_iconst (v := 0) hx hb d_Fol_unfoldRegular_11 (by decide) ?_
    exact j12 _ _ _ a0 a1 0 (lv_sub hl [0, 1] rfl) hP hS hf
  have hf := bq_t hf hc
  refine lv_iconst (v := 1) hx hb d_Fol_unfoldRegular_7 (by decide) ?_
  refine lv_goto (tgt := 12) hx hb d_Fol_unfoldRegular_8 (by decide) ?_
  exact j12 _ _ _ a0 a1 1 (lv_sub hl [0, 1] rfl) hP hS hf
def J_Fol_foldEnd_22 (l0 : Int32) (l1 : Int32) (s0 : Int32) : Option (Int32) := tk (if 0 ≤ l0 then l0 else 0 - l0) fun x1 => some (((2 * x1) - l1) - s0)
def J_Fol_foldEnd_21 (l0 : Int32) (l1 : Int32) : Option (Int32) := J_Fol_foldEnd_22 l0 l1 0
def J_Fol_foldEnd_13 (l0 : Int32) (l1 : Int32) (l2 : Int32) (s0 : Int32) : Option (Int32) := bq (s0 = l2) (J_Fol_foldEnd_22 l0 l1 1) (J_Fol_foldEnd_21 l0 l1)
def f_Fol_foldEnd (a0 : Int32) (a1 : Int32) (a2 : Int32) : Option (Int32) := bq (a0 = 0) (J_Fol_foldEnd_21 a0 a1) (bq (0 ≤ a0) (J_Fol_foldEnd_13 a0 a1 a2 0) (J_Fol_foldEnd_13 a0 a1 a2 1))
set_option maxHeartbeats 4000000 in
set_option maxRecDepth 100000 in
theorem c_Fol_foldEnd (l : Launch) (D : va_G) (cI : ClassId) (a0 : Int32) (a1 : Int32) (a2 : Int32) (r : Int32) (hf : f_Fol_foldEnd a0 a1 a2 = some r) : Met l y_Fol_foldEnd (.code y_Fol_foldEnd b_Fol_foldEnd 4 (some .int) :: TS) ({ frames := 1, cells := 0, slots := 0, locals := 24 }) (va_Pc [.int a0, .int a1, .int a2] (fun U => va_P D cls (([] : va_W)) U.heap ∧ va_K D cls [(cI, .int)] U)) (va_Qi (fun x (_ : Unit) => x = r) (fun _ _ => True) (fun _ => False)) 0 0 (fun _ => False) := by
  refine ct_of (by decide +kernel) (Nat.le_of_ble_eq_true rfl) ?_
  intro p e s m below meth c ls hx hb hml hr hlocks hown hw hP hK hl
  have hS : va_S (fun _ => False) s.heap s.heap [] := va_S.rf
  have hl : lv_has ls 4 [(0, .int a0), (1, .int a1), (2, .int a2)] := hl
  have hP : va_P D cls (([] : va_W)) s.heap := hP
  have j22 : ∀ (ls : Array Slot) (H : Heap) (locs : List Loc) (l0 : Int32) (l1 : Int32) (s0 : Int32), lv_has ls 4 [(0, .int l0), (1, .int l1)] → va_P D cls (([] : va_W)) H → va_S (fun _ => False) s.heap H locs → J_Fol_foldEnd_22 l0 l1 s0 = some r → W p l e ({ frames := 1, cells := 0, slots := 0, locals := 24 }) s m [.int a0, .int a1, .int a2].toArray below meth c H locs 0 0 (MQ below (va_Qi (fun x (_ : Unit) => x = r) (fun _ _ => True) (fun _ => False)) [.int a0, .int a1, .int a2].toArray s 0 0 (fun _ => False)) (F0 m 22 ls [.int s0]) := by
    intro ls H locs l0 l1 s0 hl hP hS hf
    unfold J_Fol_foldEnd_22 at hf
    refine lv_istore_n (lv' := [(3, .int s0), (0, .int l0), (1, .int l1)]) hx hb d_Fol_foldEnd_22 rfl hl (by decide) rfl (fun ls hl => ?_)
    refine lv_iconst (v := 2) hx hb d_Fol_foldEnd_23 (by decide) ?_
    refine lv_iload_n hx hb d_Fol_foldEnd_24 rfl (lv_at hl 1 rfl) ?_
    refine va_mabs hx hb (hml.trans hl.1.symm) hown (hw _ m_109) (hw _ m_110) (hw _ m_87) (hw _ m_111) (Nat.le_of_ble_eq_true rfl) (Nat.le_of_ble_eq_true rfl) (Nat.le_of_ble_eq_true rfl) (Nat.le_of_ble_eq_true rfl) d_Fol_foldEnd_25 ?_
    refine lv_topi (fun x1 e_x1 => ?_)
    have hf := tk_e hf e_x1
    refine lv_imul hx hb d_Fol_foldEnd_28 ?_
    refine lv_iload_n hx hb d_Fol_foldEnd_29 rfl (lv_at hl 2 rfl) ?_
    refine lv_isub hx hb d_Fol_foldEnd_30 ?_
    refine lv_iload_n hx hb d_Fol_foldEnd_31 rfl (lv_at hl 0 rfl) ?_
    refine lv_isub hx hb d_Fol_foldEnd_32 ?_
    exact rt_roi hx hb hr hlocks hS hf d_Fol_foldEnd_33
  have j21 : ∀ (ls : Array Slot) (H : Heap) (locs : List Loc) (l0 : Int32) (l1 : Int32), lv_has ls 4 [(0, .int l0), (1, .int l1)] → va_P D cls (([] : va_W)) H → va_S (fun _ => False) s.heap H locs → J_Fol_foldEnd_21 l0 l1 = some r → W p l e ({ frames := 1, cells := 0, slots := 0, locals := 24 }) s m [.int a0, .int a1, .int a2].toArray below meth c H locs 0 0 (MQ below (va_Qi (fun x (_ : Unit) => x = r) (fun _ _ => True) (fun _ => False)) [.int a0, .int a1, .int a2].toArray s 0 0 (fun _ => False)) (F0 m 21 ls []) := by
    intro ls H locs l0 l1 hl hP hS hf
    unfold J_Fol_foldEnd_21 at hf
    refine lv_iconst (v := 0) hx hb d_Fol_foldEnd_21 (by decide) ?_
    exact j22 _ _ _ l0 l1 0 (lv_sub hl [0, 1] rfl) hP hS hf
  have j13 : ∀ (ls : Array Slot) (H : Heap) (locs : List Loc) (l0 : Int32) (l1 : Int32) (l2 : Int32) (s0 : Int32), lv_has ls 4 [(0, .int l0), (1, .int l1), (2, .int l2)] → va_P D cls (([] : va_W)) H → va_S (fun _ => False) s.heap H locs → J_Fol_foldEnd_13 l0 l1 l2 s0 = some r → W p l e ({ frames := 1, cells := 0, slots := 0, locals := 24 }) s m [.int a0, .int a1, .int a2].toArray below meth c H locs 0 0 (MQ below (va_Qi (fun x (_ : Unit) => x = r) (fun _ _ => True) (fun _ => False)) [.int a0, .int a1, .int a2].toArray s 0 0 (fun _ => False)) (F0 m 13 ls [.int s0]) := by
    intro ls H locs l0 l1 l2 s0 hl hP hS hf
    unfold J_Fol_foldEnd_13 at hf
    refine lv_iload_n hx hb d_Fol_foldEnd_13 rfl (lv_at hl 2 rfl) ?_
    refine lv_icmp_ne (tgt := 21) hx hb d_Fol_foldEnd_14 (by decide) (fun hc => ?_) (fun hc => ?_)
    · have hf := bq_n hf hc
      exact j21 _ _ _ l0 l1 (lv_sub hl [0, 1] rfl) hP hS hf
    have hf := bq_t hf hc
    refine lv_iconst (v := 1) hx hb d_Fol_foldEnd_17 (by decide) ?_
    refine lv_goto (tgt := 22) hx hb d_Fol_foldEnd_18 (by decide) ?_
    exact j22 _ _ _ l0 l1 1 (lv_sub hl [0, 1] rfl) hP hS hf
  unfold f_Fol_foldEnd at hf
  refine lv_iload_n hx hb d_Fol_foldEnd_0 rfl (lv_at hl 0 rfl) ?_
  refine lv_if_eq (tgt := 21) hx hb d_Fol_foldEnd_1 (by decide) (fun hc => ?_) (fun hc => ?_)
  · have hf := bq_t hf hc
    exact j21 _ _ _ a0 a1 (lv_sub hl [0, 1] rfl) hP hS hf
  have hf := bq_n hf hc
  refine lv_iload_n hx hb d_Fol_foldEnd_4 rfl (lv_at hl 0 rfl) ?_
  refine lv_if_ge (tgt := 12) hx hb d_Fol_foldEnd_5 (by decide) (fun hc => ?_) (fun hc => ?_)
  · have hf := bq_t hf hc
    refine lv_iconst (v := 0) hx hb d_Fol_foldEnd_12 (by decide) ?_
    exact j13 _ _ _ a0 a1 a2 0 (lv_sub hl [0, 1, 2] rfl) hP hS hf
  have hf := bq_n hf hc
  refine lv_iconst (v := 1) hx hb d_Fol_foldEnd_8 (by decide) ?_
  refine lv_goto (tgt := 13) hx hb d_Fol_foldEnd_9 (by decide) ?_
  exact j13 _ _ _ a0 a1 a2 1 (lv_sub hl [0, 1, 2] rfl) hP hS hf
def J_Fol_unfoldEnd_25 (l2 : Int32) (l4 : Int32) (s0 : Int32) : Option (Int32) := bq (s0 = l2) (some (-l4)) (some l4)
def f_Fol_unfoldEnd (a0 : Int32) (a1 : Int32) (a2 : Int32) : Option (Int32) := tk ((a0 + a1) &&& 1) fun x1 => tk (((a0 + a1) + x1) / 2) fun x2 => bq (x1 = 1) (J_Fol_unfoldEnd_25 a2 x2 1) (J_Fol_unfoldEnd_25 a2 x2 0)
set_option maxHeartbeats 4000000 in
set_option maxRecDepth 100000 in
theorem c_Fol_unfoldEnd (l : Launch) (D : va_G) (cI : ClassId) (a0 : Int32) (a1 : Int32) (a2 : Int32) (r : Int32) (hf : f_Fol_unfoldEnd a0 a1 a2 = some r) : Met l y_Fol_unfoldEnd (.code y_Fol_unfoldEnd b_Fol_unfoldEnd 5 (some .int) :: TS) ({ frames := 0, cells := 0, slots := 0, locals := 0 }) (va_Pc [.int a0, .int a1, .int a2] (fun U => va_P D cls (([] : va_W)) U.heap ∧ va_K D cls [(cI, .int)] U)) (va_Qi (fun x (_ : Unit) => x = r) (fun _ _ => True) (fun _ => False)) 0 0 (fun _ => False) := by
  refine ct_of (by decide +kernel) (Nat.le_of_ble_eq_true rfl) ?_
  intro p e s m below meth c ls hx hb hml hr hlocks hown hw hP hK hl
  have hS : va_S (fun _ => False) s.heap s.heap [] := va_S.rf
  have hl : lv_has ls 5 [(0, .int a0), (1, .int a1), (2, .int a2)] := hl
  have hP : va_P D cls (([] : va_W)) s.heap := hP
  have j25 : ∀ (ls : Array Slot) (H : Heap) (locs : List Loc) (l2 : Int32) (l4 : Int32) (s0 : Int32), lv_has ls 5 [(2, .int l2), (4, .int l4)] → va_P D cls (([] : va_W)) H → va_S (fun _ => False) s.heap H locs → J_Fol_unfoldEnd_25 l2 l4 s0 = some r → W p l e ({ frames := 0, cells := 0, slots := 0, locals := 0 }) s m [.int a0, .int a1, .int a2].toArray below meth c H locs 0 0 (MQ below (va_Qi (fun x (_ : Unit) => x = r) (fun _ _ => True) (fun _ => False)) [.int a0, .int a1, .int a2].toArray s 0 0 (fun _ => False)) (F0 m 25 ls [.int s0]) := by
    intro ls H locs l2 l4 s0 hl hP hS hf
    unfold J_Fol_unfoldEnd_25 at hf
    refine lv_iload_n hx hb d_Fol_unfoldEnd_25 rfl (lv_at hl 0 rfl) ?_
    refine lv_icmp_ne (tgt := 35) hx hb d_Fol_unfoldEnd_26 (by decide) (fun hc => ?_) (fun hc => ?_)
    · have hf := bq_n hf hc
      refine lv_iload hx hb d_Fol_unfoldEnd_35 (lv_at hl 1 rfl) ?_
      exact rt_roi hx hb hr hlocks hS hf d_Fol_unfoldEnd_37
    have hf := bq_t hf hc
    refine lv_iload hx hb d_Fol_unfoldEnd_29 (lv_at hl 1 rfl) ?_
    refine lv_ineg hx hb d_Fol_unfoldEnd_31 ?_
    refine lv_goto (tgt := 37) hx hb d_Fol_unfoldEnd_32 (by decide) ?_
    exact rt_roi hx hb hr hlocks hS hf d_Fol_unfoldEnd_37
  unfold f_Fol_unfoldEnd at hf
  refine lv_iload_n hx hb d_Fol_unfoldEnd_0 rfl (lv_at hl 0 rfl) ?_
  refine lv_iload_n hx hb d_Fol_unfoldEnd_1 rfl (lv_at hl 1 rfl) ?_
  refine lv_iadd hx hb d_Fol_unfoldEnd_2 ?_
  refine lv_iconst (v := 1) hx hb d_Fol_unfoldEnd_3 (by decide) ?_
  refine lv_iand hx hb d_Fol_unfoldEnd_4 ?_
  refine lv_topi (fun x1 e_x1 => ?_)
  have hf := tk_e hf e_x1
  refine lv_istore_n (lv' := [(3, .int x1), (0, .int a0), (1, .int a1), (2, .int a2)]) hx hb d_Fol_unfoldEnd_5 rfl hl (by decide) rfl (fun ls hl => ?_)
  refine lv_iload_n hx hb d_Fol_unfoldEnd_6 rfl (lv_at hl 1 rfl) ?_
  refine lv_iload_n hx hb d_Fol_unfoldEnd_7 rfl (lv_at hl 2 rfl) ?_
  refine lv_iadd hx hb d_Fol_unfoldEnd_8 ?_
  refine lv_iload_n hx hb d_Fol_unfoldEnd_9 rfl (lv_at hl 0 rfl) ?_
  refine lv_iadd hx hb d_Fol_unfoldEnd_10 ?_
  refine lv_iconst (v := 2) hx hb d_Fol_unfoldEnd_11 (by decide) ?_
  refine lv_idiv hx hb d_Fol_unfoldEnd_12 (by decide) ?_
  refine lv_topi (fun x2 e_x2 => ?_)
  have hf := tk_e hf e_x2
  refine lv_istore (lv' := [(4, .int x2), (3, .int x1), (0, .int a0), (1, .int a1), (2, .int a2)]) hx hb d_Fol_unfoldEnd_13 hl (by decide) rfl (fun ls hl => ?_)
  refine lv_iload_n hx hb d_Fol_unfoldEnd_15 rfl (lv_at hl 1 rfl) ?_
  refine lv_iconst (v := 1) hx hb d_Fol_unfoldEnd_16 (by decide) ?_
  refine lv_icmp_ne (tgt := 24) hx hb d_Fol_unfoldEnd_17 (by decide) (fun hc => ?_) (fun hc => ?_)
  · have hf := bq_n hf hc
    refine lv_iconst (v := 0) hx hb d_Fol_unfoldEnd_24 (by decide) ?_
    exact j25 _ _ _ a2 x2 0 (lv_sub hl [4, 0] rfl) hP hS hf
  have hf := bq_t hf hc
  refine lv_iconst (v := 1) hx hb d_Fol_unfoldEnd_20 (by decide) ?_
  refine lv_goto (tgt := 25) hx hb d_Fol_unfoldEnd_21 (by decide) ?_
  exact j25 _ _ _ a2 x2 1 (lv_sub hl [4, 0] rfl) hP hS hf
