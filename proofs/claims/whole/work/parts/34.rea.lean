def f_Rea_open (a2 : Int32) (u : gU) : Option (gU ⊕ gU) := bq (8 ≤ a2) (gd (¬ a2 < 0 ∧ tc a2 ≤ 512 ∧ tc a2 ≤ 512) (tk (st1 u 1 (va_cpy (u 2) (u 1) 0 0 (tc a2))) fun u2 => tk (st2 u2 0 0 (a2 - 2)) fun u3 => tk (st2 u3 0 1 6) fun u4 => tk (st2 u4 0 2 0) fun u5 => some (.inr u5))) (some (.inl u))
set_option maxHeartbeats 4000000 in
set_option maxRecDepth 100000 in
theorem c_Rea_open (l : Launch) (D : va_G) (cI : ClassId) (q0 : Nat) (q1 : Nat) (q2 : Nat) (hd : dj [q0, q1, q2]) (a2 : Int32) (u : gU) (v : gU) (hf : f_Rea_open a2 u = some (.inr v)) : Met l y_Rea_open (.code y_Rea_open b_Rea_open 3 none :: TS) ({ frames := 1, cells := 0, slots := 0, locals := 40 }) (va_Pc [.ref q0, .ref q2, .int a2] (fun U => va_P D cls (wReaArr cI q0 q1 q2 u) U.heap ∧ va_K D cls [(cI, .int)] U)) (va_Qv (fun (_ : Unit) => True) (fun _ t => va_P D cls (wReaArr cI q0 q1 q2 v) t.heap) (ad [q0, q1, q2])) 0 0 (ad [q0, q1, q2]) := by
  refine ct_of (by decide +kernel) (Nat.le_of_ble_eq_true rfl) ?_
  intro p e s m below meth c ls hx hb hml hr hlocks hown hw hP hK hl
  have hS : va_S (ad [q0, q1, q2]) s.heap s.heap [] := va_S.rf
  have hD : ∀ v, va_D (ad [q0, q1, q2]) (wReaArr cI q0 q1 q2 v) := fun _ => dj_D rfl hd
  have hl : lv_has ls 3 [(0, .ref q0), (1, .ref q2), (2, .int a2)] := hl
  have hP : va_P D cls (wReaArr cI q0 q1 q2 u) s.heap := hP
  unfold f_Rea_open at hf
  refine lv_iload_n hx hb d_Rea_open_0 rfl (lv_at hl 2 rfl) ?_
  refine lv_bipush (v := 8) hx hb d_Rea_open_1 (by decide) ?_
  refine lv_icmp_ge (tgt := 16) hx hb d_Rea_open_3 (by decide) (fun hc => ?_) (fun hc => ?_)
  · have hf := bq_t hf hc
    refine lv_aload_n hx hb d_Rea_open_16 rfl (lv_at hl 1 rfl) ?_
    refine lv_iconst (v := 0) hx hb d_Rea_open_17 (by decide) ?_
    refine lv_aload_n hx hb d_Rea_open_18 rfl (lv_at hl 0 rfl) ?_
    refine va_get (D := D) (ci := 6) (v := .ref q1) (C := R_Rea) (T := F_Rea) (N := 4) hx hb hw in_Rea hown hK hP 0 rfl rfl 0 (by decide) (hw _ m_607) (fun _ h9 => h9) rfl d_Rea_open_19 ?_
    refine lv_iconst (v := 0) hx hb d_Rea_open_22 (by decide) ?_
    refine lv_iload_n hx hb d_Rea_open_23 rfl (lv_at hl 2 rfl) ?_
    obtain ⟨h1, hf⟩ := gd_o hf
    refine va_copyi (ty := .int) hx hb (hml.trans hl.1.symm) hown (hw _ m_608) (hw _ m_140) (hw _ m_141) (hw _ m_142) hK hP (hD _) hS 2 1 0 0 rfl rfl rfl rfl rfl (by decide) (by decide) h1.1 (by have := h1.2.1; simpa using this) (by have := h1.2.2; simpa using this) (fun _ _ => rfl) (Nat.le_of_ble_eq_true rfl) (by decide) d_Rea_open_24 (fun H locs hP _ hS => ?_)
    obtain ⟨u2, e_u2, hf⟩ := tk_o hf
    have hP : va_P D cls (wReaArr cI q0 q1 q2 u2) H := by rw [e_u2]; exact hP
    refine lv_aload_n hx hb d_Rea_open_27 rfl (lv_at hl 0 rfl) ?_
    refine lv_iload_n hx hb d_Rea_open_28 rfl (lv_at hl 2 rfl) ?_
    refine lv_iconst (v := 2) hx hb d_Rea_open_29 (by decide) ?_
    refine lv_isub hx hb d_Rea_open_30 ?_
    refine va_put (D := D) (ci := 6) (v := .int (a2 - 2)) (ty := .int) (C := R_Rea) (T := F_Rea) (N := 4) hx hb hw in_Rea t_Rea t_Rea_ok n_Rea hown hK hP (hD _) hS 0 rfl rfl 1 (by decide) (hw _ m_609) (fun _ h9 => h9) rfl (by decide +kernel) rfl rfl (Nat.le_of_ble_eq_true rfl) d_Rea_open_31 (fun H locs hP _ hS => ?_)
    obtain ⟨u3, e_u3, hf⟩ := tk_o hf
    have hP : va_P D cls (wReaArr cI q0 q1 q2 u3) H := by rw [e_u3]; exact hP
    refine lv_aload_n hx hb d_Rea_open_34 rfl (lv_at hl 0 rfl) ?_
    refine lv_bipush (v := 6) hx hb d_Rea_open_35 (by decide) ?_
    refine va_put (D := D) (ci := 6) (v := .int 6) (ty := .int) (C := R_Rea) (T := F_Rea) (N := 4) hx hb hw in_Rea t_Rea t_Rea_ok n_Rea hown hK hP (hD _) hS 0 rfl rfl 2 (by decide) (hw _ m_610) (fun _ h9 => h9) rfl (by decide +kernel) rfl rfl (Nat.le_of_ble_eq_true rfl) d_Rea_open_37 (fun H locs hP _ hS => ?_)
    obtain ⟨u4, e_u4, hf⟩ := tk_o hf
    have hP : va_P D cls (wReaArr cI q0 q1 q2 u4) H := by rw [e_u4]; exact hP
    refine lv_aload_n hx hb d_Rea_open_40 rfl (lv_at hl 0 rfl) ?_
    refine lv_iconst (v := 0) hx hb d_Rea_open_41 (by decide) ?_
    refine va_put (D := D) (ci := 6) (v := .int 0) (ty := .int) (C := R_Rea) (T := F_Rea) (N := 4) hx hb hw in_Rea t_Rea t_Rea_ok n_Rea hown hK hP (hD _) hS 0 rfl rfl 3 (by decide) (hw _ m_611) (fun _ h9 => h9) rfl (by decide +kernel) rfl rfl (Nat.le_of_ble_eq_true rfl) d_Rea_open_42 (fun H locs hP _ hS => ?_)
    obtain ⟨u5, e_u5, hf⟩ := tk_o hf
    have hP : va_P D cls (wReaArr cI q0 q1 q2 u5) H := by rw [e_u5]; exact hP
    exact rt_v (wReaArr cI q0 q1 q2) hx hb hr hlocks hS hP (sr hf) d_Rea_open_45
  have hf := bq_n hf hc
  exact xo hf
set_option maxHeartbeats 4000000 in
set_option maxRecDepth 100000 in
theorem x_Rea_open (l : Launch) (hfl : l.flags = pinnedFlags ++ [noTraceFlag]) (D : va_G) (cI : ClassId) (tJ : Nat) (q0 : Nat) (q1 : Nat) (q2 : Nat) (hd : dj [q0, q1, q2]) (a2 : Int32) (u : gU) (v : gU) (hf : f_Rea_open a2 u = some (.inl v)) : MetX l y_Rea_open (.code y_Rea_open b_Rea_open 3 none :: TS) ({ frames := 6, cells := 1, slots := 6, locals := 108 }) (va_Pc [.ref q0, .ref q2, .int a2] (fun U => va_P D cls (wReaArr cI q0 q1 q2 u) U.heap ∧ va_K D cls [(cI, .int)] U ∧ Jt tJ (ad [q0, q1, q2]) U ∧ Xt (ad [q0, q1, q2]) U)) D cls (wReaArr cI q0 q1 q2 v) (ad [q0, q1, q2]) := by
  refine ct_ofX hfl (by decide +kernel) (Nat.le_of_ble_eq_true rfl) ?_
  intro p e s m below meth c ls hx hb hml hr hlocks hown hw hP hK hJ hl hX htr hout
  have hS : va_S (ad [q0, q1, q2]) s.heap s.heap [] := va_S.rf
  have hD : ∀ v, va_D (ad [q0, q1, q2]) (wReaArr cI q0 q1 q2 v) := fun _ => dj_D rfl hd
  have hl : lv_has ls 3 [(0, .ref q0), (1, .ref q2), (2, .int a2)] := hl
  have hP : va_P D cls (wReaArr cI q0 q1 q2 u) s.heap := hP
  unfold f_Rea_open at hf
  refine lv_iload_n hx hb d_Rea_open_0 rfl (lv_at hl 2 rfl) ?_
  refine lv_bipush (v := 8) hx hb d_Rea_open_1 (by decide) ?_
  refine lv_icmp_ge (tgt := 16) hx hb d_Rea_open_3 (by decide) (fun hc => ?_) (fun hc => ?_)
  · have hf := bq_t hf hc
    refine lv_aload_n hx hb d_Rea_open_16 rfl (lv_at hl 1 rfl) ?_
    refine lv_iconst (v := 0) hx hb d_Rea_open_17 (by decide) ?_
    refine lv_aload_n hx hb d_Rea_open_18 rfl (lv_at hl 0 rfl) ?_
    refine va_get (D := D) (ci := 6) (v := .ref q1) (C := R_Rea) (T := F_Rea) (N := 4) hx hb hw in_Rea hown hK hP 0 rfl rfl 0 (by decide) (hw _ m_607) (fun _ h9 => h9) rfl d_Rea_open_19 ?_
    refine lv_iconst (v := 0) hx hb d_Rea_open_22 (by decide) ?_
    refine lv_iload_n hx hb d_Rea_open_23 rfl (lv_at hl 2 rfl) ?_
    obtain ⟨h1, hf⟩ := gd_o hf
    refine va_copyi (ty := .int) hx hb (hml.trans hl.1.symm) hown (hw _ m_608) (hw _ m_140) (hw _ m_141) (hw _ m_142) hK hP (hD _) hS 2 1 0 0 rfl rfl rfl rfl rfl (by decide) (by decide) h1.1 (by have := h1.2.1; simpa using this) (by have := h1.2.2; simpa using this) (fun _ _ => rfl) (Nat.le_of_ble_eq_true rfl) (by decide) d_Rea_open_24 (fun H locs hP _ hS => ?_)
    obtain ⟨u2, e_u2, hf⟩ := tk_o hf
    have hP : va_P D cls (wReaArr cI q0 q1 q2 u2) H := by rw [e_u2]; exact hP
    refine lv_aload_n hx hb d_Rea_open_27 rfl (lv_at hl 0 rfl) ?_
    refine lv_iload_n hx hb d_Rea_open_28 rfl (lv_at hl 2 rfl) ?_
    refine lv_iconst (v := 2) hx hb d_Rea_open_29 (by decide) ?_
    refine lv_isub hx hb d_Rea_open_30 ?_
    refine va_put (D := D) (ci := 6) (v := .int (a2 - 2)) (ty := .int) (C := R_Rea) (T := F_Rea) (N := 4) hx hb hw in_Rea t_Rea t_Rea_ok n_Rea hown hK hP (hD _) hS 0 rfl rfl 1 (by decide) (hw _ m_609) (fun _ h9 => h9) rfl (by decide +kernel) rfl rfl (Nat.le_of_ble_eq_true rfl) d_Rea_open_31 (fun H locs hP _ hS => ?_)
    obtain ⟨u3, e_u3, hf⟩ := tk_o hf
    have hP : va_P D cls (wReaArr cI q0 q1 q2 u3) H := by rw [e_u3]; exact hP
    refine lv_aload_n hx hb d_Rea_open_34 rfl (lv_at hl 0 rfl) ?_
    refine lv_bipush (v := 6) hx hb d_Rea_open_35 (by decide) ?_
    refine va_put (D := D) (ci := 6) (v := .int 6) (ty := .int) (C := R_Rea) (T := F_Rea) (N := 4) hx hb hw in_Rea t_Rea t_Rea_ok n_Rea hown hK hP (hD _) hS 0 rfl rfl 2 (by decide) (hw _ m_610) (fun _ h9 => h9) rfl (by decide +kernel) rfl rfl (Nat.le_of_ble_eq_true rfl) d_Rea_open_37 (fun H locs hP _ hS => ?_)
    obtain ⟨u4, e_u4, hf⟩ := tk_o hf
    have hP : va_P D cls (wReaArr cI q0 q1 q2 u4) H := by rw [e_u4]; exact hP
    refine lv_aload_n hx hb d_Rea_open_40 rfl (lv_at hl 0 rfl) ?_
    refine lv_iconst (v := 0) hx hb d_Rea_open_41 (by decide) ?_
    refine va_put (D := D) (ci := 6) (v := .int 0) (ty := .int) (C := R_Rea) (T := F_Rea) (N := 4) hx hb hw in_Rea t_Rea t_Rea_ok n_Rea hown hK hP (hD _) hS 0 rfl rfl 3 (by decide) (hw _ m_611) (fun _ h9 => h9) rfl (by decide +kernel) rfl rfl (Nat.le_of_ble_eq_true rfl) d_Rea_open_42 (fun H locs hP _ hS => ?_)
    obtain ⟨u5, e_u5, hf⟩ := tk_o hf
    have hP : va_P D cls (wReaArr cI q0 q1 q2 u5) H := by rw [e_u5]; exact hP
    exact ox hf
  have hf := bq_n hf hc
  exact thr_new (own := R_Rea) (tx := "the code is too short") hx hb hml hl.1 hlocks htr hown hw hX hS (by rw [← sl hf]; exact hP) m_612 m_613 m_614 m_615 (List.mem_of_getElem? (i := 4) rfl) hout (Nat.le_of_ble_eq_true rfl) (Nat.le_of_ble_eq_true rfl) (Nat.le_of_ble_eq_true rfl) (Nat.le_of_ble_eq_true rfl) d_Rea_open_6 d_Rea_open_9 d_Rea_open_10 d_Rea_open_12 d_Rea_open_15
def J_Rea_readBit_94 (u : gU) : Option (gU ⊕ (Int32 × gU)) := tk (st2 u 0 2 ((u 0 2) - 1)) fun u1 => gd (ix ((u1 0 1) - 1) 512) (tk (((u1 1 (tc ((u1 0 1) - 1))) >>> ((u1 0 2) &&& 31)) &&& 1) fun x3 => some (.inr (x3, u1)))
def J_Rea_readBit_81 (s1 : Int32) (u : gU) : Option (gU ⊕ (Int32 × gU)) := tk (st2 u 0 2 s1) fun u1 => tk (st2 u1 0 1 ((u1 0 1) + 1)) fun u2 => J_Rea_readBit_94  u2
def J_Rea_readBit_69 (l1 : Int32) (u : gU) : Option (gU ⊕ (Int32 × gU)) := bq (l1 = 0) (J_Rea_readBit_81 8 u) (J_Rea_readBit_81 7 u)
def J_Rea_readBit_59 (u : gU) : Option (gU ⊕ (Int32 × gU)) := some (.inl u)
def J_Rea_readBit_29 (s0 : Int32) (u : gU) : Option (gU ⊕ (Int32 × gU)) := bq ((u 0 0) ≤ (u 0 1)) (J_Rea_readBit_59  u) (bq (s0 = 0) (J_Rea_readBit_69 s0 u) (gd (ix (u 0 1) 512) (bq ((u 1 (tc (u 0 1))) ≤ 127) (J_Rea_readBit_69 s0 u) (J_Rea_readBit_59  u))))
def f_Rea_readBit (u : gU) : Option (gU ⊕ (Int32 × gU)) := bq ((u 0 2) = 0) (gd (ix ((u 0 1) - 1) 512) (bq ((u 1 (tc ((u 0 1) - 1))) = 255) (J_Rea_readBit_29 1 u) (J_Rea_readBit_29 0 u))) (J_Rea_readBit_94  u)
set_option maxHeartbeats 4000000 in
set_option maxRecDepth 100000 in
theorem c_Rea_readBit (l : Launch) (D : va_G) (cI : ClassId) (q0 : Nat) (q1 : Nat) (hd : dj [q0, q1]) (u : gU) (r : Int32) (v : gU) (hf : f_Rea_readBit u = some (.inr (r, v))) : Met l y_Rea_readBit (.code y_Rea_readBit b_Rea_readBit 2 (some .int) :: TS) ({ frames := 0, cells := 0, slots := 0, locals := 0 }) (va_Pc [.ref q0] (fun U => va_P D cls (wRea cI q0 q1 u) U.heap ∧ va_K D cls [(cI, .int)] U)) (va_Qi (fun x (_ : Unit) => x = r) (fun _ t => va_P D cls (wRea cI q0 q1 v) t.heap) (ad [q0, q1])) 0 0 (ad [q0, q1]) := by
  refine ct_of (by decide +kernel) (Nat.le_of_ble_eq_true rfl) ?_
  intro p e s m below meth c ls hx hb hml hr hlocks hown hw hP hK hl
  have hS : va_S (ad [q0, q1]) s.heap s.heap [] := va_S.rf
  have hD : ∀ v, va_D (ad [q0, q1]) (wRea cI q0 q1 v) := fun _ => dj_D rfl hd
  have hl : lv_has ls 2 [(0, .ref q0)] := hl
  have hP : va_P D cls (wRea cI q0 q1 u) s.heap := hP
  have j94 : ∀ (ls : Array Slot) (H : Heap) (locs : List Loc) (u : gU), lv_has ls 2 [(0, .ref q0)] → va_P D cls (wRea cI q0 q1 u) H → va_S (ad [q0, q1]) s.heap H locs → J_Rea_readBit_94 u = some (.inr (r, v)) → W p l e ({ frames := 0, cells := 0, slots := 0, locals := 0 }) s m [.ref q0].toArray below meth c H locs 0 0 (MQ below (va_Qi (fun x (_ : Unit) => x = r) (fun _ t => va_P D cls (wRea cI q0 q1 v) t.heap) (ad [q0, q1])) [.ref q0].toArray s 0 0 (ad [q0, q1])) (F0 m 94 ls []) := by
    intro ls H locs u hl hP hS hf
    unfold J_Rea_readBit_94 at hf
    refine lv_aload_n hx hb d_Rea_readBit_94 rfl (lv_at hl 0 rfl) ?_
    refine lv_dup hx hb d_Rea_readBit_95 rfl ?_
    refine va_get (D := D) (ci := 6) (v := .int (u 0 2)) (C := R_Rea) (T := F_Rea) (N := 4) hx hb hw in_Rea hown hK hP 0 rfl rfl 3 (by decide) (hw _ m_611) (fun _ h9 => h9) rfl d_Rea_readBit_96 ?_
    refine lv_iconst (v := 1) hx hb d_Rea_readBit_99 (by decide) ?_
    refine lv_isub hx hb d_Rea_readBit_100 ?_
    refine va_put (D := D) (ci := 6) (v := .int ((u 0 2) - 1)) (ty := .int) (C := R_Rea) (T := F_Rea) (N := 4) hx hb hw in_Rea t_Rea t_Rea_ok n_Rea hown hK hP (hD _) hS 0 rfl rfl 3 (by decide) (hw _ m_611) (fun _ h9 => h9) rfl (by decide +kernel) rfl rfl (Nat.le_of_ble_eq_true rfl) d_Rea_readBit_101 (fun H locs hP _ hS => ?_)
    obtain ⟨u1, e_u1, hf⟩ := tk_o hf
    have hP : va_P D cls (wRea cI q0 q1 u1) H := by rw [e_u1]; exact hP
    refine lv_aload_n hx hb d_Rea_readBit_104 rfl (lv_at hl 0 rfl) ?_
    refine va_get (D := D) (ci := 6) (v := .ref q1) (C := R_Rea) (T := F_Rea) (N := 4) hx hb hw in_Rea hown hK hP 0 rfl rfl 0 (by decide) (hw _ m_607) (fun _ h9 => h9) rfl d_Rea_readBit_105 ?_
    refine lv_aload_n hx hb d_Rea_readBit_108 rfl (lv_at hl 0 rfl) ?_
    refine va_get (D := D) (ci := 6) (v := .int (u1 0 1)) (C := R_Rea) (T := F_Rea) (N := 4) hx hb hw in_Rea hown hK hP 0 rfl rfl 2 (by decide) (hw _ m_610) (fun _ h9 => h9) rfl d_Rea_readBit_109 ?_
    refine lv_iconst (v := 1) hx hb d_Rea_readBit_112 (by decide) ?_
    refine lv_isub hx hb d_Rea_readBit_113 ?_
    obtain ⟨h2, hf⟩ := gd_o hf
    refine va_iald hx hb hK hP 1 0 rfl rfl (ix_in h2) d_Rea_readBit_114 ?_
    refine lv_aload_n hx hb d_Rea_readBit_115 rfl (lv_at hl 0 rfl) ?_
    refine va_get (D := D) (ci := 6) (v := .int (u1 0 2)) (C := R_Rea) (T := F_Rea) (N := 4) hx hb hw in_Rea hown hK hP 0 rfl rfl 3 (by decide) (hw _ m_611) (fun _ h9 => h9) rfl d_Rea_readBit_116 ?_
    refine lv_ishr hx hb d_Rea_readBit_119 ?_
    refine lv_iconst (v := 1) hx hb d_Rea_readBit_120 (by decide) ?_
    refine lv_iand hx hb d_Rea_readBit_121 ?_
    refine lv_topi (fun x3 e_x3 => ?_)
    have hf := tk_e hf e_x3
    exact rt_i (wRea cI q0 q1) hx hb hr hlocks hS hP (sr hf) d_Rea_readBit_122
  have j81 : ∀ (ls : Array Slot) (H : Heap) (locs : List Loc) (s1 : Int32) (u : gU), lv_has ls 2 [(0, .ref q0)] → va_P D cls (wRea cI q0 q1 u) H → va_S (ad [q0, q1]) s.heap H locs → J_Rea_readBit_81 s1 u = some (.inr (r, v)) → W p l e ({ frames := 0, cells := 0, slots := 0, locals := 0 }) s m [.ref q0].toArray below meth c H locs 0 0 (MQ below (va_Qi (fun x (_ : Unit) => x = r) (fun _ t => va_P D cls (wRea cI q0 q1 v) t.heap) (ad [q0, q1])) [.ref q0].toArray s 0 0 (ad [q0, q1])) (F0 m 81 ls [.int s1, .ref q0]) := by
    intro ls H locs s1 u hl hP hS hf
    unfold J_Rea_readBit_81 at hf
    refine va_put (D := D) (ci := 6) (v := .int s1) (ty := .int) (C := R_Rea) (T := F_Rea) (N := 4) hx hb hw in_Rea t_Rea t_Rea_ok n_Rea hown hK hP (hD _) hS 0 rfl rfl 3 (by decide) (hw _ m_611) (fun _ h9 => h9) rfl (by decide +kernel) rfl rfl (Nat.le_of_ble_eq_true rfl) d_Rea_readBit_81 (fun H locs hP _ hS => ?_)
    obtain ⟨u1, e_u1, hf⟩ := tk_o hf
    have hP : va_P D cls (wRea cI q0 q1 u1) H := by rw [e_u1]; exact hP
    refine lv_aload_n hx hb d_Rea_readBit_84 rfl (lv_at hl 0 rfl) ?_
    refine lv_dup hx hb d_Rea_readBit_85 rfl ?_
    refine va_get (D := D) (ci := 6) (v := .int (u1 0 1)) (C := R_Rea) (T := F_Rea) (N := 4) hx hb hw in_Rea hown hK hP 0 rfl rfl 2 (by decide) (hw _ m_610) (fun _ h9 => h9) rfl d_Rea_readBit_86 ?_
    refine lv_iconst (v := 1) hx hb d_Rea_readBit_89 (by decide) ?_
    refine lv_iadd hx hb d_Rea_readBit_90 ?_
    refine va_put (D := D) (ci := 6) (v := .int ((u1 0 1) + 1)) (ty := .int) (C := R_Rea) (T := F_Rea) (N := 4) hx hb hw in_Rea t_Rea t_Rea_ok n_Rea hown hK hP (hD _) hS 0 rfl rfl 2 (by decide) (hw _ m_610) (fun _ h9 => h9) rfl (by decide +kernel) rfl rfl (Nat.le_of_ble_eq_true rfl) d_Rea_readBit_91 (fun H locs hP _ hS => ?_)
    obtain ⟨u2, e_u2, hf⟩ := tk_o hf
    have hP : va_P D cls (wRea cI q0 q1 u2) H := by rw [e_u2]; exact hP
    exact j94 _ _ _  u2 (lv_sub hl [0] rfl) hP hS hf
  have j69 : ∀ (ls : Array Slot) (H : Heap) (locs : List Loc) (l1 : Int32) (u : gU), lv_has ls 2 [(0, .ref q0), (1, .int l1)] → va_P D cls (wRea cI q0 q1 u) H → va_S (ad [q0, q1]) s.heap H locs → J_Rea_readBit_69 l1 u = some (.inr (r, v)) → W p l e ({ frames := 0, cells := 0, slots := 0, locals := 0 }) s m [.ref q0].toArray below meth c H locs 0 0 (MQ below (va_Qi (fun x (_ : Unit) => x = r) (fun _ t => va_P D cls (wRea cI q0 q1 v) t.heap) (ad [q0, q1])) [.ref q0].toArray s 0 0 (ad [q0, q1])) (F0 m 69 ls []) := by
    intro ls H locs l1 u hl hP hS hf
    unfold J_Rea_readBit_69 at hf
    refine lv_aload_n hx hb d_Rea_readBit_69 rfl (lv_at hl 0 rfl) ?_
    refine lv_iload_n hx hb d_Rea_readBit_70 rfl (lv_at hl 1 rfl) ?_
    refine lv_if_eq (tgt := 79) hx hb d_Rea_readBit_71 (by decide) (fun hc => ?_) (fun hc => ?_)
    · have hf := bq_t hf hc
      refine lv_bipush (v := 8) hx hb d_Rea_readBit_79 (by decide) ?_
      exact j81 _ _ _ 8 u (lv_sub hl [0] rfl) hP hS hf
    have hf := bq_n hf hc
    refine lv_bipush (v := 7) hx hb d_Rea_readBit_74 (by decide) ?_
    refine lv_goto (tgt := 81) hx hb d_Rea_readBit_76 (by decide) ?_
    exact j81 _ _ _ 7 u (lv_sub hl [0] rfl) hP hS hf
  have j59 : ∀ (ls : Array Slot) (H : Heap) (locs : List Loc) (u : gU), lv_has ls 2 [] → va_P D cls (wRea cI q0 q1 u) H → va_S (ad [q0, q1]) s.heap H locs → J_Rea_readBit_59 u = some (.inr (r, v)) → W p l e ({ frames := 0, cells := 0, slots := 0, locals := 0 }) s m [.ref q0].toArray below meth c H locs 0 0 (MQ below (va_Qi (fun x (_ : Unit) => x = r) (fun _ t => va_P D cls (wRea cI q0 q1 v) t.heap) (ad [q0, q1])) [.ref q0].toArray s 0 0 (ad [q0, q1])) (F0 m 59 ls []) := by
    intro ls H locs u hl hP hS hf
    unfold J_Rea_readBit_59 at hf
    exact xo hf
  have j29 : ∀ (ls : Array Slot) (H : Heap) (locs : List Loc) (s0 : Int32) (u : gU), lv_has ls 2 [(0, .ref q0)] → va_P D cls (wRea cI q0 q1 u) H → va_S (ad [q0, q1]) s.heap H locs → J_Rea_readBit_29 s0 u = some (.inr (r, v)) → W p l e ({ frames := 0, cells := 0, slots := 0, locals := 0 }) s m [.ref q0].toArray below meth c H locs 0 0 (MQ below (va_Qi (fun x (_ : Unit) => x = r) (fun _ t => va_P D cls (wRea cI q0 q1 v) t.heap) (ad [q0, q1])) [.ref q0].toArray s 0 0 (ad [q0, q1])) (F0 m 29 ls [.int s0]) := by
    intro ls H locs s0 u hl hP hS hf
    unfold J_Rea_readBit_29 at hf
    refine lv_istore_n (lv' := [(1, .int s0), (0, .ref q0)]) hx hb d_Rea_readBit_29 rfl hl (by decide) rfl (fun ls hl => ?_)
    refine lv_aload_n hx hb d_Rea_readBit_30 rfl (lv_at hl 1 rfl) ?_
    refine va_get (D := D) (ci := 6) (v := .int (u 0 1)) (C := R_Rea) (T := F_Rea) (N := 4) hx hb hw in_Rea hown hK hP 0 rfl rfl 2 (by decide) (hw _ m_610) (fun _ h9 => h9) rfl d_Rea_readBit_31 ?_
    refine lv_aload_n hx hb d_Rea_readBit_34 rfl (lv_at hl 1 rfl) ?_
    refine va_get (D := D) (ci := 6) (v := .int (u 0 0)) (C := R_Rea) (T := F_Rea) (N := 4) hx hb hw in_Rea hown hK hP 0 rfl rfl 1 (by decide) (hw _ m_609) (fun _ h9 => h9) rfl d_Rea_readBit_35 ?_
    refine lv_icmp_ge (tgt := 59) hx hb d_Rea_readBit_38 (by decide) (fun hc => ?_) (fun hc => ?_)
    · have hf := bq_t hf hc
      exact j59 _ _ _  u (lv_sub hl [] rfl) hP hS hf
    have hf := bq_n hf hc
    refine lv_iload_n hx hb d_Rea_readBit_41 rfl (lv_at hl 0 rfl) ?_
    refine lv_if_eq (tgt := 69) hx hb d_Rea_readBit_42 (by decide) (fun hc => ?_) (fun hc => ?_)
    · have hf := bq_t hf hc
      exact j69 _ _ _ s0 u (lv_sub hl [1, 0] rfl) hP hS hf
    have hf := bq_n hf hc
    refine lv_aload_n hx hb d_Rea_readBit_45 rfl (lv_at hl 1 rfl) ?_
    refine va_get (D := D) (ci := 6) (v := .ref q1) (C := R_Rea) (T := F_Rea) (N := 4) hx hb hw in_Rea hown hK hP 0 rfl rfl 0 (by decide) (hw _ m_607) (fun _ h9 => h9) rfl d_Rea_readBit_46 ?_
    refine lv_aload_n hx hb d_Rea_readBit_49 rfl (lv_at hl 1 rfl) ?_
    refine va_get (D := D) (ci := 6) (v := .int (u 0 1)) (C := R_Rea) (T := F_Rea) (N := 4) hx hb hw in_Rea hown hK hP 0 rfl rfl 2 (by decide) (hw _ m_610) (fun _ h9 => h9) rfl d_Rea_readBit_50 ?_
    obtain ⟨h1, hf⟩ := gd_o hf
    refine va_iald hx hb hK hP 1 0 rfl rfl (ix_in h1) d_Rea_readBit_53 ?_
    refine lv_bipush (v := 127) hx hb d_Rea_readBit_54 (by decide) ?_
    refine lv_icmp_le (tgt := 69) hx hb d_Rea_readBit_56 (by decide) (fun hc => ?_) (fun hc => ?_)
    · have hf := bq_t hf hc
      exact j69 _ _ _ s0 u (lv_sub hl [1, 0] rfl) hP hS hf
    have hf := bq_n hf hc
    exact j59 _ _ _  u (lv_sub hl [] rfl) hP hS hf
  unfold f_Rea_readBit at hf
  refine lv_aload_n hx hb d_Rea_readBit_0 rfl (lv_at hl 0 rfl) ?_
  refine va_get (D := D) (ci := 6) (v := .int (u 0 2)) (C := R_Rea) (T := F_Rea) (N := 4) hx hb hw in_Rea hown hK hP 0 rfl rfl 3 (by decide) (hw _ m_611) (fun _ h9 => h9) rfl d_Rea_readBit_1 ?_
  refine lv_if_ne (tgt := 94) hx hb d_Rea_readBit_4 (by decide) (fun hc => ?_) (fun hc => ?_)
  · have hf := bq_n hf hc
    exact j94 _ _ _  u (lv_sub hl [0] rfl) hP hS hf
  have hf := bq_t hf hc
  refine lv_aload_n hx hb d_Rea_readBit_7 rfl (lv_at hl 0 rfl) ?_
  refine va_get (D := D) (ci := 6) (v := .ref q1) (C := R_Rea) (T := F_Rea) (N := 4) hx hb hw in_Rea hown hK hP 0 rfl rfl 0 (by decide) (hw _ m_607) (fun _ h9 => h9) rfl d_Rea_readBit_8 ?_
  refine lv_aload_n hx hb d_Rea_readBit_11 rfl (lv_at hl 0 rfl) ?_
  refine va_get (D := D) (ci := 6) (v := .int (u 0 1)) (C := R_Rea) (T := F_Rea) (N := 4) hx hb hw in_Rea hown hK hP 0 rfl rfl 2 (by decide) (hw _ m_610) (fun _ h9 => h9) rfl d_Rea_readBit_12 ?_
  refine lv_iconst (v := 1) hx hb d_Rea_readBit_15 (by decide) ?_
  refine lv_isub hx hb d_Rea_readBit_16 ?_
  obtain ⟨h1, hf⟩ := gd_o hf
  refine va_iald hx hb hK hP 1 0 rfl rfl (ix_in h1) d_Rea_readBit_17 ?_
  refine lv_sipush (v := 255) hx hb d_Rea_readBit_18 (by decide) ?_
  refine lv_icmp_ne (tgt := 28) hx hb d_Rea_readBit_21 (by decide) (fun hc => ?_) (fun hc => ?_)
  · have hf := bq_n hf hc
    refine lv_iconst (v := 0) hx hb d_Rea_readBit_28 (by decide) ?_
    exact j29 _ _ _ 0 u (lv_sub hl [0] rfl) hP hS hf
  have hf := bq_t hf hc
  refine lv_iconst (v := 1) hx hb d_Rea_readBit_24 (by decide) ?_
  refine lv_goto (tgt := 29) hx hb d_Rea_readBit_25 (by decide) ?_
  exact j29 _ _ _ 1 u (lv_sub hl [0] rfl) hP hS hf
set_option maxHeartbeats 4000000 in
set_option maxRecDepth 100000 in
theorem x_Rea_readBit (l : Launch) (hfl : l.flags = pinnedFlags ++ [noTraceFlag]) (D : va_G) (cI : ClassId) (tJ : Nat) (q0 : Nat) (q1 : Nat) (hd : dj [q0, q1]) (u : gU) (v : gU) (hf : f_Rea_readBit u = some (.inl v)) : MetX l y_Rea_readBit (.code y_Rea_readBit b_Rea_readBit 2 (some .int) :: TS) ({ frames := 6, cells := 1, slots := 6, locals := 108 }) (va_Pc [.ref q0] (fun U => va_P D cls (wRea cI q0 q1 u) U.heap ∧ va_K D cls [(cI, .int)] U ∧ Jt tJ (ad [q0, q1]) U ∧ Xt (ad [q0, q1]) U)) D cls (wRea cI q0 q1 v) (ad [q0, q1]) := by
  refine ct_ofX hfl (by decide +kernel) (Nat.le_of_ble_eq_true rfl) ?_
  intro p e s m below meth c ls hx hb hml hr hlocks hown hw hP hK hJ hl hX htr hout
  have hS : va_S (ad [q0, q1]) s.heap s.heap [] := va_S.rf
  have hD : ∀ v, va_D (ad [q0, q1]) (wRea cI q0 q1 v) := fun _ => dj_D rfl hd
  have hl : lv_has ls 2 [(0, .ref q0)] := hl
  have hP : va_P D cls (wRea cI q0 q1 u) s.heap := hP
  have j94 : ∀ (ls : Array Slot) (H : Heap) (locs : List Loc) (u : gU), lv_has ls 2 [(0, .ref q0)] → va_P D cls (wRea cI q0 q1 u) H → va_S (ad [q0, q1]) s.heap H locs → J_Rea_readBit_94 u = some (.inl v) → W p l e ({ frames := 6, cells := 1, slots := 6, locals := 108 }) s m [.ref q0].toArray below meth c H locs 0 0 (MQX below D cls (wRea cI q0 q1 v) (ad [q0, q1]) [.ref q0].toArray s) (F0 m 94 ls []) := by
    intro ls H locs u hl hP hS hf
    unfold J_Rea_readBit_94 at hf
    refine lv_aload_n hx hb d_Rea_readBit_94 rfl (lv_at hl 0 rfl) ?_
    refine lv_dup hx hb d_Rea_readBit_95 rfl ?_
    refine va_get (D := D) (ci := 6) (v := .int (u 0 2)) (C := R_Rea) (T := F_Rea) (N := 4) hx hb hw in_Rea hown hK hP 0 rfl rfl 3 (by decide) (hw _ m_611) (fun _ h9 => h9) rfl d_Rea_readBit_96 ?_
    refine lv_iconst (v := 1) hx hb d_Rea_readBit_99 (by decide) ?_
    refine lv_isub hx hb d_Rea_readBit_100 ?_
    refine va_put (D := D) (ci := 6) (v := .int ((u 0 2) - 1)) (ty := .int) (C := R_Rea) (T := F_Rea) (N := 4) hx hb hw in_Rea t_Rea t_Rea_ok n_Rea hown hK hP (hD _) hS 0 rfl rfl 3 (by decide) (hw _ m_611) (fun _ h9 => h9) rfl (by decide +kernel) rfl rfl (Nat.le_of_ble_eq_true rfl) d_Rea_readBit_101 (fun H locs hP _ hS => ?_)
    obtain ⟨u1, e_u1, hf⟩ := tk_o hf
    have hP : va_P D cls (wRea cI q0 q1 u1) H := by rw [e_u1]; exact hP
    refine lv_aload_n hx hb d_Rea_readBit_104 rfl (lv_at hl 0 rfl) ?_
    refine va_get (D := D) (ci := 6) (v := .ref q1) (C := R_Rea) (T := F_Rea) (N := 4) hx hb hw in_Rea hown hK hP 0 rfl rfl 0 (by decide) (hw _ m_607) (fun _ h9 => h9) rfl d_Rea_readBit_105 ?_
    refine lv_aload_n hx hb d_Rea_readBit_108 rfl (lv_at hl 0 rfl) ?_
    refine va_get (D := D) (ci := 6) (v := .int (u1 0 1)) (C := R_Rea) (T := F_Rea) (N := 4) hx hb hw in_Rea hown hK hP 0 rfl rfl 2 (by decide) (hw _ m_610) (fun _ h9 => h9) rfl d_Rea_readBit_109 ?_
    refine lv_iconst (v := 1) hx hb d_Rea_readBit_112 (by decide) ?_
    refine lv_isub hx hb d_Rea_readBit_113 ?_
    obtain ⟨h2, hf⟩ := gd_o hf
    refine va_iald hx hb hK hP 1 0 rfl rfl (ix_in h2) d_Rea_readBit_114 ?_
    refine lv_aload_n hx hb d_Rea_readBit_115 rfl (lv_at hl 0 rfl) ?_
    refine va_get (D := D) (ci := 6) (v := .int (u1 0 2)) (C := R_Rea) (T := F_Rea) (N := 4) hx hb hw in_Rea hown hK hP 0 rfl rfl 3 (by decide) (hw _ m_611) (fun _ h9 => h9) rfl d_Rea_readBit_116 ?_
    refine lv_ishr hx hb d_Rea_readBit_119 ?_
    refine lv_iconst (v := 1) hx hb d_Rea_readBit_120 (by decide) ?_
    refine lv_iand hx hb d_Rea_readBit_121 ?_
    refine lv_topi (fun x3 e_x3 => ?_)
    have hf := tk_e hf e_x3
    exact ox hf
  have j81 : ∀ (ls : Array Slot) (H : Heap) (locs : List Loc) (s1 : Int32) (u : gU), lv_has ls 2 [(0, .ref q0)] → va_P D cls (wRea cI q0 q1 u) H → va_S (ad [q0, q1]) s.heap H locs → J_Rea_readBit_81 s1 u = some (.inl v) → W p l e ({ frames := 6, cells := 1, slots := 6, locals := 108 }) s m [.ref q0].toArray below meth c H locs 0 0 (MQX below D cls (wRea cI q0 q1 v) (ad [q0, q1]) [.ref q0].toArray s) (F0 m 81 ls [.int s1, .ref q0]) := by
    intro ls H locs s1 u hl hP hS hf
    unfold J_Rea_readBit_81 at hf
    refine va_put (D := D) (ci := 6) (v := .int s1) (ty := .int) (C := R_Rea) (T := F_Rea) (N := 4) hx hb hw in_Rea t_Rea t_Rea_ok n_Rea hown hK hP (hD _) hS 0 rfl rfl 3 (by decide) (hw _ m_611) (fun _ h9 => h9) rfl (by decide +kernel) rfl rfl (Nat.le_of_ble_eq_true rfl) d_Rea_readBit_81 (fun H locs hP _ hS => ?_)
    obtain ⟨u1, e_u1, hf⟩ := tk_o hf
    have hP : va_P D cls (wRea cI q0 q1 u1) H := by rw [e_u1]; exact hP
    refine lv_aload_n hx hb d_Rea_readBit_84 rfl (lv_at hl 0 rfl) ?_
    refine lv_dup hx hb d_Rea_readBit_85 rfl ?_
    refine va_get (D := D) (ci := 6) (v := .int (u1 0 1)) (C := R_Rea) (T := F_Rea) (N := 4) hx hb hw in_Rea hown hK hP 0 rfl rfl 2 (by decide) (hw _ m_610) (fun _ h9 => h9) rfl d_Rea_readBit_86 ?_
    refine lv_iconst (v := 1) hx hb d_Rea_readBit_89 (by decide) ?_
    refine lv_iadd hx hb d_Rea_readBit_90 ?_
    refine va_put (D := D) (ci := 6) (v := .int ((u1 0 1) + 1)) (ty := .int) (C := R_Rea) (T := F_Rea) (N := 4) hx hb hw in_Rea t_Rea t_Rea_ok n_Rea hown hK hP (hD _) hS 0 rfl rfl 2 (by decide) (hw _ m_610) (fun _ h9 => h9) rfl (by decide +kernel) rfl rfl (Nat.le_of_ble_eq_true rfl) d_Rea_readBit_91 (fun H locs hP _ hS => ?_)
    obtain ⟨u2, e_u2, hf⟩ := tk_o hf
    have hP : va_P D cls (wRea cI q0 q1 u2) H := by rw [e_u2]; exact hP
    exact j94 _ _ _  u2 (lv_sub hl [0] rfl) hP hS hf
  have j69 : ∀ (ls : Array Slot) (H : Heap) (locs : List Loc) (l1 : Int32) (u : gU), lv_has ls 2 [(0, .ref q0), (1, .int l1)] → va_P D cls (wRea cI q0 q1 u) H → va_S (ad [q0, q1]) s.heap H locs → J_Rea_readBit_69 l1 u = some (.inl v) → W p l e ({ frames := 6, cells := 1, slots := 6, locals := 108 }) s m [.ref q0].toArray below meth c H locs 0 0 (MQX below D cls (wRea cI q0 q1 v) (ad [q0, q1]) [.ref q0].toArray s) (F0 m 69 ls []) := by
    intro ls H locs l1 u hl hP hS hf
    unfold J_Rea_readBit_69 at hf
    refine lv_aload_n hx hb d_Rea_readBit_69 rfl (lv_at hl 0 rfl) ?_
    refine lv_iload_n hx hb d_Rea_readBit_70 rfl (lv_at hl 1 rfl) ?_
    refine lv_if_eq (tgt := 79) hx hb d_Rea_readBit_71 (by decide) (fun hc => ?_) (fun hc => ?_)
    · have hf := bq_t hf hc
      refine lv_bipush (v := 8) hx hb d_Rea_readBit_79 (by decide) ?_
      exact j81 _ _ _ 8 u (lv_sub hl [0] rfl) hP hS hf
    have hf := bq_n hf hc
    refine lv_bipush (v := 7) hx hb d_Rea_readBit_74 (by decide) ?_
    refine lv_goto (tgt := 81) hx hb d_Rea_readBit_76 (by decide) ?_
    exact j81 _ _ _ 7 u (lv_sub hl [0] rfl) hP hS hf
  have j59 : ∀ (ls : Array Slot) (H : Heap) (locs : List Loc) (u : gU), lv_has ls 2 [] → va_P D cls (wRea cI q0 q1 u) H → va_S (ad [q0, q1]) s.heap H locs → J_Rea_readBit_59 u = some (.inl v) → W p l e ({ frames := 6, cells := 1, slots := 6, locals := 108 }) s m [.ref q0].toArray below meth c H locs 0 0 (MQX below D cls (wRea cI q0 q1 v) (ad [q0, q1]) [.ref q0].toArray s) (F0 m 59 ls []) := by
    intro ls H locs u hl hP hS hf
    unfold J_Rea_readBit_59 at hf
    exact thr_new (own := R_Rea) (tx := "there are no more bits") hx hb hml hl.1 hlocks htr hown hw hX hS (by rw [← sl hf]; exact hP) m_612 m_613 m_614 m_615 (List.mem_of_getElem? (i := 0) rfl) hout (Nat.le_of_ble_eq_true rfl) (Nat.le_of_ble_eq_true rfl) (Nat.le_of_ble_eq_true rfl) (Nat.le_of_ble_eq_true rfl) d_Rea_readBit_59 d_Rea_readBit_62 d_Rea_readBit_63 d_Rea_readBit_65 d_Rea_readBit_68
  have j29 : ∀ (ls : Array Slot) (H : Heap) (locs : List Loc) (s0 : Int32) (u : gU), lv_has ls 2 [(0, .ref q0)] → va_P D cls (wRea cI q0 q1 u) H → va_S (ad [q0, q1]) s.heap H locs → J_Rea_readBit_29 s0 u = some (.inl v) → W p l e ({ frames := 6, cells := 1, slots := 6, locals := 108 }) s m [.ref q0].toArray below meth c H locs 0 0 (MQX below D cls (wRea cI q0 q1 v) (ad [q0, q1]) [.ref q0].toArray s) (F0 m 29 ls [.int s0]) := by
    intro ls H locs s0 u hl hP hS hf
    unfold J_Rea_readBit_29 at hf
    refine lv_istore_n (lv' := [(1, .int s0), (0, .ref q0)]) hx hb d_Rea_readBit_29 rfl hl (by decide) rfl (fun ls hl => ?_)
    refine lv_aload_n hx hb d_Rea_readBit_30 rfl (lv_at hl 1 rfl) ?_
    refine va_get (D := D) (ci := 6) (v := .int (u 0 1)) (C := R_Rea) (T := F_Rea) (N := 4) hx hb hw in_Rea hown hK hP 0 rfl rfl 2 (by decide) (hw _ m_610) (fun _ h9 => h9) rfl d_Rea_readBit_31 ?_
    refine lv_aload_n hx hb d_Rea_readBit_34 rfl (lv_at hl 1 rfl) ?_
    refine va_get (D := D) (ci := 6) (v := .int (u 0 0)) (C := R_Rea) (T := F_Rea) (N := 4) hx hb hw in_Rea hown hK hP 0 rfl rfl 1 (by decide) (hw _ m_609) (fun _ h9 => h9) rfl d_Rea_readBit_35 ?_
    refine lv_icmp_ge (tgt := 59) hx hb d_Rea_readBit_38 (by decide) (fun hc => ?_) (fun hc => ?_)
    · have hf := bq_t hf hc
      exact j59 _ _ _  u (lv_sub hl [] rfl) hP hS hf
    have hf := bq_n hf hc
    refine lv_iload_n hx hb d_Rea_readBit_41 rfl (lv_at hl 0 rfl) ?_
    refine lv_if_eq (tgt := 69) hx hb d_Rea_readBit_42 (by decide) (fun hc => ?_) (fun hc => ?_)
    · have hf := bq_t hf hc
      exact j69 _ _ _ s0 u (lv_sub hl [1, 0] rfl) hP hS hf
    have hf := bq_n hf hc
    refine lv_aload_n hx hb d_Rea_readBit_45 rfl (lv_at hl 1 rfl) ?_
    refine va_get (D := D) (ci := 6) (v := .ref q1) (C := R_Rea) (T := F_Rea) (N := 4) hx hb hw in_Rea hown hK hP 0 rfl rfl 0 (by decide) (hw _ m_607) (fun _ h9 => h9) rfl d_Rea_readBit_46 ?_
    refine lv_aload_n hx hb d_Rea_readBit_49 rfl (lv_at hl 1 rfl) ?_
    refine va_get (D := D) (ci := 6) (v := .int (u 0 1)) (C := R_Rea) (T := F_Rea) (N := 4) hx hb hw in_Rea hown hK hP 0 rfl rfl 2 (by decide) (hw _ m_610) (fun _ h9 => h9) rfl d_Rea_readBit_50 ?_
    obtain ⟨h1, hf⟩ := gd_o hf
    refine va_iald hx hb hK hP 1 0 rfl rfl (ix_in h1) d_Rea_readBit_53 ?_
    refine lv_bipush (v := 127) hx hb d_Rea_readBit_54 (by decide) ?_
    refine lv_icmp_le (tgt := 69) hx hb d_Rea_readBit_56 (by decide) (fun hc => ?_) (fun hc => ?_)
    · have hf := bq_t hf hc
      exact j69 _ _ _ s0 u (lv_sub hl [1, 0] rfl) hP hS hf
    have hf := bq_n hf hc
    exact j59 _ _ _  u (lv_sub hl [] rfl) hP hS hf
  unfold f_Rea_readBit at hf
  refine lv_aload_n hx hb d_Rea_readBit_0 rfl (lv_at hl 0 rfl) ?_
  refine va_get (D := D) (ci := 6) (v := .int (u 0 2)) (C := R_Rea) (T := F_Rea) (N := 4) hx hb hw in_Rea hown hK hP 0 rfl rfl 3 (by decide) (hw _ m_611) (fun _ h9 => h9) rfl d_Rea_readBit_1 ?_
  refine lv_if_ne (tgt := 94) hx hb d_Rea_readBit_4 (by decide) (fun hc => ?_) (fun hc => ?_)
  · have hf := bq_n hf hc
    exact j94 _ _ _  u (lv_sub hl [0] rfl) hP hS hf
  have hf := bq_t hf hc
  refine lv_aload_n hx hb d_Rea_readBit_7 rfl (lv_at hl 0 rfl) ?_
  refine va_get (D := D) (ci := 6) (v := .ref q1) (C := R_Rea) (T := F_Rea) (N := 4) hx hb hw in_Rea hown hK hP 0 rfl rfl 0 (by decide) (hw _ m_607) (fun _ h9 => h9) rfl d_Rea_readBit_8 ?_
  refine lv_aload_n hx hb d_Rea_readBit_11 rfl (lv_at hl 0 rfl) ?_
  refine va_get (D := D) (ci := 6) (v := .int (u 0 1)) (C := R_Rea) (T := F_Rea) (N := 4) hx hb hw in_Rea hown hK hP 0 rfl rfl 2 (by decide) (hw _ m_610) (fun _ h9 => h9) rfl d_Rea_readBit_12 ?_
  refine lv_iconst (v := 1) hx hb d_Rea_readBit_15 (by decide) ?_
  refine lv_isub hx hb d_Rea_readBit_16 ?_
  obtain ⟨h1, hf⟩ := gd_o hf
  refine va_iald hx hb hK hP 1 0 rfl rfl (ix_in h1) d_Rea_readBit_17 ?_
  refine lv_sipush (v := 255) hx hb d_Rea_readBit_18 (by decide) ?_
  refine lv_icmp_ne (tgt := 28) hx hb d_Rea_readBit_21 (by decide) (fun hc => ?_) (fun hc => ?_)
  · have hf := bq_n hf hc
    refine lv_iconst (v := 0) hx hb d_Rea_readBit_28 (by decide) ?_
    exact j29 _ _ _ 0 u (lv_sub hl [0] rfl) hP hS hf
  have hf := bq_t hf hc
  refine lv_iconst (v := 1) hx hb d_Rea_readBit_24 (by decide) ?_
  refine lv_goto (tgt := 29) hx hb d_Rea_readBit_25 (by decide) ?_
  exact j29 _ _ _ 1 u (lv_sub hl [0] rfl) hP hS hf
def L_Rea_readBits_4 : Nat → Int32 → Int32 → Int32 → gU → Option (gU ⊕ (Int32 × gU))
  | 0, _, _, _, _ => none
  | n + 1, l1, l2, l3, u => bq (l1 ≤ l3) (some (.inr (l2, u))) (bd (f_Rea_readBit u) fun w1 => bx w1 (fun v2 => some (.inl (v2))) fun w3 => tk (w3.2) fun u4 => tk ((2 * l2) + w3.1) fun x5 => tk (l3 + 1) fun x6 => (L_Rea_readBits_4 n) l1 x5 x6 u4)
theorem L_Rea_readBits_4_z (l1 : Int32) (l2 : Int32) (l3 : Int32) (u : gU) : L_Rea_readBits_4 0 l1 l2 l3 u = none := rfl
theorem L_Rea_readBits_4_s (n : Nat) (l1 : Int32) (l2 : Int32) (l3 : Int32) (u : gU) : L_Rea_readBits_4 (n + 1) l1 l2 l3 u = bq (l1 ≤ l3) (some (.inr (l2, u))) (bd (f_Rea_readBit u) fun w1 => bx w1 (fun v2 => some (.inl (v2))) fun w3 => tk (w3.2) fun u4 => tk ((2 * l2) + w3.1) fun x5 => tk (l3 + 1) fun x6 => (L_Rea_readBits_4 n) l1 x5 x6 u4) := rfl
def f_Rea_readBits (a1 : Int32) (u : gU) : Option (gU ⊕ (Int32 × gU)) := L_Rea_readBits_4 100 a1 0 0 u
set_option maxHeartbeats 4000000 in
set_option maxRecDepth 100000 in
theorem c_Rea_readBits (l : Launch) (D : va_G) (cI : ClassId) (q0 : Nat) (q1 : Nat) (hd : dj [q0, q1]) (a1 : Int32) (u : gU) (r : Int32) (v : gU) (hf : f_Rea_readBits a1 u = some (.inr (r, v))) : Met l y_Rea_readBits (.code y_Rea_readBits b_Rea_readBits 4 (some .int) :: TS) ({ frames := 1, cells := 0, slots := 0, locals := 21 }) (va_Pc [.ref q0, .int a1] (fun U => va_P D cls (wRea cI q0 q1 u) U.heap ∧ va_K D cls [(cI, .int)] U)) (va_Qi (fun x (_ : Unit) => x = r) (fun _ t => va_P D cls (wRea cI q0 q1 v) t.heap) (ad [q0, q1])) 0 0 (ad [q0, q1]) := by
  refine ct_of (by decide +kernel) (Nat.le_of_ble_eq_true rfl) ?_
  intro p e s m below meth c ls hx hb hml hr hlocks hown hw hP hK hl
  have hS : va_S (ad [q0, q1]) s.heap s.heap [] := va_S.rf
  have hD : ∀ v, va_D (ad [q0, q1]) (wRea cI q0 q1 v) := fun _ => dj_D rfl hd
  have hl : lv_has ls 4 [(0, .ref q0), (1, .int a1)] := hl
  have hP : va_P D cls (wRea cI q0 q1 u) s.heap := hP
  have lp4 : ∀ (n4 : Nat), ∀ (ls : Array Slot) (H : Heap) (locs : List Loc) (l1 : Int32) (l2 : Int32) (l3 : Int32) (u : gU), lv_has ls 4 [(0, .ref q0), (1, .int l1), (2, .int l2), (3, .int l3)] → va_P D cls (wRea cI q0 q1 u) H → va_S (ad [q0, q1]) s.heap H locs → L_Rea_readBits_4 n4 l1 l2 l3 u = some (.inr (r, v)) → W p l e ({ frames := 1, cells := 0, slots := 0, locals := 21 }) s m [.ref q0, .int a1].toArray below meth c H locs 0 0 (MQ below (va_Qi (fun x (_ : Unit) => x = r) (fun _ t => va_P D cls (wRea cI q0 q1 v) t.heap) (ad [q0, q1])) [.ref q0, .int a1].toArray s 0 0 (ad [q0, q1])) (F0 m 4 ls []) := by
    intro n4
    induction n4 with
    | zero =>
      intro ls H locs l1 l2 l3 u hl hP hS hf
      rw [L_Rea_readBits_4_z] at hf
      cases hf
    | succ n4 ih4 =>
      intro ls H locs l1 l2 l3 u hl hP hS hf
      rw [L_Rea_readBits_4_s] at hf
      refine lv_iload_n hx hb d_Rea_readBits_4 rfl (lv_at hl 3 rfl) ?_
      refine lv_iload_n hx hb d_Rea_readBits_5 rfl (lv_at hl 1 rfl) ?_
      refine lv_icmp_ge (tgt := 24) hx hb d_Rea_readBits_6 (by decide) (fun hc => ?_) (fun hc => ?_)
      · have hf := bq_t hf hc
        refine lv_iload_n hx hb d_Rea_readBits_24 rfl (lv_at hl 2 rfl) ?_
        exact rt_i (wRea cI q0 q1) hx hb hr hlocks hS hP (sr hf) d_Rea_readBits_25
      have hf := bq_n hf hc
      refine lv_iconst (v := 2) hx hb d_Rea_readBits_9 (by decide) ?_
      refine lv_iload_n hx hb d_Rea_readBits_10 rfl (lv_at hl 2 rfl) ?_
      refine lv_imul hx hb d_Rea_readBits_11 ?_
      refine lv_aload_n hx hb d_Rea_readBits_12 rfl (lv_at hl 0 rfl) ?_
      have hC : [0, 1].map (fun i => (wRea cI q0 q1 u)[i]?) = (wRea cI q0 q1 u).map some := rfl
      obtain ⟨w1, hc, hf⟩ := bd_o hf
      rcases w1 with v2 | w3
      · have hf := bx_l hf
        exact xo hf
      have hf := bx_r hf
      refine rw_i (va_runV (As := []) (rest := [.int (2 * l2)]) ⟨hx, hb, hml, hown, hw⟩ (c_Rea_readBit l D cI q0 q1 (dj_sub hd [0, 1] (by decide) rfl) u w3.1 w3.2 hc) (cwV 0 hw g_103 rfl rfl rfl (by decide +kernel) ⟨Nat.le_of_ble_eq_true rfl, Nat.le_of_ble_eq_true rfl⟩) (pre_V (P_sub hC hP) hK rfl rfl) rfl rfl hl.1 rfl (lv_room (Nat.le_of_ble_eq_true rfl)) d_Rea_readBits_13 ⟨Nat.le_of_ble_eq_true rfl, Nat.le_of_ble_eq_true rfl⟩) hS hP (hD _) hC rfl rfl (fun H locs hP hS => ?_)
      obtain ⟨u4, e_u4, hf⟩ := tk_o hf
      have hP : va_P D cls (wRea cI q0 q1 u4) H := by rw [e_u4]; exact hP
      refine lv_iadd hx hb d_Rea_readBits_16 ?_
      refine lv_topi (fun x5 e_x5 => ?_)
      have hf := tk_e hf e_x5
      refine lv_istore_n (lv' := [(2, .int x5), (0, .ref q0), (1, .int l1), (3, .int l3)]) hx hb d_Rea_readBits_17 rfl hl (by decide) rfl (fun ls hl => ?_)
      obtain ⟨x6, e_x6, hf⟩ := tk_o hf
      refine lv_iinc (v := x6) (lv' := [(3, .int x6), (2, .int x5), (0, .ref q0), (1, .int l1)]) hx hb d_Rea_readBits_18 hl (k := 3) rfl e_x6.symm (by decide) rfl (fun ls hl => ?_)
      refine lv_goto (tgt := 4) hx hb d_Rea_readBits_21 (by decide) ?_
      exact ih4 _ _ _ l1 x5 x6 u4 (lv_sub hl [2, 3, 1, 0] rfl) hP hS hf
  unfold f_Rea_readBits at hf
  refine lv_iconst (v := 0) hx hb d_Rea_readBits_0 (by decide) ?_
  refine lv_istore_n (lv' := [(2, .int 0), (0, .ref q0), (1, .int a1)]) hx hb d_Rea_readBits_1 rfl hl (by decide) rfl (fun ls hl => ?_)
  refine lv_iconst (v := 0) hx hb d_Rea_readBits_2 (by decide) ?_
  refine lv_istore_n (lv' := [(3, .int 0), (2, .int 0), (0, .ref q0), (1, .int a1)]) hx hb d_Rea_readBits_3 rfl hl (by decide) rfl (fun ls hl => ?_)
  exact lp4 100 _ _ _ a1 0 0 u (lv_sub hl [2, 3, 1, 0] rfl) hP hS hf
set_option maxHeartbeats 4000000 in
set_option maxRecDepth 100000 in
theorem x_Rea_readBits (l : Launch) (hfl : l.flags = pinnedFlags ++ [noTraceFlag]) (D : va_G) (cI : ClassId) (tJ : Nat) (q0 : Nat) (q1 : Nat) (hd : dj [q0, q1]) (a1 : Int32) (u : gU) (v : gU) (hf : f_Rea_readBits a1 u = some (.inl v)) : MetX l y_Rea_readBits (.code y_Rea_readBits b_Rea_readBits 4 (some .int) :: TS) ({ frames := 7, cells := 1, slots := 6, locals := 129 }) (va_Pc [.ref q0, .int a1] (fun U => va_P D cls (wRea cI q0 q1 u) U.heap ∧ va_K D cls [(cI, .int)] U ∧ Jt tJ (ad [q0, q1]) U ∧ Xt (ad [q0, q1]) U)) D cls (wRea cI q0 q1 v) (ad [q0, q1]) := by
  refine ct_ofX hfl (by decide +kernel) (Nat.le_of_ble_eq_true rfl) ?_
  intro p e s m below meth c ls hx hb hml hr hlocks hown hw hP hK hJ hl hX htr hout
  have hS : va_S (ad [q0, q1]) s.heap s.heap [] := va_S.rf
  have hD : ∀ v, va_D (ad [q0, q1]) (wRea cI q0 q1 v) := fun _ => dj_D rfl hd
  have hl : lv_has ls 4 [(0, .ref q0), (1, .int a1)] := hl
  have hP : va_P D cls (wRea cI q0 q1 u) s.heap := hP
  have lp4 : ∀ (n4 : Nat), ∀ (ls : Array Slot) (H : Heap) (locs : List Loc) (l1 : Int32) (l2 : Int32) (l3 : Int32) (u : gU), lv_has ls 4 [(0, .ref q0), (1, .int l1), (2, .int l2), (3, .int l3)] → va_P D cls (wRea cI q0 q1 u) H → va_S (ad [q0, q1]) s.heap H locs → L_Rea_readBits_4 n4 l1 l2 l3 u = some (.inl v) → W p l e ({ frames := 7, cells := 1, slots := 6, locals := 129 }) s m [.ref q0, .int a1].toArray below meth c H locs 0 0 (MQX below D cls (wRea cI q0 q1 v) (ad [q0, q1]) [.ref q0, .int a1].toArray s) (F0 m 4 ls []) := by
    intro n4
    induction n4 with
    | zero =>
      intro ls H locs l1 l2 l3 u hl hP hS hf
      rw [L_Rea_readBits_4_z] at hf
      cases hf
    | succ n4 ih4 =>
      intro ls H locs l1 l2 l3 u hl hP hS hf
      rw [L_Rea_readBits_4_s] at hf
      refine lv_iload_n hx hb d_Rea_readBits_4 rfl (lv_at hl 3 rfl) ?_
      refine lv_iload_n hx hb d_Rea_readBits_5 rfl (lv_at hl 1 rfl) ?_
      refine lv_icmp_ge (tgt := 24) hx hb d_Rea_readBits_6 (by decide) (fun hc => ?_) (fun hc => ?_)
      · have hf := bq_t hf hc
        refine lv_iload_n hx hb d_Rea_readBits_24 rfl (lv_at hl 2 rfl) ?_
        exact ox hf
      have hf := bq_n hf hc
      refine lv_iconst (v := 2) hx hb d_Rea_readBits_9 (by decide) ?_
      refine lv_iload_n hx hb d_Rea_readBits_10 rfl (lv_at hl 2 rfl) ?_
      refine lv_imul hx hb d_Rea_readBits_11 ?_
      refine lv_aload_n hx hb d_Rea_readBits_12 rfl (lv_at hl 0 rfl) ?_
      have hC : [0, 1].map (fun i => (wRea cI q0 q1 u)[i]?) = (wRea cI q0 q1 u).map some := rfl
      obtain ⟨w1, hc, hf⟩ := bd_o hf
      rcases w1 with v2 | w3
      · have hf := bx_l hf
        exact thr_V (As := []) (rest := [.int (2 * l2)]) ⟨hx, hb, hml, hown, hw⟩ (x_Rea_readBit l hfl D cI tJ q0 q1 (dj_sub hd [0, 1] (by decide) rfl) u v2 hc) (cwV 0 hw g_103 rfl rfl rfl (by decide +kernel) ⟨Nat.le_of_ble_eq_true rfl, Nat.le_of_ble_eq_true rfl⟩) (pre_VX (P_sub hC hP) hK rfl rfl hJ hX hS (ad_sub [0, 1] rfl)) rfl hl.1 (Nat.le_of_ble_eq_true rfl) d_Rea_readBits_13 ⟨Nat.le_of_ble_eq_true rfl, Nat.le_of_ble_eq_true rfl⟩ hlocks hout hS hP (hD _) hC rfl rfl (eq_tr (f := wRea cI q0 q1) (sl hf) rfl)
      have hf := bx_r hf
      refine rw_i (va_runV (As := []) (rest := [.int (2 * l2)]) ⟨hx, hb, hml, hown, hw⟩ (c_Rea_readBit l D cI q0 q1 (dj_sub hd [0, 1] (by decide) rfl) u w3.1 w3.2 hc) (cwV 0 hw g_103 rfl rfl rfl (by decide +kernel) ⟨Nat.le_of_ble_eq_true rfl, Nat.le_of_ble_eq_true rfl⟩) (pre_V (P_sub hC hP) hK rfl rfl) rfl rfl hl.1 rfl (lv_room (Nat.le_of_ble_eq_true rfl)) d_Rea_readBits_13 ⟨Nat.le_of_ble_eq_true rfl, Nat.le_of_ble_eq_true rfl⟩) hS hP (hD _) hC rfl rfl (fun H locs hP hS => ?_)
      obtain ⟨u4, e_u4, hf⟩ := tk_o hf
      have hP : va_P D cls (wRea cI q0 q1 u4) H := by rw [e_u4]; exact hP
      refine lv_iadd hx hb d_Rea_readBits_16 ?_
      refine lv_topi (fun x5 e_x5 => ?_)
      have hf := tk_e hf e_x5
      refine lv_istore_n (lv' := [(2, .int x5), (0, .ref q0), (1, .int l1), (3, .int l3)]) hx hb d_Rea_readBits_17 rfl hl (by decide) rfl (fun ls hl => ?_)
      obtain ⟨x6, e_x6, hf⟩ := tk_o hf
      refine lv_iinc (v := x6) (lv' := [(3, .int x6), (2, .int x5), (0, .ref q0), (1, .int l1)]) hx hb d_Rea_readBits_18 hl (k := 3) rfl e_x6.symm (by decide) rfl (fun ls hl => ?_)
      refine lv_goto (tgt := 4) hx hb d_Rea_readBits_21 (by decide) ?_
      exact ih4 _ _ _ l1 x5 x6 u4 (lv_sub hl [2, 3, 1, 0] rfl) hP hS hf
  unfold f_Rea_readBits at hf
  refine lv_iconst (v := 0) hx hb d_Rea_readBits_0 (by decide) ?_
  refine lv_istore_n (lv' := [(2, .int 0), (0, .ref q0), (1, .int a1)]) hx hb d_Rea_readBits_1 rfl hl (by decide) rfl (fun ls hl => ?_)
  refine lv_iconst (v := 0) hx hb d_Rea_readBits_2 (by decide) ?_
  refine lv_istore_n (lv' := [(3, .int 0), (2, .int 0), (0, .ref q0), (1, .int a1)]) hx hb d_Rea_readBits_3 rfl hl (by decide) rfl (fun ls hl => ?_)
  exact lp4 100 _ _ _ a1 0 0 u (lv_sub hl [2, 3, 1, 0] rfl) hP hS hf
def J_Rea_readNumber_30 (l1 : Int32) (l3 : Int32) (l4 : Int32) (l5 : Int32) (u : gU) : Option (gU ⊕ (Int32 × gU)) := bq (l5 ≤ l4) (bq (l4 ≤ l5) (bd (f_Rea_readBits l3 u) fun w1 => bx w1 (fun v2 => some (.inl (v2))) fun w3 => tk (w3.2) fun u4 => some (.inr (w3.1 + 1, u4))) (bd (f_Rea_readBits l1 u) fun w5 => bx w5 (fun v6 => some (.inl (v6))) fun w7 => tk (w7.2) fun u8 => some (.inr ((l5 <<< (l1 &&& 31)) + w7.1, u8)))) (some (.inl u))
def L_Rea_readNumber_10 : Nat → Int32 → Int32 → Int32 → Int32 → gU → Option (gU ⊕ (Int32 × gU))
  | 0, _, _, _, _, _ => none
  | n + 1, l1, l3, l4, l5, u => bq (l4 < l5) (J_Rea_readNumber_30 l1 l3 l4 l5 u) (bd (f_Rea_readBit u) fun w1 => bx w1 (fun v2 => some (.inl (v2))) fun w3 => tk (w3.2) fun u4 => bq (w3.1 = 0) (tk (l5 + 1) fun x5 => (L_Rea_readNumber_10 n) l1 l3 l4 x5 u4) (J_Rea_readNumber_30 l1 l3 l4 l5 u4))
theorem L_Rea_readNumber_10_z (l1 : Int32) (l3 : Int32) (l4 : Int32) (l5 : Int32) (u : gU) : L_Rea_readNumber_10 0 l1 l3 l4 l5 u = none := rfl
theorem L_Rea_readNumber_10_s (n : Nat) (l1 : Int32) (l3 : Int32) (l4 : Int32) (l5 : Int32) (u : gU) : L_Rea_readNumber_10 (n + 1) l1 l3 l4 l5 u = bq (l4 < l5) (J_Rea_readNumber_30 l1 l3 l4 l5 u) (bd (f_Rea_readBit u) fun w1 => bx w1 (fun v2 => some (.inl (v2))) fun w3 => tk (w3.2) fun u4 => bq (w3.1 = 0) (tk (l5 + 1) fun x5 => (L_Rea_readNumber_10 n) l1 l3 l4 x5 u4) (J_Rea_readNumber_30 l1 l3 l4 l5 u4)) := rfl
def f_Rea_readNumber (a1 : Int32) (a2 : Int32) (a3 : Int32) (u : gU) : Option (gU ⊕ (Int32 × gU)) := tk ((a2 - a3) - 1) fun x1 => L_Rea_readNumber_10 100 a1 a3 x1 0 u
set_option maxHeartbeats 4000000 in
set_option maxRecDepth 100000 in
theorem c_Rea_readNumber (l : Launch) (D : va_G) (cI : ClassId) (q0 : Nat) (q1 : Nat) (hd : dj [q0, q1]) (a1 : Int32) (a2 : Int32) (a3 : Int32) (u : gU) (r : Int32) (v : gU) (hf : f_Rea_readNumber a1 a2 a3 u = some (.inr (r, v))) : Met l y_Rea_readNumber (.code y_Rea_readNumber b_Rea_readNumber 6 (some .int) :: TS) ({ frames := 2, cells := 0, slots := 0, locals := 44 }) (va_Pc [.ref q0, .int a1, .int a2, .int a3] (fun U => va_P D cls (wRea cI q0 q1 u) U.heap ∧ va_K D cls [(cI, .int)] U)) (va_Qi (fun x (_ : Unit) => x = r) (fun _ t => va_P D cls (wRea cI q0 q1 v) t.heap) (ad [q0, q1])) 0 0 (ad [q0, q1]) := by
  refine ct_of (by decide +kernel) (Nat.le_of_ble_eq_true rfl) ?_
  intro p e s m below meth c ls hx hb hml hr hlocks hown hw hP hK hl
  have hS : va_S (ad [q0, q1]) s.heap s.heap [] := va_S.rf
  have hD : ∀ v, va_D (ad [q0, q1]) (wRea cI q0 q1 v) := fun _ => dj_D rfl hd
  have hl : lv_has ls 6 [(0, .ref q0), (1, .int a1), (2, .int a2), (3, .int a3)] := hl
  have hP : va_P D cls (wRea cI q0 q1 u) s.heap := hP
  have j30 : ∀ (ls : Array Slot) (H : Heap) (locs : List Loc) (l1 : Int32) (l3 : Int32) (l4 : Int32) (l5 : Int32) (u : gU), lv_has ls 6 [(0, .ref q0), (1, .int l1), (3, .int l3), (4, .int l4), (5, .int l5)] → va_P D cls (wRea cI q0 q1 u) H → va_S (ad [q0, q1]) s.heap H locs → J_Rea_readNumber_30 l1 l3 l4 l5 u = some (.inr (r, v)) → W p l e ({ frames := 2, cells := 0, slots := 0, locals := 44 }) s m [.ref q0, .int a1, .int a2, .int a3].toArray below meth c H locs 0 0 (MQ below (va_Qi (fun x (_ : Unit) => x = r) (fun _ t => va_P D cls (wRea cI q0 q1 v) t.heap) (ad [q0, q1])) [.ref q0, .int a1, .int a2, .int a3].toArray s 0 0 (ad [q0, q1])) (F0 m 30 ls []) := by
    intro ls H locs l1 l3 l4 l5 u hl hP hS hf
    unfold J_Rea_readNumber_30 at hf
    refine lv_iload hx hb d_Rea_readNumber_30 (lv_at hl 4 rfl) ?_
    refine lv_iload hx hb d_Rea_readNumber_32 (lv_at hl 3 rfl) ?_
    refine lv_icmp_le (tgt := 47) hx hb d_Rea_readNumber_34 (by decide) (fun hc => ?_) (fun hc => ?_)
    · have hf := bq_t hf hc
      refine lv_iload hx hb d_Rea_readNumber_47 (lv_at hl 4 rfl) ?_
      refine lv_iload hx hb d_Rea_readNumber_49 (lv_at hl 3 rfl) ?_
      refine lv_icmp_ge (tgt := 67) hx hb d_Rea_readNumber_51 (by decide) (fun hc => ?_) (fun hc => ?_)
      · have hf := bq_t hf hc
        refine lv_aload_n hx hb d_Rea_readNumber_67 rfl (lv_at hl 0 rfl) ?_
        refine lv_iload_n hx hb d_Rea_readNumber_68 rfl (lv_at hl 2 rfl) ?_
        have hC : [0, 1].map (fun i => (wRea cI q0 q1 u)[i]?) = (wRea cI q0 q1 u).map some := rfl
        obtain ⟨w1, hc, hf⟩ := bd_o hf
        rcases w1 with v2 | w3
        · have hf := bx_l hf
          exact xo hf
        have hf := bx_r hf
        refine rw_i (va_runV (As := [.int l3]) (rest := []) ⟨hx, hb, hml, hown, hw⟩ (c_Rea_readBits l D cI q0 q1 (dj_sub hd [0, 1] (by decide) rfl) l3 u w3.1 w3.2 hc) (cwV 1 hw g_104 rfl rfl rfl (by decide +kernel) ⟨Nat.le_of_ble_eq_true rfl, Nat.le_of_ble_eq_true rfl⟩) (pre_V (P_sub hC hP) hK rfl rfl) rfl rfl hl.1 rfl (lv_room (Nat.le_of_ble_eq_true rfl)) d_Rea_readNumber_69 ⟨Nat.le_of_ble_eq_true rfl, Nat.le_of_ble_eq_true rfl⟩) hS hP (hD _) hC rfl rfl (fun H locs hP hS => ?_)
        obtain ⟨u4, e_u4, hf⟩ := tk_o hf
        have hP : va_P D cls (wRea cI q0 q1 u4) H := by rw [e_u4]; exact hP
        refine lv_iconst (v := 1) hx hb d_Rea_readNumber_72 (by decide) ?_
        refine lv_iadd hx hb d_Rea_readNumber_73 ?_
        exact rt_i (wRea cI q0 q1) hx hb hr hlocks hS hP (sr hf) d_Rea_readNumber_74
      have hf := bq_n hf hc
      refine lv_iload hx hb d_Rea_readNumber_54 (lv_at hl 4 rfl) ?_
      refine lv_iload_n hx hb d_Rea_readNumber_56 rfl (lv_at hl 1 rfl) ?_
      refine lv_ishl hx hb d_Rea_readNumber_57 ?_
      refine lv_aload_n hx hb d_Rea_readNumber_58 rfl (lv_at hl 0 rfl) ?_
      refine lv_iload_n hx hb d_Rea_readNumber_59 rfl (lv_at hl 1 rfl) ?_
      have hC : [0, 1].map (fun i => (wRea cI q0 q1 u)[i]?) = (wRea cI q0 q1 u).map some := rfl
      obtain ⟨w5, hc, hf⟩ := bd_o hf
      rcases w5 with v6 | w7
      · have hf := bx_l hf
        exact xo hf
      have hf := bx_r hf
      refine rw_i (va_runV (As := [.int l1]) (rest := [.int (l5 <<< (l1 &&& 31))]) ⟨hx, hb, hml, hown, hw⟩ (c_Rea_readBits l D cI q0 q1 (dj_sub hd [0, 1] (by decide) rfl) l1 u w7.1 w7.2 hc) (cwV 1 hw g_104 rfl rfl rfl (by decide +kernel) ⟨Nat.le_of_ble_eq_true rfl, Nat.le_of_ble_eq_true rfl⟩) (pre_V (P_sub hC hP) hK rfl rfl) rfl rfl hl.1 rfl (lv_room (Nat.le_of_ble_eq_true rfl)) d_Rea_readNumber_60 ⟨Nat.le_of_ble_eq_true rfl, Nat.le_of_ble_eq_true rfl⟩) hS hP (hD _) hC rfl rfl (fun H locs hP hS => ?_)
      obtain ⟨u8, e_u8, hf⟩ := tk_o hf
      have hP : va_P D cls (wRea cI q0 q1 u8) H := by rw [e_u8]; exact hP
      refine lv_iadd hx hb d_Rea_readNumber_63 ?_
      refine lv_goto (tgt := 74) hx hb d_Rea_readNumber_64 (by decide) ?_
      exact rt_i (wRea cI q0 q1) hx hb hr hlocks hS hP (sr hf) d_Rea_readNumber_74
    have hf := bq_n hf hc
    exact xo hf
  have lp10 : ∀ (n10 : Nat), ∀ (ls : Array Slot) (H : Heap) (locs : List Loc) (l1 : Int32) (l3 : Int32) (l4 : Int32) (l5 : Int32) (u : gU), lv_has ls 6 [(0, .ref q0), (1, .int l1), (3, .int l3), (4, .int l4), (5, .int l5)] → va_P D cls (wRea cI q0 q1 u) H → va_S (ad [q0, q1]) s.heap H locs → L_Rea_readNumber_10 n10 l1 l3 l4 l5 u = some (.inr (r, v)) → W p l e ({ frames := 2, cells := 0, slots := 0, locals := 44 }) s m [.ref q0, .int a1, .int a2, .int a3].toArray below meth c H locs 0 0 (MQ below (va_Qi (fun x (_ : Unit) => x = r) (fun _ t => va_P D cls (wRea cI q0 q1 v) t.heap) (ad [q0, q1])) [.ref q0, .int a1, .int a2, .int a3].toArray s 0 0 (ad [q0, q1])) (F0 m 10 ls []) := by
    intro n10
    induction n10 with
    | zero =>
      intro ls H locs l1 l3 l4 l5 u hl hP hS hf
      rw [L_Rea_readNumber_10_z] at hf
      cases hf
    | succ n10 ih10 =>
      intro ls H locs l1 l3 l4 l5 u hl hP hS hf
      rw [L_Rea_readNumber_10_s] at hf
      refine lv_iload hx hb d_Rea_readNumber_10 (lv_at hl 4 rfl) ?_
      refine lv_iload hx hb d_Rea_readNumber_12 (lv_at hl 3 rfl) ?_
      refine lv_icmp_gt (tgt := 30) hx hb d_Rea_readNumber_14 (by decide) (fun hc => ?_) (fun hc => ?_)
      · have hf := bq_t hf hc
        exact j30 _ _ _ l1 l3 l4 l5 u (lv_sub hl [0, 1, 2, 3, 4] rfl) hP hS hf
      have hf := bq_n hf hc
      refine lv_aload_n hx hb d_Rea_readNumber_17 rfl (lv_at hl 0 rfl) ?_
      have hC : [0, 1].map (fun i => (wRea cI q0 q1 u)[i]?) = (wRea cI q0 q1 u).map some := rfl
      obtain ⟨w1, hc, hf⟩ := bd_o hf
      rcases w1 with v2 | w3
      · have hf := bx_l hf
        exact xo hf
      have hf := bx_r hf
      refine rw_i (va_runV (As := []) (rest := []) ⟨hx, hb, hml, hown, hw⟩ (c_Rea_readBit l D cI q0 q1 (dj_sub hd [0, 1] (by decide) rfl) u w3.1 w3.2 hc) (cwV 0 hw g_103 rfl rfl rfl (by decide +kernel) ⟨Nat.le_of_ble_eq_true rfl, Nat.le_of_ble_eq_true rfl⟩) (pre_V (P_sub hC hP) hK rfl rfl) rfl rfl hl.1 rfl (lv_room (Nat.le_of_ble_eq_true rfl)) d_Rea_readNumber_18 ⟨Nat.le_of_ble_eq_true rfl, Nat.le_of_ble_eq_true rfl⟩) hS hP (hD _) hC rfl rfl (fun H locs hP hS => ?_)
      obtain ⟨u4, e_u4, hf⟩ := tk_o hf
      have hP : va_P D cls (wRea cI q0 q1 u4) H := by rw [e_u4]; exact hP
      refine lv_if_ne (tgt := 30) hx hb d_Rea_readNumber_21 (by decide) (fun hc => ?_) (fun hc => ?_)
      · have hf := bq_n hf hc
        exact j30 _ _ _ l1 l3 l4 l5 u4 (lv_sub hl [0, 1, 2, 3, 4] rfl) hP hS hf
      have hf := bq_t hf hc
      obtain ⟨x5, e_x5, hf⟩ := tk_o hf
      refine lv_iinc (v := x5) (lv' := [(5, .int x5), (0, .ref q0), (1, .int l1), (3, .int l3), (4, .int l4)]) hx hb d_Rea_readNumber_24 hl (k := 4) rfl e_x5.symm (by decide) rfl (fun ls hl => ?_)
      refine lv_goto (tgt := 10) hx hb d_Rea_readNumber_27 (by decide) ?_
      exact ih10 _ _ _ l1 l3 l4 x5 u4 (lv_sub hl [1, 2, 3, 4, 0] rfl) hP hS hf
  unfold f_Rea_readNumber at hf
  refine lv_iload_n hx hb d_Rea_readNumber_0 rfl (lv_at hl 2 rfl) ?_
  refine lv_iload_n hx hb d_Rea_readNumber_1 rfl (lv_at hl 3 rfl) ?_
  refine lv_isub hx hb d_Rea_readNumber_2 ?_
  refine lv_iconst (v := 1) hx hb d_Rea_readNumber_3 (by decide) ?_
  refine lv_isub hx hb d_Rea_readNumber_4 ?_
  refine lv_topi (fun x1 e_x1 => ?_)
  have hf := tk_e hf e_x1
  refine lv_istore (lv' := [(4, .int x1), (0, .ref q0), (1, .int a1), (2, .int a2), (3, .int a3)]) hx hb d_Rea_readNumber_5 hl (by decide) rfl (fun ls hl => ?_)
  refine lv_iconst (v := 0) hx hb d_Rea_readNumber_7 (by decide) ?_
  refine lv_istore (lv' := [(5, .int 0), (4, .int x1), (0, .ref q0), (1, .int a1), (2, .int a2), (3, .int a3)]) hx hb d_Rea_readNumber_8 hl (by decide) rfl (fun ls hl => ?_)
  exact lp10 100 _ _ _ a1 a3 x1 0 u (lv_sub hl [2, 3, 5, 1, 0] rfl) hP hS hf
set_option maxHeartbeats 4000000 in
set_option maxRecDepth 100000 in
theorem x_Rea_readNumber (l : Launch) (hfl : l.flags = pinnedFlags ++ [noTraceFlag]) (D : va_G) (cI : ClassId) (tJ : Nat) (q0 : Nat) (q1 : Nat) (hd : dj [q0, q1]) (a1 : Int32) (a2 : Int32) (a3 : Int32) (u : gU) (v : gU) (hf : f_Rea_readNumber a1 a2 a3 u = some (.inl v)) : MetX l y_Rea_readNumber (.code y_Rea_readNumber b_Rea_readNumber 6 (some .int) :: TS) ({ frames := 8, cells := 1, slots := 6, locals := 152 }) (va_Pc [.ref q0, .int a1, .int a2, .int a3] (fun U => va_P D cls (wRea cI q0 q1 u) U.heap ∧ va_K D cls [(cI, .int)] U ∧ Jt tJ (ad [q0, q1]) U ∧ Xt (ad [q0, q1]) U)) D cls (wRea cI q0 q1 v) (ad [q0, q1]) := by
  refine ct_ofX hfl (by decide +kernel) (Nat.le_of_ble_eq_true rfl) ?_
  intro p e s m below meth c ls hx hb hml hr hlocks hown hw hP hK hJ hl hX htr hout
  have hS : va_S (ad [q0, q1]) s.heap s.heap [] := va_S.rf
  have hD : ∀ v, va_D (ad [q0, q1]) (wRea cI q0 q1 v) := fun _ => dj_D rfl hd
  have hl : lv_has ls 6 [(0, .ref q0), (1, .int a1), (2, .int a2), (3, .int a3)] := hl
  have hP : va_P D cls (wRea cI q0 q1 u) s.heap := hP
  have j30 : ∀ (ls : Array Slot) (H : Heap) (locs : List Loc) (l1 : Int32) (l3 : Int32) (l4 : Int32) (l5 : Int32) (u : gU), lv_has ls 6 [(0, .ref q0), (1, .int l1), (3, .int l3), (4, .int l4), (5, .int l5)] → va_P D cls (wRea cI q0 q1 u) H → va_S (ad [q0, q1]) s.heap H locs → J_Rea_readNumber_30 l1 l3 l4 l5 u = some (.inl v) → W p l e ({ frames := 8, cells := 1, slots := 6, locals := 152 }) s m [.ref q0, .int a1, .int a2, .int a3].toArray below meth c H locs 0 0 (MQX below D cls (wRea cI q0 q1 v) (ad [q0, q1]) [.ref q0, .int a1, .int a2, .int a3].toArray s) (F0 m 30 ls []) := by
    intro ls H locs l1 l3 l4 l5 u hl hP hS hf
    unfold J_Rea_readNumber_30 at hf
    refine lv_iload hx hb d_Rea_readNumber_30 (lv_at hl 4 rfl) ?_
    refine lv_iload hx hb d_Rea_readNumber_32 (lv_at hl 3 rfl) ?_
    refine lv_icmp_le (tgt := 47) hx hb d_Rea_readNumber_34 (by decide) (fun hc => ?_) (fun hc => ?_)
    · have hf := bq_t hf hc
      refine lv_iload hx hb d_Rea_readNumber_47 (lv_at hl 4 rfl) ?_
      refine lv_iload hx hb d_Rea_readNumber_49 (lv_at hl 3 rfl) ?_
      refine lv_icmp_ge (tgt := 67) hx hb d_Rea_readNumber_51 (by decide) (fun hc => ?_) (fun hc => ?_)
      · have hf := bq_t hf hc
        refine lv_aload_n hx hb d_Rea_readNumber_67 rfl (lv_at hl 0 rfl) ?_
        refine lv_iload_n hx hb d_Rea_readNumber_68 rfl (lv_at hl 2 rfl) ?_
        have hC : [0, 1].map (fun i => (wRea cI q0 q1 u)[i]?) = (wRea cI q0 q1 u).map some := rfl
        obtain ⟨w1, hc, hf⟩ := bd_o hf
        rcases w1 with v2 | w3
        · have hf := bx_l hf
          exact thr_V (As := [.int l3]) (rest := []) ⟨hx, hb, hml, hown, hw⟩ (x_Rea_readBits l hfl D cI tJ q0 q1 (dj_sub hd [0, 1] (by decide) rfl) l3 u v2 hc) (cwV 1 hw g_104 rfl rfl rfl (by decide +kernel) ⟨Nat.le_of_ble_eq_true rfl, Nat.le_of_ble_eq_true rfl⟩) (pre_VX (P_sub hC hP) hK rfl rfl hJ hX hS (ad_sub [0, 1] rfl)) rfl hl.1 (Nat.le_of_ble_eq_true rfl) d_Rea_readNumber_69 ⟨Nat.le_of_ble_eq_true rfl, Nat.le_of_ble_eq_true rfl⟩ hlocks hout hS hP (hD _) hC rfl rfl (eq_tr (f := wRea cI q0 q1) (sl hf) rfl)
        have hf := bx_r hf
        refine rw_i (va_runV (As := [.int l3]) (rest := []) ⟨hx, hb, hml, hown, hw⟩ (c_Rea_readBits l D cI q0 q1 (dj_sub hd [0, 1] (by decide) rfl) l3 u w3.1 w3.2 hc) (cwV 1 hw g_104 rfl rfl rfl (by decide +kernel) ⟨Nat.le_of_ble_eq_true rfl, Nat.le_of_ble_eq_true rfl⟩) (pre_V (P_sub hC hP) hK rfl rfl) rfl rfl hl.1 rfl (lv_room (Nat.le_of_ble_eq_true rfl)) d_Rea_readNumber_69 ⟨Nat.le_of_ble_eq_true rfl, Nat.le_of_ble_eq_true rfl⟩) hS hP (hD _) hC rfl rfl (fun H locs hP hS => ?_)
        obtain ⟨u4, e_u4, hf⟩ := tk_o hf
        have hP : va_P D cls (wRea cI q0 q1 u4) H := by rw [e_u4]; exact hP
        refine lv_iconst (v := 1) hx hb d_Rea_readNumber_72 (by decide) ?_
        refine lv_iadd hx hb d_Rea_readNumber_73 ?_
        exact ox hf
      have hf := bq_n hf hc
      refine lv_iload hx hb d_Rea_readNumber_54 (lv_at hl 4 rfl) ?_
      refine lv_iload_n hx hb d_Rea_readNumber_56 rfl (lv_at hl 1 rfl) ?_
      refine lv_ishl hx hb d_Rea_readNumber_57 ?_
      refine lv_aload_n hx hb d_Rea_readNumber_58 rfl (lv_at hl 0 rfl) ?_
      refine lv_iload_n hx hb d_Rea_readNumber_59 rfl (lv_at hl 1 rfl) ?_
      have hC : [0, 1].map (fun i => (wRea cI q0 q1 u)[i]?) = (wRea cI q0 q1 u).map some := rfl
      obtain ⟨w5, hc, hf⟩ := bd_o hf
      rcases w5 with v6 | w7
      · have hf := bx_l hf
        exact thr_V (As := [.int l1]) (rest := [.int (l5 <<< (l1 &&& 31))]) ⟨hx, hb, hml, hown, hw⟩ (x_Rea_readBits l hfl D cI tJ q0 q1 (dj_sub hd [0, 1] (by decide) rfl) l1 u v6 hc) (cwV 1 hw g_104 rfl rfl rfl (by decide +kernel) ⟨Nat.le_of_ble_eq_true rfl, Nat.le_of_ble_eq_true rfl⟩) (pre_VX (P_sub hC hP) hK rfl rfl hJ hX hS (ad_sub [0, 1] rfl)) rfl hl.1 (Nat.le_of_ble_eq_true rfl) d_Rea_readNumber_60 ⟨Nat.le_of_ble_eq_true rfl, Nat.le_of_ble_eq_true rfl⟩ hlocks hout hS hP (hD _) hC rfl rfl (eq_tr (f := wRea cI q0 q1) (sl hf) rfl)
      have hf := bx_r hf
      refine rw_i (va_runV (As := [.int l1]) (rest := [.int (l5 <<< (l1 &&& 31))]) ⟨hx, hb, hml, hown, hw⟩ (c_Rea_readBits l D cI q0 q1 (dj_sub hd [0, 1] (by decide) rfl) l1 u w7.1 w7.2 hc) (cwV 1 hw g_104 rfl rfl rfl (by decide +kernel) ⟨Nat.le_of_ble_eq_true rfl, Nat.le_of_ble_eq_true rfl⟩) (pre_V (P_sub hC hP) hK rfl rfl) rfl rfl hl.1 rfl (lv_room (Nat.le_of_ble_eq_true rfl)) d_Rea_readNumber_60 ⟨Nat.le_of_ble_eq_true rfl, Nat.le_of_ble_eq_true rfl⟩) hS hP (hD _) hC rfl rfl (fun H locs hP hS => ?_)
      obtain ⟨u8, e_u8, hf⟩ := tk_o hf
      have hP : va_P D cls (wRea cI q0 q1 u8) H := by rw [e_u8]; exact hP
      refine lv_iadd hx hb d_Rea_readNumber_63 ?_
      refine lv_goto (tgt := 74) hx hb d_Rea_readNumber_64 (by decide) ?_
      exact ox hf
    have hf := bq_n hf hc
    exact thr_new (own := R_Rea) (tx := "too many bits 0 come before a bit 1") hx hb hml hl.1 hlocks htr hown hw hX hS (by rw [← sl hf]; exact hP) m_612 m_613 m_614 m_615 (List.mem_of_getElem? (i := 2) rfl) hout (Nat.le_of_ble_eq_true rfl) (Nat.le_of_ble_eq_true rfl) (Nat.le_of_ble_eq_true rfl) (Nat.le_of_ble_eq_true rfl) d_Rea_readNumber_37 d_Rea_readNumber_40 d_Rea_readNumber_41 d_Rea_readNumber_43 d_Rea_readNumber_46
  have lp10 : ∀ (n10 : Nat), ∀ (ls : Array Slot) (H : Heap) (locs : List Loc) (l1 : Int32) (l3 : Int32) (l4 : Int32) (l5 : Int32) (u : gU), lv_has ls 6 [(0, .ref q0), (1, .int l1), (3, .int l3), (4, .int l4), (5, .int l5)] → va_P D cls (wRea cI q0 q1 u) H → va_S (ad [q0, q1]) s.heap H locs → L_Rea_readNumber_10 n10 l1 l3 l4 l5 u = some (.inl v) → W p l e ({ frames := 8, cells := 1, slots := 6, locals := 152 }) s m [.ref q0, .int a1, .int a2, .int a3].toArray below meth c H locs 0 0 (MQX below D cls (wRea cI q0 q1 v) (ad [q0, q1]) [.ref q0, .int a1, .int a2, .int a3].toArray s) (F0 m 10 ls []) := by
    intro n10
    induction n10 with
    | zero =>
      intro ls H locs l1 l3 l4 l5 u hl hP hS hf
      rw [L_Rea_readNumber_10_z] at hf
      cases hf
    | succ n10 ih10 =>
      intro ls H locs l1 l3 l4 l5 u hl hP hS hf
      rw [L_Rea_readNumber_10_s] at hf
      refine lv_iload hx hb d_Rea_readNumber_10 (lv_at hl 4 rfl) ?_
      refine lv_iload hx hb d_Rea_readNumber_12 (lv_at hl 3 rfl) ?_
      refine lv_icmp_gt (tgt := 30) hx hb d_Rea_readNumber_14 (by decide) (fun hc => ?_) (fun hc => ?_)
      · have hf := bq_t hf hc
        exact j30 _ _ _ l1 l3 l4 l5 u (lv_sub hl [0, 1, 2, 3, 4] rfl) hP hS hf
      have hf := bq_n hf hc
      refine lv_aload_n hx hb d_Rea_readNumber_17 rfl (lv_at hl 0 rfl) ?_
      have hC : [0, 1].map (fun i => (wRea cI q0 q1 u)[i]?) = (wRea cI q0 q1 u).map some := rfl
      obtain ⟨w1, hc, hf⟩ := bd_o hf
      rcases w1 with v2 | w3
      · have hf := bx_l hf
        exact thr_V (As := []) (rest := []) ⟨hx, hb, hml, hown, hw⟩ (x_Rea_readBit l hfl D cI tJ q0 q1 (dj_sub hd [0, 1] (by decide) rfl) u v2 hc) (cwV 0 hw g_103 rfl rfl rfl (by decide +kernel) ⟨Nat.le_of_ble_eq_true rfl, Nat.le_of_ble_eq_true rfl⟩) (pre_VX (P_sub hC hP) hK rfl rfl hJ hX hS (ad_sub [0, 1] rfl)) rfl hl.1 (Nat.le_of_ble_eq_true rfl) d_Rea_readNumber_18 ⟨Nat.le_of_ble_eq_true rfl, Nat.le_of_ble_eq_true rfl⟩ hlocks hout hS hP (hD _) hC rfl rfl (eq_tr (f := wRea cI q0 q1) (sl hf) rfl)
      have hf := bx_r hf
      refine rw_i (va_runV (As := []) (rest := []) ⟨hx, hb, hml, hown, hw⟩ (c_Rea_readBit l D cI q0 q1 (dj_sub hd [0, 1] (by decide) rfl) u w3.1 w3.2 hc) (cwV 0 hw g_103 rfl rfl rfl (by decide +kernel) ⟨Nat.le_of_ble_eq_true rfl, Nat.le_of_ble_eq_true rfl⟩) (pre_V (P_sub hC hP) hK rfl rfl) rfl rfl hl.1 rfl (lv_room (Nat.le_of_ble_eq_true rfl)) d_Rea_readNumber_18 ⟨Nat.le_of_ble_eq_true rfl, Nat.le_of_ble_eq_true rfl⟩) hS hP (hD _) hC rfl rfl (fun H locs hP hS => ?_)
      obtain ⟨u4, e_u4, hf⟩ := tk_o hf
      have hP : va_P D cls (wRea cI q0 q1 u4) H := by rw [e_u4]; exact hP
      refine lv_if_ne (tgt := 30) hx hb d_Rea_readNumber_21 (by decide) (fun hc => ?_) (fun hc => ?_)
      · have hf := bq_n hf hc
        exact j30 _ _ _ l1 l3 l4 l5 u4 (lv_sub hl [0, 1, 2, 3, 4] rfl) hP hS hf
      have hf := bq_t hf hc
      obtain ⟨x5, e_x5, hf⟩ := tk_o hf
      refine lv_iinc (v := x5) (lv' := [(5, .int x5), (0, .ref q0), (1, .int l1), (3, .int l3), (4, .int l4)]) hx hb d_Rea_readNumber_24 hl (k := 4) rfl e_x5.symm (by decide) rfl (fun ls hl => ?_)
      refine lv_goto (tgt := 10) hx hb d_Rea_readNumber_27 (by decide) ?_
      exact ih10 _ _ _ l1 l3 l4 x5 u4 (lv_sub hl [1, 2, 3, 4, 0] rfl) hP hS hf
  unfold f_Rea_readNumber at hf
  refine lv_iload_n hx hb d_Rea_readNumber_0 rfl (lv_at hl 2 rfl) ?_
  refine lv_iload_n hx hb d_Rea_readNumber_1 rfl (lv_at hl 3 rfl) ?_
  refine lv_isub hx hb d_Rea_readNumber_2 ?_
  refine lv_iconst (v := 1) hx hb d_Rea_readNumber_3 (by decide) ?_
  refine lv_isub hx hb d_Rea_readNumber_4 ?_
  refine lv_topi (fun x1 e_x1 => ?_)
  have hf := tk_e hf e_x1
  refine lv_istore (lv' := [(4, .int x1), (0, .ref q0), (1, .int a1), (2, .int a2), (3, .int a3)]) hx hb d_Rea_readNumber_5 hl (by decide) rfl (fun ls hl => ?_)
  refine lv_iconst (v := 0) hx hb d_Rea_readNumber_7 (by decide) ?_
  refine lv_istore (lv' := [(5, .int 0), (4, .int x1), (0, .ref q0), (1, .int a1), (2, .int a2), (3, .int a3)]) hx hb d_Rea_readNumber_8 hl (by decide) rfl (fun ls hl => ?_)
  exact lp10 100 _ _ _ a1 a3 x1 0 u (lv_sub hl [2, 3, 5, 1, 0] rfl) hP hS hf
def J_Rea_readEnd_125 (u : gU) : Option (gU ⊕ gU) := some (.inl u)
def J_Rea_readEnd_82 (u : gU) : Option (gU ⊕ gU) := bq ((u 0 1) = (u 0 0)) (gd (ix (u 0 0) 512) (bq ((u 1 (tc (u 0 0))) = 255) (gd (ix ((u 0 0) + 1) 512) (bq ((u 1 (tc ((u 0 0) + 1))) = 217) (some (.inr u)) (J_Rea_readEnd_125  u))) (J_Rea_readEnd_125  u))) (J_Rea_readEnd_125  u)
def f_Rea_readEnd (u : gU) : Option (gU ⊕ gU) := gd (ix ((u 0 1) - 1) 512) (tk ((u 1 (tc ((u 0 1) - 1))) &&& ((1 <<< ((u 0 2) &&& 31)) - 1)) fun x2 => bq (x2 = 0) (gd (ix ((u 0 1) - 1) 512) (bq ((u 1 (tc ((u 0 1) - 1))) = 255) (gd (ix (u 0 1) 512) (bq ((u 1 (tc (u 0 1))) = 0) (tk (st2 u 0 1 ((u 0 1) + 1)) fun u5 => J_Rea_readEnd_82  u5) (some (.inl u)))) (J_Rea_readEnd_82  u))) (some (.inl u)))
set_option maxHeartbeats 4000000 in
set_option maxRecDepth 100000 in
theorem c_Rea_readEnd (l : Launch) (D : va_G) (cI : ClassId) (q0 : Nat) (q1 : Nat) (hd : dj [q0, q1]) (u : gU) (v : gU) (hf : f_Rea_readEnd u = some (.inr v)) : Met l y_Rea_readEnd (.code y_Rea_readEnd b_Rea_readEnd 1 none :: TS) ({ frames := 0, cells := 0, slots := 0, locals := 0 }) (va_Pc [.ref q0] (fun U => va_P D cls (wRea cI q0 q1 u) U.heap ∧ va_K D cls [(cI, .int)] U)) (va_Qv (fun (_ : Unit) => True) (fun _ t => va_P D cls (wRea cI q0 q1 v) t.heap) (ad [q0, q1])) 0 0 (ad [q0, q1]) := by
  refine ct_of (by decide +kernel) (Nat.le_of_ble_eq_true rfl) ?_
  intro p e s m below meth c ls hx hb hml hr hlocks hown hw hP hK hl
  have hS : va_S (ad [q0, q1]) s.heap s.heap [] := va_S.rf
  have hD : ∀ v, va_D (ad [q0, q1]) (wRea cI q0 q1 v) := fun _ => dj_D rfl hd
  have hl : lv_has ls 1 [(0, .ref q0)] := hl
  have hP : va_P D cls (wRea cI q0 q1 u) s.heap := hP
  have j125 : ∀ (ls : Array Slot) (H : Heap) (locs : List Loc) (u : gU), lv_has ls 1 [] → va_P D cls (wRea cI q0 q1 u) H → va_S (ad [q0, q1]) s.heap H locs → J_Rea_readEnd_125 u = some (.inr v) → W p l e ({ frames := 0, cells := 0, slots := 0, locals := 0 }) s m [.ref q0].toArray below meth c H locs 0 0 (MQ below (va_Qv (fun (_ : Unit) => True) (fun _ t => va_P D cls (wRea cI q0 q1 v) t.heap) (ad [q0, q1])) [.ref q0].toArray s 0 0 (ad [q0, q1])) (F0 m 125 ls []) := by
    intro ls H locs u hl hP hS hf
    unfold J_Rea_readEnd_125 at hf
    exact xo hf
  have j82 : ∀ (ls : Array Slot) (H : Heap) (locs : List Loc) (u : gU), lv_has ls 1 [(0, .ref q0)] → va_P D cls (wRea cI q0 q1 u) H → va_S (ad [q0, q1]) s.heap H locs → J_Rea_readEnd_82 u = some (.inr v) → W p l e ({ frames := 0, cells := 0, slots := 0, locals := 0 }) s m [.ref q0].toArray below meth c H locs 0 0 (MQ below (va_Qv (fun (_ : Unit) => True) (fun _ t => va_P D cls (wRea cI q0 q1 v) t.heap) (ad [q0, q1])) [.ref q0].toArray s 0 0 (ad [q0, q1])) (F0 m 82 ls []) := by
    intro ls H locs u hl hP hS hf
    unfold J_Rea_readEnd_82 at hf
    refine lv_aload_n hx hb d_Rea_readEnd_82 rfl (lv_at hl 0 rfl) ?_
    refine va_get (D := D) (ci := 6) (v := .int (u 0 1)) (C := R_Rea) (T := F_Rea) (N := 4) hx hb hw in_Rea hown hK hP 0 rfl rfl 2 (by decide) (hw _ m_610) (fun _ h9 => h9) rfl d_Rea_readEnd_83 ?_
    refine lv_aload_n hx hb d_Rea_readEnd_86 rfl (lv_at hl 0 rfl) ?_
    refine va_get (D := D) (ci := 6) (v := .int (u 0 0)) (C := R_Rea) (T := F_Rea) (N := 4) hx hb hw in_Rea hown hK hP 0 rfl rfl 1 (by decide) (hw _ m_609) (fun _ h9 => h9) rfl d_Rea_readEnd_87 ?_
    refine lv_icmp_ne (tgt := 125) hx hb d_Rea_readEnd_90 (by decide) (fun hc => ?_) (fun hc => ?_)
    · have hf := bq_n hf hc
      exact j125 _ _ _  u (lv_sub hl [] rfl) hP hS hf
    have hf := bq_t hf hc
    refine lv_aload_n hx hb d_Rea_readEnd_93 rfl (lv_at hl 0 rfl) ?_
    refine va_get (D := D) (ci := 6) (v := .ref q1) (C := R_Rea) (T := F_Rea) (N := 4) hx hb hw in_Rea hown hK hP 0 rfl rfl 0 (by decide) (hw _ m_607) (fun _ h9 => h9) rfl d_Rea_readEnd_94 ?_
    refine lv_aload_n hx hb d_Rea_readEnd_97 rfl (lv_at hl 0 rfl) ?_
    refine va_get (D := D) (ci := 6) (v := .int (u 0 0)) (C := R_Rea) (T := F_Rea) (N := 4) hx hb hw in_Rea hown hK hP 0 rfl rfl 1 (by decide) (hw _ m_609) (fun _ h9 => h9) rfl d_Rea_readEnd_98 ?_
    obtain ⟨h1, hf⟩ := gd_o hf
    refine va_iald hx hb hK hP 1 0 rfl rfl (ix_in h1) d_Rea_readEnd_101 ?_
    refine lv_sipush (v := 255) hx hb d_Rea_readEnd_102 (by decide) ?_
    refine lv_icmp_ne (tgt := 125) hx hb d_Rea_readEnd_105 (by decide) (fun hc => ?_) (fun hc => ?_)
    · have hf := bq_n hf hc
      exact j125 _ _ _  u (lv_sub hl [] rfl) hP hS hf
    have hf := bq_t hf hc
    refine lv_aload_n hx hb d_Rea_readEnd_108 rfl (lv_at hl 0 rfl) ?_
    refine va_get (D := D) (ci := 6) (v := .ref q1) (C := R_Rea) (T := F_Rea) (N := 4) hx hb hw in_Rea hown hK hP 0 rfl rfl 0 (by decide) (hw _ m_607) (fun _ h9 => h9) rfl d_Rea_readEnd_109 ?_
    refine lv_aload_n hx hb d_Rea_readEnd_112 rfl (lv_at hl 0 rfl) ?_
    refine va_get (D := D) (ci := 6) (v := .int (u 0 0)) (C := R_Rea) (T := F_Rea) (N := 4) hx hb hw in_Rea hown hK hP 0 rfl rfl 1 (by decide) (hw _ m_609) (fun _ h9 => h9) rfl d_Rea_readEnd_113 ?_
    refine lv_iconst (v := 1) hx hb d_Rea_readEnd_116 (by decide) ?_
    refine lv_iadd hx hb d_Rea_readEnd_117 ?_
    obtain ⟨h2, hf⟩ := gd_o hf
    refine va_iald hx hb hK hP 1 0 rfl rfl (ix_in h2) d_Rea_readEnd_118 ?_
    refine lv_sipush (v := 217) hx hb d_Rea_readEnd_119 (by decide) ?_
    refine lv_icmp_eq (tgt := 135) hx hb d_Rea_readEnd_122 (by decide) (fun hc => ?_) (fun hc => ?_)
    · have hf := bq_t hf hc
      exact rt_v (wRea cI q0 q1) hx hb hr hlocks hS hP (sr hf) d_Rea_readEnd_135
    have hf := bq_n hf hc
    exact j125 _ _ _  u (lv_sub hl [] rfl) hP hS hf
  unfold f_Rea_readEnd at hf
  refine lv_aload_n hx hb d_Rea_readEnd_0 rfl (lv_at hl 0 rfl) ?_
  refine va_get (D := D) (ci := 6) (v := .ref q1) (C := R_Rea) (T := F_Rea) (N := 4) hx hb hw in_Rea hown hK hP 0 rfl rfl 0 (by decide) (hw _ m_607) (fun _ h9 => h9) rfl d_Rea_readEnd_1 ?_
  refine lv_aload_n hx hb d_Rea_readEnd_4 rfl (lv_at hl 0 rfl) ?_
  refine va_get (D := D) (ci := 6) (v := .int (u 0 1)) (C := R_Rea) (T := F_Rea) (N := 4) hx hb hw in_Rea hown hK hP 0 rfl rfl 2 (by decide) (hw _ m_610) (fun _ h9 => h9) rfl d_Rea_readEnd_5 ?_
  refine lv_iconst (v := 1) hx hb d_Rea_readEnd_8 (by decide) ?_
  refine lv_isub hx hb d_Rea_readEnd_9 ?_
  obtain ⟨h1, hf⟩ := gd_o hf
  refine va_iald hx hb hK hP 1 0 rfl rfl (ix_in h1) d_Rea_readEnd_10 ?_
  refine lv_iconst (v := 1) hx hb d_Rea_readEnd_11 (by decide) ?_
  refine lv_aload_n hx hb d_Rea_readEnd_12 rfl (lv_at hl 0 rfl) ?_
  refine va_get (D := D) (ci := 6) (v := .int (u 0 2)) (C := R_Rea) (T := F_Rea) (N := 4) hx hb hw in_Rea hown hK hP 0 rfl rfl 3 (by decide) (hw _ m_611) (fun _ h9 => h9) rfl d_Rea_readEnd_13 ?_
  refine lv_ishl hx hb d_Rea_readEnd_16 ?_
  refine lv_iconst (v := 1) hx hb d_Rea_readEnd_17 (by decide) ?_
  refine lv_isub hx hb d_Rea_readEnd_18 ?_
  refine lv_iand hx hb d_Rea_readEnd_19 ?_
  refine lv_topi (fun x2 e_x2 => ?_)
  have hf := tk_e hf e_x2
  refine lv_if_eq (tgt := 33) hx hb d_Rea_readEnd_20 (by decide) (fun hc => ?_) (fun hc => ?_)
  · have hf := bq_t hf hc
    refine lv_aload_n hx hb d_Rea_readEnd_33 rfl (lv_at hl 0 rfl) ?_
    refine va_get (D := D) (ci := 6) (v := .ref q1) (C := R_Rea) (T := F_Rea) (N := 4) hx hb hw in_Rea hown hK hP 0 rfl rfl 0 (by decide) (hw _ m_607) (fun _ h9 => h9) rfl d_Rea_readEnd_34 ?_
    refine lv_aload_n hx hb d_Rea_readEnd_37 rfl (lv_at hl 0 rfl) ?_
    refine va_get (D := D) (ci := 6) (v := .int (u 0 1)) (C := R_Rea) (T := F_Rea) (N := 4) hx hb hw in_Rea hown hK hP 0 rfl rfl 2 (by decide) (hw _ m_610) (fun _ h9 => h9) rfl d_Rea_readEnd_38 ?_
    refine lv_iconst (v := 1) hx hb d_Rea_readEnd_41 (by decide) ?_
    refine lv_isub hx hb d_Rea_readEnd_42 ?_
    obtain ⟨h3, hf⟩ := gd_o hf
    refine va_iald hx hb hK hP 1 0 rfl rfl (ix_in h3) d_Rea_readEnd_43 ?_
    refine lv_sipush (v := 255) hx hb d_Rea_readEnd_44 (by decide) ?_
    refine lv_icmp_ne (tgt := 82) hx hb d_Rea_readEnd_47 (by decide) (fun hc => ?_) (fun hc => ?_)
    · have hf := bq_n hf hc
      exact j82 _ _ _  u (lv_sub hl [0] rfl) hP hS hf
    have hf := bq_t hf hc
    refine lv_aload_n hx hb d_Rea_readEnd_50 rfl (lv_at hl 0 rfl) ?_
    refine va_get (D := D) (ci := 6) (v := .ref q1) (C := R_Rea) (T := F_Rea) (N := 4) hx hb hw in_Rea hown hK hP 0 rfl rfl 0 (by decide) (hw _ m_607) (fun _ h9 => h9) rfl d_Rea_readEnd_51 ?_
    refine lv_aload_n hx hb d_Rea_readEnd_54 rfl (lv_at hl 0 rfl) ?_
    refine va_get (D := D) (ci := 6) (v := .int (u 0 1)) (C := R_Rea) (T := F_Rea) (N := 4) hx hb hw in_Rea hown hK hP 0 rfl rfl 2 (by decide) (hw _ m_610) (fun _ h9 => h9) rfl d_Rea_readEnd_55 ?_
    obtain ⟨h4, hf⟩ := gd_o hf
    refine va_iald hx hb hK hP 1 0 rfl rfl (ix_in h4) d_Rea_readEnd_58 ?_
    refine lv_if_eq (tgt := 72) hx hb d_Rea_readEnd_59 (by decide) (fun hc => ?_) (fun hc => ?_)
    · have hf := bq_t hf hc
      refine lv_aload_n hx hb d_Rea_readEnd_72 rfl (lv_at hl 0 rfl) ?_
      refine lv_dup hx hb d_Rea_readEnd_73 rfl ?_
      refine va_get (D := D) (ci := 6) (v := .int (u 0 1)) (C := R_Rea) (T := F_Rea) (N := 4) hx hb hw in_Rea hown hK hP 0 rfl rfl 2 (by decide) (hw _ m_610) (fun _ h9 => h9) rfl d_Rea_readEnd_74 ?_
      refine lv_iconst (v := 1) hx hb d_Rea_readEnd_77 (by decide) ?_
      refine lv_iadd hx hb d_Rea_readEnd_78 ?_
      refine va_put (D := D) (ci := 6) (v := .int ((u 0 1) + 1)) (ty := .int) (C := R_Rea) (T := F_Rea) (N := 4) hx hb hw in_Rea t_Rea t_Rea_ok n_Rea hown hK hP (hD _) hS 0 rfl rfl 2 (by decide) (hw _ m_610) (fun _ h9 => h9) rfl (by decide +kernel) rfl rfl (Nat.le_of_ble_eq_true rfl) d_Rea_readEnd_79 (fun H locs hP _ hS => ?_)
      obtain ⟨u5, e_u5, hf⟩ := tk_o hf
      have hP : va_P D cls (wRea cI q0 q1 u5) H := by rw [e_u5]; exact hP
      exact j82 _ _ _  u5 (lv_sub hl [0] rfl) hP hS hf
    have hf := bq_n hf hc
    exact xo hf
  have hf := bq_n hf hc
  exact xo hf
set_option maxHeartbeats 4000000 in
set_option maxRecDepth 100000 in
theorem x_Rea_readEnd (l : Launch) (hfl : l.flags = pinnedFlags ++ [noTraceFlag]) (D : va_G) (cI : ClassId) (tJ : Nat) (q0 : Nat) (q1 : Nat) (hd : dj [q0, q1]) (u : gU) (v : gU) (hf : f_Rea_readEnd u = some (.inl v)) : MetX l y_Rea_readEnd (.code y_Rea_readEnd b_Rea_readEnd 1 none :: TS) ({ frames := 6, cells := 1, slots := 6, locals := 108 }) (va_Pc [.ref q0] (fun U => va_P D cls (wRea cI q0 q1 u) U.heap ∧ va_K D cls [(cI, .int)] U ∧ Jt tJ (ad [q0, q1]) U ∧ Xt (ad [q0, q1]) U)) D cls (wRea cI q0 q1 v) (ad [q0, q1]) := by
  refine ct_ofX hfl (by decide +kernel) (Nat.le_of_ble_eq_true rfl) ?_
  intro p e s m below meth c ls hx hb hml hr hlocks hown hw hP hK hJ hl hX htr hout
  have hS : va_S (ad [q0, q1]) s.heap s.heap [] := va_S.rf
  have hD : ∀ v, va_D (ad [q0, q1]) (wRea cI q0 q1 v) := fun _ => dj_D rfl hd
  have hl : lv_has ls 1 [(0, .ref q0)] := hl
  have hP : va_P D cls (wRea cI q0 q1 u) s.heap := hP
  have j125 : ∀ (ls : Array Slot) (H : Heap) (locs : List Loc) (u : gU), lv_has ls 1 [] → va_P D cls (wRea cI q0 q1 u) H → va_S (ad [q0, q1]) s.heap H locs → J_Rea_readEnd_125 u = some (.inl v) → W p l e ({ frames := 6, cells := 1, slots := 6, locals := 108 }) s m [.ref q0].toArray below meth c H locs 0 0 (MQX below D cls (wRea cI q0 q1 v) (ad [q0, q1]) [.ref q0].toArray s) (F0 m 125 ls []) := by
    intro ls H locs u hl hP hS hf
    unfold J_Rea_readEnd_125 at hf
    exact thr_new (own := R_Rea) (tx := "the code does not end with 255, 217") hx hb hml hl.1 hlocks htr hown hw hX hS (by rw [← sl hf]; exact hP) m_612 m_613 m_614 m_615 (List.mem_of_getElem? (i := 9) rfl) hout (Nat.le_of_ble_eq_true rfl) (Nat.le_of_ble_eq_true rfl) (Nat.le_of_ble_eq_true rfl) (Nat.le_of_ble_eq_true rfl) d_Rea_readEnd_125 d_Rea_readEnd_128 d_Rea_readEnd_129 d_Rea_readEnd_131 d_Rea_readEnd_134
  have j82 : ∀ (ls : Array Slot) (H : Heap) (locs : List Loc) (u : gU), lv_has ls 1 [(0, .ref q0)] → va_P D cls (wRea cI q0 q1 u) H → va_S (ad [q0, q1]) s.heap H locs → J_Rea_readEnd_82 u = some (.inl v) → W p l e ({ frames := 6, cells := 1, slots := 6, locals := 108 }) s m [.ref q0].toArray below meth c H locs 0 0 (MQX below D cls (wRea cI q0 q1 v) (ad [q0, q1]) [.ref q0].toArray s) (F0 m 82 ls []) := by
    intro ls H locs u hl hP hS hf
    unfold J_Rea_readEnd_82 at hf
    refine lv_aload_n hx hb d_Rea_readEnd_82 rfl (lv_at hl 0 rfl) ?_
    refine va_get (D := D) (ci := 6) (v := .int (u 0 1)) (C := R_Rea) (T := F_Rea) (N := 4) hx hb hw in_Rea hown hK hP 0 rfl rfl 2 (by decide) (hw _ m_610) (fun _ h9 => h9) rfl d_Rea_readEnd_83 ?_
    refine lv_aload_n hx hb d_Rea_readEnd_86 rfl (lv_at hl 0 rfl) ?_
    refine va_get (D := D) (ci := 6) (v := .int (u 0 0)) (C := R_Rea) (T := F_Rea) (N := 4) hx hb hw in_Rea hown hK hP 0 rfl rfl 1 (by decide) (hw _ m_609) (fun _ h9 => h9) rfl d_Rea_readEnd_87 ?_
    refine lv_icmp_ne (tgt := 125) hx hb d_Rea_readEnd_90 (by decide) (fun hc => ?_) (fun hc => ?_)
    · have hf := bq_n hf hc
      exact j125 _ _ _  u (lv_sub hl [] rfl) hP hS hf
    have hf := bq_t hf hc
    refine lv_aload_n hx hb d_Rea_readEnd_93 rfl (lv_at hl 0 rfl) ?_
    refine va_get (D := D) (ci := 6) (v := .ref q1) (C := R_Rea) (T := F_Rea) (N := 4) hx hb hw in_Rea hown hK hP 0 rfl rfl 0 (by decide) (hw _ m_607) (fun _ h9 => h9) rfl d_Rea_readEnd_94 ?_
    refine lv_aload_n hx hb d_Rea_readEnd_97 rfl (lv_at hl 0 rfl) ?_
    refine va_get (D := D) (ci := 6) (v := .int (u 0 0)) (C := R_Rea) (T := F_Rea) (N := 4) hx hb hw in_Rea hown hK hP 0 rfl rfl 1 (by decide) (hw _ m_609) (fun _ h9 => h9) rfl d_Rea_readEnd_98 ?_
    obtain ⟨h1, hf⟩ := gd_o hf
    refine va_iald hx hb hK hP 1 0 rfl rfl (ix_in h1) d_Rea_readEnd_101 ?_
    refine lv_sipush (v := 255) hx hb d_Rea_readEnd_102 (by decide) ?_
    refine lv_icmp_ne (tgt := 125) hx hb d_Rea_readEnd_105 (by decide) (fun hc => ?_) (fun hc => ?_)
    · have hf := bq_n hf hc
      exact j125 _ _ _  u (lv_sub hl [] rfl) hP hS hf
    have hf := bq_t hf hc
    refine lv_aload_n hx hb d_Rea_readEnd_108 rfl (lv_at hl 0 rfl) ?_
    refine va_get (D := D) (ci := 6) (v := .ref q1) (C := R_Rea) (T := F_Rea) (N := 4) hx hb hw in_Rea hown hK hP 0 rfl rfl 0 (by decide) (hw _ m_607) (fun _ h9 => h9) rfl d_Rea_readEnd_109 ?_
    refine lv_aload_n hx hb d_Rea_readEnd_112 rfl (lv_at hl 0 rfl) ?_
    refine va_get (D := D) (ci := 6) (v := .int (u 0 0)) (C := R_Rea) (T := F_Rea) (N := 4) hx hb hw in_Rea hown hK hP 0 rfl rfl 1 (by decide) (hw _ m_609) (fun _ h9 => h9) rfl d_Rea_readEnd_113 ?_
    refine lv_iconst (v := 1) hx hb d_Rea_readEnd_116 (by decide) ?_
    refine lv_iadd hx hb d_Rea_readEnd_117 ?_
    obtain ⟨h2, hf⟩ := gd_o hf
    refine va_iald hx hb hK hP 1 0 rfl rfl (ix_in h2) d_Rea_readEnd_118 ?_
    refine lv_sipush (v := 217) hx hb d_Rea_readEnd_119 (by decide) ?_
    refine lv_icmp_eq (tgt := 135) hx hb d_Rea_readEnd_122 (by decide) (fun hc => ?_) (fun hc => ?_)
    · have hf := bq_t hf hc
      exact ox hf
    have hf := bq_n hf hc
    exact j125 _ _ _  u (lv_sub hl [] rfl) hP hS hf
  unfold f_Rea_readEnd at hf
  refine lv_aload_n hx hb d_Rea_readEnd_0 rfl (lv_at hl 0 rfl) ?_
  refine va_get (D := D) (ci := 6) (v := .ref q1) (C := R_Rea) (T := F_Rea) (N := 4) hx hb hw in_Rea hown hK hP 0 rfl rfl 0 (by decide) (hw _ m_607) (fun _ h9 => h9) rfl d_Rea_readEnd_1 ?_
  refine lv_aload_n hx hb d_Rea_readEnd_4 rfl (lv_at hl 0 rfl) ?_
  refine va_get (D := D) (ci := 6) (v := .int (u 0 1)) (C := R_Rea) (T := F_Rea) (N := 4) hx hb hw in_Rea hown hK hP 0 rfl rfl 2 (by decide) (hw _ m_610) (fun _ h9 => h9) rfl d_Rea_readEnd_5 ?_
  refine lv_iconst (v := 1) hx hb d_Rea_readEnd_8 (by decide) ?_
  refine lv_isub hx hb d_Rea_readEnd_9 ?_
  obtain ⟨h1, hf⟩ := gd_o hf
  refine va_iald hx hb hK hP 1 0 rfl rfl (ix_in h1) d_Rea_readEnd_10 ?_
  refine lv_iconst (v := 1) hx hb d_Rea_readEnd_11 (by decide) ?_
  refine lv_aload_n hx hb d_Rea_readEnd_12 rfl (lv_at hl 0 rfl) ?_
  refine va_get (D := D) (ci := 6) (v := .int (u 0 2)) (C := R_Rea) (T := F_Rea) (N := 4) hx hb hw in_Rea hown hK hP 0 rfl rfl 3 (by decide) (hw _ m_611) (fun _ h9 => h9) rfl d_Rea_readEnd_13 ?_
  refine lv_ishl hx hb d_Rea_readEnd_16 ?_
  refine lv_iconst (v := 1) hx hb d_Rea_readEnd_17 (by decide) ?_
  refine lv_isub hx hb d_Rea_readEnd_18 ?_
  refine lv_iand hx hb d_Rea_readEnd_19 ?_
  refine lv_topi (fun x2 e_x2 => ?_)
  have hf := tk_e hf e_x2
  refine lv_if_eq (tgt := 33) hx hb d_Rea_readEnd_20 (by decide) (fun hc => ?_) (fun hc => ?_)
  · have hf := bq_t hf hc
    refine lv_aload_n hx hb d_Rea_readEnd_33 rfl (lv_at hl 0 rfl) ?_
    refine va_get (D := D) (ci := 6) (v := .ref q1) (C := R_Rea) (T := F_Rea) (N := 4) hx hb hw in_Rea hown hK hP 0 rfl rfl 0 (by decide) (hw _ m_607) (fun _ h9 => h9) rfl d_Rea_readEnd_34 ?_
    refine lv_aload_n hx hb d_Rea_readEnd_37 rfl (lv_at hl 0 rfl) ?_
    refine va_get (D := D) (ci := 6) (v := .int (u 0 1)) (C := R_Rea) (T := F_Rea) (N := 4) hx hb hw in_Rea hown hK hP 0 rfl rfl 2 (by decide) (hw _ m_610) (fun _ h9 => h9) rfl d_Rea_readEnd_38 ?_
    refine lv_iconst (v := 1) hx hb d_Rea_readEnd_41 (by decide) ?_
    refine lv_isub hx hb d_Rea_readEnd_42 ?_
    obtain ⟨h3, hf⟩ := gd_o hf
    refine va_iald hx hb hK hP 1 0 rfl rfl (ix_in h3) d_Rea_readEnd_43 ?_
    refine lv_sipush (v := 255) hx hb d_Rea_readEnd_44 (by decide) ?_
    refine lv_icmp_ne (tgt := 82) hx hb d_Rea_readEnd_47 (by decide) (fun hc => ?_) (fun hc => ?_)
    · have hf := bq_n hf hc
      exact j82 _ _ _  u (lv_sub hl [0] rfl) hP hS hf
    have hf := bq_t hf hc
    refine lv_aload_n hx hb d_Rea_readEnd_50 rfl (lv_at hl 0 rfl) ?_
    refine va_get (D := D) (ci := 6) (v := .ref q1) (C := R_Rea) (T := F_Rea) (N := 4) hx hb hw in_Rea hown hK hP 0 rfl rfl 0 (by decide) (hw _ m_607) (fun _ h9 => h9) rfl d_Rea_readEnd_51 ?_
    refine lv_aload_n hx hb d_Rea_readEnd_54 rfl (lv_at hl 0 rfl) ?_
    refine va_get (D := D) (ci := 6) (v := .int (u 0 1)) (C := R_Rea) (T := F_Rea) (N := 4) hx hb hw in_Rea hown hK hP 0 rfl rfl 2 (by decide) (hw _ m_610) (fun _ h9 => h9) rfl d_Rea_readEnd_55 ?_
    obtain ⟨h4, hf⟩ := gd_o hf
    refine va_iald hx hb hK hP 1 0 rfl rfl (ix_in h4) d_Rea_readEnd_58 ?_
    refine lv_if_eq (tgt := 72) hx hb d_Rea_readEnd_59 (by decide) (fun hc => ?_) (fun hc => ?_)
    · have hf := bq_t hf hc
      refine lv_aload_n hx hb d_Rea_readEnd_72 rfl (lv_at hl 0 rfl) ?_
      refine lv_dup hx hb d_Rea_readEnd_73 rfl ?_
      refine va_get (D := D) (ci := 6) (v := .int (u 0 1)) (C := R_Rea) (T := F_Rea) (N := 4) hx hb hw in_Rea hown hK hP 0 rfl rfl 2 (by decide) (hw _ m_610) (fun _ h9 => h9) rfl d_Rea_readEnd_74 ?_
      refine lv_iconst (v := 1) hx hb d_Rea_readEnd_77 (by decide) ?_
      refine lv_iadd hx hb d_Rea_readEnd_78 ?_
      refine va_put (D := D) (ci := 6) (v := .int ((u 0 1) + 1)) (ty := .int) (C := R_Rea) (T := F_Rea) (N := 4) hx hb hw in_Rea t_Rea t_Rea_ok n_Rea hown hK hP (hD _) hS 0 rfl rfl 2 (by decide) (hw _ m_610) (fun _ h9 => h9) rfl (by decide +kernel) rfl rfl (Nat.le_of_ble_eq_true rfl) d_Rea_readEnd_79 (fun H locs hP _ hS => ?_)
      obtain ⟨u5, e_u5, hf⟩ := tk_o hf
      have hP : va_P D cls (wRea cI q0 q1 u5) H := by rw [e_u5]; exact hP
      exact j82 _ _ _  u5 (lv_sub hl [0] rfl) hP hS hf
    have hf := bq_n hf hc
    exact thr_new (own := R_Rea) (tx := "the last byte is 255 and no 0 follows") hx hb hml hl.1 hlocks htr hown hw hX hS (by rw [← sl hf]; exact hP) m_612 m_613 m_614 m_615 (List.mem_of_getElem? (i := 8) rfl) hout (Nat.le_of_ble_eq_true rfl) (Nat.le_of_ble_eq_true rfl) (Nat.le_of_ble_eq_true rfl) (Nat.le_of_ble_eq_true rfl) d_Rea_readEnd_62 d_Rea_readEnd_65 d_Rea_readEnd_66 d_Rea_readEnd_68 d_Rea_readEnd_71
  have hf := bq_n hf hc
  exact thr_new (own := R_Rea) (tx := "a bit that is left is not 0") hx hb hml hl.1 hlocks htr hown hw hX hS (by rw [← sl hf]; exact hP) m_612 m_613 m_614 m_615 (List.mem_of_getElem? (i := 7) rfl) hout (Nat.le_of_ble_eq_true rfl) (Nat.le_of_ble_eq_true rfl) (Nat.le_of_ble_eq_true rfl) (Nat.le_of_ble_eq_true rfl) d_Rea_readEnd_23 d_Rea_readEnd_26 d_Rea_readEnd_27 d_Rea_readEnd_29 d_Rea_readEnd_32
