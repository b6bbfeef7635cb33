def J_Mod_learn_227 (l1 : Int32) (l4 : Int32) (l5 : Int32) (u : gU) : Option (gU) := gd (ix (l1 + 1) 1835) (tk (st2 u 3 (tc (l1 + 1)) l4) fun u2 => gd (ix (l1 + 2) 1835) (tk (st2 u2 3 (tc (l1 + 2)) l5) fun u4 => some u4))
def J_Mod_learn_225 (l1 : Int32) (l5 : Int32) (s0 : Int32) (u : gU) : Option (gU) := J_Mod_learn_227 l1 s0 l5 u
def J_Mod_learn_212 (l1 : Int32) (l4 : Int32) (s0 : Int32) (u : gU) : Option (gU) := bq (l4 ≤ 0) (J_Mod_learn_225 l1 s0 l4 u) (J_Mod_learn_225 l1 s0 0 u)
def J_Mod_learn_180 (l1 : Int32) (l5 : Int32) (s0 : Int32) (u : gU) : Option (gU) := J_Mod_learn_227 l1 s0 l5 u
def J_Mod_learn_163 (l1 : Int32) (l3 : Int32) (l4 : Int32) (s0 : Int32) (u : gU) : Option (gU) := bq ((-l3) < l4) (J_Mod_learn_180 l1 s0 l4 u) (J_Mod_learn_180 l1 s0 (1 - l3) u)
def J_Mod_learn_93 (l1 : Int32) (u : gU) : Option (gU) := gd (ix (l1 + 3) 1835) (gd (ix (l1 + 3) 1835) (tk (st2 u 3 (tc (l1 + 3)) ((u 3 (tc (l1 + 3))) + 1)) fun u3 => gd (ix (l1 + 3) 1835) (tk (u3 3 (tc (l1 + 3))) fun x5 => gd (ix (l1 + 1) 1835) (tk (u3 3 (tc (l1 + 1))) fun x7 => gd (ix (l1 + 2) 1835) (tk (u3 3 (tc (l1 + 2))) fun x9 => bq ((-x5) < x7) (bq (x7 ≤ 0) (J_Mod_learn_227 l1 x7 x9 u3) (tk (x7 - x5) fun x10 => bq (127 ≤ x9) (J_Mod_learn_212 l1 x10 x9 u3) (J_Mod_learn_212 l1 x10 (x9 + 1) u3))) (tk (x7 + x5) fun x11 => bq (x9 ≤ (-128)) (J_Mod_learn_163 l1 x5 x11 x9 u3) (J_Mod_learn_163 l1 x5 x11 (x9 - 1) u3)))))))
def J_Mod_learn_34 (l1 : Int32) (s1 : Int32) (s2 : Int32) (s3 : Int32) (u : gU) : Option (gU) := gd (ix s1 1835) (tk (st2 u 3 (tc s1) (s2 + s3)) fun u2 => gd (ix (l1 + 3) 1835) (bq ((u2 3 (tc (l1 + 3))) = 64) (gd (ix l1 1835) (bd (f_Mod_half (u2 3 (tc l1))) fun x5 => gd (ix l1 1835) (tk (st2 u2 3 (tc l1) x5) fun u7 => gd (ix (l1 + 1) 1835) (bd (f_Mod_half (u7 3 (tc (l1 + 1)))) fun x9 => gd (ix (l1 + 1) 1835) (tk (st2 u7 3 (tc (l1 + 1)) x9) fun u11 => gd (ix (l1 + 3) 1835) (tk (st2 u11 3 (tc (l1 + 3)) 32) fun u13 => J_Mod_learn_93 l1 u13)))))) (J_Mod_learn_93 l1 u2)))
def f_Mod_learn (a1 : Int32) (a2 : Int32) (u : gU) : Option (gU) := gd (ix (a1 + 1) 1835) (gd (ix (a1 + 1) 1835) (tk (st2 u 3 (tc (a1 + 1)) ((u 3 (tc (a1 + 1))) + (a2 * (u 0 5)))) fun u3 => gd (ix a1 1835) (bq (0 ≤ a2) (J_Mod_learn_34 a1 a1 (u3 3 (tc a1)) a2 u3) (J_Mod_learn_34 a1 a1 (u3 3 (tc a1)) (-a2) u3))))
set_option maxHeartbeats 4000000 in
set_option maxRecDepth 100000 in
theorem c_Mod_learn (l : Launch) (D : va_G) (cI : ClassId) (q0 : Nat) (q1 : Nat) (q2 : Nat) (q3 : Nat) (q4 : Nat) (q5 : Nat) (q6 : Nat) (q7 : Nat) (hd : dj [q0, q1, q2, q3, q4, q5, q6, q7]) (a1 : Int32) (a2 : Int32) (u : gU) (v : gU) (hf : f_Mod_learn a1 a2 u = some v) : Met l y_Mod_learn (.code y_Mod_learn b_Mod_learn 6 none :: TS) ({ frames := 1, cells := 0, slots := 0, locals := 20 }) (va_Pc [.ref q0, .int a1, .int a2] (fun U => va_P D cls (wMod cI q0 q1 q2 q3 q4 q5 q6 q7 u) U.heap ∧ va_K D cls [(cI, .int)] U)) (va_Qv (fun (_ : Unit) => True) (fun _ t => va_P D cls (wMod cI q0 q1 q2 q3 q4 q5 q6 q7 v) t.heap) (ad [q0, q1, q2, q3, q4, q5, q6, q7])) 0 0 (ad [q0, q1, q2, q3, q4, q5, q6, q7]) := by
  refine ct_of (by decide +kernel) (Nat.le_of_ble_eq_true rfl) ?_
  intro p e s m below meth c ls hx hb hml hr hlocks hown hw hP hK hl
  have hS : va_S (ad [q0, q1, q2, q3, q4, q5, q6, q7]) s.heap s.heap [] := va_S.rf
  have hD : ∀ v, va_D (ad [q0, q1, q2, q3, q4, q5, q6, q7]) (wMod cI q0 q1 q2 q3 q4 q5 q6 q7 v) := fun _ => dj_D rfl hd
  have hl : lv_has ls 6 [(0, .ref q0), (1, .int a1), (2, .int a2)] := hl
  have hP : va_P D cls (wMod cI q0 q1 q2 q3 q4 q5 q6 q7 u) s.heap := hP
  have j227 : ∀ (ls : Array Slot) (H : Heap) (locs : List Loc) (l1 : Int32) (l4 : Int32) (l5 : Int32) (u : gU), lv_has ls 6 [(0, .ref q0), (1, .int l1), (4, .int l4), (5, .int l5)] → va_P D cls (wMod cI q0 q1 q2 q3 q4 q5 q6 q7 u) H → va_S (ad [q0, q1, q2, q3, q4, q5, q6, q7]) s.heap H locs → J_Mod_learn_227 l1 l4 l5 u = some v → W p l e ({ frames := 1, cells := 0, slots := 0, locals := 20 }) s m [.ref q0, .int a1, .int a2].toArray below meth c H locs 0 0 (MQ below (va_Qv (fun (_ : Unit) => True) (fun _ t => va_P D cls (wMod cI q0 q1 q2 q3 q4 q5 q6 q7 v) t.heap) (ad [q0, q1, q2, q3, q4, q5, q6, q7])) [.ref q0, .int a1, .int a2].toArray s 0 0 (ad [q0, q1, q2, q3, q4, q5, q6, q7])) (F0 m 227 ls []) := by
    intro ls H locs l1 l4 l5 u hl hP hS hf
    unfold J_Mod_learn_227 at hf
    refine lv_aload_n hx hb d_Mod_learn_227 rfl (lv_at hl 0 rfl) ?_
    refine va_get (D := D) (ci := 7) (v := .ref q3) (C := R_Mod) (T := F_Mod) (N := 28) hx hb hw in_Mod hown hK hP 0 rfl rfl 14 (by decide) (hw _ m_449) (fun _ h9 => h9) rfl d_Mod_learn_228 ?_
    refine lv_iload_n hx hb d_Mod_learn_231 rfl (lv_at hl 1 rfl) ?_
    refine lv_iconst (v := 1) hx hb d_Mod_learn_232 (by decide) ?_
    refine lv_iadd hx hb d_Mod_learn_233 ?_
    refine lv_iload hx hb d_Mod_learn_234 (lv_at hl 2 rfl) ?_
    obtain ⟨h1, hf⟩ := gd_o hf
    refine va_iast hx hb hK hP (hD _) hS 3 0 rfl rfl (ix_in h1) d_Mod_learn_236 (fun H locs hP _ hS => ?_)
    obtain ⟨u2, e_u2, hf⟩ := tk_o hf
    have hP : va_P D cls (wMod cI q0 q1 q2 q3 q4 q5 q6 q7 u2) H := by rw [e_u2]; exact hP
    refine lv_aload_n hx hb d_Mod_learn_237 rfl (lv_at hl 0 rfl) ?_
    refine va_get (D := D) (ci := 7) (v := .ref q3) (C := R_Mod) (T := F_Mod) (N := 28) hx hb hw in_Mod hown hK hP 0 rfl rfl 14 (by decide) (hw _ m_449) (fun _ h9 => h9) rfl d_Mod_learn_238 ?_
    refine lv_iload_n hx hb d_Mod_learn_241 rfl (lv_at hl 1 rfl) ?_
    refine lv_iconst (v := 2) hx hb d_Mod_learn_242 (by decide) ?_
    refine lv_iadd hx hb d_Mod_learn_243 ?_
    refine lv_iload hx hb d_Mod_learn_244 (lv_at hl 3 rfl) ?_
    obtain ⟨h3, hf⟩ := gd_o hf
    refine va_iast hx hb hK hP (hD _) hS 3 0 rfl rfl (ix_in h3) d_Mod_learn_246 (fun H locs hP _ hS => ?_)
    obtain ⟨u4, e_u4, hf⟩ := tk_o hf
    have hP : va_P D cls (wMod cI q0 q1 q2 q3 q4 q5 q6 q7 u4) H := by rw [e_u4]; exact hP
    exact rt_v (wMod cI q0 q1 q2 q3 q4 q5 q6 q7) hx hb hr hlocks hS hP hf d_Mod_learn_247
  have j225 : ∀ (ls : Array Slot) (H : Heap) (locs : List Loc) (l1 : Int32) (l5 : Int32) (s0 : Int32) (u : gU), lv_has ls 6 [(0, .ref q0), (1, .int l1), (5, .int l5)] → va_P D cls (wMod cI q0 q1 q2 q3 q4 q5 q6 q7 u) H → va_S (ad [q0, q1, q2, q3, q4, q5, q6, q7]) s.heap H locs → J_Mod_learn_225 l1 l5 s0 u = some v → W p l e ({ frames := 1, cells := 0, slots := 0, locals := 20 }) s m [.ref q0, .int a1, .int a2].toArray below meth c H locs 0 0 (MQ below (va_Qv (fun (_ : Unit) => True) (fun _ t => va_P D cls (wMod cI q0 q1 q2 q3 q4 q5 q6 q7 v) t.heap) (ad [q0, q1, q2, q3, q4, q5, q6, q7])) [.ref q0, .int a1, .int a2].toArray s 0 0 (ad [q0, q1, q2, q3, q4, q5, q6, q7])) (F0 m 225 ls [.int s0]) := by
    intro ls H locs l1 l5 s0 u hl hP hS hf
    unfold J_Mod_learn_225 at hf
    refine lv_istore (lv' := [(4, .int s0), (0, .ref q0), (1, .int l1), (5, .int l5)]) hx hb d_Mod_learn_225 hl (by decide) rfl (fun ls hl => ?_)
    exact j227 _ _ _ l1 s0 l5 u (lv_sub hl [1, 2, 0, 3] rfl) hP hS hf
  have j212 : ∀ (ls : Array Slot) (H : Heap) (locs : List Loc) (l1 : Int32) (l4 : Int32) (s0 : Int32) (u : gU), lv_has ls 6 [(0, .ref q0), (1, .int l1), (4, .int l4)] → va_P D cls (wMod cI q0 q1 q2 q3 q4 q5 q6 q7 u) H → va_S (ad [q0, q1, q2, q3, q4, q5, q6, q7]) s.heap H locs → J_Mod_learn_212 l1 l4 s0 u = some v → W p l e ({ frames := 1, cells := 0, slots := 0, locals := 20 }) s m [.ref q0, .int a1, .int a2].toArray below meth c H locs 0 0 (MQ below (va_Qv (fun (_ : Unit) => True) (fun _ t => va_P D cls (wMod cI q0 q1 q2 q3 q4 q5 q6 q7 v) t.heap) (ad [q0, q1, q2, q3, q4, q5, q6, q7])) [.ref q0, .int a1, .int a2].toArray s 0 0 (ad [q0, q1, q2, q3, q4, q5, q6, q7])) (F0 m 212 ls [.int s0]) := by
    intro ls H locs l1 l4 s0 u hl hP hS hf
    unfold J_Mod_learn_212 at hf
    refine lv_istore (lv' := [(5, .int s0), (0, .ref q0), (1, .int l1), (4, .int l4)]) hx hb d_Mod_learn_212 hl (by decide) rfl (fun ls hl => ?_)
    refine lv_iload hx hb d_Mod_learn_214 (lv_at hl 3 rfl) ?_
    refine lv_if_le (tgt := 223) hx hb d_Mod_learn_216 (by decide) (fun hc => ?_) (fun hc => ?_)
    · have hf := bq_t hf hc
      refine lv_iload hx hb d_Mod_learn_223 (lv_at hl 3 rfl) ?_
      exact j225 _ _ _ l1 s0 l4 u (lv_sub hl [1, 2, 0] rfl) hP hS hf
    have hf := bq_n hf hc
    refine lv_iconst (v := 0) hx hb d_Mod_learn_219 (by decide) ?_
    refine lv_goto (tgt := 225) hx hb d_Mod_learn_220 (by decide) ?_
    exact j225 _ _ _ l1 s0 0 u (lv_sub hl [1, 2, 0] rfl) hP hS hf
  have j180 : ∀ (ls : Array Slot) (H : Heap) (locs : List Loc) (l1 : Int32) (l5 : Int32) (s0 : Int32) (u : gU), lv_has ls 6 [(0, .ref q0), (1, .int l1), (5, .int l5)] → va_P D cls (wMod cI q0 q1 q2 q3 q4 q5 q6 q7 u) H → va_S (ad [q0, q1, q2, q3, q4, q5, q6, q7]) s.heap H locs → J_Mod_learn_180 l1 l5 s0 u = some v → W p l e ({ frames := 1, cells := 0, slots := 0, locals := 20 }) s m [.ref q0, .int a1, .int a2].toArray below meth c H locs 0 0 (MQ below (va_Qv (fun (_ : Unit) => True) (fun _ t => va_P D cls (wMod cI q0 q1 q2 q3 q4 q5 q6 q7 v) t.heap) (ad [q0, q1, q2, q3, q4, q5, q6, q7])) [.ref q0, .int a1, .int a2].toArray s 0 0 (ad [q0, q1, q2, q3, q4, q5, q6, q7])) (F0 m 180 ls [.int s0]) := by
    intro ls H locs l1 l5 s0 u hl hP hS hf
    unfold J_Mod_learn_180 at hf
    refine lv_istore (lv' := [(4, .int s0), (0, .ref q0), (1, .int l1), (5, .int l5)]) hx hb d_Mod_learn_180 hl (by decide) rfl (fun ls hl => ?_)
    refine lv_goto (tgt := 227) hx hb d_Mod_learn_182 (by decide) ?_
    exact j227 _ _ _ l1 s0 l5 u (lv_sub hl [1, 2, 0, 3] rfl) hP hS hf
  have j163 : ∀ (ls : Array Slot) (H : Heap) (locs : List Loc) (l1 : Int32) (l3 : Int32) (l4 : Int32) (s0 : Int32) (u : gU), lv_has ls 6 [(0, .ref q0), (1, .int l1), (3, .int l3), (4, .int l4)] → va_P D cls (wMod cI q0 q1 q2 q3 q4 q5 q6 q7 u) H → va_S (ad [q0, q1, q2, q3, q4, q5, q6, q7]) s.heap H locs → J_Mod_learn_163 l1 l3 l4 s0 u = some v → W p l e ({ frames := 1, cells := 0, slots := 0, locals := 20 }) s m [.ref q0, .int a1, .int a2].toArray below meth c H locs 0 0 (MQ below (va_Qv (fun (_ : Unit) => True) (fun _ t => va_P D cls (wMod cI q0 q1 q2 q3 q4 q5 q6 q7 v) t.heap) (ad [q0, q1, q2, q3, q4, q5, q6, q7])) [.ref q0, .int a1, .int a2].toArray s 0 0 (ad [q0, q1, q2, q3, q4, q5, q6, q7])) (F0 m 163 ls [.int s0]) := by
    intro ls H locs l1 l3 l4 s0 u hl hP hS hf
    unfold J_Mod_learn_163 at hf
    refine lv_istore (lv' := [(5, .int s0), (0, .ref q0), (1, .int l1), (3, .int l3), (4, .int l4)]) hx hb d_Mod_learn_163 hl (by decide) rfl (fun ls hl => ?_)
    refine lv_iload hx hb d_Mod_learn_165 (lv_at hl 4 rfl) ?_
    refine lv_iload_n hx hb d_Mod_learn_167 rfl (lv_at hl 3 rfl) ?_
    refine lv_ineg hx hb d_Mod_learn_168 ?_
    refine lv_icmp_gt (tgt := 178) hx hb d_Mod_learn_169 (by decide) (fun hc => ?_) (fun hc => ?_)
    · have hf := bq_t hf hc
      refine lv_iload hx hb d_Mod_learn_178 (lv_at hl 4 rfl) ?_
      exact j180 _ _ _ l1 s0 l4 u (lv_sub hl [1, 2, 0] rfl) hP hS hf
    have hf := bq_n hf hc
    refine lv_iconst (v := 1) hx hb d_Mod_learn_172 (by decide) ?_
    refine lv_iload_n hx hb d_Mod_learn_173 rfl (lv_at hl 3 rfl) ?_
    refine lv_isub hx hb d_Mod_learn_174 ?_
    refine lv_goto (tgt := 180) hx hb d_Mod_learn_175 (by decide) ?_
    exact j180 _ _ _ l1 s0 (1 - l3) u (lv_sub hl [1, 2, 0] rfl) hP hS hf
  have j93 : ∀ (ls : Array Slot) (H : Heap) (locs : List Loc) (l1 : Int32) (u : gU), lv_has ls 6 [(0, .ref q0), (1, .int l1)] → va_P D cls (wMod cI q0 q1 q2 q3 q4 q5 q6 q7 u) H → va_S (ad [q0, q1, q2, q3, q4, q5, q6, q7]) s.heap H locs → J_Mod_learn_93 l1 u = some v → W p l e ({ frames := 1, cells := 0, slots := 0, locals := 20 }) s m [.ref q0, .int a1, .int a2].toArray below meth c H locs 0 0 (MQ below (va_Qv (fun (_ : Unit) => True) (fun _ t => va_P D cls (wMod cI q0 q1 q2 q3 q4 q5 q6 q7 v) t.heap) (ad [q0, q1, q2, q3, q4, q5, q6, q7])) [.ref q0, .int a1, .int a2].toArray s 0 0 (ad [q0, q1, q2, q3, q4, q5, q6, q7])) (F0 m 93 ls []) := by
    intro ls H locs l1 u hl hP hS hf
    unfold J_Mod_learn_93 at hf
    refine lv_aload_n hx hb d_Mod_learn_93 rfl (lv_at hl 0 rfl) ?_
    refine va_get (D := D) (ci := 7) (v := .ref q3) (C := R_Mod) (T := F_Mod) (N := 28) hx hb hw in_Mod hown hK hP 0 rfl rfl 14 (by decide) (hw _ m_449) (fun _ h9 => h9) rfl d_Mod_learn_94 ?_
    refine lv_iload_n hx hb d_Mod_learn_97 rfl (lv_at hl 1 rfl) ?_
    refine lv_iconst (v := 3) hx hb d_Mod_learn_98 (by decide) ?_
    refine lv_iadd hx hb d_Mod_learn_99 ?_
    refine lv_dup2_11 hx hb d_Mod_learn_100 rfl rfl ?_
    obtain ⟨h1, hf⟩ := gd_o hf
    refine va_iald hx hb hK hP 3 0 rfl rfl (ix_in h1) d_Mod_learn_101 ?_
    refine lv_iconst (v := 1) hx hb d_Mod_learn_102 (by decide) ?_
    refine lv_iadd hx hb d_Mod_learn_103 ?_
    obtain ⟨h2, hf⟩ := gd_o hf
    refine va_iast hx hb hK hP (hD _) hS 3 0 rfl rfl (ix_in h2) d_Mod_learn_104 (fun H locs hP _ hS => ?_)
    obtain ⟨u3, e_u3, hf⟩ := tk_o hf
    have hP : va_P D cls (wMod cI q0 q1 q2 q3 q4 q5 q6 q7 u3) H := by rw [e_u3]; exact hP
    refine lv_aload_n hx hb d_Mod_learn_105 rfl (lv_at hl 0 rfl) ?_
    refine va_get (D := D) (ci := 7) (v := .ref q3) (C := R_Mod) (T := F_Mod) (N := 28) hx hb hw in_Mod hown hK hP 0 rfl rfl 14 (by decide) (hw _ m_449) (fun _ h9 => h9) rfl d_Mod_learn_106 ?_
    refine lv_iload_n hx hb d_Mod_learn_109 rfl (lv_at hl 1 rfl) ?_
    refine lv_iconst (v := 3) hx hb d_Mod_learn_110 (by decide) ?_
    refine lv_iadd hx hb d_Mod_learn_111 ?_
    obtain ⟨h4, hf⟩ := gd_o hf
    refine va_iald hx hb hK hP 3 0 rfl rfl (ix_in h4) d_Mod_learn_112 ?_
    refine lv_topi (fun x5 e_x5 => ?_)
    have hf := tk_e hf e_x5
    refine lv_istore_n (lv' := [(3, .int x5), (0, .ref q0), (1, .int l1)]) hx hb d_Mod_learn_113 rfl hl (by decide) rfl (fun ls hl => ?_)
    refine lv_aload_n hx hb d_Mod_learn_114 rfl (lv_at hl 1 rfl) ?_
    refine va_get (D := D) (ci := 7) (v := .ref q3) (C := R_Mod) (T := F_Mod) (N := 28) hx hb hw in_Mod hown hK hP 0 rfl rfl 14 (by decide) (hw _ m_449) (fun _ h9 => h9) rfl d_Mod_learn_115 ?_
    refine lv_iload_n hx hb d_Mod_learn_118 rfl (lv_at hl 2 rfl) ?_
    refine lv_iconst (v := 1) hx hb d_Mod_learn_119 (by decide) ?_
    refine lv_iadd hx hb d_Mod_learn_120 ?_
    obtain ⟨h6, hf⟩ := gd_o hf
    refine va_iald hx hb hK hP 3 0 rfl rfl (ix_in h6) d_Mod_learn_121 ?_
    refine lv_topi (fun x7 e_x7 => ?_)
    have hf := tk_e hf e_x7
    refine lv_istore (lv' := [(4, .int x7), (3, .int x5), (0, .ref q0), (1, .int l1)]) hx hb d_Mod_learn_122 hl (by decide) rfl (fun ls hl => ?_)
    refine lv_aload_n hx hb d_Mod_learn_124 rfl (lv_at hl 2 rfl) ?_
    refine va_get (D := D) (ci := 7) (v := .ref q3) (C := R_Mod) (T := F_Mod) (N := 28) hx hb hw in_Mod hown hK hP 0 rfl rfl 14 (by decide) (hw _ m_449) (fun _ h9 => h9) rfl d_Mod_learn_125 ?_
    refine lv_iload_n hx hb d_Mod_learn_128 rfl (lv_at hl 3 rfl) ?_
    refine lv_iconst (v := 2) hx hb d_Mod_learn_129 (by decide) ?_
    refine lv_iadd hx hb d_Mod_learn_130 ?_
    obtain ⟨h8, hf⟩ := gd_o hf
    refine va_iald hx hb hK hP 3 0 rfl rfl (ix_in h8) d_Mod_learn_131 ?_
    refine lv_topi (fun x9 e_x9 => ?_)
    have hf := tk_e hf e_x9
    refine lv_istore (lv' := [(5, .int x9), (4, .int x7), (3, .int x5), (0, .ref q0), (1, .int l1)]) hx hb d_Mod_learn_132 hl (by decide) rfl (fun ls hl => ?_)
    refine lv_iload hx hb d_Mod_learn_134 (lv_at hl 1 rfl) ?_
    refine lv_iload_n hx hb d_Mod_learn_136 rfl (lv_at hl 2 rfl) ?_
    refine lv_ineg hx hb d_Mod_learn_137 ?_
    refine lv_icmp_gt (tgt := 185) hx hb d_Mod_learn_138 (by decide) (fun hc => ?_) (fun hc => ?_)
    · have hf := bq_t hf hc
      refine lv_iload hx hb d_Mod_learn_185 (lv_at hl 1 rfl) ?_
      refine lv_if_le (tgt := 227) hx hb d_Mod_learn_187 (by decide) (fun hc => ?_) (fun hc => ?_)
      · have hf := bq_t hf hc
        exact j227 _ _ _ l1 x7 x9 u3 (lv_sub hl [3, 4, 1, 0] rfl) hP hS hf
      have hf := bq_n hf hc
      refine lv_iload hx hb d_Mod_learn_190 (lv_at hl 1 rfl) ?_
      refine lv_iload_n hx hb d_Mod_learn_192 rfl (lv_at hl 2 rfl) ?_
      refine lv_isub hx hb d_Mod_learn_193 ?_
      refine lv_topi (fun x10 e_x10 => ?_)
      have hf := tk_e hf e_x10
      refine lv_istore (lv' := [(4, .int x10), (5, .int x9), (3, .int x5), (0, .ref q0), (1, .int l1)]) hx hb d_Mod_learn_194 hl (by decide) rfl (fun ls hl => ?_)
      refine lv_iload hx hb d_Mod_learn_196 (lv_at hl 1 rfl) ?_
      refine lv_bipush (v := 127) hx hb d_Mod_learn_198 (by decide) ?_
      refine lv_icmp_ge (tgt := 210) hx hb d_Mod_learn_200 (by decide) (fun hc => ?_) (fun hc => ?_)
      · have hf := bq_t hf hc
        refine lv_iload hx hb d_Mod_learn_210 (lv_at hl 1 rfl) ?_
        exact j212 _ _ _ l1 x10 x9 u3 (lv_sub hl [3, 4, 0] rfl) hP hS hf
      have hf := bq_n hf hc
      refine lv_iload hx hb d_Mod_learn_203 (lv_at hl 1 rfl) ?_
      refine lv_iconst (v := 1) hx hb d_Mod_learn_205 (by decide) ?_
      refine lv_iadd hx hb d_Mod_learn_206 ?_
      refine lv_goto (tgt := 212) hx hb d_Mod_learn_207 (by decide) ?_
      exact j212 _ _ _ l1 x10 (x9 + 1) u3 (lv_sub hl [3, 4, 0] rfl) hP hS hf
    have hf := bq_n hf hc
    refine lv_iload hx hb d_Mod_learn_141 (lv_at hl 1 rfl) ?_
    refine lv_iload_n hx hb d_Mod_learn_143 rfl (lv_at hl 2 rfl) ?_
    refine lv_iadd hx hb d_Mod_learn_144 ?_
    refine lv_topi (fun x11 e_x11 => ?_)
    have hf := tk_e hf e_x11
    refine lv_istore (lv' := [(4, .int x11), (5, .int x9), (3, .int x5), (0, .ref q0), (1, .int l1)]) hx hb d_Mod_learn_145 hl (by decide) rfl (fun ls hl => ?_)
    refine lv_iload hx hb d_Mod_learn_147 (lv_at hl 1 rfl) ?_
    refine lv_bipush (v := (-128)) hx hb d_Mod_learn_149 (by decide) ?_
    refine lv_icmp_le (tgt := 161) hx hb d_Mod_learn_151 (by decide) (fun hc => ?_) (fun hc => ?_)
    · have hf := bq_t hf hc
      refine lv_iload hx hb d_Mod_learn_161 (lv_at hl 1 rfl) ?_
      exact j163 _ _ _ l1 x5 x11 x9 u3 (lv_sub hl [3, 4, 2, 0] rfl) hP hS hf
    have hf := bq_n hf hc
    refine lv_iload hx hb d_Mod_learn_154 (lv_at hl 1 rfl) ?_
    refine lv_iconst (v := 1) hx hb d_Mod_learn_156 (by decide) ?_
    refine lv_isub hx hb d_Mod_learn_157 ?_
    refine lv_goto (tgt := 163) hx hb d_Mod_learn_158 (by decide) ?_
    exact j163 _ _ _ l1 x5 x11 (x9 - 1) u3 (lv_sub hl [3, 4, 2, 0] rfl) hP hS hf
  have j34 : ∀ (ls : Array Slot) (H : Heap) (locs : List Loc) (l1 : Int32) (s1 : Int32) (s2 : Int32) (s3 : Int32) (u : gU), lv_has ls 6 [(0, .ref q0), (1, .int l1)] → va_P D cls (wMod cI q0 q1 q2 q3 q4 q5 q6 q7 u) H → va_S (ad [q0, q1, q2, q3, q4, q5, q6, q7]) s.heap H locs → J_Mod_learn_34 l1 s1 s2 s3 u = some v → W p l e ({ frames := 1, cells := 0, slots := 0, locals := 20 }) s m [.ref q0, .int a1, .int a2].toArray below meth c H locs 0 0 (MQ below (va_Qv (fun (_ : Unit) => True) (fun _ t => va_P D cls (wMod cI q0 q1 q2 q3 q4 q5 q6 q7 v) t.heap) (ad [q0, q1, q2, q3, q4, q5, q6, q7])) [.ref q0, .int a1, .int a2].toArray s 0 0 (ad [q0, q1, q2, q3, q4, q5, q6, q7])) (F0 m 34 ls [.int s3, .int s2, .int s1, .ref q3]) := by
    intro ls H locs l1 s1 s2 s3 u hl hP hS hf
    unfold J_Mod_learn_34 at hf
    refine lv_iadd hx hb d_Mod_learn_34 ?_
    obtain ⟨h1, hf⟩ := gd_o hf
    refine va_iast hx hb hK hP (hD _) hS 3 0 rfl rfl (ix_in h1) d_Mod_learn_35 (fun H locs hP _ hS => ?_)
    obtain ⟨u2, e_u2, hf⟩ := tk_o hf
    have hP : va_P D cls (wMod cI q0 q1 q2 q3 q4 q5 q6 q7 u2) H := by rw [e_u2]; exact hP
    refine lv_aload_n hx hb d_Mod_learn_36 rfl (lv_at hl 0 rfl) ?_
    refine va_get (D := D) (ci := 7) (v := .ref q3) (C := R_Mod) (T := F_Mod) (N := 28) hx hb hw in_Mod hown hK hP 0 rfl rfl 14 (by decide) (hw _ m_449) (fun _ h9 => h9) rfl d_Mod_learn_37 ?_
    refine lv_iload_n hx hb d_Mod_learn_40 rfl (lv_at hl 1 rfl) ?_
    refine lv_iconst (v := 3) hx hb d_Mod_learn_41 (by decide) ?_
    refine lv_iadd hx hb d_Mod_learn_42 ?_
    obtain ⟨h3, hf⟩ := gd_o hf
    refine va_iald hx hb hK hP 3 0 rfl rfl (ix_in h3) d_Mod_learn_43 ?_
    refine lv_bipush (v := 64) hx hb d_Mod_learn_44 (by decide) ?_
    refine lv_icmp_ne (tgt := 93) hx hb d_Mod_learn_46 (by decide) (fun hc => ?_) (fun hc => ?_)
    · have hf := bq_n hf hc
      exact j93 _ _ _ l1 u2 (lv_sub hl [0, 1] rfl) hP hS hf
    have hf := bq_t hf hc
    refine lv_aload_n hx hb d_Mod_learn_49 rfl (lv_at hl 0 rfl) ?_
    refine va_get (D := D) (ci := 7) (v := .ref q3) (C := R_Mod) (T := F_Mod) (N := 28) hx hb hw in_Mod hown hK hP 0 rfl rfl 14 (by decide) (hw _ m_449) (fun _ h9 => h9) rfl d_Mod_learn_50 ?_
    refine lv_iload_n hx hb d_Mod_learn_53 rfl (lv_at hl 1 rfl) ?_
    refine lv_aload_n hx hb d_Mod_learn_54 rfl (lv_at hl 0 rfl) ?_
    refine va_get (D := D) (ci := 7) (v := .ref q3) (C := R_Mod) (T := F_Mod) (N := 28) hx hb hw in_Mod hown hK hP 0 rfl rfl 14 (by decide) (hw _ m_449) (fun _ h9 => h9) rfl d_Mod_learn_55 ?_
    refine lv_iload_n hx hb d_Mod_learn_58 rfl (lv_at hl 1 rfl) ?_
    obtain ⟨h4, hf⟩ := gd_o hf
    refine va_iald hx hb hK hP 3 0 rfl rfl (ix_in h4) d_Mod_learn_59 ?_
    have hC : ([] : List Nat).map (fun i => (wMod cI q0 q1 q2 q3 q4 q5 q6 q7 u2)[i]?) = ([] : va_W).map some := rfl
    obtain ⟨x5, hc, hf⟩ := bd_o hf
    refine ro_i (va_runS (As := [.int (u2 3 (tc l1))]) (rest := [.int l1, .ref q3]) ⟨hx, hb, hml, hown, hw⟩ (c_Mod_half l D cI (u2 3 (tc l1)) x5 hc) (va_cwS 1 hw g_81 rfl rfl rfl (by decide +kernel) ⟨Nat.le_of_ble_eq_true rfl, Nat.le_of_ble_eq_true rfl⟩) (pre_S (P_sub hC hP) hK) rfl rfl hl.1 rfl (lv_room (Nat.le_of_ble_eq_true rfl)) d_Mod_learn_60 ⟨Nat.le_of_ble_eq_true rfl, Nat.le_of_ble_eq_true rfl⟩) hS hP (fun H locs hP hS => ?_)
    obtain ⟨h6, hf⟩ := gd_o hf
    refine va_iast hx hb hK hP (hD _) hS 3 0 rfl rfl (ix_in h6) d_Mod_learn_63 (fun H locs hP _ hS => ?_)
    obtain ⟨u7, e_u7, hf⟩ := tk_o hf
    have hP : va_P D cls (wMod cI q0 q1 q2 q3 q4 q5 q6 q7 u7) H := by rw [e_u7]; exact hP
    refine lv_aload_n hx hb d_Mod_learn_64 rfl (lv_at hl 0 rfl) ?_
    refine va_get (D := D) (ci := 7) (v := .ref q3) (C := R_Mod) (T := F_Mod) (N := 28) hx hb hw in_Mod hown hK hP 0 rfl rfl 14 (by decide) (hw _ m_449) (fun _ h9 => h9) rfl d_Mod_learn_65 ?_
    refine lv_iload_n hx hb d_Mod_learn_68 rfl (lv_at hl 1 rfl) ?_
    refine lv_iconst (v := 1) hx hb d_Mod_learn_69 (by decide) ?_
    refine lv_iadd hx hb d_Mod_learn_70 ?_
    refine lv_aload_n hx hb d_Mod_learn_71 rfl (lv_at hl 0 rfl) ?_
    refine va_get (D := D) (ci := 7) (v := .ref q3) (C := R_Mod) (T := F_Mod) (N := 28) hx hb hw in_Mod hown hK hP 0 rfl rfl 14 (by decide) (hw _ m_449) (fun _ h9 => h9) rfl d_Mod_learn_72 ?_
    refine lv_iload_n hx hb d_Mod_learn_75 rfl (lv_at hl 1 rfl) ?_
    refine lv_iconst (v := 1) hx hb d_Mod_learn_76 (by decide) ?_
    refine lv_iadd hx hb d_Mod_learn_77 ?_
    obtain ⟨h8, hf⟩ := gd_o hf
    refine va_iald hx hb hK hP 3 0 rfl rfl (ix_in h8) d_Mod_learn_78 ?_
    have hC : ([] : List Nat).map (fun i => (wMod cI q0 q1 q2 q3 q4 q5 q6 q7 u7)[i]?) = ([] : va_W).map some := rfl
    obtain ⟨x9, hc, hf⟩ := bd_o hf
    refine ro_i (va_runS (As := [.int (u7 3 (tc (l1 + 1)))]) (rest := [.int (l1 + 1), .ref q3]) ⟨hx, hb, hml, hown, hw⟩ (c_Mod_half l D cI (u7 3 (tc (l1 + 1))) x9 hc) (va_cwS 1 hw g_81 rfl rfl rfl (by decide +kernel) ⟨Nat.le_of_ble_eq_true rfl, Nat.le_of_ble_eq_true rfl⟩) (pre_S (P_sub hC hP) hK) rfl rfl hl.1 rfl (lv_room (Nat.le_of_ble_eq_true rfl)) d_Mod_learn_79 ⟨Nat.le_of_ble_eq_true rfl, Nat.le_of_ble_eq_true rfl⟩) hS hP (fun H locs hP hS => ?_)
    obtain ⟨h10, hf⟩ := gd_o hf
    refine va_iast hx hb hK hP (hD _) hS 3 0 rfl rfl (ix_in h10) d_Mod_learn_82 (fun H locs hP _ hS => ?_)
    obtain ⟨u11, e_u11, hf⟩ := tk_o hf
    have hP : va_P D cls (wMod cI q0 q1 q2 q3 q4 q5 q6 q7 u11) H := by rw [e_u11]; exact hP
    refine lv_aload_n hx hb d_Mod_learn_83 rfl (lv_at hl 0 rfl) ?_
    refine va_get (D := D) (ci := 7) (v := .ref q3) (C := R_Mod) (T := F_Mod) (N := 28) hx hb hw in_Mod hown hK hP 0 rfl rfl 14 (by decide) (hw _ m_449) (fun _ h9 => h9) rfl d_Mod_learn_84 ?_
    refine lv_iload_n hx hb d_Mod_learn_87 rfl (lv_at hl 1 rfl) ?_
    refine lv_iconst (v := 3) hx hb d_Mod_learn_88 (by decide) ?_
    refine lv_iadd hx hb d_Mod_learn_89 ?_
    refine lv_bipush (v := 32) hx hb d_Mod_learn_90 (by decide) ?_
    obtain ⟨h12, hf⟩ := gd_o hf
    refine va_iast hx hb hK hP (hD _) hS 3 0 rfl rfl (ix_in h12) d_Mod_learn_92 (fun H locs hP _ hS => ?_)
    obtain ⟨u13, e_u13, hf⟩ := tk_o hf
    have hP : va_P D cls (wMod cI q0 q1 q2 q3 q4 q5 q6 q7 u13) H := by rw [e_u13]; exact hP
    exact j93 _ _ _ l1 u13 (lv_sub hl [0, 1] rfl) hP hS hf
  unfold f_Mod_learn at hf
  refine lv_aload_n hx hb d_Mod_learn_0 rfl (lv_at hl 0 rfl) ?_
  refine va_get (D := D) (ci := 7) (v := .ref q3) (C := R_Mod) (T := F_Mod) (N := 28) hx hb hw in_Mod hown hK hP 0 rfl rfl 14 (by decide) (hw _ m_449) (fun _ h9 => h9) rfl d_Mod_learn_1 ?_
  refine lv_iload_n hx hb d_Mod_learn_4 rfl (lv_at hl 1 rfl) ?_
  refine lv_iconst (v := 1) hx hb d_Mod_learn_5 (by decide) ?_
  refine lv_iadd hx hb d_Mod_learn_6 ?_
  refine lv_dup2_11 hx hb d_Mod_learn_7 rfl rfl ?_
  obtain ⟨h1, hf⟩ := gd_o hf
  refine va_iald hx hb hK hP 3 0 rfl rfl (ix_in h1) d_Mod_learn_8 ?_
  refine lv_iload_n hx hb d_Mod_learn_9 rfl (lv_at hl 2 rfl) ?_
  refine lv_aload_n hx hb d_Mod_learn_10 rfl (lv_at hl 0 rfl) ?_
  refine va_get (D := D) (ci := 7) (v := .int (u 0 5)) (C := R_Mod) (T := F_Mod) (N := 28) hx hb hw in_Mod hown hK hP 0 rfl rfl 5 (by decide) (hw _ m_429) (fun _ h9 => h9) rfl d_Mod_learn_11 ?_
  refine lv_imul hx hb d_Mod_learn_14 ?_
  refine lv_iadd hx hb d_Mod_learn_15 ?_
  obtain ⟨h2, hf⟩ := gd_o hf
  refine va_iast hx hb hK hP (hD _) hS 3 0 rfl rfl (ix_in h2) d_Mod_learn_16 (fun H locs hP _ hS => ?_)
  obtain ⟨u3, e_u3, hf⟩ := tk_o hf
  have hP : va_P D cls (wMod cI q0 q1 q2 q3 q4 q5 q6 q7 u3) H := by rw [e_u3]; exact hP
  refine lv_aload_n hx hb d_Mod_learn_17 rfl (lv_at hl 0 rfl) ?_
  refine va_get (D := D) (ci := 7) (v := .ref q3) (C := R_Mod) (T := F_Mod) (N := 28) hx hb hw in_Mod hown hK hP 0 rfl rfl 14 (by decide) (hw _ m_449) (fun _ h9 => h9) rfl d_Mod_learn_18 ?_
  refine lv_iload_n hx hb d_Mod_learn_21 rfl (lv_at hl 1 rfl) ?_
  refine lv_dup2_11 hx hb d_Mod_learn_22 rfl rfl ?_
  obtain ⟨h4, hf⟩ := gd_o hf
  refine va_iald hx hb hK hP 3 0 rfl rfl (ix_in h4) d_Mod_learn_23 ?_
  refine lv_iload_n hx hb d_Mod_learn_24 rfl (lv_at hl 2 rfl) ?_
  refine lv_if_ge (tgt := 33) hx hb d_Mod_learn_25 (by decide) (fun hc => ?_) (fun hc => ?_)
  · have hf := bq_t hf hc
    refine lv_iload_n hx hb d_Mod_learn_33 rfl (lv_at hl 2 rfl) ?_
    exact j34 _ _ _ a1 a1 (u3 3 (tc a1)) a2 u3 (lv_sub hl [0, 1] rfl) hP hS hf
  have hf := bq_n hf hc
  refine lv_iload_n hx hb d_Mod_learn_28 rfl (lv_at hl 2 rfl) ?_
  refine lv_ineg hx hb d_Mod_learn_29 ?_
  refine lv_goto (tgt := 34) hx hb d_Mod_learn_30 (by decide) ?_
  exact j34 _ _ _ a1 a1 (u3 3 (tc a1)) (-a2) u3 (lv_sub hl [0, 1] rfl) hP hS hf
def J_Mod_regular_350 (l7 : Int32) (l14 : Int32) (u : gU) : Option (gU) := bd (f_Mod_learn l7 l14 u) fun w1 => tk (w1) fun u2 => some u2
def J_Mod_regular_341 (l7 : Int32) (l12 : Int32) (l14 : Int32) (s1 : Int32) (u : gU) : Option (gU) := bd (f_Mod_write s1 l12 (u 0 8) u) fun w1 => tk (w1) fun u2 => J_Mod_regular_350 l7 l14 u2
def J_Mod_regular_319 (l7 : Int32) (l12 : Int32) (l14 : Int32) (s0 : Int32) (u : gU) : Option (gU) := bq (s0 < 0) (J_Mod_regular_341 l7 l12 l14 (((-2) * s0) - 1) u) (J_Mod_regular_341 l7 l12 l14 (2 * s0) u)
def J_Mod_regular_275 (l1 : Int32) (l2 : Int32) (l7 : Int32) (l8 : Int32) (l11 : Int32) (s0 : Int32) (u : gU) : Option (gU) := bd (f_Mod_settle l1 l2 l11 l8 s0 u) fun w1 => tk (w1) fun u2 => J_Mod_regular_350 l7 s0 u2
def J_Mod_regular_258 (l1 : Int32) (l2 : Int32) (l7 : Int32) (l8 : Int32) (l11 : Int32) (l13 : Int32) (s0 : Int32) (u : gU) : Option (gU) := bq (l13 = 0) (J_Mod_regular_275 l1 l2 l7 l8 l11 s0 u) (J_Mod_regular_275 l1 l2 l7 l8 l11 ((-s0) - 1) u)
def J_Mod_regular_216 (l1 : Int32) (l2 : Int32) (l7 : Int32) (l8 : Int32) (l11 : Int32) (l12 : Int32) (s0 : Int32) (u : gU) : Option (gU) := bq ((u 0 16) = 0) (bd (f_Mod_errorOf l1 l2 l11 l8 u) fun w1 => tk (w1.2) fun u2 => bq (s0 = 0) (J_Mod_regular_319 l7 l12 w1.1 w1.1 u2) (J_Mod_regular_319 l7 l12 w1.1 ((-w1.1) - 1) u2)) (bd (f_Mod_read l12 (u 0 8) u) fun w3 => tk (w3.2) fun u4 => bq ((w3.1 - w3.1 / 2 * 2) = 0) (J_Mod_regular_258 l1 l2 l7 l8 l11 s0 (w3.1 / 2) u4) (J_Mod_regular_258 l1 l2 l7 l8 l11 s0 ((-(w3.1 + 1)) / 2) u4))
def J_Mod_regular_215 (l1 : Int32) (l2 : Int32) (l7 : Int32) (l8 : Int32) (l11 : Int32) (l12 : Int32) (u : gU) : Option (gU) := J_Mod_regular_216 l1 l2 l7 l8 l11 l12 0 u
def J_Mod_regular_136 (l1 : Int32) (l2 : Int32) (l7 : Int32) (l8 : Int32) (s1 : Int32) (u : gU) : Option (gU) := gd (ix (l7 + 2) 1835) (bd (f_Mod_held (s1 + (l8 * (u 3 (tc (l7 + 2))))) u) fun x2 => gd (ix (l7 + 3) 1835) (gd (ix l7 1835) (bd (f_Mod_kFor (u 3 (tc (l7 + 3))) (u 3 (tc l7))) fun x5 => bq ((u 0 4) = 0) (bq (x5 = 0) (gd (ix (l7 + 1) 1835) (gd (ix (l7 + 3) 1835) (bq ((-(u 3 (tc (l7 + 3)))) < (2 * (u 3 (tc (l7 + 1))))) (J_Mod_regular_215 l1 l2 l7 l8 x2 x5 u) (J_Mod_regular_216 l1 l2 l7 l8 x2 x5 1 u)))) (J_Mod_regular_215 l1 l2 l7 l8 x2 x5 u)) (J_Mod_regular_215 l1 l2 l7 l8 x2 x5 u))))
def J_Mod_regular_77 (l1 : Int32) (l2 : Int32) (l3 : Int32) (l4 : Int32) (l5 : Int32) (l7 : Int32) (s0 : Int32) (u : gU) : Option (gU) := tk ((5 * s0) * l7) fun x1 => bd (f_Mod_lesser l3 l4) fun x2 => bd (f_Mod_greater l3 l4) fun x3 => bq (l5 < x3) (bq (x2 < l5) (J_Mod_regular_136 l1 l2 x1 s0 ((l3 + l4) - l5) u) (J_Mod_regular_136 l1 l2 x1 s0 x3 u)) (J_Mod_regular_136 l1 l2 x1 s0 x2 u)
def f_Mod_regular (a1 : Int32) (a2 : Int32) (u : gU) : Option (gU) := bd (f_Mod_before a1 a2 u) fun x1 => bd (f_Mod_above a1 a2 u) fun x2 => bd (f_Mod_corner a1 a2 u) fun x3 => bd (f_Mod_beyond a1 a2 u) fun x4 => bd (f_Mod_quantized (x4 - x2) u) fun x5 => bd (f_Mod_quantized (x2 - x3) u) fun x6 => bd (f_Mod_quantized (x3 - x1) u) fun x7 => tk (((81 * x5) + (9 * x6)) + x7) fun x8 => bq (0 ≤ x8) (J_Mod_regular_77 a1 a2 x1 x2 x3 x8 1 u) (J_Mod_regular_77 a1 a2 x1 x2 x3 x8 (-1) u)
set_option maxHeartbeats 4000000 in
set_option maxRecDepth 100000 in
theorem c_Mod_regular (l : Launch) (D : va_G) (cI : ClassId) (q0 : Nat) (q1 : Nat) (q2 : Nat) (q3 : Nat) (q4 : Nat) (q5 : Nat) (q6 : Nat) (q7 : Nat) (hd : dj [q0, q1, q2, q3, q4, q5, q6, q7]) (a1 : Int32) (a2 : Int32) (u : gU) (v : gU) (hf : f_Mod_regular a1 a2 u = some v) : Met l y_Mod_regular (.code y_Mod_regular b_Mod_regular 16 none :: TS) ({ frames := 4, cells := 0, slots := 0, locals := 90 }) (va_Pc [.ref q0, .int a1, .int a2] (fun U => va_P D cls (wMod cI q0 q1 q2 q3 q4 q5 q6 q7 u) U.heap ∧ va_K D cls [(cI, .int)] U)) (va_Qv (fun (_ : Unit) => True) (fun _ t => va_P D cls (wMod cI q0 q1 q2 q3 q4 q5 q6 q7 v) t.heap) (ad [q0, q1, q2, q3, q4, q5, q6, q7])) 0 0 (ad [q0, q1, q2, q3, q4, q5, q6, q7]) := by
  refine ct_of (by decide +kernel) (Nat.le_of_ble_eq_true rfl) ?_
  intro p e s m below meth c ls hx hb hml hr hlocks hown hw hP hK hl
  have hS : va_S (ad [q0, q1, q2, q3, q4, q5, q6, q7]) s.heap s.heap [] := va_S.rf
  have hD : ∀ v, va_D (ad [q0, q1, q2, q3, q4, q5, q6, q7]) (wMod cI q0 q1 q2 q3 q4 q5 q6 q7 v) := fun _ => dj_D rfl hd
  have hl : lv_has ls 16 [(0, .ref q0), (1, .int a1), (2, .int a2)] := hl
  have hP : va_P D cls (wMod cI q0 q1 q2 q3 q4 q5 q6 q7 u) s.heap := hP
  have j350 : ∀ (ls : Array Slot) (H : Heap) (locs : List Loc) (l7 : Int32) (l14 : Int32) (u : gU), lv_has ls 16 [(0, .ref q0), (7, .int l7), (14, .int l14)] → va_P D cls (wMod cI q0 q1 q2 q3 q4 q5 q6 q7 u) H → va_S (ad [q0, q1, q2, q3, q4, q5, q6, q7]) s.heap H locs → J_Mod_regular_350 l7 l14 u = some v → W p l e ({ frames := 4, cells := 0, slots := 0, locals := 90 }) s m [.ref q0, .int a1, .int a2].toArray below meth c H locs 0 0 (MQ below (va_Qv (fun (_ : Unit) => True) (fun _ t => va_P D cls (wMod cI q0 q1 q2 q3 q4 q5 q6 q7 v) t.heap) (ad [q0, q1, q2, q3, q4, q5, q6, q7])) [.ref q0, .int a1, .int a2].toArray s 0 0 (ad [q0, q1, q2, q3, q4, q5, q6, q7])) (F0 m 350 ls []) := by
    intro ls H locs l7 l14 u hl hP hS hf
    unfold J_Mod_regular_350 at hf
    refine lv_aload_n hx hb d_Mod_regular_350 rfl (lv_at hl 0 rfl) ?_
    refine lv_iload hx hb d_Mod_regular_351 (lv_at hl 1 rfl) ?_
    refine lv_iload hx hb d_Mod_regular_353 (lv_at hl 2 rfl) ?_
    have hC : [0, 1, 2, 3, 4, 5, 6, 7].map (fun i => (wMod cI q0 q1 q2 q3 q4 q5 q6 q7 u)[i]?) = (wMod cI q0 q1 q2 q3 q4 q5 q6 q7 u).map some := rfl
    obtain ⟨w1, hc, hf⟩ := bd_o hf
    refine rw_v (va_runV (As := [.int l7, .int l14]) (rest := []) ⟨hx, hb, hml, hown, hw⟩ (c_Mod_learn l D cI q0 q1 q2 q3 q4 q5 q6 q7 (dj_sub hd [0, 1, 2, 3, 4, 5, 6, 7] (by decide) rfl) l7 l14 u w1 hc) (cwV 2 hw g_82 rfl rfl rfl (by decide +kernel) ⟨Nat.le_of_ble_eq_true rfl, Nat.le_of_ble_eq_true rfl⟩) (pre_V (P_sub hC hP) hK rfl rfl) rfl rfl hl.1 rfl (lv_room (Nat.le_of_ble_eq_true rfl)) d_Mod_regular_355 ⟨Nat.le_of_ble_eq_true rfl, Nat.le_of_ble_eq_true rfl⟩) hS hP (hD _) hC rfl rfl (fun H locs hP hS => ?_)
    obtain ⟨u2, e_u2, hf⟩ := tk_o hf
    have hP : va_P D cls (wMod cI q0 q1 q2 q3 q4 q5 q6 q7 u2) H := by rw [e_u2]; exact hP
    exact rt_v (wMod cI q0 q1 q2 q3 q4 q5 q6 q7) hx hb hr hlocks hS hP hf d_Mod_regular_358
  have j341 : ∀ (ls : Array Slot) (H : Heap) (locs : List Loc) (l7 : Int32) (l12 : Int32) (l14 : Int32) (s1 : Int32) (u : gU), lv_has ls 16 [(0, .ref q0), (7, .int l7), (12, .int l12), (14, .int l14)] → va_P D cls (wMod cI q0 q1 q2 q3 q4 q5 q6 q7 u) H → va_S (ad [q0, q1, q2, q3, q4, q5, q6, q7]) s.heap H locs → J_Mod_regular_341 l7 l12 l14 s1 u = some v → W p l e ({ frames := 4, cells := 0, slots := 0, locals := 90 }) s m [.ref q0, .int a1, .int a2].toArray below meth c H locs 0 0 (MQ below (va_Qv (fun (_ : Unit) => True) (fun _ t => va_P D cls (wMod cI q0 q1 q2 q3 q4 q5 q6 q7 v) t.heap) (ad [q0, q1, q2, q3, q4, q5, q6, q7])) [.ref q0, .int a1, .int a2].toArray s 0 0 (ad [q0, q1, q2, q3, q4, q5, q6, q7])) (F0 m 341 ls [.int s1, .ref q0]) := by
    intro ls H locs l7 l12 l14 s1 u hl hP hS hf
    unfold J_Mod_regular_341 at hf
    refine lv_iload hx hb d_Mod_regular_341 (lv_at hl 2 rfl) ?_
    refine lv_aload_n hx hb d_Mod_regular_343 rfl (lv_at hl 0 rfl) ?_
    refine va_get (D := D) (ci := 7) (v := .int (u 0 8)) (C := R_Mod) (T := F_Mod) (N := 28) hx hb hw in_Mod hown hK hP 0 rfl rfl 8 (by decide) (hw _ m_439) (fun _ h9 => h9) rfl d_Mod_regular_344 ?_
    have hC : [0, 1, 2, 3, 4, 5, 6, 7].map (fun i => (wMod cI q0 q1 q2 q3 q4 q5 q6 q7 u)[i]?) = (wMod cI q0 q1 q2 q3 q4 q5 q6 q7 u).map some := rfl
    obtain ⟨w1, hc, hf⟩ := bd_o hf
    refine rw_v (va_runV (As := [.int s1, .int l12, .int (u 0 8)]) (rest := []) ⟨hx, hb, hml, hown, hw⟩ (c_Mod_write l D cI q0 q1 q2 q3 q4 q5 q6 q7 (dj_sub hd [0, 1, 2, 3, 4, 5, 6, 7] (by decide) rfl) s1 l12 (u 0 8) u w1 hc) (cwV 3 hw g_83 rfl rfl rfl (by decide +kernel) ⟨Nat.le_of_ble_eq_true rfl, Nat.le_of_ble_eq_true rfl⟩) (pre_V (P_sub hC hP) hK rfl rfl) rfl rfl hl.1 rfl (lv_room (Nat.le_of_ble_eq_true rfl)) d_Mod_regular_347 ⟨Nat.le_of_ble_eq_true rfl, Nat.le_of_ble_eq_true rfl⟩) hS hP (hD _) hC rfl rfl (fun H locs hP hS => ?_)
    obtain ⟨u2, e_u2, hf⟩ := tk_o hf
    have hP : va_P D cls (wMod cI q0 q1 q2 q3 q4 q5 q6 q7 u2) H := by rw [e_u2]; exact hP
    exact j350 _ _ _ l7 l14 u2 (lv_sub hl [0, 1, 3] rfl) hP hS hf
  have j319 : ∀ (ls : Array Slot) (H : Heap) (locs : List Loc) (l7 : Int32) (l12 : Int32) (l14 : Int32) (s0 : Int32) (u : gU), lv_has ls 16 [(0, .ref q0), (7, .int l7), (12, .int l12), (14, .int l14)] → va_P D cls (wMod cI q0 q1 q2 q3 q4 q5 q6 q7 u) H → va_S (ad [q0, q1, q2, q3, q4, q5, q6, q7]) s.heap H locs → J_Mod_regular_319 l7 l12 l14 s0 u = some v → W p l e ({ frames := 4, cells := 0, slots := 0, locals := 90 }) s m [.ref q0, .int a1, .int a2].toArray below meth c H locs 0 0 (MQ below (va_Qv (fun (_ : Unit) => True) (fun _ t => va_P D cls (wMod cI q0 q1 q2 q3 q4 q5 q6 q7 v) t.heap) (ad [q0, q1, q2, q3, q4, q5, q6, q7])) [.ref q0, .int a1, .int a2].toArray s 0 0 (ad [q0, q1, q2, q3, q4, q5, q6, q7])) (F0 m 319 ls [.int s0]) := by
    intro ls H locs l7 l12 l14 s0 u hl hP hS hf
    unfold J_Mod_regular_319 at hf
    refine lv_istore (lv' := [(15, .int s0), (0, .ref q0), (7, .int l7), (12, .int l12), (14, .int l14)]) hx hb d_Mod_regular_319 hl (by decide) rfl (fun ls hl => ?_)
    refine lv_aload_n hx hb d_Mod_regular_321 rfl (lv_at hl 1 rfl) ?_
    refine lv_iload hx hb d_Mod_regular_322 (lv_at hl 0 rfl) ?_
    refine lv_if_lt (tgt := 334) hx hb d_Mod_regular_324 (by decide) (fun hc => ?_) (fun hc => ?_)
    · have hf := bq_t hf hc
      refine lv_bipush (v := (-2)) hx hb d_Mod_regular_334 (by decide) ?_
      refine lv_iload hx hb d_Mod_regular_336 (lv_at hl 0 rfl) ?_
      refine lv_imul hx hb d_Mod_regular_338 ?_
      refine lv_iconst (v := 1) hx hb d_Mod_regular_339 (by decide) ?_
      refine lv_isub hx hb d_Mod_regular_340 ?_
      exact j341 _ _ _ l7 l12 l14 (((-2) * s0) - 1) u (lv_sub hl [1, 2, 3, 4] rfl) hP hS hf
    have hf := bq_n hf hc
    refine lv_iconst (v := 2) hx hb d_Mod_regular_327 (by decide) ?_
    refine lv_iload hx hb d_Mod_regular_328 (lv_at hl 0 rfl) ?_
    refine lv_imul hx hb d_Mod_regular_330 ?_
    refine lv_goto (tgt := 341) hx hb d_Mod_regular_331 (by decide) ?_
    exact j341 _ _ _ l7 l12 l14 (2 * s0) u (lv_sub hl [1, 2, 3, 4] rfl) hP hS hf
  have j275 : ∀ (ls : Array Slot) (H : Heap) (locs : List Loc) (l1 : Int32) (l2 : Int32) (l7 : Int32) (l8 : Int32) (l11 : Int32) (s0 : Int32) (u : gU), lv_has ls 16 [(0, .ref q0), (1, .int l1), (2, .int l2), (7, .int l7), (8, .int l8), (11, .int l11)] → va_P D cls (wMod cI q0 q1 q2 q3 q4 q5 q6 q7 u) H → va_S (ad [q0, q1, q2, q3, q4, q5, q6, q7]) s.heap H locs → J_Mod_regular_275 l1 l2 l7 l8 l11 s0 u = some v → W p l e ({ frames := 4, cells := 0, slots := 0, locals := 90 }) s m [.ref q0, .int a1, .int a2].toArray below meth c H locs 0 0 (MQ below (va_Qv (fun (_ : Unit) => True) (fun _ t => va_P D cls (wMod cI q0 q1 q2 q3 q4 q5 q6 q7 v) t.heap) (ad [q0, q1, q2, q3, q4, q5, q6, q7])) [.ref q0, .int a1, .int a2].toArray s 0 0 (ad [q0, q1, q2, q3, q4, q5, q6, q7])) (F0 m 275 ls [.int s0]) := by
    intro ls H locs l1 l2 l7 l8 l11 s0 u hl hP hS hf
    unfold J_Mod_regular_275 at hf
    refine lv_istore (lv' := [(14, .int s0), (0, .ref q0), (1, .int l1), (2, .int l2), (7, .int l7), (8, .int l8), (11, .int l11)]) hx hb d_Mod_regular_275 hl (by decide) rfl (fun ls hl => ?_)
    refine lv_aload_n hx hb d_Mod_regular_277 rfl (lv_at hl 1 rfl) ?_
    refine lv_iload_n hx hb d_Mod_regular_278 rfl (lv_at hl 2 rfl) ?_
    refine lv_iload_n hx hb d_Mod_regular_279 rfl (lv_at hl 3 rfl) ?_
    refine lv_iload hx hb d_Mod_regular_280 (lv_at hl 6 rfl) ?_
    refine lv_iload hx hb d_Mod_regular_282 (lv_at hl 5 rfl) ?_
    refine lv_iload hx hb d_Mod_regular_284 (lv_at hl 0 rfl) ?_
    have hC : [0, 1, 2, 3, 4, 5, 6, 7].map (fun i => (wMod cI q0 q1 q2 q3 q4 q5 q6 q7 u)[i]?) = (wMod cI q0 q1 q2 q3 q4 q5 q6 q7 u).map some := rfl
    obtain ⟨w1, hc, hf⟩ := bd_o hf
    refine rw_v (va_runV (As := [.int l1, .int l2, .int l11, .int l8, .int s0]) (rest := []) ⟨hx, hb, hml, hown, hw⟩ (c_Mod_settle l D cI q0 q1 q2 q3 q4 q5 q6 q7 (dj_sub hd [0, 1, 2, 3, 4, 5, 6, 7] (by decide) rfl) l1 l2 l11 l8 s0 u w1 hc) (cwV 5 hw g_84 rfl rfl rfl (by decide +kernel) ⟨Nat.le_of_ble_eq_true rfl, Nat.le_of_ble_eq_true rfl⟩) (pre_V (P_sub hC hP) hK rfl rfl) rfl rfl hl.1 rfl (lv_room (Nat.le_of_ble_eq_true rfl)) d_Mod_regular_286 ⟨Nat.le_of_ble_eq_true rfl, Nat.le_of_ble_eq_true rfl⟩) hS hP (hD _) hC rfl rfl (fun H locs hP hS => ?_)
    obtain ⟨u2, e_u2, hf⟩ := tk_o hf
    have hP : va_P D cls (wMod cI q0 q1 q2 q3 q4 q5 q6 q7 u2) H := by rw [e_u2]; exact hP
    refine lv_goto (tgt := 350) hx hb d_Mod_regular_289 (by decide) ?_
    exact j350 _ _ _ l7 s0 u2 (lv_sub hl [1, 4, 0] rfl) hP hS hf
  have j258 : ∀ (ls : Array Slot) (H : Heap) (locs : List Loc) (l1 : Int32) (l2 : Int32) (l7 : Int32) (l8 : Int32) (l11 : Int32) (l13 : Int32) (s0 : Int32) (u : gU), lv_has ls 16 [(0, .ref q0), (1, .int l1), (2, .int l2), (7, .int l7), (8, .int l8), (11, .int l11), (13, .int l13)] → va_P D cls (wMod cI q0 q1 q2 q3 q4 q5 q6 q7 u) H → va_S (ad [q0, q1, q2, q3, q4, q5, q6, q7]) s.heap H locs → J_Mod_regular_258 l1 l2 l7 l8 l11 l13 s0 u = some v → W p l e ({ frames := 4, cells := 0, slots := 0, locals := 90 }) s m [.ref q0, .int a1, .int a2].toArray below meth c H locs 0 0 (MQ below (va_Qv (fun (_ : Unit) => True) (fun _ t => va_P D cls (wMod cI q0 q1 q2 q3 q4 q5 q6 q7 v) t.heap) (ad [q0, q1, q2, q3, q4, q5, q6, q7])) [.ref q0, .int a1, .int a2].toArray s 0 0 (ad [q0, q1, q2, q3, q4, q5, q6, q7])) (F0 m 258 ls [.int s0]) := by
    intro ls H locs l1 l2 l7 l8 l11 l13 s0 u hl hP hS hf
    unfold J_Mod_regular_258 at hf
    refine lv_istore (lv' := [(14, .int s0), (0, .ref q0), (1, .int l1), (2, .int l2), (7, .int l7), (8, .int l8), (11, .int l11), (13, .int l13)]) hx hb d_Mod_regular_258 hl (by decide) rfl (fun ls hl => ?_)
    refine lv_iload hx hb d_Mod_regular_260 (lv_at hl 7 rfl) ?_
    refine lv_if_eq (tgt := 273) hx hb d_Mod_regular_262 (by decide) (fun hc => ?_) (fun hc => ?_)
    · have hf := bq_t hf hc
      refine lv_iload hx hb d_Mod_regular_273 (lv_at hl 0 rfl) ?_
      exact j275 _ _ _ l1 l2 l7 l8 l11 s0 u (lv_sub hl [1, 2, 3, 4, 5, 6] rfl) hP hS hf
    have hf := bq_n hf hc
    refine lv_iload hx hb d_Mod_regular_265 (lv_at hl 0 rfl) ?_
    refine lv_ineg hx hb d_Mod_regular_267 ?_
    refine lv_iconst (v := 1) hx hb d_Mod_regular_268 (by decide) ?_
    refine lv_isub hx hb d_Mod_regular_269 ?_
    refine lv_goto (tgt := 275) hx hb d_Mod_regular_270 (by decide) ?_
    exact j275 _ _ _ l1 l2 l7 l8 l11 ((-s0) - 1) u (lv_sub hl [1, 2, 3, 4, 5, 6] rfl) hP hS hf
  have j216 : ∀ (ls : Array Slot) (H : Heap) (locs : List Loc) (l1 : Int32) (l2 : Int32) (l7 : Int32) (l8 : Int32) (l11 : Int32) (l12 : Int32) (s0 : Int32) (u : gU), lv_has ls 16 [(0, .ref q0), (1, .int l1), (2, .int l2), (7, .int l7), (8, .int l8), (11, .int l11), (12, .int l12)] → va_P D cls (wMod cI q0 q1 q2 q3 q4 q5 q6 q7 u) H → va_S (ad [q0, q1, q2, q3, q4, q5, q6, q7]) s.heap H locs → J_Mod_regular_216 l1 l2 l7 l8 l11 l12 s0 u = some v → W p l e ({ frames := 4, cells := 0, slots := 0, locals := 90 }) s m [.ref q0, .int a1, .int a2].toArray below meth c H locs 0 0 (MQ below (va_Qv (fun (_ : Unit) => True) (fun _ t => va_P D cls (wMod cI q0 q1 q2 q3 q4 q5 q6 q7 v) t.heap) (ad [q0, q1, q2, q3, q4, q5, q6, q7])) [.ref q0, .int a1, .int a2].toArray s 0 0 (ad [q0, q1, q2, q3, q4, q5, q6, q7])) (F0 m 216 ls [.int s0]) := by
    intro ls H locs l1 l2 l7 l8 l11 l12 s0 u hl hP hS hf
    unfold J_Mod_regular_216 at hf
    refine lv_istore (lv' := [(13, .int s0), (0, .ref q0), (1, .int l1), (2, .int l2), (7, .int l7), (8, .int l8), (11, .int l11), (12, .int l12)]) hx hb d_Mod_regular_216 hl (by decide) rfl (fun ls hl => ?_)
    refine lv_aload_n hx hb d_Mod_regular_218 rfl (lv_at hl 1 rfl) ?_
    refine va_get (D := D) (ci := 7) (v := .int (u 0 16)) (C := R_Mod) (T := F_Mod) (N := 28) hx hb hw in_Mod hown hK hP 0 rfl rfl 20 (by decide) (hw _ m_532) (fun _ h9 => h9) rfl d_Mod_regular_219 ?_
    refine lv_if_eq (tgt := 292) hx hb d_Mod_regular_222 (by decide) (fun hc => ?_) (fun hc => ?_)
    · have hf := bq_t hf hc
      refine lv_aload_n hx hb d_Mod_regular_292 rfl (lv_at hl 1 rfl) ?_
      refine lv_iload_n hx hb d_Mod_regular_293 rfl (lv_at hl 2 rfl) ?_
      refine lv_iload_n hx hb d_Mod_regular_294 rfl (lv_at hl 3 rfl) ?_
      refine lv_iload hx hb d_Mod_regular_295 (lv_at hl 6 rfl) ?_
      refine lv_iload hx hb d_Mod_regular_297 (lv_at hl 5 rfl) ?_
      have hC : [0, 1, 2, 3, 4, 5, 6, 7].map (fun i => (wMod cI q0 q1 q2 q3 q4 q5 q6 q7 u)[i]?) = (wMod cI q0 q1 q2 q3 q4 q5 q6 q7 u).map some := rfl
      obtain ⟨w1, hc, hf⟩ := bd_o hf
      refine rw_i (va_runV (As := [.int l1, .int l2, .int l11, .int l8]) (rest := []) ⟨hx, hb, hml, hown, hw⟩ (c_Mod_errorOf l D cI q0 q1 q2 q3 q4 q5 q6 q7 (dj_sub hd [0, 1, 2, 3, 4, 5, 6, 7] (by decide) rfl) l1 l2 l11 l8 u w1.1 w1.2 hc) (cwV 4 hw g_85 rfl rfl rfl (by decide +kernel) ⟨Nat.le_of_ble_eq_true rfl, Nat.le_of_ble_eq_true rfl⟩) (pre_V (P_sub hC hP) hK rfl rfl) rfl rfl hl.1 rfl (lv_room (Nat.le_of_ble_eq_true rfl)) d_Mod_regular_299 ⟨Nat.le_of_ble_eq_true rfl, Nat.le_of_ble_eq_true rfl⟩) hS hP (hD _) hC rfl rfl (fun H locs hP hS => ?_)
      obtain ⟨u2, e_u2, hf⟩ := tk_o hf
      have hP : va_P D cls (wMod cI q0 q1 q2 q3 q4 q5 q6 q7 u2) H := by rw [e_u2]; exact hP
      refine lv_istore (lv' := [(14, .int w1.1), (13, .int s0), (0, .ref q0), (1, .int l1), (2, .int l2), (7, .int l7), (8, .int l8), (11, .int l11), (12, .int l12)]) hx hb d_Mod_regular_302 hl (by decide) rfl (fun ls hl => ?_)
      refine lv_iload hx hb d_Mod_regular_304 (lv_at hl 1 rfl) ?_
      refine lv_if_eq (tgt := 317) hx hb d_Mod_regular_306 (by decide) (fun hc => ?_) (fun hc => ?_)
      · have hf := bq_t hf hc
        refine lv_iload hx hb d_Mod_regular_317 (lv_at hl 0 rfl) ?_
        exact j319 _ _ _ l7 l12 w1.1 w1.1 u2 (lv_sub hl [2, 5, 8, 0] rfl) hP hS hf
      have hf := bq_n hf hc
      refine lv_iload hx hb d_Mod_regular_309 (lv_at hl 0 rfl) ?_
      refine lv_ineg hx hb d_Mod_regular_311 ?_
      refine lv_iconst (v := 1) hx hb d_Mod_regular_312 (by decide) ?_
      refine lv_isub hx hb d_Mod_regular_313 ?_
      refine lv_goto (tgt := 319) hx hb d_Mod_regular_314 (by decide) ?_
      exact j319 _ _ _ l7 l12 w1.1 ((-w1.1) - 1) u2 (lv_sub hl [2, 5, 8, 0] rfl) hP hS hf
    have hf := bq_n hf hc
    refine lv_aload_n hx hb d_Mod_regular_225 rfl (lv_at hl 1 rfl) ?_
    refine lv_iload hx hb d_Mod_regular_226 (lv_at hl 7 rfl) ?_
    refine lv_aload_n hx hb d_Mod_regular_228 rfl (lv_at hl 1 rfl) ?_
    refine va_get (D := D) (ci := 7) (v := .int (u 0 8)) (C := R_Mod) (T := F_Mod) (N := 28) hx hb hw in_Mod hown hK hP 0 rfl rfl 8 (by decide) (hw _ m_439) (fun _ h9 => h9) rfl d_Mod_regular_229 ?_
    have hC : [0, 1, 2, 3, 4, 5, 6, 7].map (fun i => (wMod cI q0 q1 q2 q3 q4 q5 q6 q7 u)[i]?) = (wMod cI q0 q1 q2 q3 q4 q5 q6 q7 u).map some := rfl
    obtain ⟨w3, hc, hf⟩ := bd_o hf
    refine rw_i (va_runV (As := [.int l12, .int (u 0 8)]) (rest := []) ⟨hx, hb, hml, hown, hw⟩ (c_Mod_read l D cI q0 q1 q2 q3 q4 q5 q6 q7 (dj_sub hd [0, 1, 2, 3, 4, 5, 6, 7] (by decide) rfl) l12 (u 0 8) u w3.1 w3.2 hc) (cwV 2 hw g_86 rfl rfl rfl (by decide +kernel) ⟨Nat.le_of_ble_eq_true rfl, Nat.le_of_ble_eq_true rfl⟩) (pre_V (P_sub hC hP) hK rfl rfl) rfl rfl hl.1 rfl (lv_room (Nat.le_of_ble_eq_true rfl)) d_Mod_regular_232 ⟨Nat.le_of_ble_eq_true rfl, Nat.le_of_ble_eq_true rfl⟩) hS hP (hD _) hC rfl rfl (fun H locs hP hS => ?_)
    obtain ⟨u4, e_u4, hf⟩ := tk_o hf
    have hP : va_P D cls (wMod cI q0 q1 q2 q3 q4 q5 q6 q7 u4) H := by rw [e_u4]; exact hP
    refine lv_istore (lv' := [(15, .int w3.1), (13, .int s0), (0, .ref q0), (1, .int l1), (2, .int l2), (7, .int l7), (8, .int l8), (11, .int l11), (12, .int l12)]) hx hb d_Mod_regular_235 hl (by decide) rfl (fun ls hl => ?_)
    refine lv_iload hx hb d_Mod_regular_237 (lv_at hl 0 rfl) ?_
    refine lv_iconst (v := 2) hx hb d_Mod_regular_239 (by decide) ?_
    refine lv_irem hx hb d_Mod_regular_240 (by decide) ?_
    refine lv_if_ne (tgt := 251) hx hb d_Mod_regular_241 (by decide) (fun hc => ?_) (fun hc => ?_)
    · have hf := bq_n hf hc
      refine lv_iload hx hb d_Mod_regular_251 (lv_at hl 0 rfl) ?_
      refine lv_iconst (v := 1) hx hb d_Mod_regular_253 (by decide) ?_
      refine lv_iadd hx hb d_Mod_regular_254 ?_
      refine lv_ineg hx hb d_Mod_regular_255 ?_
      refine lv_iconst (v := 2) hx hb d_Mod_regular_256 (by decide) ?_
      refine lv_idiv hx hb d_Mod_regular_257 (by decide) ?_
      exact j258 _ _ _ l1 l2 l7 l8 l11 s0 ((-(w3.1 + 1)) / 2) u4 (lv_sub hl [2, 3, 4, 5, 6, 7, 1] rfl) hP hS hf
    have hf := bq_t hf hc
    refine lv_iload hx hb d_Mod_regular_244 (lv_at hl 0 rfl) ?_
    refine lv_iconst (v := 2) hx hb d_Mod_regular_246 (by decide) ?_
    refine lv_idiv hx hb d_Mod_regular_247 (by decide) ?_
    refine lv_goto (tgt := 258) hx hb d_Mod_regular_248 (by decide) ?_
    exact j258 _ _ _ l1 l2 l7 l8 l11 s0 (w3.1 / 2) u4 (lv_sub hl [2, 3, 4, 5, 6, 7, 1] rfl) hP hS hf
  have j215 : ∀ (ls : Array Slot) (H : Heap) (locs : List Loc) (l1 : Int32) (l2 : Int32) (l7 : Int32) (l8 : Int32) (l11 : Int32) (l12 : Int32) (u : gU), lv_has ls 16 [(0, .ref q0), (1, .int l1), (2, .int l2), (7, .int l7), (8, .int l8), (11, .int l11), (12, .int l12)] → va_P D cls (wMod cI q0 q1 q2 q3 q4 q5 q6 q7 u) H → va_S (ad [q0, q1, q2, q3, q4, q5, q6, q7]) s.heap H locs → J_Mod_regular_215 l1 l2 l7 l8 l11 l12 u = some v → W p l e ({ frames := 4, cells := 0, slots := 0, locals := 90 }) s m [.ref q0, .int a1, .int a2].toArray below meth c H locs 0 0 (MQ below (va_Qv (fun (_ : Unit) => True) (fun _ t => va_P D cls (wMod cI q0 q1 q2 q3 q4 q5 q6 q7 v) t.heap) (ad [q0, q1, q2, q3, q4, q5, q6, q7])) [.ref q0, .int a1, .int a2].toArray s 0 0 (ad [q0, q1, q2, q3, q4, q5, q6, q7])) (F0 m 215 ls []) := by
    intro ls H locs l1 l2 l7 l8 l11 l12 u hl hP hS hf
    unfold J_Mod_regular_215 at hf
    refine lv_iconst (v := 0) hx hb d_Mod_regular_215 (by decide) ?_
    exact j216 _ _ _ l1 l2 l7 l8 l11 l12 0 u (lv_sub hl [0, 1, 2, 3, 4, 5, 6] rfl) hP hS hf
  have j136 : ∀ (ls : Array Slot) (H : Heap) (locs : List Loc) (l1 : Int32) (l2 : Int32) (l7 : Int32) (l8 : Int32) (s1 : Int32) (u : gU), lv_has ls 16 [(0, .ref q0), (1, .int l1), (2, .int l2), (7, .int l7), (8, .int l8)] → va_P D cls (wMod cI q0 q1 q2 q3 q4 q5 q6 q7 u) H → va_S (ad [q0, q1, q2, q3, q4, q5, q6, q7]) s.heap H locs → J_Mod_regular_136 l1 l2 l7 l8 s1 u = some v → W p l e ({ frames := 4, cells := 0, slots := 0, locals := 90 }) s m [.ref q0, .int a1, .int a2].toArray below meth c H locs 0 0 (MQ below (va_Qv (fun (_ : Unit) => True) (fun _ t => va_P D cls (wMod cI q0 q1 q2 q3 q4 q5 q6 q7 v) t.heap) (ad [q0, q1, q2, q3, q4, q5, q6, q7])) [.ref q0, .int a1, .int a2].toArray s 0 0 (ad [q0, q1, q2, q3, q4, q5, q6, q7])) (F0 m 136 ls [.int s1, .ref q0]) := by
    intro ls H locs l1 l2 l7 l8 s1 u hl hP hS hf
    unfold J_Mod_regular_136 at hf
    refine lv_iload hx hb d_Mod_regular_136 (lv_at hl 4 rfl) ?_
    refine lv_aload_n hx hb d_Mod_regular_138 rfl (lv_at hl 0 rfl) ?_
    refine va_get (D := D) (ci := 7) (v := .ref q3) (C := R_Mod) (T := F_Mod) (N := 28) hx hb hw in_Mod hown hK hP 0 rfl rfl 14 (by decide) (hw _ m_449) (fun _ h9 => h9) rfl d_Mod_regular_139 ?_
    refine lv_iload hx hb d_Mod_regular_142 (lv_at hl 3 rfl) ?_
    refine lv_iconst (v := 2) hx hb d_Mod_regular_144 (by decide) ?_
    refine lv_iadd hx hb d_Mod_regular_145 ?_
    obtain ⟨h1, hf⟩ := gd_o hf
    refine va_iald hx hb hK hP 3 0 rfl rfl (ix_in h1) d_Mod_regular_146 ?_
    refine lv_imul hx hb d_Mod_regular_147 ?_
    refine lv_iadd hx hb d_Mod_regular_148 ?_
    have hC : [0, 1, 2, 3, 4, 5, 6, 7].map (fun i => (wMod cI q0 q1 q2 q3 q4 q5 q6 q7 u)[i]?) = (wMod cI q0 q1 q2 q3 q4 q5 q6 q7 u).map some := rfl
    obtain ⟨x2, hc, hf⟩ := bd_o hf
    refine ro_i (va_runV (As := [.int (s1 + (l8 * (u 3 (tc (l7 + 2)))))]) (rest := []) ⟨hx, hb, hml, hown, hw⟩ (c_Mod_held l D cI q0 q1 q2 q3 q4 q5 q6 q7 (s1 + (l8 * (u 3 (tc (l7 + 2))))) u x2 hc) (cwV 1 hw g_79 rfl rfl rfl (by decide +kernel) ⟨Nat.le_of_ble_eq_true rfl, Nat.le_of_ble_eq_true rfl⟩) (pre_V (P_sub hC hP) hK rfl rfl) rfl rfl hl.1 rfl (lv_room (Nat.le_of_ble_eq_true rfl)) d_Mod_regular_149 ⟨Nat.le_of_ble_eq_true rfl, Nat.le_of_ble_eq_true rfl⟩) hS hP (fun H locs hP hS => ?_)
    refine lv_istore (lv' := [(11, .int x2), (0, .ref q0), (1, .int l1), (2, .int l2), (7, .int l7), (8, .int l8)]) hx hb d_Mod_regular_152 hl (by decide) rfl (fun ls hl => ?_)
    refine lv_aload_n hx hb d_Mod_regular_154 rfl (lv_at hl 1 rfl) ?_
    refine va_get (D := D) (ci := 7) (v := .ref q3) (C := R_Mod) (T := F_Mod) (N := 28) hx hb hw in_Mod hown hK hP 0 rfl rfl 14 (by decide) (hw _ m_449) (fun _ h9 => h9) rfl d_Mod_regular_155 ?_
    refine lv_iload hx hb d_Mod_regular_158 (lv_at hl 4 rfl) ?_
    refine lv_iconst (v := 3) hx hb d_Mod_regular_160 (by decide) ?_
    refine lv_iadd hx hb d_Mod_regular_161 ?_
    obtain ⟨h3, hf⟩ := gd_o hf
    refine va_iald hx hb hK hP 3 0 rfl rfl (ix_in h3) d_Mod_regular_162 ?_
    refine lv_aload_n hx hb d_Mod_regular_163 rfl (lv_at hl 1 rfl) ?_
    refine va_get (D := D) (ci := 7) (v := .ref q3) (C := R_Mod) (T := F_Mod) (N := 28) hx hb hw in_Mod hown hK hP 0 rfl rfl 14 (by decide) (hw _ m_449) (fun _ h9 => h9) rfl d_Mod_regular_164 ?_
    refine lv_iload hx hb d_Mod_regular_167 (lv_at hl 4 rfl) ?_
    obtain ⟨h4, hf⟩ := gd_o hf
    refine va_iald hx hb hK hP 3 0 rfl rfl (ix_in h4) d_Mod_regular_169 ?_
    have hC : ([] : List Nat).map (fun i => (wMod cI q0 q1 q2 q3 q4 q5 q6 q7 u)[i]?) = ([] : va_W).map some := rfl
    obtain ⟨x5, hc, hf⟩ := bd_o hf
    refine ro_i (va_runS (As := [.int (u 3 (tc (l7 + 3))), .int (u 3 (tc l7))]) (rest := []) ⟨hx, hb, hml, hown, hw⟩ (c_Mod_kFor l D cI (u 3 (tc (l7 + 3))) (u 3 (tc l7)) x5 hc) (va_cwS 2 hw g_87 rfl rfl rfl (by decide +kernel) ⟨Nat.le_of_ble_eq_true rfl, Nat.le_of_ble_eq_true rfl⟩) (pre_S (P_sub hC hP) hK) rfl rfl hl.1 rfl (lv_room (Nat.le_of_ble_eq_true rfl)) d_Mod_regular_170 ⟨Nat.le_of_ble_eq_true rfl, Nat.le_of_ble_eq_true rfl⟩) hS hP (fun H locs hP hS => ?_)
    refine lv_istore (lv' := [(12, .int x5), (11, .int x2), (0, .ref q0), (1, .int l1), (2, .int l2), (7, .int l7), (8, .int l8)]) hx hb d_Mod_regular_173 hl (by decide) rfl (fun ls hl => ?_)
    refine lv_aload_n hx hb d_Mod_regular_175 rfl (lv_at hl 2 rfl) ?_
    refine va_get (D := D) (ci := 7) (v := .int (u 0 4)) (C := R_Mod) (T := F_Mod) (N := 28) hx hb hw in_Mod hown hK hP 0 rfl rfl 4 (by decide) (hw _ m_428) (fun _ h9 => h9) rfl d_Mod_regular_176 ?_
    refine lv_if_ne (tgt := 215) hx hb d_Mod_regular_179 (by decide) (fun hc => ?_) (fun hc => ?_)
    · have hf := bq_n hf hc
      exact j215 _ _ _ l1 l2 l7 l8 x2 x5 u (lv_sub hl [2, 3, 4, 5, 6, 1, 0] rfl) hP hS hf
    have hf := bq_t hf hc
    refine lv_iload hx hb d_Mod_regular_182 (lv_at hl 0 rfl) ?_
    refine lv_if_ne (tgt := 215) hx hb d_Mod_regular_184 (by decide) (fun hc => ?_) (fun hc => ?_)
    · have hf := bq_n hf hc
      exact j215 _ _ _ l1 l2 l7 l8 x2 x5 u (lv_sub hl [2, 3, 4, 5, 6, 1, 0] rfl) hP hS hf
    have hf := bq_t hf hc
    refine lv_iconst (v := 2) hx hb d_Mod_regular_187 (by decide) ?_
    refine lv_aload_n hx hb d_Mod_regular_188 rfl (lv_at hl 2 rfl) ?_
    refine va_get (D := D) (ci := 7) (v := .ref q3) (C := R_Mod) (T := F_Mod) (N := 28) hx hb hw in_Mod hown hK hP 0 rfl rfl 14 (by decide) (hw _ m_449) (fun _ h9 => h9) rfl d_Mod_regular_189 ?_
    refine lv_iload hx hb d_Mod_regular_192 (lv_at hl 5 rfl) ?_
    refine lv_iconst (v := 1) hx hb d_Mod_regular_194 (by decide) ?_
    refine lv_iadd hx hb d_Mod_regular_195 ?_
    obtain ⟨h6, hf⟩ := gd_o hf
    refine va_iald hx hb hK hP 3 0 rfl rfl (ix_in h6) d_Mod_regular_196 ?_
    refine lv_imul hx hb d_Mod_regular_197 ?_
    refine lv_aload_n hx hb d_Mod_regular_198 rfl (lv_at hl 2 rfl) ?_
    refine va_get (D := D) (ci := 7) (v := .ref q3) (C := R_Mod) (T := F_Mod) (N := 28) hx hb hw in_Mod hown hK hP 0 rfl rfl 14 (by decide) (hw _ m_449) (fun _ h9 => h9) rfl d_Mod_regular_199 ?_
    refine lv_iload hx hb d_Mod_regular_202 (lv_at hl 5 rfl) ?_
    refine lv_iconst (v := 3) hx hb d_Mod_regular_204 (by decide) ?_
    refine lv_iadd hx hb d_Mod_regular_205 ?_
    obtain ⟨h7, hf⟩ := gd_o hf
    refine va_iald hx hb hK hP 3 0 rfl rfl (ix_in h7) d_Mod_regular_206 ?_
    refine lv_ineg hx hb d_Mod_regular_207 ?_
    refine lv_icmp_gt (tgt := 215) hx hb d_Mod_regular_208 (by decide) (fun hc => ?_) (fun hc => ?_)
    · have hf := bq_t hf hc
      exact j215 _ _ _ l1 l2 l7 l8 x2 x5 u (lv_sub hl [2, 3, 4, 5, 6, 1, 0] rfl) hP hS hf
    have hf := bq_n hf hc
    refine lv_iconst (v := 1) hx hb d_Mod_regular_211 (by decide) ?_
    refine lv_goto (tgt := 216) hx hb d_Mod_regular_212 (by decide) ?_
    exact j216 _ _ _ l1 l2 l7 l8 x2 x5 1 u (lv_sub hl [2, 3, 4, 5, 6, 1, 0] rfl) hP hS hf
  have j77 : ∀ (ls : Array Slot) (H : Heap) (locs : List Loc) (l1 : Int32) (l2 : Int32) (l3 : Int32) (l4 : Int32) (l5 : Int32) (l7 : Int32) (s0 : Int32) (u : gU), lv_has ls 16 [(0, .ref q0), (1, .int l1), (2, .int l2), (3, .int l3), (4, .int l4), (5, .int l5), (7, .int l7)] → va_P D cls (wMod cI q0 q1 q2 q3 q4 q5 q6 q7 u) H → va_S (ad [q0, q1, q2, q3, q4, q5, q6, q7]) s.heap H locs → J_Mod_regular_77 l1 l2 l3 l4 l5 l7 s0 u = some v → W p l e ({ frames := 4, cells := 0, slots := 0, locals := 90 }) s m [.ref q0, .int a1, .int a2].toArray below meth c H locs 0 0 (MQ below (va_Qv (fun (_ : Unit) => True) (fun _ t => va_P D cls (wMod cI q0 q1 q2 q3 q4 q5 q6 q7 v) t.heap) (ad [q0, q1, q2, q3, q4, q5, q6, q7])) [.ref q0, .int a1, .int a2].toArray s 0 0 (ad [q0, q1, q2, q3, q4, q5, q6, q7])) (F0 m 77 ls [.int s0]) := by
    intro ls H locs l1 l2 l3 l4 l5 l7 s0 u hl hP hS hf
    unfold J_Mod_regular_77 at hf
    refine lv_istore (lv' := [(8, .int s0), (0, .ref q0), (1, .int l1), (2, .int l2), (3, .int l3), (4, .int l4), (5, .int l5), (7, .int l7)]) hx hb d_Mod_regular_77 hl (by decide) rfl (fun ls hl => ?_)
    refine lv_iconst (v := 5) hx hb d_Mod_regular_79 (by decide) ?_
    refine lv_iload hx hb d_Mod_regular_80 (lv_at hl 0 rfl) ?_
    refine lv_imul hx hb d_Mod_regular_82 ?_
    refine lv_iload hx hb d_Mod_regular_83 (lv_at hl 7 rfl) ?_
    refine lv_imul hx hb d_Mod_regular_85 ?_
    refine lv_topi (fun x1 e_x1 => ?_)
    have hf := tk_e hf e_x1
    refine lv_istore (lv' := [(7, .int x1), (8, .int s0), (0, .ref q0), (1, .int l1), (2, .int l2), (3, .int l3), (4, .int l4), (5, .int l5)]) hx hb d_Mod_regular_86 hl (by decide) rfl (fun ls hl => ?_)
    refine lv_iload_n hx hb d_Mod_regular_88 rfl (lv_at hl 5 rfl) ?_
    refine lv_iload hx hb d_Mod_regular_89 (lv_at hl 6 rfl) ?_
    have hC : ([] : List Nat).map (fun i => (wMod cI q0 q1 q2 q3 q4 q5 q6 q7 u)[i]?) = ([] : va_W).map some := rfl
    obtain ⟨x2, hc, hf⟩ := bd_o hf
    refine ro_i (va_runS (As := [.int l3, .int l4]) (rest := []) ⟨hx, hb, hml, hown, hw⟩ (c_Mod_lesser l D cI l3 l4 x2 hc) (va_cwS 2 hw g_88 rfl rfl rfl (by decide +kernel) ⟨Nat.le_of_ble_eq_true rfl, Nat.le_of_ble_eq_true rfl⟩) (pre_S (P_sub hC hP) hK) rfl rfl hl.1 rfl (lv_room (Nat.le_of_ble_eq_true rfl)) d_Mod_regular_91 ⟨Nat.le_of_ble_eq_true rfl, Nat.le_of_ble_eq_true rfl⟩) hS hP (fun H locs hP hS => ?_)
    refine lv_istore (lv' := [(9, .int x2), (7, .int x1), (8, .int s0), (0, .ref q0), (1, .int l1), (2, .int l2), (3, .int l3), (4, .int l4), (5, .int l5)]) hx hb d_Mod_regular_94 hl (by decide) rfl (fun ls hl => ?_)
    refine lv_iload_n hx hb d_Mod_regular_96 rfl (lv_at hl 6 rfl) ?_
    refine lv_iload hx hb d_Mod_regular_97 (lv_at hl 7 rfl) ?_
    have hC : ([] : List Nat).map (fun i => (wMod cI q0 q1 q2 q3 q4 q5 q6 q7 u)[i]?) = ([] : va_W).map some := rfl
    obtain ⟨x3, hc, hf⟩ := bd_o hf
    refine ro_i (va_runS (As := [.int l3, .int l4]) (rest := []) ⟨hx, hb, hml, hown, hw⟩ (c_Mod_greater l D cI l3 l4 x3 hc) (va_cwS 2 hw g_65 rfl rfl rfl (by decide +kernel) ⟨Nat.le_of_ble_eq_true rfl, Nat.le_of_ble_eq_true rfl⟩) (pre_S (P_sub hC hP) hK) rfl rfl hl.1 rfl (lv_room (Nat.le_of_ble_eq_true rfl)) d_Mod_regular_99 ⟨Nat.le_of_ble_eq_true rfl, Nat.le_of_ble_eq_true rfl⟩) hS hP (fun H locs hP hS => ?_)
    refine lv_istore (lv' := [(10, .int x3), (9, .int x2), (7, .int x1), (8, .int s0), (0, .ref q0), (1, .int l1), (2, .int l2), (3, .int l3), (4, .int l4), (5, .int l5)]) hx hb d_Mod_regular_102 hl (by decide) rfl (fun ls hl => ?_)
    refine lv_aload_n hx hb d_Mod_regular_104 rfl (lv_at hl 4 rfl) ?_
    refine lv_iload hx hb d_Mod_regular_105 (lv_at hl 9 rfl) ?_
    refine lv_iload hx hb d_Mod_regular_107 (lv_at hl 0 rfl) ?_
    refine lv_icmp_lt (tgt := 117) hx hb d_Mod_regular_109 (by decide) (fun hc => ?_) (fun hc => ?_)
    · have hf := bq_t hf hc
      refine lv_iload hx hb d_Mod_regular_117 (lv_at hl 9 rfl) ?_
      refine lv_iload hx hb d_Mod_regular_119 (lv_at hl 1 rfl) ?_
      refine lv_icmp_gt (tgt := 129) hx hb d_Mod_regular_121 (by decide) (fun hc => ?_) (fun hc => ?_)
      · have hf := bq_t hf hc
        refine lv_iload_n hx hb d_Mod_regular_129 rfl (lv_at hl 7 rfl) ?_
        refine lv_iload hx hb d_Mod_regular_130 (lv_at hl 8 rfl) ?_
        refine lv_iadd hx hb d_Mod_regular_132 ?_
        refine lv_iload hx hb d_Mod_regular_133 (lv_at hl 9 rfl) ?_
        refine lv_isub hx hb d_Mod_regular_135 ?_
        exact j136 _ _ _ l1 l2 x1 s0 ((l3 + l4) - l5) u (lv_sub hl [4, 5, 6, 2, 3] rfl) hP hS hf
      have hf := bq_n hf hc
      refine lv_iload hx hb d_Mod_regular_124 (lv_at hl 0 rfl) ?_
      refine lv_goto (tgt := 136) hx hb d_Mod_regular_126 (by decide) ?_
      exact j136 _ _ _ l1 l2 x1 s0 x3 u (lv_sub hl [4, 5, 6, 2, 3] rfl) hP hS hf
    have hf := bq_n hf hc
    refine lv_iload hx hb d_Mod_regular_112 (lv_at hl 1 rfl) ?_
    refine lv_goto (tgt := 136) hx hb d_Mod_regular_114 (by decide) ?_
    exact j136 _ _ _ l1 l2 x1 s0 x2 u (lv_sub hl [4, 5, 6, 2, 3] rfl) hP hS hf
  unfold f_Mod_regular at hf
  refine lv_aload_n hx hb d_Mod_regular_0 rfl (lv_at hl 0 rfl) ?_
  refine lv_iload_n hx hb d_Mod_regular_1 rfl (lv_at hl 1 rfl) ?_
  refine lv_iload_n hx hb d_Mod_regular_2 rfl (lv_at hl 2 rfl) ?_
  have hC : [0, 1, 2, 3, 4, 5, 6, 7].map (fun i => (wMod cI q0 q1 q2 q3 q4 q5 q6 q7 u)[i]?) = (wMod cI q0 q1 q2 q3 q4 q5 q6 q7 u).map some := rfl
  obtain ⟨x1, hc, hf⟩ := bd_o hf
  refine ro_i (va_runV (As := [.int a1, .int a2]) (rest := []) ⟨hx, hb, hml, hown, hw⟩ (c_Mod_before l D cI q0 q1 q2 q3 q4 q5 q6 q7 a1 a2 u x1 hc) (cwV 2 hw g_77 rfl rfl rfl (by decide +kernel) ⟨Nat.le_of_ble_eq_true rfl, Nat.le_of_ble_eq_true rfl⟩) (pre_V (P_sub hC hP) hK rfl rfl) rfl rfl hl.1 rfl (lv_room (Nat.le_of_ble_eq_true rfl)) d_Mod_regular_3 ⟨Nat.le_of_ble_eq_true rfl, Nat.le_of_ble_eq_true rfl⟩) hS hP (fun H locs hP hS => ?_)
  refine lv_istore_n (lv' := [(3, .int x1), (0, .ref q0), (1, .int a1), (2, .int a2)]) hx hb d_Mod_regular_6 rfl hl (by decide) rfl (fun ls hl => ?_)
  refine lv_aload_n hx hb d_Mod_regular_7 rfl (lv_at hl 1 rfl) ?_
  refine lv_iload_n hx hb d_Mod_regular_8 rfl (lv_at hl 2 rfl) ?_
  refine lv_iload_n hx hb d_Mod_regular_9 rfl (lv_at hl 3 rfl) ?_
  have hC : [0, 1, 2, 3, 4, 5, 6, 7].map (fun i => (wMod cI q0 q1 q2 q3 q4 q5 q6 q7 u)[i]?) = (wMod cI q0 q1 q2 q3 q4 q5 q6 q7 u).map some := rfl
  obtain ⟨x2, hc, hf⟩ := bd_o hf
  refine ro_i (va_runV (As := [.int a1, .int a2]) (rest := []) ⟨hx, hb, hml, hown, hw⟩ (c_Mod_above l D cI q0 q1 q2 q3 q4 q5 q6 q7 a1 a2 u x2 hc) (cwV 2 hw g_76 rfl rfl rfl (by decide +kernel) ⟨Nat.le_of_ble_eq_true rfl, Nat.le_of_ble_eq_true rfl⟩) (pre_V (P_sub hC hP) hK rfl rfl) rfl rfl hl.1 rfl (lv_room (Nat.le_of_ble_eq_true rfl)) d_Mod_regular_10 ⟨Nat.le_of_ble_eq_true rfl, Nat.le_of_ble_eq_true rfl⟩) hS hP (fun H locs hP hS => ?_)
  refine lv_istore (lv' := [(4, .int x2), (3, .int x1), (0, .ref q0), (1, .int a1), (2, .int a2)]) hx hb d_Mod_regular_13 hl (by decide) rfl (fun ls hl => ?_)
  refine lv_aload_n hx hb d_Mod_regular_15 rfl (lv_at hl 2 rfl) ?_
  refine lv_iload_n hx hb d_Mod_regular_16 rfl (lv_at hl 3 rfl) ?_
  refine lv_iload_n hx hb d_Mod_regular_17 rfl (lv_at hl 4 rfl) ?_
  have hC : [0, 1, 2, 3, 4, 5, 6, 7].map (fun i => (wMod cI q0 q1 q2 q3 q4 q5 q6 q7 u)[i]?) = (wMod cI q0 q1 q2 q3 q4 q5 q6 q7 u).map some := rfl
  obtain ⟨x3, hc, hf⟩ := bd_o hf
  refine ro_i (va_runV (As := [.int a1, .int a2]) (rest := []) ⟨hx, hb, hml, hown, hw⟩ (c_Mod_corner l D cI q0 q1 q2 q3 q4 q5 q6 q7 a1 a2 u x3 hc) (cwV 2 hw g_89 rfl rfl rfl (by decide +kernel) ⟨Nat.le_of_ble_eq_true rfl, Nat.le_of_ble_eq_true rfl⟩) (pre_V (P_sub hC hP) hK rfl rfl) rfl rfl hl.1 rfl (lv_room (Nat.le_of_ble_eq_true rfl)) d_Mod_regular_18 ⟨Nat.le_of_ble_eq_true rfl, Nat.le_of_ble_eq_true rfl⟩) hS hP (fun H locs hP hS => ?_)
  refine lv_istore (lv' := [(5, .int x3), (4, .int x2), (3, .int x1), (0, .ref q0), (1, .int a1), (2, .int a2)]) hx hb d_Mod_regular_21 hl (by decide) rfl (fun ls hl => ?_)
  refine lv_aload_n hx hb d_Mod_regular_23 rfl (lv_at hl 3 rfl) ?_
  refine lv_iload_n hx hb d_Mod_regular_24 rfl (lv_at hl 4 rfl) ?_
  refine lv_iload_n hx hb d_Mod_regular_25 rfl (lv_at hl 5 rfl) ?_
  have hC : [0, 1, 2, 3, 4, 5, 6, 7].map (fun i => (wMod cI q0 q1 q2 q3 q4 q5 q6 q7 u)[i]?) = (wMod cI q0 q1 q2 q3 q4 q5 q6 q7 u).map some := rfl
  obtain ⟨x4, hc, hf⟩ := bd_o hf
  refine ro_i (va_runV (As := [.int a1, .int a2]) (rest := []) ⟨hx, hb, hml, hown, hw⟩ (c_Mod_beyond l D cI q0 q1 q2 q3 q4 q5 q6 q7 a1 a2 u x4 hc) (cwV 2 hw g_90 rfl rfl rfl (by decide +kernel) ⟨Nat.le_of_ble_eq_true rfl, Nat.le_of_ble_eq_true rfl⟩) (pre_V (P_sub hC hP) hK rfl rfl) rfl rfl hl.1 rfl (lv_room (Nat.le_of_ble_eq_true rfl)) d_Mod_regular_26 ⟨Nat.le_of_ble_eq_true rfl, Nat.le_of_ble_eq_true rfl⟩) hS hP (fun H locs hP hS => ?_)
  refine lv_istore (lv' := [(6, .int x4), (5, .int x3), (4, .int x2), (3, .int x1), (0, .ref q0), (1, .int a1), (2, .int a2)]) hx hb d_Mod_regular_29 hl (by decide) rfl (fun ls hl => ?_)
  refine lv_bipush (v := 81) hx hb d_Mod_regular_31 (by decide) ?_
  refine lv_aload_n hx hb d_Mod_regular_33 rfl (lv_at hl 4 rfl) ?_
  refine lv_iload hx hb d_Mod_regular_34 (lv_at hl 0 rfl) ?_
  refine lv_iload hx hb d_Mod_regular_36 (lv_at hl 2 rfl) ?_
  refine lv_isub hx hb d_Mod_regular_38 ?_
  have hC : [0, 1, 2, 3, 4, 5, 6, 7].map (fun i => (wMod cI q0 q1 q2 q3 q4 q5 q6 q7 u)[i]?) = (wMod cI q0 q1 q2 q3 q4 q5 q6 q7 u).map some := rfl
  obtain ⟨x5, hc, hf⟩ := bd_o hf
  refine ro_i (va_runV (As := [.int (x4 - x2)]) (rest := [.int 81]) ⟨hx, hb, hml, hown, hw⟩ (c_Mod_quantized l D cI q0 q1 q2 q3 q4 q5 q6 q7 (x4 - x2) u x5 hc) (cwV 1 hw g_91 rfl rfl rfl (by decide +kernel) ⟨Nat.le_of_ble_eq_true rfl, Nat.le_of_ble_eq_true rfl⟩) (pre_V (P_sub hC hP) hK rfl rfl) rfl rfl hl.1 rfl (lv_room (Nat.le_of_ble_eq_true rfl)) d_Mod_regular_39 ⟨Nat.le_of_ble_eq_true rfl, Nat.le_of_ble_eq_true rfl⟩) hS hP (fun H locs hP hS => ?_)
  refine lv_imul hx hb d_Mod_regular_42 ?_
  refine lv_bipush (v := 9) hx hb d_Mod_regular_43 (by decide) ?_
  refine lv_aload_n hx hb d_Mod_regular_45 rfl (lv_at hl 4 rfl) ?_
  refine lv_iload hx hb d_Mod_regular_46 (lv_at hl 2 rfl) ?_
  refine lv_iload hx hb d_Mod_regular_48 (lv_at hl 1 rfl) ?_
  refine lv_isub hx hb d_Mod_regular_50 ?_
  have hC : [0, 1, 2, 3, 4, 5, 6, 7].map (fun i => (wMod cI q0 q1 q2 q3 q4 q5 q6 q7 u)[i]?) = (wMod cI q0 q1 q2 q3 q4 q5 q6 q7 u).map some := rfl
  obtain ⟨x6, hc, hf⟩ := bd_o hf
  refine ro_i (va_runV (As := [.int (x2 - x3)]) (rest := [.int 9, .int (81 * x5)]) ⟨hx, hb, hml, hown, hw⟩ (c_Mod_quantized l D cI q0 q1 q2 q3 q4 q5 q6 q7 (x2 - x3) u x6 hc) (cwV 1 hw g_91 rfl rfl rfl (by decide +kernel) ⟨Nat.le_of_ble_eq_true rfl, Nat.le_of_ble_eq_true rfl⟩) (pre_V (P_sub hC hP) hK rfl rfl) rfl rfl hl.1 rfl (lv_room (Nat.le_of_ble_eq_true rfl)) d_Mod_regular_51 ⟨Nat.le_of_ble_eq_true rfl, Nat.le_of_ble_eq_true rfl⟩) hS hP (fun H locs hP hS => ?_)
  refine lv_imul hx hb d_Mod_regular_54 ?_
  refine lv_iadd hx hb d_Mod_regular_55 ?_
  refine lv_aload_n hx hb d_Mod_regular_56 rfl (lv_at hl 4 rfl) ?_
  refine lv_iload hx hb d_Mod_regular_57 (lv_at hl 1 rfl) ?_
  refine lv_iload_n hx hb d_Mod_regular_59 rfl (lv_at hl 3 rfl) ?_
  refine lv_isub hx hb d_Mod_regular_60 ?_
  have hC : [0, 1, 2, 3, 4, 5, 6, 7].map (fun i => (wMod cI q0 q1 q2 q3 q4 q5 q6 q7 u)[i]?) = (wMod cI q0 q1 q2 q3 q4 q5 q6 q7 u).map some := rfl
  obtain ⟨x7, hc, hf⟩ := bd_o hf
  refine ro_i (va_runV (As := [.int (x3 - x1)]) (rest := [.int ((81 * x5) + (9 * x6))]) ⟨hx, hb, hml, hown, hw⟩ (c_Mod_quantized l D cI q0 q1 q2 q3 q4 q5 q6 q7 (x3 - x1) u x7 hc) (cwV 1 hw g_91 rfl rfl rfl (by decide +kernel) ⟨Nat.le_of_ble_eq_true rfl, Nat.le_of_ble_eq_true rfl⟩) (pre_V (P_sub hC hP) hK rfl rfl) rfl rfl hl.1 rfl (lv_room (Nat.le_of_ble_eq_true rfl)) d_Mod_regular_61 ⟨Nat.le_of_ble_eq_true rfl, Nat.le_of_ble_eq_true rfl⟩) hS hP (fun H locs hP hS => ?_)
  refine lv_iadd hx hb d_Mod_regular_64 ?_
  refine lv_topi (fun x8 e_x8 => ?_)
  have hf := tk_e hf e_x8
  refine lv_istore (lv' := [(7, .int x8), (6, .int x4), (5, .int x3), (4, .int x2), (3, .int x1), (0, .ref q0), (1, .int a1), (2, .int a2)]) hx hb d_Mod_regular_65 hl (by decide) rfl (fun ls hl => ?_)
  refine lv_iload hx hb d_Mod_regular_67 (lv_at hl 0 rfl) ?_
  refine lv_if_ge (tgt := 76) hx hb d_Mod_regular_69 (by decide) (fun hc => ?_) (fun hc => ?_)
  · have hf := bq_t hf hc
    refine lv_iconst (v := 1) hx hb d_Mod_regular_76 (by decide) ?_
    exact j77 _ _ _ a1 a2 x1 x2 x3 x8 1 u (lv_sub hl [5, 6, 7, 4, 3, 2, 0] rfl) hP hS hf
  have hf := bq_n hf hc
  refine lv_iconst (v := (-1)) hx hb d_Mod_regular_72 (by decide) ?_
  refine lv_goto (tgt := 77) hx hb d_Mod_regular_73 (by decide) ?_
  exact j77 _ _ _ a1 a2 x1 x2 x3 x8 (-1) u (lv_sub hl [5, 6, 7, 4, 3, 2, 0] rfl) hP hS hf
def f_Mod_jOf (a1 : Int32) (u : gU) : Option (Int32) := bq (16 ≤ a1) (bq (24 ≤ a1) (some (a1 - 16)) (some (4 + ((a1 - 16) / 2)))) (some (a1 / 4))
set_option maxHeartbeats 4000000 in
set_option maxRecDepth 100000 in
theorem c_Mod_jOf (l : Launch) (D : va_G) (cI : ClassId) (q0 : Nat) (q1 : Nat) (q2 : Nat) (q3 : Nat) (q4 : Nat) (q5 : Nat) (q6 : Nat) (q7 : Nat) (a1 : Int32) (u : gU) (r : Int32) (hf : f_Mod_jOf a1 u = some r) : Met l y_Mod_jOf (.code y_Mod_jOf b_Mod_jOf 2 (some .int) :: TS) ({ frames := 0, cells := 0, slots := 0, locals := 0 }) (va_Pc [.ref q0, .int a1] (fun U => va_P D cls (wMod cI q0 q1 q2 q3 q4 q5 q6 q7 u) U.heap ∧ va_K D cls [(cI, .int)] U)) (va_Qi (fun x (_ : Unit) => x = r) (fun _ _ => True) (fun _ => False)) 0 0 (fun _ => False) := by
  refine ct_of (by decide +kernel) (Nat.le_of_ble_eq_true rfl) ?_
  intro p e s m below meth c ls hx hb hml hr hlocks hown hw hP hK hl
  have hS : va_S (fun _ => False) s.heap s.heap [] := va_S.rf
  have hl : lv_has ls 2 [(0, .ref q0), (1, .int a1)] := hl
  have hP : va_P D cls (wMod cI q0 q1 q2 q3 q4 q5 q6 q7 u) s.heap := hP
  unfold f_Mod_jOf at hf
  refine lv_iload_n hx hb d_Mod_jOf_0 rfl (lv_at hl 1 rfl) ?_
  refine lv_bipush (v := 16) hx hb d_Mod_jOf_1 (by decide) ?_
  refine lv_icmp_ge (tgt := 12) hx hb d_Mod_jOf_3 (by decide) (fun hc => ?_) (fun hc => ?_)
  · have hf := bq_t hf hc
    refine lv_iload_n hx hb d_Mod_jOf_12 rfl (lv_at hl 1 rfl) ?_
    refine lv_bipush (v := 24) hx hb d_Mod_jOf_13 (by decide) ?_
    refine lv_icmp_ge (tgt := 29) hx hb d_Mod_jOf_15 (by decide) (fun hc => ?_) (fun hc => ?_)
    · have hf := bq_t hf hc
      refine lv_iload_n hx hb d_Mod_jOf_29 rfl (lv_at hl 1 rfl) ?_
      refine lv_bipush (v := 16) hx hb d_Mod_jOf_30 (by decide) ?_
      refine lv_isub hx hb d_Mod_jOf_32 ?_
      exact rt_roi hx hb hr hlocks hS hf d_Mod_jOf_33
    have hf := bq_n hf hc
    refine lv_iconst (v := 4) hx hb d_Mod_jOf_18 (by decide) ?_
    refine lv_iload_n hx hb d_Mod_jOf_19 rfl (lv_at hl 1 rfl) ?_
    refine lv_bipush (v := 16) hx hb d_Mod_jOf_20 (by decide) ?_
    refine lv_isub hx hb d_Mod_jOf_22 ?_
    refine lv_iconst (v := 2) hx hb d_Mod_jOf_23 (by decide) ?_
    refine lv_idiv hx hb d_Mod_jOf_24 (by decide) ?_
    refine lv_iadd hx hb d_Mod_jOf_25 ?_
    refine lv_goto (tgt := 33) hx hb d_Mod_jOf_26 (by decide) ?_
    exact rt_roi hx hb hr hlocks hS hf d_Mod_jOf_33
  have hf := bq_n hf hc
  refine lv_iload_n hx hb d_Mod_jOf_6 rfl (lv_at hl 1 rfl) ?_
  refine lv_iconst (v := 4) hx hb d_Mod_jOf_7 (by decide) ?_
  refine lv_idiv hx hb d_Mod_jOf_8 (by decide) ?_
  refine lv_goto (tgt := 33) hx hb d_Mod_jOf_9 (by decide) ?_
  exact rt_roi hx hb hr hlocks hS hf d_Mod_jOf_33
def J_Mod_endRun_429 (s1 : Int32) (u : gU) : Option (gU) := tk (st2 u 0 12 s1) fun u1 => some u1
def J_Mod_endRun_398 (l9 : Int32) (u : gU) : Option (gU) := gd (ix (l9 + 3) 1835) (gd (ix (l9 + 3) 1835) (tk (st2 u 3 (tc (l9 + 3)) ((u 3 (tc (l9 + 3))) + 1)) fun u3 => bq ((u3 0 12) ≤ 0) (J_Mod_endRun_429 0 u3) (J_Mod_endRun_429 ((u3 0 12) - 1) u3)))
def J_Mod_endRun_321 (l6 : Int32) (l9 : Int32) (l10 : Int32) (l15 : Int32) (s1 : Int32) (s2 : Int32) (s3 : Int32) (u : gU) : Option (gU) := gd (ix s1 1835) (tk (st2 u 3 (tc s1) (s2 + s3)) fun u2 => gd (ix l9 1835) (gd (ix l9 1835) (tk (st2 u2 3 (tc l9) ((u2 3 (tc l9)) + (((l15 + 1) - l6) / 2))) fun u5 => bq (l10 = 64) (gd (ix l9 1835) (bd (f_Mod_half (u5 3 (tc l9))) fun x7 => gd (ix l9 1835) (tk (st2 u5 3 (tc l9) x7) fun u9 => gd (ix (l9 + 4) 1835) (bd (f_Mod_half (u9 3 (tc (l9 + 4)))) fun x11 => gd (ix (l9 + 4) 1835) (tk (st2 u9 3 (tc (l9 + 4)) x11) fun u13 => gd (ix (l9 + 3) 1835) (tk (st2 u13 3 (tc (l9 + 3)) 32) fun u15 => J_Mod_endRun_398 l9 u15)))))) (J_Mod_endRun_398 l9 u5))))
def J_Mod_endRun_301 (l6 : Int32) (l9 : Int32) (l10 : Int32) (l14 : Int32) (l15 : Int32) (u : gU) : Option (gU) := gd (ix (l9 + 4) 1835) (bq (0 ≤ l14) (J_Mod_endRun_321 l6 l9 l10 l15 (l9 + 4) (u 3 (tc (l9 + 4))) 0 u) (J_Mod_endRun_321 l6 l9 l10 l15 (l9 + 4) (u 3 (tc (l9 + 4))) 1 u))
def J_Mod_endRun_282 (l6 : Int32) (l9 : Int32) (l10 : Int32) (l11 : Int32) (l13 : Int32) (l14 : Int32) (l16 : Int32) (s0 : Int32) (s1 : Int32) (u : gU) : Option (gU) := tk (((s0 * s1) - l6) - l16) fun x1 => bd (f_Mod_write x1 l11 l13 u) fun w2 => tk (w2) fun u3 => J_Mod_endRun_301 l6 l9 l10 l14 x1 u3
def J_Mod_endRun_266 (l6 : Int32) (l9 : Int32) (l10 : Int32) (l11 : Int32) (l13 : Int32) (l14 : Int32) (s0 : Int32) (u : gU) : Option (gU) := bq (0 ≤ l14) (J_Mod_endRun_282 l6 l9 l10 l11 l13 l14 s0 2 l14 u) (J_Mod_endRun_282 l6 l9 l10 l11 l13 l14 s0 2 (-l14) u)
def J_Mod_endRun_265 (l6 : Int32) (l9 : Int32) (l10 : Int32) (l11 : Int32) (l13 : Int32) (l14 : Int32) (u : gU) : Option (gU) := J_Mod_endRun_266 l6 l9 l10 l11 l13 l14 0 u
def J_Mod_endRun_261 (l6 : Int32) (l9 : Int32) (l10 : Int32) (l11 : Int32) (l13 : Int32) (l14 : Int32) (u : gU) : Option (gU) := J_Mod_endRun_266 l6 l9 l10 l11 l13 l14 1 u
def J_Mod_endRun_251 (l6 : Int32) (l9 : Int32) (l10 : Int32) (l11 : Int32) (l12 : Int32) (l13 : Int32) (l14 : Int32) (u : gU) : Option (gU) := bq (l14 ≤ 0) (J_Mod_endRun_265 l6 l9 l10 l11 l13 l14 u) (bq (l12 = 0) (J_Mod_endRun_261 l6 l9 l10 l11 l13 l14 u) (J_Mod_endRun_265 l6 l9 l10 l11 l13 l14 u))
def J_Mod_endRun_212 (l1 : Int32) (l2 : Int32) (l6 : Int32) (l7 : Int32) (l8 : Int32) (l9 : Int32) (l10 : Int32) (l15 : Int32) (s0 : Int32) (u : gU) : Option (gU) := bd (f_Mod_settle l1 l2 l7 l8 s0 u) fun w1 => tk (w1) fun u2 => J_Mod_endRun_301 l6 l9 l10 s0 l15 u2
def J_Mod_endRun_199 (l1 : Int32) (l2 : Int32) (l6 : Int32) (l7 : Int32) (l8 : Int32) (l9 : Int32) (l10 : Int32) (l12 : Int32) (l14 : Int32) (l15 : Int32) (s0 : Int32) (u : gU) : Option (gU) := bq (s0 = l12) (J_Mod_endRun_212 l1 l2 l6 l7 l8 l9 l10 l15 (-l14) u) (J_Mod_endRun_212 l1 l2 l6 l7 l8 l9 l10 l15 l14 u)
def J_Mod_endRun_138 (l1 : Int32) (l2 : Int32) (l3 : Int32) (l6 : Int32) (l7 : Int32) (l8 : Int32) (l9 : Int32) (l10 : Int32) (l11 : Int32) (s0 : Int32) (u : gU) : Option (gU) := tk (((u 0 8) - l3) - 1) fun x1 => bq ((u 0 16) = 0) (bd (f_Mod_errorOf l1 l2 l7 l8 u) fun w2 => tk (w2.2) fun u3 => bq (0 ≤ w2.1) (J_Mod_endRun_251 l6 l9 l10 l11 s0 x1 w2.1 u3) (bq (s0 = 0) (J_Mod_endRun_251 l6 l9 l10 l11 s0 x1 w2.1 u3) (J_Mod_endRun_261 l6 l9 l10 l11 x1 w2.1 u3))) (bd (f_Mod_read l11 x1 u) fun w4 => tk (w4.2) fun u5 => tk ((w4.1 + l6) - (w4.1 + l6) / 2 * 2) fun x6 => tk (((w4.1 + l6) + x6) / 2) fun x7 => bq (x6 = 1) (J_Mod_endRun_199 l1 l2 l6 l7 l8 l9 l10 s0 x7 w4.1 1 u5) (J_Mod_endRun_199 l1 l2 l6 l7 l8 l9 l10 s0 x7 w4.1 0 u5))
def J_Mod_endRun_133 (l1 : Int32) (l2 : Int32) (l3 : Int32) (l6 : Int32) (l7 : Int32) (l8 : Int32) (l9 : Int32) (l10 : Int32) (l11 : Int32) (u : gU) : Option (gU) := J_Mod_endRun_138 l1 l2 l3 l6 l7 l8 l9 l10 l11 1 u
def J_Mod_endRun_67 (l1 : Int32) (l2 : Int32) (l3 : Int32) (l6 : Int32) (l7 : Int32) (s0 : Int32) (u : gU) : Option (gU) := tk (5 * (365 + l6)) fun x1 => gd (ix (x1 + 3) 1835) (tk (u 3 (tc (x1 + 3))) fun x3 => gd (ix x1 1835) (bd (f_Mod_kFor x3 ((u 3 (tc x1)) + (l6 * (x3 / 2)))) fun x5 => bq (x5 = 0) (gd (ix (x1 + 4) 1835) (bq ((2 * (u 3 (tc (x1 + 4)))) < x3) (J_Mod_endRun_138 l1 l2 l3 l6 l7 s0 x1 x3 x5 0 u) (J_Mod_endRun_133 l1 l2 l3 l6 l7 s0 x1 x3 x5 u))) (J_Mod_endRun_133 l1 l2 l3 l6 l7 s0 x1 x3 x5 u)))
def J_Mod_endRun_66 (l1 : Int32) (l2 : Int32) (l3 : Int32) (l6 : Int32) (l7 : Int32) (u : gU) : Option (gU) := J_Mod_endRun_67 l1 l2 l3 l6 l7 1 u
def J_Mod_endRun_48 (l1 : Int32) (l2 : Int32) (l3 : Int32) (l4 : Int32) (l5 : Int32) (l6 : Int32) (s0 : Int32) (u : gU) : Option (gU) := bq (l6 = 0) (bq (l4 ≤ l5) (J_Mod_endRun_66 l1 l2 l3 l6 s0 u) (J_Mod_endRun_67 l1 l2 l3 l6 s0 (-1) u)) (J_Mod_endRun_66 l1 l2 l3 l6 s0 u)
def J_Mod_endRun_33 (l1 : Int32) (l2 : Int32) (l3 : Int32) (l4 : Int32) (l5 : Int32) (s0 : Int32) (u : gU) : Option (gU) := bq (s0 = 1) (J_Mod_endRun_48 l1 l2 l3 l4 l5 s0 l4 u) (J_Mod_endRun_48 l1 l2 l3 l4 l5 s0 l5 u)
def f_Mod_endRun (a1 : Int32) (a2 : Int32) (a3 : Int32) (u : gU) : Option (gU) := bd (f_Mod_before a1 a2 u) fun x1 => bd (f_Mod_above a1 a2 u) fun x2 => bd (f_Mod_isNear (x1 - x2) u) fun x3 => bq (x3 = 0) (J_Mod_endRun_33 a1 a2 a3 x1 x2 0 u) (J_Mod_endRun_33 a1 a2 a3 x1 x2 1 u)
set_option maxHeartbeats 4000000 in
set_option maxRecDepth 100000 in
theorem c_Mod_endRun (l : Launch) (D : va_G) (cI : ClassId) (q0 : Nat) (q1 : Nat) (q2 : Nat) (q3 : Nat) (q4 : Nat) (q5 : Nat) (q6 : Nat) (q7 : Nat) (hd : dj [q0, q1, q2, q3, q4, q5, q6, q7]) (a1 : Int32) (a2 : Int32) (a3 : Int32) (u : gU) (v : gU) (hf : f_Mod_endRun a1 a2 a3 u = some v) : Met l y_Mod_endRun (.code y_Mod_endRun b_Mod_endRun 17 none :: TS) ({ frames := 4, cells := 0, slots := 0, locals := 90 }) (va_Pc [.ref q0, .int a1, .int a2, .int a3] (fun U => va_P D cls (wMod cI q0 q1 q2 q3 q4 q5 q6 q7 u) U.heap ∧ va_K D cls [(cI, .int)] U)) (va_Qv (fun (_ : Unit) => True) (fun _ t => va_P D cls (wMod cI q0 q1 q2 q3 q4 q5 q6 q7 v) t.heap) (ad [q0, q1, q2, q3, q4, q5, q6, q7])) 0 0 (ad [q0, q1, q2, q3, q4, q5, q6, q7]) := by
  refine ct_of (by decide +kernel) (Nat.le_of_ble_eq_true rfl) ?_
  intro p e s m below meth c ls hx hb hml hr hlocks hown hw hP hK hl
  have hS : va_S (ad [q0, q1, q2, q3, q4, q5, q6, q7]) s.heap s.heap [] := va_S.rf
  have hD : ∀ v, va_D (ad [q0, q1, q2, q3, q4, q5, q6, q7]) (wMod cI q0 q1 q2 q3 q4 q5 q6 q7 v) := fun _ => dj_D rfl hd
  have hl : lv_has ls 17 [(0, .ref q0), (1, .int a1), (2, .int a2), (3, .int a3)] := hl
  have hP : va_P D cls (wMod cI q0 q1 q2 q3 q4 q5 q6 q7 u) s.heap := hP
  have j429 : ∀ (ls : Array Slot) (H : Heap) (locs : List Loc) (s1 : Int32) (u : gU), lv_has ls 17 [] → va_P D cls (wMod cI q0 q1 q2 q3 q4 q5 q6 q7 u) H → va_S (ad [q0, q1, q2, q3, q4, q5, q6, q7]) s.heap H locs → J_Mod_endRun_429 s1 u = some v → W p l e ({ frames := 4, cells := 0, slots := 0, locals := 90 }) s m [.ref q0, .int a1, .int a2, .int a3].toArray below meth c H locs 0 0 (MQ below (va_Qv (fun (_ : Unit) => True) (fun _ t => va_P D cls (wMod cI q0 q1 q2 q3 q4 q5 q6 q7 v) t.heap) (ad [q0, q1, q2, q3, q4, q5, q6, q7])) [.ref q0, .int a1, .int a2, .int a3].toArray s 0 0 (ad [q0, q1, q2, q3, q4, q5, q6, q7])) (F0 m 429 ls [.int s1, .ref q0]) := by
    intro ls H locs s1 u hl hP hS hf
    unfold J_Mod_endRun_429 at hf
    refine va_put (D := D) (ci := 7) (v := .int s1) (ty := .int) (C := R_Mod) (T := F_Mod) (N := 28) hx hb hw in_Mod t_Mod t_Mod_ok n_Mod hown hK hP (hD _) hS 0 rfl rfl 15 (by decide) (hw _ m_448) (fun _ h9 => h9) rfl (by decide +kernel) rfl rfl (Nat.le_of_ble_eq_true rfl) d_Mod_endRun_429 (fun H locs hP _ hS => ?_)
    obtain ⟨u1, e_u1, hf⟩ := tk_o hf
    have hP : va_P D cls (wMod cI q0 q1 q2 q3 q4 q5 q6 q7 u1) H := by rw [e_u1]; exact hP
    exact rt_v (wMod cI q0 q1 q2 q3 q4 q5 q6 q7) hx hb hr hlocks hS hP hf d_Mod_endRun_432
  have j398 : ∀ (ls : Array Slot) (H : Heap) (locs : List Loc) (l9 : Int32) (u : gU), lv_has ls 17 [(0, .ref q0), (9, .int l9)] → va_P D cls (wMod cI q0 q1 q2 q3 q4 q5 q6 q7 u) H → va_S (ad [q0, q1, q2, q3, q4, q5, q6, q7]) s.heap H locs → J_Mod_endRun_398 l9 u = some v → W p l e ({ frames := 4, cells := 0, slots := 0, locals := 90 }) s m [.ref q0, .int a1, .int a2, .int a3].toArray below meth c H locs 0 0 (MQ below (va_Qv (fun (_ : Unit) => True) (fun _ t => va_P D cls (wMod cI q0 q1 q2 q3 q4 q5 q6 q7 v) t.heap) (ad [q0, q1, q2, q3, q4, q5, q6, q7])) [.ref q0, .int a1, .int a2, .int a3].toArray s 0 0 (ad [q0, q1, q2, q3, q4, q5, q6, q7])) (F0 m 398 ls []) := by
    intro ls H locs l9 u hl hP hS hf
    unfold J_Mod_endRun_398 at hf
    refine lv_aload_n hx hb d_Mod_endRun_398 rfl (lv_at hl 0 rfl) ?_
    refine va_get (D := D) (ci := 7) (v := .ref q3) (C := R_Mod) (T := F_Mod) (N := 28) hx hb hw in_Mod hown hK hP 0 rfl rfl 14 (by decide) (hw _ m_449) (fun _ h9 => h9) rfl d_Mod_endRun_399 ?_
    refine lv_iload hx hb d_Mod_endRun_402 (lv_at hl 1 rfl) ?_
    refine lv_iconst (v := 3) hx hb d_Mod_endRun_404 (by decide) ?_
    refine lv_iadd hx hb d_Mod_endRun_405 ?_
    refine lv_dup2_11 hx hb d_Mod_endRun_406 rfl rfl ?_
    obtain ⟨h1, hf⟩ := gd_o hf
    refine va_iald hx hb hK hP 3 0 rfl rfl (ix_in h1) d_Mod_endRun_407 ?_
    refine lv_iconst (v := 1) hx hb d_Mod_endRun_408 (by decide) ?_
    refine lv_iadd hx hb d_Mod_endRun_409 ?_
    obtain ⟨h2, hf⟩ := gd_o hf
    refine va_iast hx hb hK hP (hD _) hS 3 0 rfl rfl (ix_in h2) d_Mod_endRun_410 (fun H locs hP _ hS => ?_)
    obtain ⟨u3, e_u3, hf⟩ := tk_o hf
    have hP : va_P D cls (wMod cI q0 q1 q2 q3 q4 q5 q6 q7 u3) H := by rw [e_u3]; exact hP
    refine lv_aload_n hx hb d_Mod_endRun_411 rfl (lv_at hl 0 rfl) ?_
    refine lv_aload_n hx hb d_Mod_endRun_412 rfl (lv_at hl 0 rfl) ?_
    refine va_get (D := D) (ci := 7) (v := .int (u3 0 12)) (C := R_Mod) (T := F_Mod) (N := 28) hx hb hw in_Mod hown hK hP 0 rfl rfl 15 (by decide) (hw _ m_448) (fun _ h9 => h9) rfl d_Mod_endRun_413 ?_
    refine lv_if_le (tgt := 428) hx hb d_Mod_endRun_416 (by decide) (fun hc => ?_) (fun hc => ?_)
    · have hf := bq_t hf hc
      refine lv_iconst (v := 0) hx hb d_Mod_endRun_428 (by decide) ?_
      exact j429 _ _ _ 0 u3 (lv_sub hl [] rfl) hP hS hf
    have hf := bq_n hf hc
    refine lv_aload_n hx hb d_Mod_endRun_419 rfl (lv_at hl 0 rfl) ?_
    refine va_get (D := D) (ci := 7) (v := .int (u3 0 12)) (C := R_Mod) (T := F_Mod) (N := 28) hx hb hw in_Mod hown hK hP 0 rfl rfl 15 (by decide) (hw _ m_448) (fun _ h9 => h9) rfl d_Mod_endRun_420 ?_
    refine lv_iconst (v := 1) hx hb d_Mod_endRun_423 (by decide) ?_
    refine lv_isub hx hb d_Mod_endRun_424 ?_
    refine lv_goto (tgt := 429) hx hb d_Mod_endRun_425 (by decide) ?_
    exact j429 _ _ _ ((u3 0 12) - 1) u3 (lv_sub hl [] rfl) hP hS hf
  have j321 : ∀ (ls : Array Slot) (H : Heap) (locs : List Loc) (l6 : Int32) (l9 : Int32) (l10 : Int32) (l15 : Int32) (s1 : Int32) (s2 : Int32) (s3 : Int32) (u : gU), lv_has ls 17 [(0, .ref q0), (6, .int l6), (9, .int l9), (10, .int l10), (15, .int l15)] → va_P D cls (wMod cI q0 q1 q2 q3 q4 q5 q6 q7 u) H → va_S (ad [q0, q1, q2, q3, q4, q5, q6, q7]) s.heap H locs → J_Mod_endRun_321 l6 l9 l10 l15 s1 s2 s3 u = some v → W p l e ({ frames := 4, cells := 0, slots := 0, locals := 90 }) s m [.ref q0, .int a1, .int a2, .int a3].toArray below meth c H locs 0 0 (MQ below (va_Qv (fun (_ : Unit) => True) (fun _ t => va_P D cls (wMod cI q0 q1 q2 q3 q4 q5 q6 q7 v) t.heap) (ad [q0, q1, q2, q3, q4, q5, q6, q7])) [.ref q0, .int a1, .int a2, .int a3].toArray s 0 0 (ad [q0, q1, q2, q3, q4, q5, q6, q7])) (F0 m 321 ls [.int s3, .int s2, .int s1, .ref q3]) := by
    intro ls H locs l6 l9 l10 l15 s1 s2 s3 u hl hP hS hf
    unfold J_Mod_endRun_321 at hf
    refine lv_iadd hx hb d_Mod_endRun_321 ?_
    obtain ⟨h1, hf⟩ := gd_o hf
    refine va_iast hx hb hK hP (hD _) hS 3 0 rfl rfl (ix_in h1) d_Mod_endRun_322 (fun H locs hP _ hS => ?_)
    obtain ⟨u2, e_u2, hf⟩ := tk_o hf
    have hP : va_P D cls (wMod cI q0 q1 q2 q3 q4 q5 q6 q7 u2) H := by rw [e_u2]; exact hP
    refine lv_aload_n hx hb d_Mod_endRun_323 rfl (lv_at hl 0 rfl) ?_
    refine va_get (D := D) (ci := 7) (v := .ref q3) (C := R_Mod) (T := F_Mod) (N := 28) hx hb hw in_Mod hown hK hP 0 rfl rfl 14 (by decide) (hw _ m_449) (fun _ h9 => h9) rfl d_Mod_endRun_324 ?_
    refine lv_iload hx hb d_Mod_endRun_327 (lv_at hl 2 rfl) ?_
    refine lv_dup2_11 hx hb d_Mod_endRun_329 rfl rfl ?_
    obtain ⟨h3, hf⟩ := gd_o hf
    refine va_iald hx hb hK hP 3 0 rfl rfl (ix_in h3) d_Mod_endRun_330 ?_
    refine lv_iload hx hb d_Mod_endRun_331 (lv_at hl 4 rfl) ?_
    refine lv_iconst (v := 1) hx hb d_Mod_endRun_333 (by decide) ?_
    refine lv_iadd hx hb d_Mod_endRun_334 ?_
    refine lv_iload hx hb d_Mod_endRun_335 (lv_at hl 1 rfl) ?_
    refine lv_isub hx hb d_Mod_endRun_337 ?_
    refine lv_iconst (v := 2) hx hb d_Mod_endRun_338 (by decide) ?_
    refine lv_idiv hx hb d_Mod_endRun_339 (by decide) ?_
    refine lv_iadd hx hb d_Mod_endRun_340 ?_
    obtain ⟨h4, hf⟩ := gd_o hf
    refine va_iast hx hb hK hP (hD _) hS 3 0 rfl rfl (ix_in h4) d_Mod_endRun_341 (fun H locs hP _ hS => ?_)
    obtain ⟨u5, e_u5, hf⟩ := tk_o hf
    have hP : va_P D cls (wMod cI q0 q1 q2 q3 q4 q5 q6 q7 u5) H := by rw [e_u5]; exact hP
    refine lv_iload hx hb d_Mod_endRun_342 (lv_at hl 3 rfl) ?_
    refine lv_bipush (v := 64) hx hb d_Mod_endRun_344 (by decide) ?_
    refine lv_icmp_ne (tgt := 398) hx hb d_Mod_endRun_346 (by decide) (fun hc => ?_) (fun hc => ?_)
    · have hf := bq_n hf hc
      exact j398 _ _ _ l9 u5 (lv_sub hl [0, 2] rfl) hP hS hf
    have hf := bq_t hf hc
    refine lv_aload_n hx hb d_Mod_endRun_349 rfl (lv_at hl 0 rfl) ?_
    refine va_get (D := D) (ci := 7) (v := .ref q3) (C := R_Mod) (T := F_Mod) (N := 28) hx hb hw in_Mod hown hK hP 0 rfl rfl 14 (by decide) (hw _ m_449) (fun _ h9 => h9) rfl d_Mod_endRun_350 ?_
    refine lv_iload hx hb d_Mod_endRun_353 (lv_at hl 2 rfl) ?_
    refine lv_aload_n hx hb d_Mod_endRun_355 rfl (lv_at hl 0 rfl) ?_
    refine va_get (D := D) (ci := 7) (v := .ref q3) (C := R_Mod) (T := F_Mod) (N := 28) hx hb hw in_Mod hown hK hP 0 rfl rfl 14 (by decide) (hw _ m_449) (fun _ h9 => h9) rfl d_Mod_endRun_356 ?_
    refine lv_iload hx hb d_Mod_endRun_359 (lv_at hl 2 rfl) ?_
    obtain ⟨h6, hf⟩ := gd_o hf
    refine va_iald hx hb hK hP 3 0 rfl rfl (ix_in h6) d_Mod_endRun_361 ?_
    have hC : ([] : List Nat).map (fun i => (wMod cI q0 q1 q2 q3 q4 q5 q6 q7 u5)[i]?) = ([] : va_W).map some := rfl
    obtain ⟨x7, hc, hf⟩ := bd_o hf
    refine ro_i (va_runS (As := [.int (u5 3 (tc l9))]) (rest := [.int l9, .ref q3]) ⟨hx, hb, hml, hown, hw⟩ (c_Mod_half l D cI (u5 3 (tc l9)) x7 hc) (va_cwS 1 hw g_81 rfl rfl rfl (by decide +kernel) ⟨Nat.le_of_ble_eq_true rfl, Nat.le_of_ble_eq_true rfl⟩) (pre_S (P_sub hC hP) hK) rfl rfl hl.1 rfl (lv_room (Nat.le_of_ble_eq_true rfl)) d_Mod_endRun_362 ⟨Nat.le_of_ble_eq_true rfl, Nat.le_of_ble_eq_true rfl⟩) hS hP (fun H locs hP hS => ?_)
    obtain ⟨h8, hf⟩ := gd_o hf
    refine va_iast hx hb hK hP (hD _) hS 3 0 rfl rfl (ix_in h8) d_Mod_endRun_365 (fun H locs hP _ hS => ?_)
    obtain ⟨u9, e_u9, hf⟩ := tk_o hf
    have hP : va_P D cls (wMod cI q0 q1 q2 q3 q4 q5 q6 q7 u9) H := by rw [e_u9]; exact hP
    refine lv_aload_n hx hb d_Mod_endRun_366 rfl (lv_at hl 0 rfl) ?_
    refine va_get (D := D) (ci := 7) (v := .ref q3) (C := R_Mod) (T := F_Mod) (N := 28) hx hb hw in_Mod hown hK hP 0 rfl rfl 14 (by decide) (hw _ m_449) (fun _ h9 => h9) rfl d_Mod_endRun_367 ?_
    refine lv_iload hx hb d_Mod_endRun_370 (lv_at hl 2 rfl) ?_
    refine lv_iconst (v := 4) hx hb d_Mod_endRun_372 (by decide) ?_
    refine lv_iadd hx hb d_Mod_endRun_373 ?_
    refine lv_aload_n hx hb d_Mod_endRun_374 rfl (lv_at hl 0 rfl) ?_
    refine va_get (D := D) (ci := 7) (v := .ref q3) (C := R_Mod) (T := F_Mod) (N := 28) hx hb hw in_Mod hown hK hP 0 rfl rfl 14 (by decide) (hw _ m_449) (fun _ h9 => h9) rfl d_Mod_endRun_375 ?_
    refine lv_iload hx hb d_Mod_endRun_378 (lv_at hl 2 rfl) ?_
    refine lv_iconst (v := 4) hx hb d_Mod_endRun_380 (by decide) ?_
    refine lv_iadd hx hb d_Mod_endRun_381 ?_
    obtain ⟨h10, hf⟩ := gd_o hf
    refine va_iald hx hb hK hP 3 0 rfl rfl (ix_in h10) d_Mod_endRun_382 ?_
    have hC : ([] : List Nat).map (fun i => (wMod cI q0 q1 q2 q3 q4 q5 q6 q7 u9)[i]?) = ([] : va_W).map some := rfl
    obtain ⟨x11, hc, hf⟩ := bd_o hf
    refine ro_i (va_runS (As := [.int (u9 3 (tc (l9 + 4)))]) (rest := [.int (l9 + 4), .ref q3]) ⟨hx, hb, hml, hown, hw⟩ (c_Mod_half l D cI (u9 3 (tc (l9 + 4))) x11 hc) (va_cwS 1 hw g_81 rfl rfl rfl (by decide +kernel) ⟨Nat.le_of_ble_eq_true rfl, Nat.le_of_ble_eq_true rfl⟩) (pre_S (P_sub hC hP) hK) rfl rfl hl.1 rfl (lv_room (Nat.le_of_ble_eq_true rfl)) d_Mod_endRun_383 ⟨Nat.le_of_ble_eq_true rfl, Nat.le_of_ble_eq_true rfl⟩) hS hP (fun H locs hP hS => ?_)
    obtain ⟨h12, hf⟩ := gd_o hf
    refine va_iast hx hb hK hP (hD _) hS 3 0 rfl rfl (ix_in h12) d_Mod_endRun_386 (fun H locs hP _ hS => ?_)
    obtain ⟨u13, e_u13, hf⟩ := tk_o hf
    have hP : va_P D cls (wMod cI q0 q1 q2 q3 q4 q5 q6 q7 u13) H := by rw [e_u13]; exact hP
    refine lv_aload_n hx hb d_Mod_endRun_387 rfl (lv_at hl 0 rfl) ?_
    refine va_get (D := D) (ci := 7) (v := .ref q3) (C := R_Mod) (T := F_Mod) (N := 28) hx hb hw in_Mod hown hK hP 0 rfl rfl 14 (by decide) (hw _ m_449) (fun _ h9 => h9) rfl d_Mod_endRun_388 ?_
    refine lv_iload hx hb d_Mod_endRun_391 (lv_at hl 2 rfl) ?_
    refine lv_iconst (v := 3) hx hb d_Mod_endRun_393 (by decide) ?_
    refine lv_iadd hx hb d_Mod_endRun_394 ?_
    refine lv_bipush (v := 32) hx hb d_Mod_endRun_395 (by decide) ?_
    obtain ⟨h14, hf⟩ := gd_o hf
    refine va_iast hx hb hK hP (hD _) hS 3 0 rfl rfl (ix_in h14) d_Mod_endRun_397 (fun H locs hP _ hS => ?_)
    obtain ⟨u15, e_u15, hf⟩ := tk_o hf
    have hP : va_P D cls (wMod cI q0 q1 q2 q3 q4 q5 q6 q7 u15) H := by rw [e_u15]; exact hP
    exact j398 _ _ _ l9 u15 (lv_sub hl [0, 2] rfl) hP hS hf
  have j301 : ∀ (ls : Array Slot) (H : Heap) (locs : List Loc) (l6 : Int32) (l9 : Int32) (l10 : Int32) (l14 : Int32) (l15 : Int32) (u : gU), lv_has ls 17 [(0, .ref q0), (6, .int l6), (9, .int l9), (10, .int l10), (14, .int l14), (15, .int l15)] → va_P D cls (wMod cI q0 q1 q2 q3 q4 q5 q6 q7 u) H → va_S (ad [q0, q1, q2, q3, q4, q5, q6, q7]) s.heap H locs → J_Mod_endRun_301 l6 l9 l10 l14 l15 u = some v → W p l e ({ frames := 4, cells := 0, slots := 0, locals := 90 }) s m [.ref q0, .int a1, .int a2, .int a3].toArray below meth c H locs 0 0 (MQ below (va_Qv (fun (_ : Unit) => True) (fun _ t => va_P D cls (wMod cI q0 q1 q2 q3 q4 q5 q6 q7 v) t.heap) (ad [q0, q1, q2, q3, q4, q5, q6, q7])) [.ref q0, .int a1, .int a2, .int a3].toArray s 0 0 (ad [q0, q1, q2, q3, q4, q5, q6, q7])) (F0 m 301 ls []) := by
    intro ls H locs l6 l9 l10 l14 l15 u hl hP hS hf
    unfold J_Mod_endRun_301 at hf
    refine lv_aload_n hx hb d_Mod_endRun_301 rfl (lv_at hl 0 rfl) ?_
    refine va_get (D := D) (ci := 7) (v := .ref q3) (C := R_Mod) (T := F_Mod) (N := 28) hx hb hw in_Mod hown hK hP 0 rfl rfl 14 (by decide) (hw _ m_449) (fun _ h9 => h9) rfl d_Mod_endRun_302 ?_
    refine lv_iload hx hb d_Mod_endRun_305 (lv_at hl 2 rfl) ?_
    refine lv_iconst (v := 4) hx hb d_Mod_endRun_307 (by decide) ?_
    refine lv_iadd hx hb d_Mod_endRun_308 ?_
    refine lv_dup2_11 hx hb d_Mod_endRun_309 rfl rfl ?_
    obtain ⟨h1, hf⟩ := gd_o hf
    refine va_iald hx hb hK hP 3 0 rfl rfl (ix_in h1) d_Mod_endRun_310 ?_
    refine lv_iload hx hb d_Mod_endRun_311 (lv_at hl 4 rfl) ?_
    refine lv_if_ge (tgt := 320) hx hb d_Mod_endRun_313 (by decide) (fun hc => ?_) (fun hc => ?_)
    · have hf := bq_t hf hc
      refine lv_iconst (v := 0) hx hb d_Mod_endRun_320 (by decide) ?_
      exact j321 _ _ _ l6 l9 l10 l15 (l9 + 4) (u 3 (tc (l9 + 4))) 0 u (lv_sub hl [0, 1, 2, 3, 5] rfl) hP hS hf
    have hf := bq_n hf hc
    refine lv_iconst (v := 1) hx hb d_Mod_endRun_316 (by decide) ?_
    refine lv_goto (tgt := 321) hx hb d_Mod_endRun_317 (by decide) ?_
    exact j321 _ _ _ l6 l9 l10 l15 (l9 + 4) (u 3 (tc (l9 + 4))) 1 u (lv_sub hl [0, 1, 2, 3, 5] rfl) hP hS hf
  have j282 : ∀ (ls : Array Slot) (H : Heap) (locs : List Loc) (l6 : Int32) (l9 : Int32) (l10 : Int32) (l11 : Int32) (l13 : Int32) (l14 : Int32) (l16 : Int32) (s0 : Int32) (s1 : Int32) (u : gU), lv_has ls 17 [(0, .ref q0), (6, .int l6), (9, .int l9), (10, .int l10), (11, .int l11), (13, .int l13), (14, .int l14), (16, .int l16)] → va_P D cls (wMod cI q0 q1 q2 q3 q4 q5 q6 q7 u) H → va_S (ad [q0, q1, q2, q3, q4, q5, q6, q7]) s.heap H locs → J_Mod_endRun_282 l6 l9 l10 l11 l13 l14 l16 s0 s1 u = some v → W p l e ({ frames := 4, cells := 0, slots := 0, locals := 90 }) s m [.ref q0, .int a1, .int a2, .int a3].toArray below meth c H locs 0 0 (MQ below (va_Qv (fun (_ : Unit) => True) (fun _ t => va_P D cls (wMod cI q0 q1 q2 q3 q4 q5 q6 q7 v) t.heap) (ad [q0, q1, q2, q3, q4, q5, q6, q7])) [.ref q0, .int a1, .int a2, .int a3].toArray s 0 0 (ad [q0, q1, q2, q3, q4, q5, q6, q7])) (F0 m 282 ls [.int s1, .int s0]) := by
    intro ls H locs l6 l9 l10 l11 l13 l14 l16 s0 s1 u hl hP hS hf
    unfold J_Mod_endRun_282 at hf
    refine lv_imul hx hb d_Mod_endRun_282 ?_
    refine lv_iload hx hb d_Mod_endRun_283 (lv_at hl 1 rfl) ?_
    refine lv_isub hx hb d_Mod_endRun_285 ?_
    refine lv_iload hx hb d_Mod_endRun_286 (lv_at hl 7 rfl) ?_
    refine lv_isub hx hb d_Mod_endRun_288 ?_
    refine lv_topi (fun x1 e_x1 => ?_)
    have hf := tk_e hf e_x1
    refine lv_istore (lv' := [(15, .int x1), (0, .ref q0), (6, .int l6), (9, .int l9), (10, .int l10), (11, .int l11), (13, .int l13), (14, .int l14), (16, .int l16)]) hx hb d_Mod_endRun_289 hl (by decide) rfl (fun ls hl => ?_)
    refine lv_aload_n hx hb d_Mod_endRun_291 rfl (lv_at hl 1 rfl) ?_
    refine lv_iload hx hb d_Mod_endRun_292 (lv_at hl 0 rfl) ?_
    refine lv_iload hx hb d_Mod_endRun_294 (lv_at hl 5 rfl) ?_
    refine lv_iload hx hb d_Mod_endRun_296 (lv_at hl 6 rfl) ?_
    have hC : [0, 1, 2, 3, 4, 5, 6, 7].map (fun i => (wMod cI q0 q1 q2 q3 q4 q5 q6 q7 u)[i]?) = (wMod cI q0 q1 q2 q3 q4 q5 q6 q7 u).map some := rfl
    obtain ⟨w2, hc, hf⟩ := bd_o hf
    refine rw_v (va_runV (As := [.int x1, .int l11, .int l13]) (rest := []) ⟨hx, hb, hml, hown, hw⟩ (c_Mod_write l D cI q0 q1 q2 q3 q4 q5 q6 q7 (dj_sub hd [0, 1, 2, 3, 4, 5, 6, 7] (by decide) rfl) x1 l11 l13 u w2 hc) (cwV 3 hw g_83 rfl rfl rfl (by decide +kernel) ⟨Nat.le_of_ble_eq_true rfl, Nat.le_of_ble_eq_true rfl⟩) (pre_V (P_sub hC hP) hK rfl rfl) rfl rfl hl.1 rfl (lv_room (Nat.le_of_ble_eq_true rfl)) d_Mod_endRun_298 ⟨Nat.le_of_ble_eq_true rfl, Nat.le_of_ble_eq_true rfl⟩) hS hP (hD _) hC rfl rfl (fun H locs hP hS => ?_)
    obtain ⟨u3, e_u3, hf⟩ := tk_o hf
    have hP : va_P D cls (wMod cI q0 q1 q2 q3 q4 q5 q6 q7 u3) H := by rw [e_u3]; exact hP
    exact j301 _ _ _ l6 l9 l10 l14 x1 u3 (lv_sub hl [1, 2, 3, 4, 7, 0] rfl) hP hS hf
  have j266 : ∀ (ls : Array Slot) (H : Heap) (locs : List Loc) (l6 : Int32) (l9 : Int32) (l10 : Int32) (l11 : Int32) (l13 : Int32) (l14 : Int32) (s0 : Int32) (u : gU), lv_has ls 17 [(0, .ref q0), (6, .int l6), (9, .int l9), (10, .int l10), (11, .int l11), (13, .int l13), (14, .int l14)] → va_P D cls (wMod cI q0 q1 q2 q3 q4 q5 q6 q7 u) H → va_S (ad [q0, q1, q2, q3, q4, q5, q6, q7]) s.heap H locs → J_Mod_endRun_266 l6 l9 l10 l11 l13 l14 s0 u = some v → W p l e ({ frames := 4, cells := 0, slots := 0, locals := 90 }) s m [.ref q0, .int a1, .int a2, .int a3].toArray below meth c H locs 0 0 (MQ below (va_Qv (fun (_ : Unit) => True) (fun _ t => va_P D cls (wMod cI q0 q1 q2 q3 q4 q5 q6 q7 v) t.heap) (ad [q0, q1, q2, q3, q4, q5, q6, q7])) [.ref q0, .int a1, .int a2, .int a3].toArray s 0 0 (ad [q0, q1, q2, q3, q4, q5, q6, q7])) (F0 m 266 ls [.int s0]) := by
    intro ls H locs l6 l9 l10 l11 l13 l14 s0 u hl hP hS hf
    unfold J_Mod_endRun_266 at hf
    refine lv_istore (lv' := [(16, .int s0), (0, .ref q0), (6, .int l6), (9, .int l9), (10, .int l10), (11, .int l11), (13, .int l13), (14, .int l14)]) hx hb d_Mod_endRun_266 hl (by decide) rfl (fun ls hl => ?_)
    refine lv_iconst (v := 2) hx hb d_Mod_endRun_268 (by decide) ?_
    refine lv_iload hx hb d_Mod_endRun_269 (lv_at hl 7 rfl) ?_
    refine lv_if_ge (tgt := 280) hx hb d_Mod_endRun_271 (by decide) (fun hc => ?_) (fun hc => ?_)
    · have hf := bq_t hf hc
      refine lv_iload hx hb d_Mod_endRun_280 (lv_at hl 7 rfl) ?_
      exact j282 _ _ _ l6 l9 l10 l11 l13 l14 s0 2 l14 u (lv_sub hl [1, 2, 3, 4, 5, 6, 7, 0] rfl) hP hS hf
    have hf := bq_n hf hc
    refine lv_iload hx hb d_Mod_endRun_274 (lv_at hl 7 rfl) ?_
    refine lv_ineg hx hb d_Mod_endRun_276 ?_
    refine lv_goto (tgt := 282) hx hb d_Mod_endRun_277 (by decide) ?_
    exact j282 _ _ _ l6 l9 l10 l11 l13 l14 s0 2 (-l14) u (lv_sub hl [1, 2, 3, 4, 5, 6, 7, 0] rfl) hP hS hf
  have j265 : ∀ (ls : Array Slot) (H : Heap) (locs : List Loc) (l6 : Int32) (l9 : Int32) (l10 : Int32) (l11 : Int32) (l13 : Int32) (l14 : Int32) (u : gU), lv_has ls 17 [(0, .ref q0), (6, .int l6), (9, .int l9), (10, .int l10), (11, .int l11), (13, .int l13), (14, .int l14)] → va_P D cls (wMod cI q0 q1 q2 q3 q4 q5 q6 q7 u) H → va_S (ad [q0, q1, q2, q3, q4, q5, q6, q7]) s.heap H locs → J_Mod_endRun_265 l6 l9 l10 l11 l13 l14 u = some v → W p l e ({ frames := 4, cells := 0, slots := 0, locals := 90 }) s m [.ref q0, .int a1, .int a2, .int a3].toArray below meth c H locs 0 0 (MQ below (va_Qv (fun (_ : Unit) => True) (fun _ t => va_P D cls (wMod cI q0 q1 q2 q3 q4 q5 q6 q7 v) t.heap) (ad [q0, q1, q2, q3, q4, q5, q6, q7])) [.ref q0, .int a1, .int a2, .int a3].toArray s 0 0 (ad [q0, q1, q2, q3, q4, q5, q6, q7])) (F0 m 265 ls []) := by
    intro ls H locs l6 l9 l10 l11 l13 l14 u hl hP hS hf
    unfold J_Mod_endRun_265 at hf
    refine lv_iconst (v := 0) hx hb d_Mod_endRun_265 (by decide) ?_
    exact j266 _ _ _ l6 l9 l10 l11 l13 l14 0 u (lv_sub hl [0, 1, 2, 3, 4, 5, 6] rfl) hP hS hf
  have j261 : ∀ (ls : Array Slot) (H : Heap) (locs : List Loc) (l6 : Int32) (l9 : Int32) (l10 : Int32) (l11 : Int32) (l13 : Int32) (l14 : Int32) (u : gU), lv_has ls 17 [(0, .ref q0), (6, .int l6), (9, .int l9), (10, .int l10), (11, .int l11), (13, .int l13), (14, .int l14)] → va_P D cls (wMod cI q0 q1 q2 q3 q4 q5 q6 q7 u) H → va_S (ad [q0, q1, q2, q3, q4, q5, q6, q7]) s.heap H locs → J_Mod_endRun_261 l6 l9 l10 l11 l13 l14 u = some v → W p l e ({ frames := 4, cells := 0, slots := 0, locals := 90 }) s m [.ref q0, .int a1, .int a2, .int a3].toArray below meth c H locs 0 0 (MQ below (va_Qv (fun (_ : Unit) => True) (fun _ t => va_P D cls (wMod cI q0 q1 q2 q3 q4 q5 q6 q7 v) t.heap) (ad [q0, q1, q2, q3, q4, q5, q6, q7])) [.ref q0, .int a1, .int a2, .int a3].toArray s 0 0 (ad [q0, q1, q2, q3, q4, q5, q6, q7])) (F0 m 261 ls []) := by
    intro ls H locs l6 l9 l10 l11 l13 l14 u hl hP hS hf
    unfold J_Mod_endRun_261 at hf
    refine lv_iconst (v := 1) hx hb d_Mod_endRun_261 (by decide) ?_
    refine lv_goto (tgt := 266) hx hb d_Mod_endRun_262 (by decide) ?_
    exact j266 _ _ _ l6 l9 l10 l11 l13 l14 1 u (lv_sub hl [0, 1, 2, 3, 4, 5, 6] rfl) hP hS hf
  have j251 : ∀ (ls : Array Slot) (H : Heap) (locs : List Loc) (l6 : Int32) (l9 : Int32) (l10 : Int32) (l11 : Int32) (l12 : Int32) (l13 : Int32) (l14 : Int32) (u : gU), lv_has ls 17 [(0, .ref q0), (6, .int l6), (9, .int l9), (10, .int l10), (11, .int l11), (12, .int l12), (13, .int l13), (14, .int l14)] → va_P D cls (wMod cI q0 q1 q2 q3 q4 q5 q6 q7 u) H → va_S (ad [q0, q1, q2, q3, q4, q5, q6, q7]) s.heap H locs → J_Mod_endRun_251 l6 l9 l10 l11 l12 l13 l14 u = some v → W p l e ({ frames := 4, cells := 0, slots := 0, locals := 90 }) s m [.ref q0, .int a1, .int a2, .int a3].toArray below meth c H locs 0 0 (MQ below (va_Qv (fun (_ : Unit) => True) (fun _ t => va_P D cls (wMod cI q0 q1 q2 q3 q4 q5 q6 q7 v) t.heap) (ad [q0, q1, q2, q3, q4, q5, q6, q7])) [.ref q0, .int a1, .int a2, .int a3].toArray s 0 0 (ad [q0, q1, q2, q3, q4, q5, q6, q7])) (F0 m 251 ls []) := by
    intro ls H locs l6 l9 l10 l11 l12 l13 l14 u hl hP hS hf
    unfold J_Mod_endRun_251 at hf
    refine lv_iload hx hb d_Mod_endRun_251 (lv_at hl 7 rfl) ?_
    refine lv_if_le (tgt := 265) hx hb d_Mod_endRun_253 (by decide) (fun hc => ?_) (fun hc => ?_)
    · have hf := bq_t hf hc
      exact j265 _ _ _ l6 l9 l10 l11 l13 l14 u (lv_sub hl [0, 1, 2, 3, 4, 6, 7] rfl) hP hS hf
    have hf := bq_n hf hc
    refine lv_iload hx hb d_Mod_endRun_256 (lv_at hl 5 rfl) ?_
    refine lv_if_ne (tgt := 265) hx hb d_Mod_endRun_258 (by decide) (fun hc => ?_) (fun hc => ?_)
    · have hf := bq_n hf hc
      exact j265 _ _ _ l6 l9 l10 l11 l13 l14 u (lv_sub hl [0, 1, 2, 3, 4, 6, 7] rfl) hP hS hf
    have hf := bq_t hf hc
    exact j261 _ _ _ l6 l9 l10 l11 l13 l14 u (lv_sub hl [0, 1, 2, 3, 4, 6, 7] rfl) hP hS hf
  have j212 : ∀ (ls : Array Slot) (H : Heap) (locs : List Loc) (l1 : Int32) (l2 : Int32) (l6 : Int32) (l7 : Int32) (l8 : Int32) (l9 : Int32) (l10 : Int32) (l15 : Int32) (s0 : Int32) (u : gU), lv_has ls 17 [(0, .ref q0), (1, .int l1), (2, .int l2), (6, .int l6), (7, .int l7), (8, .int l8), (9, .int l9), (10, .int l10), (15, .int l15)] → va_P D cls (wMod cI q0 q1 q2 q3 q4 q5 q6 q7 u) H → va_S (ad [q0, q1, q2, q3, q4, q5, q6, q7]) s.heap H locs → J_Mod_endRun_212 l1 l2 l6 l7 l8 l9 l10 l15 s0 u = some v → W p l e ({ frames := 4, cells := 0, slots := 0, locals := 90 }) s m [.ref q0, .int a1, .int a2, .int a3].toArray below meth c H locs 0 0 (MQ below (va_Qv (fun (_ : Unit) => True) (fun _ t => va_P D cls (wMod cI q0 q1 q2 q3 q4 q5 q6 q7 v) t.heap) (ad [q0, q1, q2, q3, q4, q5, q6, q7])) [.ref q0, .int a1, .int a2, .int a3].toArray s 0 0 (ad [q0, q1, q2, q3, q4, q5, q6, q7])) (F0 m 212 ls [.int s0]) := by
    intro ls H locs l1 l2 l6 l7 l8 l9 l10 l15 s0 u hl hP hS hf
    unfold J_Mod_endRun_212 at hf
    refine lv_istore (lv' := [(14, .int s0), (0, .ref q0), (1, .int l1), (2, .int l2), (6, .int l6), (7, .int l7), (8, .int l8), (9, .int l9), (10, .int l10), (15, .int l15)]) hx hb d_Mod_endRun_212 hl (by decide) rfl (fun ls hl => ?_)
    refine lv_aload_n hx hb d_Mod_endRun_214 rfl (lv_at hl 1 rfl) ?_
    refine lv_iload_n hx hb d_Mod_endRun_215 rfl (lv_at hl 2 rfl) ?_
    refine lv_iload_n hx hb d_Mod_endRun_216 rfl (lv_at hl 3 rfl) ?_
    refine lv_iload hx hb d_Mod_endRun_217 (lv_at hl 5 rfl) ?_
    refine lv_iload hx hb d_Mod_endRun_219 (lv_at hl 6 rfl) ?_
    refine lv_iload hx hb d_Mod_endRun_221 (lv_at hl 0 rfl) ?_
    have hC : [0, 1, 2, 3, 4, 5, 6, 7].map (fun i => (wMod cI q0 q1 q2 q3 q4 q5 q6 q7 u)[i]?) = (wMod cI q0 q1 q2 q3 q4 q5 q6 q7 u).map some := rfl
    obtain ⟨w1, hc, hf⟩ := bd_o hf
    refine rw_v (va_runV (As := [.int l1, .int l2, .int l7, .int l8, .int s0]) (rest := []) ⟨hx, hb, hml, hown, hw⟩ (c_Mod_settle l D cI q0 q1 q2 q3 q4 q5 q6 q7 (dj_sub hd [0, 1, 2, 3, 4, 5, 6, 7] (by decide) rfl) l1 l2 l7 l8 s0 u w1 hc) (cwV 5 hw g_84 rfl rfl rfl (by decide +kernel) ⟨Nat.le_of_ble_eq_true rfl, Nat.le_of_ble_eq_true rfl⟩) (pre_V (P_sub hC hP) hK rfl rfl) rfl rfl hl.1 rfl (lv_room (Nat.le_of_ble_eq_true rfl)) d_Mod_endRun_223 ⟨Nat.le_of_ble_eq_true rfl, Nat.le_of_ble_eq_true rfl⟩) hS hP (hD _) hC rfl rfl (fun H locs hP hS => ?_)
    obtain ⟨u2, e_u2, hf⟩ := tk_o hf
    have hP : va_P D cls (wMod cI q0 q1 q2 q3 q4 q5 q6 q7 u2) H := by rw [e_u2]; exact hP
    refine lv_goto (tgt := 301) hx hb d_Mod_endRun_226 (by decide) ?_
    exact j301 _ _ _ l6 l9 l10 s0 l15 u2 (lv_sub hl [1, 4, 7, 8, 0, 9] rfl) hP hS hf
  have j199 : ∀ (ls : Array Slot) (H : Heap) (locs : List Loc) (l1 : Int32) (l2 : Int32) (l6 : Int32) (l7 : Int32) (l8 : Int32) (l9 : Int32) (l10 : Int32) (l12 : Int32) (l14 : Int32) (l15 : Int32) (s0 : Int32) (u : gU), lv_has ls 17 [(0, .ref q0), (1, .int l1), (2, .int l2), (6, .int l6), (7, .int l7), (8, .int l8), (9, .int l9), (10, .int l10), (12, .int l12), (14, .int l14), (15, .int l15)] → va_P D cls (wMod cI q0 q1 q2 q3 q4 q5 q6 q7 u) H → va_S (ad [q0, q1, q2, q3, q4, q5, q6, q7]) s.heap H locs → J_Mod_endRun_199 l1 l2 l6 l7 l8 l9 l10 l12 l14 l15 s0 u = some v → W p l e ({ frames := 4, cells := 0, slots := 0, locals := 90 }) s m [.ref q0, .int a1, .int a2, .int a3].toArray below meth c H locs 0 0 (MQ below (va_Qv (fun (_ : Unit) => True) (fun _ t => va_P D cls (wMod cI q0 q1 q2 q3 q4 q5 q6 q7 v) t.heap) (ad [q0, q1, q2, q3, q4, q5, q6, q7])) [.ref q0, .int a1, .int a2, .int a3].toArray s 0 0 (ad [q0, q1, q2, q3, q4, q5, q6, q7])) (F0 m 199 ls [.int s0]) := by
    intro ls H locs l1 l2 l6 l7 l8 l9 l10 l12 l14 l15 s0 u hl hP hS hf
    unfold J_Mod_endRun_199 at hf
    refine lv_iload hx hb d_Mod_endRun_199 (lv_at hl 8 rfl) ?_
    refine lv_icmp_ne (tgt := 210) hx hb d_Mod_endRun_201 (by decide) (fun hc => ?_) (fun hc => ?_)
    · have hf := bq_n hf hc
      refine lv_iload hx hb d_Mod_endRun_210 (lv_at hl 9 rfl) ?_
      exact j212 _ _ _ l1 l2 l6 l7 l8 l9 l10 l15 l14 u (lv_sub hl [0, 1, 2, 3, 4, 5, 6, 7, 10] rfl) hP hS hf
    have hf := bq_t hf hc
    refine lv_iload hx hb d_Mod_endRun_204 (lv_at hl 9 rfl) ?_
    refine lv_ineg hx hb d_Mod_endRun_206 ?_
    refine lv_goto (tgt := 212) hx hb d_Mod_endRun_207 (by decide) ?_
    exact j212 _ _ _ l1 l2 l6 l7 l8 l9 l10 l15 (-l14) u (lv_sub hl [0, 1, 2, 3, 4, 5, 6, 7, 10] rfl) hP hS hf
  have j138 : ∀ (ls : Array Slot) (H : Heap) (locs : List Loc) (l1 : Int32) (l2 : Int32) (l3 : Int32) (l6 : Int32) (l7 : Int32) (l8 : Int32) (l9 : Int32) (l10 : Int32) (l11 : Int32) (s0 : Int32) (u : gU), lv_has ls 17 [(0, .ref q0), (1, .int l1), (2, .int l2), (3, .int l3), (6, .int l6), (7, .int l7), (8, .int l8), (9, .int l9), (10, .int l10), (11, .int l11)] → va_P D cls (wMod cI q0 q1 q2 q3 q4 q5 q6 q7 u) H → va_S (ad [q0, q1, q2, q3, q4, q5, q6, q7]) s.heap H locs → J_Mod_endRun_138 l1 l2 l3 l6 l7 l8 l9 l10 l11 s0 u = some v → W p l e ({ frames := 4, cells := 0, slots := 0, locals := 90 }) s m [.ref q0, .int a1, .int a2, .int a3].toArray below meth c H locs 0 0 (MQ below (va_Qv (fun (_ : Unit) => True) (fun _ t => va_P D cls (wMod cI q0 q1 q2 q3 q4 q5 q6 q7 v) t.heap) (ad [q0, q1, q2, q3, q4, q5, q6, q7])) [.ref q0, .int a1, .int a2, .int a3].toArray s 0 0 (ad [q0, q1, q2, q3, q4, q5, q6, q7])) (F0 m 138 ls [.int s0]) := by
    intro ls H locs l1 l2 l3 l6 l7 l8 l9 l10 l11 s0 u hl hP hS hf
    unfold J_Mod_endRun_138 at hf
    refine lv_istore (lv' := [(12, .int s0), (0, .ref q0), (1, .int l1), (2, .int l2), (3, .int l3), (6, .int l6), (7, .int l7), (8, .int l8), (9, .int l9), (10, .int l10), (11, .int l11)]) hx hb d_Mod_endRun_138 hl (by decide) rfl (fun ls hl => ?_)
    refine lv_aload_n hx hb d_Mod_endRun_140 rfl (lv_at hl 1 rfl) ?_
    refine va_get (D := D) (ci := 7) (v := .int (u 0 8)) (C := R_Mod) (T := F_Mod) (N := 28) hx hb hw in_Mod hown hK hP 0 rfl rfl 8 (by decide) (hw _ m_439) (fun _ h9 => h9) rfl d_Mod_endRun_141 ?_
    refine lv_iload_n hx hb d_Mod_endRun_144 rfl (lv_at hl 4 rfl) ?_
    refine lv_isub hx hb d_Mod_endRun_145 ?_
    refine lv_iconst (v := 1) hx hb d_Mod_endRun_146 (by decide) ?_
    refine lv_isub hx hb d_Mod_endRun_147 ?_
    refine lv_topi (fun x1 e_x1 => ?_)
    have hf := tk_e hf e_x1
    refine lv_istore (lv' := [(13, .int x1), (12, .int s0), (0, .ref q0), (1, .int l1), (2, .int l2), (3, .int l3), (6, .int l6), (7, .int l7), (8, .int l8), (9, .int l9), (10, .int l10), (11, .int l11)]) hx hb d_Mod_endRun_148 hl (by decide) rfl (fun ls hl => ?_)
    refine lv_aload_n hx hb d_Mod_endRun_150 rfl (lv_at hl 2 rfl) ?_
    refine va_get (D := D) (ci := 7) (v := .int (u 0 16)) (C := R_Mod) (T := F_Mod) (N := 28) hx hb hw in_Mod hown hK hP 0 rfl rfl 20 (by decide) (hw _ m_532) (fun _ h9 => h9) rfl d_Mod_endRun_151 ?_
    refine lv_if_eq (tgt := 229) hx hb d_Mod_endRun_154 (by decide) (fun hc => ?_) (fun hc => ?_)
    · have hf := bq_t hf hc
      refine lv_aload_n hx hb d_Mod_endRun_229 rfl (lv_at hl 2 rfl) ?_
      refine lv_iload_n hx hb d_Mod_endRun_230 rfl (lv_at hl 3 rfl) ?_
      refine lv_iload_n hx hb d_Mod_endRun_231 rfl (lv_at hl 4 rfl) ?_
      refine lv_iload hx hb d_Mod_endRun_232 (lv_at hl 7 rfl) ?_
      refine lv_iload hx hb d_Mod_endRun_234 (lv_at hl 8 rfl) ?_
      have hC : [0, 1, 2, 3, 4, 5, 6, 7].map (fun i => (wMod cI q0 q1 q2 q3 q4 q5 q6 q7 u)[i]?) = (wMod cI q0 q1 q2 q3 q4 q5 q6 q7 u).map some := rfl
      obtain ⟨w2, hc, hf⟩ := bd_o hf
      refine rw_i (va_runV (As := [.int l1, .int l2, .int l7, .int l8]) (rest := []) ⟨hx, hb, hml, hown, hw⟩ (c_Mod_errorOf l D cI q0 q1 q2 q3 q4 q5 q6 q7 (dj_sub hd [0, 1, 2, 3, 4, 5, 6, 7] (by decide) rfl) l1 l2 l7 l8 u w2.1 w2.2 hc) (cwV 4 hw g_85 rfl rfl rfl (by decide +kernel) ⟨Nat.le_of_ble_eq_true rfl, Nat.le_of_ble_eq_true rfl⟩) (pre_V (P_sub hC hP) hK rfl rfl) rfl rfl hl.1 rfl (lv_room (Nat.le_of_ble_eq_true rfl)) d_Mod_endRun_236 ⟨Nat.le_of_ble_eq_true rfl, Nat.le_of_ble_eq_true rfl⟩) hS hP (hD _) hC rfl rfl (fun H locs hP hS => ?_)
      obtain ⟨u3, e_u3, hf⟩ := tk_o hf
      have hP : va_P D cls (wMod cI q0 q1 q2 q3 q4 q5 q6 q7 u3) H := by rw [e_u3]; exact hP
      refine lv_istore (lv' := [(14, .int w2.1), (13, .int x1), (12, .int s0), (0, .ref q0), (1, .int l1), (2, .int l2), (3, .int l3), (6, .int l6), (7, .int l7), (8, .int l8), (9, .int l9), (10, .int l10), (11, .int l11)]) hx hb d_Mod_endRun_239 hl (by decide) rfl (fun ls hl => ?_)
      refine lv_iload hx hb d_Mod_endRun_241 (lv_at hl 0 rfl) ?_
      refine lv_if_ge (tgt := 251) hx hb d_Mod_endRun_243 (by decide) (fun hc => ?_) (fun hc => ?_)
      · have hf := bq_t hf hc
        exact j251 _ _ _ l6 l9 l10 l11 s0 x1 w2.1 u3 (lv_sub hl [3, 7, 10, 11, 12, 2, 1, 0] rfl) hP hS hf
      have hf := bq_n hf hc
      refine lv_iload hx hb d_Mod_endRun_246 (lv_at hl 2 rfl) ?_
      refine lv_if_ne (tgt := 261) hx hb d_Mod_endRun_248 (by decide) (fun hc => ?_) (fun hc => ?_)
      · have hf := bq_n hf hc
        exact j261 _ _ _ l6 l9 l10 l11 x1 w2.1 u3 (lv_sub hl [3, 7, 10, 11, 12, 1, 0] rfl) hP hS hf
      have hf := bq_t hf hc
      exact j251 _ _ _ l6 l9 l10 l11 s0 x1 w2.1 u3 (lv_sub hl [3, 7, 10, 11, 12, 2, 1, 0] rfl) hP hS hf
    have hf := bq_n hf hc
    refine lv_aload_n hx hb d_Mod_endRun_157 rfl (lv_at hl 2 rfl) ?_
    refine lv_iload hx hb d_Mod_endRun_158 (lv_at hl 11 rfl) ?_
    refine lv_iload hx hb d_Mod_endRun_160 (lv_at hl 0 rfl) ?_
    have hC : [0, 1, 2, 3, 4, 5, 6, 7].map (fun i => (wMod cI q0 q1 q2 q3 q4 q5 q6 q7 u)[i]?) = (wMod cI q0 q1 q2 q3 q4 q5 q6 q7 u).map some := rfl
    obtain ⟨w4, hc, hf⟩ := bd_o hf
    refine rw_i (va_runV (As := [.int l11, .int x1]) (rest := []) ⟨hx, hb, hml, hown, hw⟩ (c_Mod_read l D cI q0 q1 q2 q3 q4 q5 q6 q7 (dj_sub hd [0, 1, 2, 3, 4, 5, 6, 7] (by decide) rfl) l11 x1 u w4.1 w4.2 hc) (cwV 2 hw g_86 rfl rfl rfl (by decide +kernel) ⟨Nat.le_of_ble_eq_true rfl, Nat.le_of_ble_eq_true rfl⟩) (pre_V (P_sub hC hP) hK rfl rfl) rfl rfl hl.1 rfl (lv_room (Nat.le_of_ble_eq_true rfl)) d_Mod_endRun_162 ⟨Nat.le_of_ble_eq_true rfl, Nat.le_of_ble_eq_true rfl⟩) hS hP (hD _) hC rfl rfl (fun H locs hP hS => ?_)
    obtain ⟨u5, e_u5, hf⟩ := tk_o hf
    have hP : va_P D cls (wMod cI q0 q1 q2 q3 q4 q5 q6 q7 u5) H := by rw [e_u5]; exact hP
    refine lv_istore (lv' := [(15, .int w4.1), (13, .int x1), (12, .int s0), (0, .ref q0), (1, .int l1), (2, .int l2), (3, .int l3), (6, .int l6), (7, .int l7), (8, .int l8), (9, .int l9), (10, .int l10), (11, .int l11)]) hx hb d_Mod_endRun_165 hl (by decide) rfl (fun ls hl => ?_)
    refine lv_iload hx hb d_Mod_endRun_167 (lv_at hl 0 rfl) ?_
    refine lv_iload hx hb d_Mod_endRun_169 (lv_at hl 7 rfl) ?_
    refine lv_iadd hx hb d_Mod_endRun_171 ?_
    refine lv_iconst (v := 2) hx hb d_Mod_endRun_172 (by decide) ?_
    refine lv_irem hx hb d_Mod_endRun_173 (by decide) ?_
    refine lv_topi (fun x6 e_x6 => ?_)
    have hf := tk_e hf e_x6
    refine lv_istore (lv' := [(16, .int x6), (15, .int w4.1), (13, .int x1), (12, .int s0), (0, .ref q0), (1, .int l1), (2, .int l2), (3, .int l3), (6, .int l6), (7, .int l7), (8, .int l8), (9, .int l9), (10, .int l10), (11, .int l11)]) hx hb d_Mod_endRun_174 hl (by decide) rfl (fun ls hl => ?_)
    refine lv_iload hx hb d_Mod_endRun_176 (lv_at hl 1 rfl) ?_
    refine lv_iload hx hb d_Mod_endRun_178 (lv_at hl 8 rfl) ?_
    refine lv_iadd hx hb d_Mod_endRun_180 ?_
    refine lv_iload hx hb d_Mod_endRun_181 (lv_at hl 0 rfl) ?_
    refine lv_iadd hx hb d_Mod_endRun_183 ?_
    refine lv_iconst (v := 2) hx hb d_Mod_endRun_184 (by decide) ?_
    refine lv_idiv hx hb d_Mod_endRun_185 (by decide) ?_
    refine lv_topi (fun x7 e_x7 => ?_)
    have hf := tk_e hf e_x7
    refine lv_istore (lv' := [(14, .int x7), (16, .int x6), (15, .int w4.1), (13, .int x1), (12, .int s0), (0, .ref q0), (1, .int l1), (2, .int l2), (3, .int l3), (6, .int l6), (7, .int l7), (8, .int l8), (9, .int l9), (10, .int l10), (11, .int l11)]) hx hb d_Mod_endRun_186 hl (by decide) rfl (fun ls hl => ?_)
    refine lv_iload hx hb d_Mod_endRun_188 (lv_at hl 1 rfl) ?_
    refine lv_iconst (v := 1) hx hb d_Mod_endRun_190 (by decide) ?_
    refine lv_icmp_ne (tgt := 198) hx hb d_Mod_endRun_191 (by decide) (fun hc => ?_) (fun hc => ?_)
    · have hf := bq_n hf hc
      refine lv_iconst (v := 0) hx hb d_Mod_endRun_198 (by decide) ?_
      exact j199 _ _ _ l1 l2 l6 l7 l8 l9 l10 s0 x7 w4.1 0 u5 (lv_sub hl [5, 6, 7, 9, 10, 11, 12, 13, 4, 0, 2] rfl) hP hS hf
    have hf := bq_t hf hc
    refine lv_iconst (v := 1) hx hb d_Mod_endRun_194 (by decide) ?_
    refine lv_goto (tgt := 199) hx hb d_Mod_endRun_195 (by decide) ?_
    exact j199 _ _ _ l1 l2 l6 l7 l8 l9 l10 s0 x7 w4.1 1 u5 (lv_sub hl [5, 6, 7, 9, 10, 11, 12, 13, 4, 0, 2] rfl) hP hS hf
  have j133 : ∀ (ls : Array Slot) (H : Heap) (locs : List Loc) (l1 : Int32) (l2 : Int32) (l3 : Int32) (l6 : Int32) (l7 : Int32) (l8 : Int32) (l9 : Int32) (l10 : Int32) (l11 : Int32) (u : gU), lv_has ls 17 [(0, .ref q0), (1, .int l1), (2, .int l2), (3, .int l3), (6, .int l6), (7, .int l7), (8, .int l8), (9, .int l9), (10, .int l10), (11, .int l11)] → va_P D cls (wMod cI q0 q1 q2 q3 q4 q5 q6 q7 u) H → va_S (ad [q0, q1, q2, q3, q4, q5, q6, q7]) s.heap H locs → J_Mod_endRun_133 l1 l2 l3 l6 l7 l8 l9 l10 l11 u = some v → W p l e ({ frames := 4, cells := 0, slots := 0, locals := 90 }) s m [.ref q0, .int a1, .int a2, .int a3].toArray below meth c H locs 0 0 (MQ below (va_Qv (fun (_ : Unit) => True) (fun _ t => va_P D cls (wMod cI q0 q1 q2 q3 q4 q5 q6 q7 v) t.heap) (ad [q0, q1, q2, q3, q4, q5, q6, q7])) [.ref q0, .int a1, .int a2, .int a3].toArray s 0 0 (ad [q0, q1, q2, q3, q4, q5, q6, q7])) (F0 m 133 ls []) := by
    intro ls H locs l1 l2 l3 l6 l7 l8 l9 l10 l11 u hl hP hS hf
    unfold J_Mod_endRun_133 at hf
    refine lv_iconst (v := 1) hx hb d_Mod_endRun_133 (by decide) ?_
    refine lv_goto (tgt := 138) hx hb d_Mod_endRun_134 (by decide) ?_
    exact j138 _ _ _ l1 l2 l3 l6 l7 l8 l9 l10 l11 1 u (lv_sub hl [0, 1, 2, 3, 4, 5, 6, 7, 8, 9] rfl) hP hS hf
  have j67 : ∀ (ls : Array Slot) (H : Heap) (locs : List Loc) (l1 : Int32) (l2 : Int32) (l3 : Int32) (l6 : Int32) (l7 : Int32) (s0 : Int32) (u : gU), lv_has ls 17 [(0, .ref q0), (1, .int l1), (2, .int l2), (3, .int l3), (6, .int l6), (7, .int l7)] → va_P D cls (wMod cI q0 q1 q2 q3 q4 q5 q6 q7 u) H → va_S (ad [q0, q1, q2, q3, q4, q5, q6, q7]) s.heap H locs → J_Mod_endRun_67 l1 l2 l3 l6 l7 s0 u = some v → W p l e ({ frames := 4, cells := 0, slots := 0, locals := 90 }) s m [.ref q0, .int a1, .int a2, .int a3].toArray below meth c H locs 0 0 (MQ below (va_Qv (fun (_ : Unit) => True) (fun _ t => va_P D cls (wMod cI q0 q1 q2 q3 q4 q5 q6 q7 v) t.heap) (ad [q0, q1, q2, q3, q4, q5, q6, q7])) [.ref q0, .int a1, .int a2, .int a3].toArray s 0 0 (ad [q0, q1, q2, q3, q4, q5, q6, q7])) (F0 m 67 ls [.int s0]) := by
    intro ls H locs l1 l2 l3 l6 l7 s0 u hl hP hS hf
    unfold J_Mod_endRun_67 at hf
    refine lv_istore (lv' := [(8, .int s0), (0, .ref q0), (1, .int l1), (2, .int l2), (3, .int l3), (6, .int l6), (7, .int l7)]) hx hb d_Mod_endRun_67 hl (by decide) rfl (fun ls hl => ?_)
    refine lv_iconst (v := 5) hx hb d_Mod_endRun_69 (by decide) ?_
    refine lv_sipush (v := 365) hx hb d_Mod_endRun_70 (by decide) ?_
    refine lv_iload hx hb d_Mod_endRun_73 (lv_at hl 5 rfl) ?_
    refine lv_iadd hx hb d_Mod_endRun_75 ?_
    refine lv_imul hx hb d_Mod_endRun_76 ?_
    refine lv_topi (fun x1 e_x1 => ?_)
    have hf := tk_e hf e_x1
    refine lv_istore (lv' := [(9, .int x1), (8, .int s0), (0, .ref q0), (1, .int l1), (2, .int l2), (3, .int l3), (6, .int l6), (7, .int l7)]) hx hb d_Mod_endRun_77 hl (by decide) rfl (fun ls hl => ?_)
    refine lv_aload_n hx hb d_Mod_endRun_79 rfl (lv_at hl 2 rfl) ?_
    refine va_get (D := D) (ci := 7) (v := .ref q3) (C := R_Mod) (T := F_Mod) (N := 28) hx hb hw in_Mod hown hK hP 0 rfl rfl 14 (by decide) (hw _ m_449) (fun _ h9 => h9) rfl d_Mod_endRun_80 ?_
    refine lv_iload hx hb d_Mod_endRun_83 (lv_at hl 0 rfl) ?_
    refine lv_iconst (v := 3) hx hb d_Mod_endRun_85 (by decide) ?_
    refine lv_iadd hx hb d_Mod_endRun_86 ?_
    obtain ⟨h2, hf⟩ := gd_o hf
    refine va_iald hx hb hK hP 3 0 rfl rfl (ix_in h2) d_Mod_endRun_87 ?_
    refine lv_topi (fun x3 e_x3 => ?_)
    have hf := tk_e hf e_x3
    refine lv_istore (lv' := [(10, .int x3), (9, .int x1), (8, .int s0), (0, .ref q0), (1, .int l1), (2, .int l2), (3, .int l3), (6, .int l6), (7, .int l7)]) hx hb d_Mod_endRun_88 hl (by decide) rfl (fun ls hl => ?_)
    refine lv_iload hx hb d_Mod_endRun_90 (lv_at hl 0 rfl) ?_
    refine lv_aload_n hx hb d_Mod_endRun_92 rfl (lv_at hl 3 rfl) ?_
    refine va_get (D := D) (ci := 7) (v := .ref q3) (C := R_Mod) (T := F_Mod) (N := 28) hx hb hw in_Mod hown hK hP 0 rfl rfl 14 (by decide) (hw _ m_449) (fun _ h9 => h9) rfl d_Mod_endRun_93 ?_
    refine lv_iload hx hb d_Mod_endRun_96 (lv_at hl 1 rfl) ?_
    obtain ⟨h4, hf⟩ := gd_o hf
    refine va_iald hx hb hK hP 3 0 rfl rfl (ix_in h4) d_Mod_endRun_98 ?_
    refine lv_iload hx hb d_Mod_endRun_99 (lv_at hl 7 rfl) ?_
    refine lv_iload hx hb d_Mod_endRun_101 (lv_at hl 0 rfl) ?_
    refine lv_iconst (v := 2) hx hb d_Mod_endRun_103 (by decide) ?_
    refine lv_idiv hx hb d_Mod_endRun_104 (by decide) ?_
    refine lv_imul hx hb d_Mod_endRun_105 ?_
    refine lv_iadd hx hb d_Mod_endRun_106 ?_
    have hC : ([] : List Nat).map (fun i => (wMod cI q0 q1 q2 q3 q4 q5 q6 q7 u)[i]?) = ([] : va_W).map some := rfl
    obtain ⟨x5, hc, hf⟩ := bd_o hf
    refine ro_i (va_runS (As := [.int x3, .int ((u 3 (tc x1)) + (l6 * (x3 / 2)))]) (rest := []) ⟨hx, hb, hml, hown, hw⟩ (c_Mod_kFor l D cI x3 ((u 3 (tc x1)) + (l6 * (x3 / 2))) x5 hc) (va_cwS 2 hw g_87 rfl rfl rfl (by decide +kernel) ⟨Nat.le_of_ble_eq_true rfl, Nat.le_of_ble_eq_true rfl⟩) (pre_S (P_sub hC hP) hK) rfl rfl hl.1 rfl (lv_room (Nat.le_of_ble_eq_true rfl)) d_Mod_endRun_107 ⟨Nat.le_of_ble_eq_true rfl, Nat.le_of_ble_eq_true rfl⟩) hS hP (fun H locs hP hS => ?_)
    refine lv_istore (lv' := [(11, .int x5), (10, .int x3), (9, .int x1), (8, .int s0), (0, .ref q0), (1, .int l1), (2, .int l2), (3, .int l3), (6, .int l6), (7, .int l7)]) hx hb d_Mod_endRun_110 hl (by decide) rfl (fun ls hl => ?_)
    refine lv_iload hx hb d_Mod_endRun_112 (lv_at hl 0 rfl) ?_
    refine lv_if_ne (tgt := 133) hx hb d_Mod_endRun_114 (by decide) (fun hc => ?_) (fun hc => ?_)
    · have hf := bq_n hf hc
      exact j133 _ _ _ l1 l2 l3 l6 l7 s0 x1 x3 x5 u (lv_sub hl [4, 5, 6, 7, 8, 9, 3, 2, 1, 0] rfl) hP hS hf
    have hf := bq_t hf hc
    refine lv_iconst (v := 2) hx hb d_Mod_endRun_117 (by decide) ?_
    refine lv_aload_n hx hb d_Mod_endRun_118 rfl (lv_at hl 4 rfl) ?_
    refine va_get (D := D) (ci := 7) (v := .ref q3) (C := R_Mod) (T := F_Mod) (N := 28) hx hb hw in_Mod hown hK hP 0 rfl rfl 14 (by decide) (hw _ m_449) (fun _ h9 => h9) rfl d_Mod_endRun_119 ?_
    refine lv_iload hx hb d_Mod_endRun_122 (lv_at hl 2 rfl) ?_
    refine lv_iconst (v := 4) hx hb d_Mod_endRun_124 (by decide) ?_
    refine lv_iadd hx hb d_Mod_endRun_125 ?_
    obtain ⟨h6, hf⟩ := gd_o hf
    refine va_iald hx hb hK hP 3 0 rfl rfl (ix_in h6) d_Mod_endRun_126 ?_
    refine lv_imul hx hb d_Mod_endRun_127 ?_
    refine lv_iload hx hb d_Mod_endRun_128 (lv_at hl 1 rfl) ?_
    refine lv_icmp_lt (tgt := 137) hx hb d_Mod_endRun_130 (by decide) (fun hc => ?_) (fun hc => ?_)
    · have hf := bq_t hf hc
      refine lv_iconst (v := 0) hx hb d_Mod_endRun_137 (by decide) ?_
      exact j138 _ _ _ l1 l2 l3 l6 l7 s0 x1 x3 x5 0 u (lv_sub hl [4, 5, 6, 7, 8, 9, 3, 2, 1, 0] rfl) hP hS hf
    have hf := bq_n hf hc
    exact j133 _ _ _ l1 l2 l3 l6 l7 s0 x1 x3 x5 u (lv_sub hl [4, 5, 6, 7, 8, 9, 3, 2, 1, 0] rfl) hP hS hf
  have j66 : ∀ (ls : Array Slot) (H : Heap) (locs : List Loc) (l1 : Int32) (l2 : Int32) (l3 : Int32) (l6 : Int32) (l7 : Int32) (u : gU), lv_has ls 17 [(0, .ref q0), (1, .int l1), (2, .int l2), (3, .int l3), (6, .int l6), (7, .int l7)] → va_P D cls (wMod cI q0 q1 q2 q3 q4 q5 q6 q7 u) H → va_S (ad [q0, q1, q2, q3, q4, q5, q6, q7]) s.heap H locs → J_Mod_endRun_66 l1 l2 l3 l6 l7 u = some v → W p l e ({ frames := 4, cells := 0, slots := 0, locals := 90 }) s m [.ref q0, .int a1, .int a2, .int a3].toArray below meth c H locs 0 0 (MQ below (va_Qv (fun (_ : Unit) => True) (fun _ t => va_P D cls (wMod cI q0 q1 q2 q3 q4 q5 q6 q7 v) t.heap) (ad [q0, q1, q2, q3, q4, q5, q6, q7])) [.ref q0, .int a1, .int a2, .int a3].toArray s 0 0 (ad [q0, q1, q2, q3, q4, q5, q6, q7])) (F0 m 66 ls []) := by
    intro ls H locs l1 l2 l3 l6 l7 u hl hP hS hf
    unfold J_Mod_endRun_66 at hf
    refine lv_iconst (v := 1) hx hb d_Mod_endRun_66 (by decide) ?_
    exact j67 _ _ _ l1 l2 l3 l6 l7 1 u (lv_sub hl [0, 1, 2, 3, 4, 5] rfl) hP hS hf
  have j48 : ∀ (ls : Array Slot) (H : Heap) (locs : List Loc) (l1 : Int32) (l2 : Int32) (l3 : Int32) (l4 : Int32) (l5 : Int32) (l6 : Int32) (s0 : Int32) (u : gU), lv_has ls 17 [(0, .ref q0), (1, .int l1), (2, .int l2), (3, .int l3), (4, .int l4), (5, .int l5), (6, .int l6)] → va_P D cls (wMod cI q0 q1 q2 q3 q4 q5 q6 q7 u) H → va_S (ad [q0, q1, q2, q3, q4, q5, q6, q7]) s.heap H locs → J_Mod_endRun_48 l1 l2 l3 l4 l5 l6 s0 u = some v → W p l e ({ frames := 4, cells := 0, slots := 0, locals := 90 }) s m [.ref q0, .int a1, .int a2, .int a3].toArray below meth c H locs 0 0 (MQ below (va_Qv (fun (_ : Unit) => True) (fun _ t => va_P D cls (wMod cI q0 q1 q2 q3 q4 q5 q6 q7 v) t.heap) (ad [q0, q1, q2, q3, q4, q5, q6, q7])) [.ref q0, .int a1, .int a2, .int a3].toArray s 0 0 (ad [q0, q1, q2, q3, q4, q5, q6, q7])) (F0 m 48 ls [.int s0]) := by
    intro ls H locs l1 l2 l3 l4 l5 l6 s0 u hl hP hS hf
    unfold J_Mod_endRun_48 at hf
    refine lv_istore (lv' := [(7, .int s0), (0, .ref q0), (1, .int l1), (2, .int l2), (3, .int l3), (4, .int l4), (5, .int l5), (6, .int l6)]) hx hb d_Mod_endRun_48 hl (by decide) rfl (fun ls hl => ?_)
    refine lv_iload hx hb d_Mod_endRun_50 (lv_at hl 7 rfl) ?_
    refine lv_if_ne (tgt := 66) hx hb d_Mod_endRun_52 (by decide) (fun hc => ?_) (fun hc => ?_)
    · have hf := bq_n hf hc
      exact j66 _ _ _ l1 l2 l3 l6 s0 u (lv_sub hl [1, 2, 3, 4, 7, 0] rfl) hP hS hf
    have hf := bq_t hf hc
    refine lv_iload hx hb d_Mod_endRun_55 (lv_at hl 5 rfl) ?_
    refine lv_iload hx hb d_Mod_endRun_57 (lv_at hl 6 rfl) ?_
    refine lv_icmp_le (tgt := 66) hx hb d_Mod_endRun_59 (by decide) (fun hc => ?_) (fun hc => ?_)
    · have hf := bq_t hf hc
      exact j66 _ _ _ l1 l2 l3 l6 s0 u (lv_sub hl [1, 2, 3, 4, 7, 0] rfl) hP hS hf
    have hf := bq_n hf hc
    refine lv_iconst (v := (-1)) hx hb d_Mod_endRun_62 (by decide) ?_
    refine lv_goto (tgt := 67) hx hb d_Mod_endRun_63 (by decide) ?_
    exact j67 _ _ _ l1 l2 l3 l6 s0 (-1) u (lv_sub hl [1, 2, 3, 4, 7, 0] rfl) hP hS hf
  have j33 : ∀ (ls : Array Slot) (H : Heap) (locs : List Loc) (l1 : Int32) (l2 : Int32) (l3 : Int32) (l4 : Int32) (l5 : Int32) (s0 : Int32) (u : gU), lv_has ls 17 [(0, .ref q0), (1, .int l1), (2, .int l2), (3, .int l3), (4, .int l4), (5, .int l5)] → va_P D cls (wMod cI q0 q1 q2 q3 q4 q5 q6 q7 u) H → va_S (ad [q0, q1, q2, q3, q4, q5, q6, q7]) s.heap H locs → J_Mod_endRun_33 l1 l2 l3 l4 l5 s0 u = some v → W p l e ({ frames := 4, cells := 0, slots := 0, locals := 90 }) s m [.ref q0, .int a1, .int a2, .int a3].toArray below meth c H locs 0 0 (MQ below (va_Qv (fun (_ : Unit) => True) (fun _ t => va_P D cls (wMod cI q0 q1 q2 q3 q4 q5 q6 q7 v) t.heap) (ad [q0, q1, q2, q3, q4, q5, q6, q7])) [.ref q0, .int a1, .int a2, .int a3].toArray s 0 0 (ad [q0, q1, q2, q3, q4, q5, q6, q7])) (F0 m 33 ls [.int s0]) := by
    intro ls H locs l1 l2 l3 l4 l5 s0 u hl hP hS hf
    unfold J_Mod_endRun_33 at hf
    refine lv_istore (lv' := [(6, .int s0), (0, .ref q0), (1, .int l1), (2, .int l2), (3, .int l3), (4, .int l4), (5, .int l5)]) hx hb d_Mod_endRun_33 hl (by decide) rfl (fun ls hl => ?_)
    refine lv_iload hx hb d_Mod_endRun_35 (lv_at hl 0 rfl) ?_
    refine lv_iconst (v := 1) hx hb d_Mod_endRun_37 (by decide) ?_
    refine lv_icmp_ne (tgt := 46) hx hb d_Mod_endRun_38 (by decide) (fun hc => ?_) (fun hc => ?_)
    · have hf := bq_n hf hc
      refine lv_iload hx hb d_Mod_endRun_46 (lv_at hl 6 rfl) ?_
      exact j48 _ _ _ l1 l2 l3 l4 l5 s0 l5 u (lv_sub hl [1, 2, 3, 4, 5, 6, 0] rfl) hP hS hf
    have hf := bq_t hf hc
    refine lv_iload hx hb d_Mod_endRun_41 (lv_at hl 5 rfl) ?_
    refine lv_goto (tgt := 48) hx hb d_Mod_endRun_43 (by decide) ?_
    exact j48 _ _ _ l1 l2 l3 l4 l5 s0 l4 u (lv_sub hl [1, 2, 3, 4, 5, 6, 0] rfl) hP hS hf
  unfold f_Mod_endRun at hf
  refine lv_aload_n hx hb d_Mod_endRun_0 rfl (lv_at hl 0 rfl) ?_
  refine lv_iload_n hx hb d_Mod_endRun_1 rfl (lv_at hl 1 rfl) ?_
  refine lv_iload_n hx hb d_Mod_endRun_2 rfl (lv_at hl 2 rfl) ?_
  have hC : [0, 1, 2, 3, 4, 5, 6, 7].map (fun i => (wMod cI q0 q1 q2 q3 q4 q5 q6 q7 u)[i]?) = (wMod cI q0 q1 q2 q3 q4 q5 q6 q7 u).map some := rfl
  obtain ⟨x1, hc, hf⟩ := bd_o hf
  refine ro_i (va_runV (As := [.int a1, .int a2]) (rest := []) ⟨hx, hb, hml, hown, hw⟩ (c_Mod_before l D cI q0 q1 q2 q3 q4 q5 q6 q7 a1 a2 u x1 hc) (cwV 2 hw g_77 rfl rfl rfl (by decide +kernel) ⟨Nat.le_of_ble_eq_true rfl, Nat.le_of_ble_eq_true rfl⟩) (pre_V (P_sub hC hP) hK rfl rfl) rfl rfl hl.1 rfl (lv_room (Nat.le_of_ble_eq_true rfl)) d_Mod_endRun_3 ⟨Nat.le_of_ble_eq_true rfl, Nat.le_of_ble_eq_true rfl⟩) hS hP (fun H locs hP hS => ?_)
  refine lv_istore (lv' := [(4, .int x1), (0, .ref q0), (1, .int a1), (2, .int a2), (3, .int a3)]) hx hb d_Mod_endRun_6 hl (by decide) rfl (fun ls hl => ?_)
  refine lv_aload_n hx hb d_Mod_endRun_8 rfl (lv_at hl 1 rfl) ?_
  refine lv_iload_n hx hb d_Mod_endRun_9 rfl (lv_at hl 2 rfl) ?_
  refine lv_iload_n hx hb d_Mod_endRun_10 rfl (lv_at hl 3 rfl) ?_
  have hC : [0, 1, 2, 3, 4, 5, 6, 7].map (fun i => (wMod cI q0 q1 q2 q3 q4 q5 q6 q7 u)[i]?) = (wMod cI q0 q1 q2 q3 q4 q5 q6 q7 u).map some := rfl
  obtain ⟨x2, hc, hf⟩ := bd_o hf
  refine ro_i (va_runV (As := [.int a1, .int a2]) (rest := []) ⟨hx, hb, hml, hown, hw⟩ (c_Mod_above l D cI q0 q1 q2 q3 q4 q5 q6 q7 a1 a2 u x2 hc) (cwV 2 hw g_76 rfl rfl rfl (by decide +kernel) ⟨Nat.le_of_ble_eq_true rfl, Nat.le_of_ble_eq_true rfl⟩) (pre_V (P_sub hC hP) hK rfl rfl) rfl rfl hl.1 rfl (lv_room (Nat.le_of_ble_eq_true rfl)) d_Mod_endRun_11 ⟨Nat.le_of_ble_eq_true rfl, Nat.le_of_ble_eq_true rfl⟩) hS hP (fun H locs hP hS => ?_)
  refine lv_istore (lv' := [(5, .int x2), (4, .int x1), (0, .ref q0), (1, .int a1), (2, .int a2), (3, .int a3)]) hx hb d_Mod_endRun_14 hl (by decide) rfl (fun ls hl => ?_)
  refine lv_aload_n hx hb d_Mod_endRun_16 rfl (lv_at hl 2 rfl) ?_
  refine lv_iload hx hb d_Mod_endRun_17 (lv_at hl 1 rfl) ?_
  refine lv_iload hx hb d_Mod_endRun_19 (lv_at hl 0 rfl) ?_
  refine lv_isub hx hb d_Mod_endRun_21 ?_
  have hC : [0, 1, 2, 3, 4, 5, 6, 7].map (fun i => (wMod cI q0 q1 q2 q3 q4 q5 q6 q7 u)[i]?) = (wMod cI q0 q1 q2 q3 q4 q5 q6 q7 u).map some := rfl
  obtain ⟨x3, hc, hf⟩ := bd_o hf
  refine ro_i (va_runV (As := [.int (x1 - x2)]) (rest := []) ⟨hx, hb, hml, hown, hw⟩ (c_Mod_isNear l D cI q0 q1 q2 q3 q4 q5 q6 q7 (x1 - x2) u x3 hc) (cwV 1 hw g_92 rfl rfl rfl (by decide +kernel) ⟨Nat.le_of_ble_eq_true rfl, Nat.le_of_ble_eq_true rfl⟩) (pre_V (P_sub hC hP) hK rfl rfl) rfl rfl hl.1 rfl (lv_room (Nat.le_of_ble_eq_true rfl)) d_Mod_endRun_22 ⟨Nat.le_of_ble_eq_true rfl, Nat.le_of_ble_eq_true rfl⟩) hS hP (fun H locs hP hS => ?_)
  refine lv_if_eq (tgt := 32) hx hb d_Mod_endRun_25 (by decide) (fun hc => ?_) (fun hc => ?_)
  · have hf := bq_t hf hc
    refine lv_iconst (v := 0) hx hb d_Mod_endRun_32 (by decide) ?_
    exact j33 _ _ _ a1 a2 a3 x1 x2 0 u (lv_sub hl [2, 3, 4, 5, 1, 0] rfl) hP hS hf
  have hf := bq_n hf hc
  refine lv_iconst (v := 1) hx hb d_Mod_endRun_28 (by decide) ?_
  refine lv_goto (tgt := 33) hx hb d_Mod_endRun_29 (by decide) ?_
  exact j33 _ _ _ a1 a2 a3 x1 x2 1 u (lv_sub hl [2, 3, 4, 5, 1, 0] rfl) hP hS hf
def J_Mod_writeRun_121 (k65 : Int32 → Int32 → Int32 → gU → Option (Int32 × gU)) (l2 : Int32) (l4 : Int32) (l5 : Int32) (s1 : Int32) (u : gU) : Option (Int32 × gU) := tk (st2 u 0 12 s1) fun u1 => k65 l2 l4 l5 u1
def L_Mod_writeRun_65 : Nat → Int32 → Int32 → Int32 → gU → Option (Int32 × gU)
  | 0, _, _, _, _ => none
  | n + 1, l2, l4, l5, u => bd (f_Mod_jOf (u 0 12) u) fun x1 => bq (l5 < (1 <<< (x1 &&& 31))) (bq (l4 = (u 0 1)) (bq (l5 ≤ 0) (some (l4, u)) (bd (f_Mod_put 1 u) fun w10 => tk (w10) fun u11 => some (l4, u11))) (bd (f_Mod_put 0 u) fun w2 => tk (w2) fun u3 => bd (f_Mod_jOf (u3 0 12) u3) fun x4 => bd (f_Mod_putMany l5 x4 u3) fun w5 => tk (w5) fun u6 => bd (f_Mod_jOf (u6 0 12) u6) fun x7 => bd (f_Mod_endRun l4 l2 x7 u6) fun w8 => tk (w8) fun u9 => some (l4 + 1, u9))) (bd (f_Mod_put 1 u) fun w12 => tk (w12) fun u13 => bd (f_Mod_jOf (u13 0 12) u13) fun x14 => tk (l5 - (1 <<< (x14 &&& 31))) fun x15 => bq (31 ≤ (u13 0 12)) (J_Mod_writeRun_121 (L_Mod_writeRun_65 n) l2 l4 x15 31 u13) (J_Mod_writeRun_121 (L_Mod_writeRun_65 n) l2 l4 x15 ((u13 0 12) + 1) u13))
theorem L_Mod_writeRun_65_z (l2 : Int32) (l4 : Int32) (l5 : Int32) (u : gU) : L_Mod_writeRun_65 0 l2 l4 l5 u = none := rfl
theorem L_Mod_writeRun_65_s (n : Nat) (l2 : Int32) (l4 : Int32) (l5 : Int32) (u : gU) : L_Mod_writeRun_65 (n + 1) l2 l4 l5 u = bd (f_Mod_jOf (u 0 12) u) fun x1 => bq (l5 < (1 <<< (x1 &&& 31))) (bq (l4 = (u 0 1)) (bq (l5 ≤ 0) (some (l4, u)) (bd (f_Mod_put 1 u) fun w10 => tk (w10) fun u11 => some (l4, u11))) (bd (f_Mod_put 0 u) fun w2 => tk (w2) fun u3 => bd (f_Mod_jOf (u3 0 12) u3) fun x4 => bd (f_Mod_putMany l5 x4 u3) fun w5 => tk (w5) fun u6 => bd (f_Mod_jOf (u6 0 12) u6) fun x7 => bd (f_Mod_endRun l4 l2 x7 u6) fun w8 => tk (w8) fun u9 => some (l4 + 1, u9))) (bd (f_Mod_put 1 u) fun w12 => tk (w12) fun u13 => bd (f_Mod_jOf (u13 0 12) u13) fun x14 => tk (l5 - (1 <<< (x14 &&& 31))) fun x15 => bq (31 ≤ (u13 0 12)) (J_Mod_writeRun_121 (L_Mod_writeRun_65 n) l2 l4 x15 31 u13) (J_Mod_writeRun_121 (L_Mod_writeRun_65 n) l2 l4 x15 ((u13 0 12) + 1) u13)) := rfl
def J_Mod_writeRun_59 (l1 : Int32) (l2 : Int32) (l4 : Int32) (u : gU) : Option (Int32 × gU) := tk (l4 - l1) fun x1 => L_Mod_writeRun_65 2000 l2 l4 x1 u
def L_Mod_writeRun_10 : Nat → Int32 → Int32 → Int32 → Int32 → gU → Option (Int32 × gU)
  | 0, _, _, _, _, _ => none
  | n + 1, l1, l2, l3, l4, u => bq ((u 0 1) ≤ l4) (J_Mod_writeRun_59 l1 l2 l4 u) (gd (ix ((8 * l2) + l4) 64) (bd (f_Mod_isNear ((u 1 (tc ((8 * l2) + l4))) - l3) u) fun x2 => bq (x2 = 0) (J_Mod_writeRun_59 l1 l2 l4 u) (gd (ix ((8 * l2) + l4) 64) (tk (st2 u 2 (tc ((8 * l2) + l4)) l3) fun u4 => tk (l4 + 1) fun x5 => (L_Mod_writeRun_10 n) l1 l2 l3 x5 u4))))
theorem L_Mod_writeRun_10_z (l1 : Int32) (l2 : Int32) (l3 : Int32) (l4 : Int32) (u : gU) : L_Mod_writeRun_10 0 l1 l2 l3 l4 u = none := rfl
theorem L_Mod_writeRun_10_s (n : Nat) (l1 : Int32) (l2 : Int32) (l3 : Int32) (l4 : Int32) (u : gU) : L_Mod_writeRun_10 (n + 1) l1 l2 l3 l4 u = bq ((u 0 1) ≤ l4) (J_Mod_writeRun_59 l1 l2 l4 u) (gd (ix ((8 * l2) + l4) 64) (bd (f_Mod_isNear ((u 1 (tc ((8 * l2) + l4))) - l3) u) fun x2 => bq (x2 = 0) (J_Mod_writeRun_59 l1 l2 l4 u) (gd (ix ((8 * l2) + l4) 64) (tk (st2 u 2 (tc ((8 * l2) + l4)) l3) fun u4 => tk (l4 + 1) fun x5 => (L_Mod_writeRun_10 n) l1 l2 l3 x5 u4)))) := rfl
def f_Mod_writeRun (a1 : Int32) (a2 : Int32) (u : gU) : Option (Int32 × gU) := bd (f_Mod_before a1 a2 u) fun x1 => L_Mod_writeRun_10 2000 a1 a2 x1 a1 u
set_option maxHeartbeats 4000000 in
set_option maxRecDepth 100000 in
theorem c_Mod_writeRun (l : Launch) (D : va_G) (cI : ClassId) (q0 : Nat) (q1 : Nat) (q2 : Nat) (q3 : Nat) (q4 : Nat) (q5 : Nat) (q6 : Nat) (q7 : Nat) (hd : dj [q0, q1, q2, q3, q4, q5, q6, q7]) (a1 : Int32) (a2 : Int32) (u : gU) (r : Int32) (v : gU) (hf : f_Mod_writeRun a1 a2 u = some (r, v)) : Met l y_Mod_writeRun (.code y_Mod_writeRun b_Mod_writeRun 6 (some .int) :: TS) ({ frames := 5, cells := 0, slots := 0, locals := 126 }) (va_Pc [.ref q0, .int a1, .int a2] (fun U => va_P D cls (wMod cI q0 q1 q2 q3 q4 q5 q6 q7 u) U.heap ∧ va_K D cls [(cI, .int)] U)) (va_Qi (fun x (_ : Unit) => x = r) (fun _ t => va_P D cls (wMod cI q0 q1 q2 q3 q4 q5 q6 q7 v) t.heap) (ad [q0, q1, q2, q3, q4, q5, q6, q7])) 0 0 (ad [q0, q1, q2, q3, q4, q5, q6, q7]) := by
  refine ct_of (by decide +kernel) (Nat.le_of_ble_eq_true rfl) ?_
  intro p e s m below meth c ls hx hb hml hr hlocks hown hw hP hK hl
  have hS : va_S (ad [q0, q1, q2, q3, q4, q5, q6, q7]) s.heap s.heap [] := va_S.rf
  have hD : ∀ v, va_D (ad [q0, q1, q2, q3, q4, q5, q6, q7]) (wMod cI q0 q1 q2 q3 q4 q5 q6 q7 v) := fun _ => dj_D rfl hd
  have hl : lv_has ls 6 [(0, .ref q0), (1, .int a1), (2, .int a2)] := hl
  have hP : va_P D cls (wMod cI q0 q1 q2 q3 q4 q5 q6 q7 u) s.heap := hP
  have lp65 : ∀ (n65 : Nat), ∀ (ls : Array Slot) (H : Heap) (locs : List Loc) (l2 : Int32) (l4 : Int32) (l5 : Int32) (u : gU), lv_has ls 6 [(0, .ref q0), (2, .int l2), (4, .int l4), (5, .int l5)] → va_P D cls (wMod cI q0 q1 q2 q3 q4 q5 q6 q7 u) H → va_S (ad [q0, q1, q2, q3, q4, q5, q6, q7]) s.heap H locs → L_Mod_writeRun_65 n65 l2 l4 l5 u = some (r, v) → W p l e ({ frames := 5, cells := 0, slots := 0, locals := 126 }) s m [.ref q0, .int a1, .int a2].toArray below meth c H locs 0 0 (MQ below (va_Qi (fun x (_ : Unit) => x = r) (fun _ t => va_P D cls (wMod cI q0 q1 q2 q3 q4 q5 q6 q7 v) t.heap) (ad [q0, q1, q2, q3, q4, q5, q6, q7])) [.ref q0, .int a1, .int a2].toArray s 0 0 (ad [q0, q1, q2, q3, q4, q5, q6, q7])) (F0 m 65 ls []) := by
    intro n65
    induction n65 with
    | zero =>
      intro ls H locs l2 l4 l5 u hl hP hS hf
      rw [L_Mod_writeRun_65_z] at hf
      cases hf
    | succ n65 ih65 =>
      have j121 : ∀ (ls : Array Slot) (H : Heap) (locs : List Loc) (l2 : Int32) (l4 : Int32) (l5 : Int32) (s1 : Int32) (u : gU), lv_has ls 6 [(0, .ref q0), (2, .int l2), (4, .int l4), (5, .int l5)] → va_P D cls (wMod cI q0 q1 q2 q3 q4 q5 q6 q7 u) H → va_S (ad [q0, q1, q2, q3, q4, q5, q6, q7]) s.heap H locs → J_Mod_writeRun_121 (L_Mod_writeRun_65 n65) l2 l4 l5 s1 u = some (r, v) → W p l e ({ frames := 5, cells := 0, slots := 0, locals := 126 }) s m [.ref q0, .int a1, .int a2].toArray below meth c H locs 0 0 (MQ below (va_Qi (fun x (_ : Unit) => x = r) (fun _ t => va_P D cls (wMod cI q0 q1 q2 q3 q4 q5 q6 q7 v) t.heap) (ad [q0, q1, q2, q3, q4, q5, q6, q7])) [.ref q0, .int a1, .int a2].toArray s 0 0 (ad [q0, q1, q2, q3, q4, q5, q6, q7])) (F0 m 121 ls [.int s1, .ref q0]) := by
        intro ls H locs l2 l4 l5 s1 u hl hP hS hf
        unfold J_Mod_writeRun_121 at hf
        refine va_put (D := D) (ci := 7) (v := .int s1) (ty := .int) (C := R_Mod) (T := F_Mod) (N := 28) hx hb hw in_Mod t_Mod t_Mod_ok n_Mod hown hK hP (hD _) hS 0 rfl rfl 15 (by decide) (hw _ m_448) (fun _ h9 => h9) rfl (by decide +kernel) rfl rfl (Nat.le_of_ble_eq_true rfl) d_Mod_writeRun_121 (fun H locs hP _ hS => ?_)
        obtain ⟨u1, e_u1, hf⟩ := tk_o hf
        have hP : va_P D cls (wMod cI q0 q1 q2 q3 q4 q5 q6 q7 u1) H := by rw [e_u1]; exact hP
        refine lv_goto (tgt := 65) hx hb d_Mod_writeRun_124 (by decide) ?_
        exact ih65 _ _ _ l2 l4 l5 u1 (lv_sub hl [0, 1, 2, 3] rfl) hP hS hf
      intro ls H locs l2 l4 l5 u hl hP hS hf
      rw [L_Mod_writeRun_65_s] at hf
      refine lv_iload hx hb d_Mod_writeRun_65 (lv_at hl 3 rfl) ?_
      refine lv_iconst (v := 1) hx hb d_Mod_writeRun_67 (by decide) ?_
      refine lv_aload_n hx hb d_Mod_writeRun_68 rfl (lv_at hl 0 rfl) ?_
      refine lv_aload_n hx hb d_Mod_writeRun_69 rfl (lv_at hl 0 rfl) ?_
      refine va_get (D := D) (ci := 7) (v := .int (u 0 12)) (C := R_Mod) (T := F_Mod) (N := 28) hx hb hw in_Mod hown hK hP 0 rfl rfl 15 (by decide) (hw _ m_448) (fun _ h9 => h9) rfl d_Mod_writeRun_70 ?_
      have hC : [0, 1, 2, 3, 4, 5, 6, 7].map (fun i => (wMod cI q0 q1 q2 q3 q4 q5 q6 q7 u)[i]?) = (wMod cI q0 q1 q2 q3 q4 q5 q6 q7 u).map some := rfl
      obtain ⟨x1, hc, hf⟩ := bd_o hf
      refine ro_i (va_runV (As := [.int (u 0 12)]) (rest := [.int 1, .int l5]) ⟨hx, hb, hml, hown, hw⟩ (c_Mod_jOf l D cI q0 q1 q2 q3 q4 q5 q6 q7 (u 0 12) u x1 hc) (cwV 1 hw g_93 rfl rfl rfl (by decide +kernel) ⟨Nat.le_of_ble_eq_true rfl, Nat.le_of_ble_eq_true rfl⟩) (pre_V (P_sub hC hP) hK rfl rfl) rfl rfl hl.1 rfl (lv_room (Nat.le_of_ble_eq_true rfl)) d_Mod_writeRun_73 ⟨Nat.le_of_ble_eq_true rfl, Nat.le_of_ble_eq_true rfl⟩) hS hP (fun H locs hP hS => ?_)
      refine lv_ishl hx hb d_Mod_writeRun_76 ?_
      refine lv_icmp_lt (tgt := 127) hx hb d_Mod_writeRun_77 (by decide) (fun hc => ?_) (fun hc => ?_)
      · have hf := bq_t hf hc
        refine lv_iload hx hb d_Mod_writeRun_127 (lv_at hl 2 rfl) ?_
        refine lv_aload_n hx hb d_Mod_writeRun_129 rfl (lv_at hl 0 rfl) ?_
        refine va_get (D := D) (ci := 7) (v := .int (u 0 1)) (C := R_Mod) (T := F_Mod) (N := 28) hx hb hw in_Mod hown hK hP 0 rfl rfl 1 (by decide) (hw _ m_455) (fun _ h9 => h9) rfl d_Mod_writeRun_130 ?_
        refine lv_icmp_ne (tgt := 149) hx hb d_Mod_writeRun_133 (by decide) (fun hc => ?_) (fun hc => ?_)
        · have hf := bq_n hf hc
          refine lv_aload_n hx hb d_Mod_writeRun_149 rfl (lv_at hl 0 rfl) ?_
          refine lv_iconst (v := 0) hx hb d_Mod_writeRun_150 (by decide) ?_
          have hC : [0, 1, 2, 3, 4, 5, 6, 7].map (fun i => (wMod cI q0 q1 q2 q3 q4 q5 q6 q7 u)[i]?) = (wMod cI q0 q1 q2 q3 q4 q5 q6 q7 u).map some := rfl
          obtain ⟨w2, hc, hf⟩ := bd_o hf
          refine rw_v (va_runV (As := [.int 0]) (rest := []) ⟨hx, hb, hml, hown, hw⟩ (c_Mod_put l D cI q0 q1 q2 q3 q4 q5 q6 q7 (dj_sub hd [0, 1, 2, 3, 4, 5, 6, 7] (by decide) rfl) 0 u w2 hc) (cwV 1 hw g_71 rfl rfl rfl (by decide +kernel) ⟨Nat.le_of_ble_eq_true rfl, Nat.le_of_ble_eq_true rfl⟩) (pre_V (P_sub hC hP) hK rfl rfl) rfl rfl hl.1 rfl (lv_room (Nat.le_of_ble_eq_true rfl)) d_Mod_writeRun_151 ⟨Nat.le_of_ble_eq_true rfl, Nat.le_of_ble_eq_true rfl⟩) hS hP (hD _) hC rfl rfl (fun H locs hP hS => ?_)
          obtain ⟨u3, e_u3, hf⟩ := tk_o hf
          have hP : va_P D cls (wMod cI q0 q1 q2 q3 q4 q5 q6 q7 u3) H := by rw [e_u3]; exact hP
          refine lv_aload_n hx hb d_Mod_writeRun_154 rfl (lv_at hl 0 rfl) ?_
          refine lv_iload hx hb d_Mod_writeRun_155 (lv_at hl 3 rfl) ?_
          refine lv_aload_n hx hb d_Mod_writeRun_157 rfl (lv_at hl 0 rfl) ?_
          refine lv_aload_n hx hb d_Mod_writeRun_158 rfl (lv_at hl 0 rfl) ?_
          refine va_get (D := D) (ci := 7) (v := .int (u3 0 12)) (C := R_Mod) (T := F_Mod) (N := 28) hx hb hw in_Mod hown hK hP 0 rfl rfl 15 (by decide) (hw _ m_448) (fun _ h9 => h9) rfl d_Mod_writeRun_159 ?_
          have hC : [0, 1, 2, 3, 4, 5, 6, 7].map (fun i => (wMod cI q0 q1 q2 q3 q4 q5 q6 q7 u3)[i]?) = (wMod cI q0 q1 q2 q3 q4 q5 q6 q7 u3).map some := rfl
          obtain ⟨x4, hc, hf⟩ := bd_o hf
          refine ro_i (va_runV (As := [.int (u3 0 12)]) (rest := [.int l5, .ref q0]) ⟨hx, hb, hml, hown, hw⟩ (c_Mod_jOf l D cI q0 q1 q2 q3 q4 q5 q6 q7 (u3 0 12) u3 x4 hc) (cwV 1 hw g_93 rfl rfl rfl (by decide +kernel) ⟨Nat.le_of_ble_eq_true rfl, Nat.le_of_ble_eq_true rfl⟩) (pre_V (P_sub hC hP) hK rfl rfl) rfl rfl hl.1 rfl (lv_room (Nat.le_of_ble_eq_true rfl)) d_Mod_writeRun_162 ⟨Nat.le_of_ble_eq_true rfl, Nat.le_of_ble_eq_true rfl⟩) hS hP (fun H locs hP hS => ?_)
          have hC : [0, 1, 2, 3, 4, 5, 6, 7].map (fun i => (wMod cI q0 q1 q2 q3 q4 q5 q6 q7 u3)[i]?) = (wMod cI q0 q1 q2 q3 q4 q5 q6 q7 u3).map some := rfl
          obtain ⟨w5, hc, hf⟩ := bd_o hf
          refine rw_v (va_runV (As := [.int l5, .int x4]) (rest := []) ⟨hx, hb, hml, hown, hw⟩ (c_Mod_putMany l D cI q0 q1 q2 q3 q4 q5 q6 q7 (dj_sub hd [0, 1, 2, 3, 4, 5, 6, 7] (by decide) rfl) l5 x4 u3 w5 hc) (cwV 2 hw g_73 rfl rfl rfl (by decide +kernel) ⟨Nat.le_of_ble_eq_true rfl, Nat.le_of_ble_eq_true rfl⟩) (pre_V (P_sub hC hP) hK rfl rfl) rfl rfl hl.1 rfl (lv_room (Nat.le_of_ble_eq_true rfl)) d_Mod_writeRun_165 ⟨Nat.le_of_ble_eq_true rfl, Nat.le_of_ble_eq_true rfl⟩) hS hP (hD _) hC rfl rfl (fun H locs hP hS => ?_)
          obtain ⟨u6, e_u6, hf⟩ := tk_o hf
          have hP : va_P D cls (wMod cI q0 q1 q2 q3 q4 q5 q6 q7 u6) H := by rw [e_u6]; exact hP
          refine lv_aload_n hx hb d_Mod_writeRun_168 rfl (lv_at hl 0 rfl) ?_
          refine lv_iload hx hb d_Mod_writeRun_169 (lv_at hl 2 rfl) ?_
          refine lv_iload_n hx hb d_Mod_writeRun_171 rfl (lv_at hl 1 rfl) ?_
          refine lv_aload_n hx hb d_Mod_writeRun_172 rfl (lv_at hl 0 rfl) ?_
          refine lv_aload_n hx hb d_Mod_writeRun_173 rfl (lv_at hl 0 rfl) ?_
          refine va_get (D := D) (ci := 7) (v := .int (u6 0 12)) (C := R_Mod) (T := F_Mod) (N := 28) hx hb hw in_Mod hown hK hP 0 rfl rfl 15 (by decide) (hw _ m_448) (fun _ h9 => h9) rfl d_Mod_writeRun_174 ?_
          have hC : [0, 1, 2, 3, 4, 5, 6, 7].map (fun i => (wMod cI q0 q1 q2 q3 q4 q5 q6 q7 u6)[i]?) = (wMod cI q0 q1 q2 q3 q4 q5 q6 q7 u6).map some := rfl
          obtain ⟨x7, hc, hf⟩ := bd_o hf
          refine ro_i (va_runV (As := [.int (u6 0 12)]) (rest := [.int l2, .int l4, .ref q0]) ⟨hx, hb, hml, hown, hw⟩ (c_Mod_jOf l D cI q0 q1 q2 q3 q4 q5 q6 q7 (u6 0 12) u6 x7 hc) (cwV 1 hw g_93 rfl rfl rfl (by decide +kernel) ⟨Nat.le_of_ble_eq_true rfl, Nat.le_of_ble_eq_true rfl⟩) (pre_V (P_sub hC hP) hK rfl rfl) rfl rfl hl.1 rfl (lv_room (Nat.le_of_ble_eq_true rfl)) d_Mod_writeRun_177 ⟨Nat.le_of_ble_eq_true rfl, Nat.le_of_ble_eq_true rfl⟩) hS hP (fun H locs hP hS => ?_)
          have hC : [0, 1, 2, 3, 4, 5, 6, 7].map (fun i => (wMod cI q0 q1 q2 q3 q4 q5 q6 q7 u6)[i]?) = (wMod cI q0 q1 q2 q3 q4 q5 q6 q7 u6).map some := rfl
          obtain ⟨w8, hc, hf⟩ := bd_o hf
          refine rw_v (va_runV (As := [.int l4, .int l2, .int x7]) (rest := []) ⟨hx, hb, hml, hown, hw⟩ (c_Mod_endRun l D cI q0 q1 q2 q3 q4 q5 q6 q7 (dj_sub hd [0, 1, 2, 3, 4, 5, 6, 7] (by decide) rfl) l4 l2 x7 u6 w8 hc) (cwV 3 hw g_94 rfl rfl rfl (by decide +kernel) ⟨Nat.le_of_ble_eq_true rfl, Nat.le_of_ble_eq_true rfl⟩) (pre_V (P_sub hC hP) hK rfl rfl) rfl rfl hl.1 rfl (lv_room (Nat.le_of_ble_eq_true rfl)) d_Mod_writeRun_180 ⟨Nat.le_of_ble_eq_true rfl, Nat.le_of_ble_eq_true rfl⟩) hS hP (hD _) hC rfl rfl (fun H locs hP hS => ?_)
          obtain ⟨u9, e_u9, hf⟩ := tk_o hf
          have hP : va_P D cls (wMod cI q0 q1 q2 q3 q4 q5 q6 q7 u9) H := by rw [e_u9]; exact hP
          refine lv_iload hx hb d_Mod_writeRun_183 (lv_at hl 2 rfl) ?_
          refine lv_iconst (v := 1) hx hb d_Mod_writeRun_185 (by decide) ?_
          refine lv_iadd hx hb d_Mod_writeRun_186 ?_
          exact rt_i (wMod cI q0 q1 q2 q3 q4 q5 q6 q7) hx hb hr hlocks hS hP hf d_Mod_writeRun_187
        have hf := bq_t hf hc
        refine lv_iload hx hb d_Mod_writeRun_136 (lv_at hl 3 rfl) ?_
        refine lv_if_le (tgt := 146) hx hb d_Mod_writeRun_138 (by decide) (fun hc => ?_) (fun hc => ?_)
        · have hf := bq_t hf hc
          refine lv_iload hx hb d_Mod_writeRun_146 (lv_at hl 2 rfl) ?_
          exact rt_i (wMod cI q0 q1 q2 q3 q4 q5 q6 q7) hx hb hr hlocks hS hP hf d_Mod_writeRun_148
        have hf := bq_n hf hc
        refine lv_aload_n hx hb d_Mod_writeRun_141 rfl (lv_at hl 0 rfl) ?_
        refine lv_iconst (v := 1) hx hb d_Mod_writeRun_142 (by decide) ?_
        have hC : [0, 1, 2, 3, 4, 5, 6, 7].map (fun i => (wMod cI q0 q1 q2 q3 q4 q5 q6 q7 u)[i]?) = (wMod cI q0 q1 q2 q3 q4 q5 q6 q7 u).map some := rfl
        obtain ⟨w10, hc, hf⟩ := bd_o hf
        refine rw_v (va_runV (As := [.int 1]) (rest := []) ⟨hx, hb, hml, hown, hw⟩ (c_Mod_put l D cI q0 q1 q2 q3 q4 q5 q6 q7 (dj_sub hd [0, 1, 2, 3, 4, 5, 6, 7] (by decide) rfl) 1 u w10 hc) (cwV 1 hw g_71 rfl rfl rfl (by decide +kernel) ⟨Nat.le_of_ble_eq_true rfl, Nat.le_of_ble_eq_true rfl⟩) (pre_V (P_sub hC hP) hK rfl rfl) rfl rfl hl.1 rfl (lv_room (Nat.le_of_ble_eq_true rfl)) d_Mod_writeRun_143 ⟨Nat.le_of_ble_eq_true rfl, Nat.le_of_ble_eq_true rfl⟩) hS hP (hD _) hC rfl rfl (fun H locs hP hS => ?_)
        obtain ⟨u11, e_u11, hf⟩ := tk_o hf
        have hP : va_P D cls (wMod cI q0 q1 q2 q3 q4 q5 q6 q7 u11) H := by rw [e_u11]; exact hP
        refine lv_iload hx hb d_Mod_writeRun_146 (lv_at hl 2 rfl) ?_
        exact rt_i (wMod cI q0 q1 q2 q3 q4 q5 q6 q7) hx hb hr hlocks hS hP hf d_Mod_writeRun_148
      have hf := bq_n hf hc
      refine lv_aload_n hx hb d_Mod_writeRun_80 rfl (lv_at hl 0 rfl) ?_
      refine lv_iconst (v := 1) hx hb d_Mod_writeRun_81 (by decide) ?_
      have hC : [0, 1, 2, 3, 4, 5, 6, 7].map (fun i => (wMod cI q0 q1 q2 q3 q4 q5 q6 q7 u)[i]?) = (wMod cI q0 q1 q2 q3 q4 q5 q6 q7 u).map some := rfl
      obtain ⟨w12, hc, hf⟩ := bd_o hf
      refine rw_v (va_runV (As := [.int 1]) (rest := []) ⟨hx, hb, hml, hown, hw⟩ (c_Mod_put l D cI q0 q1 q2 q3 q4 q5 q6 q7 (dj_sub hd [0, 1, 2, 3, 4, 5, 6, 7] (by decide) rfl) 1 u w12 hc) (cwV 1 hw g_71 rfl rfl rfl (by decide +kernel) ⟨Nat.le_of_ble_eq_true rfl, Nat.le_of_ble_eq_true rfl⟩) (pre_V (P_sub hC hP) hK rfl rfl) rfl rfl hl.1 rfl (lv_room (Nat.le_of_ble_eq_true rfl)) d_Mod_writeRun_82 ⟨Nat.le_of_ble_eq_true rfl, Nat.le_of_ble_eq_true rfl⟩) hS hP (hD _) hC rfl rfl (fun H locs hP hS => ?_)
      obtain ⟨u13, e_u13, hf⟩ := tk_o hf
      have hP : va_P D cls (wMod cI q0 q1 q2 q3 q4 q5 q6 q7 u13) H := by rw [e_u13]; exact hP
      refine lv_iload hx hb d_Mod_writeRun_85 (lv_at hl 3 rfl) ?_
      refine lv_iconst (v := 1) hx hb d_Mod_writeRun_87 (by decide) ?_
      refine lv_aload_n hx hb d_Mod_writeRun_88 rfl (lv_at hl 0 rfl) ?_
      refine lv_aload_n hx hb d_Mod_writeRun_89 rfl (lv_at hl 0 rfl) ?_
      refine va_get (D := D) (ci := 7) (v := .int (u13 0 12)) (C := R_Mod) (T := F_Mod) (N := 28) hx hb hw in_Mod hown hK hP 0 rfl rfl 15 (by decide) (hw _ m_448) (fun _ h9 => h9) rfl d_Mod_writeRun_90 ?_
      have hC : [0, 1, 2, 3, 4, 5, 6, 7].map (fun i => (wMod cI q0 q1 q2 q3 q4 q5 q6 q7 u13)[i]?) = (wMod cI q0 q1 q2 q3 q4 q5 q6 q7 u13).map some := rfl
      obtain ⟨x14, hc, hf⟩ := bd_o hf
      refine ro_i (va_runV (As := [.int (u13 0 12)]) (rest := [.int 1, .int l5]) ⟨hx, hb, hml, hown, hw⟩ (c_Mod_jOf l D cI q0 q1 q2 q3 q4 q5 q6 q7 (u13 0 12) u13 x14 hc) (cwV 1 hw g_93 rfl rfl rfl (by decide +kernel) ⟨Nat.le_of_ble_eq_true rfl, Nat.le_of_ble_eq_true rfl⟩) (pre_V (P_sub hC hP) hK rfl rfl) rfl rfl hl.1 rfl (lv_room (Nat.le_of_ble_eq_true rfl)) d_Mod_writeRun_93 ⟨Nat.le_of_ble_eq_true rfl, Nat.le_of_ble_eq_true rfl⟩) hS hP (fun H locs hP hS => ?_)
      refine lv_ishl hx hb d_Mod_writeRun_96 ?_
      refine lv_isub hx hb d_Mod_writeRun_97 ?_
      refine lv_topi (fun x15 e_x15 => ?_)
      have hf := tk_e hf e_x15
      refine lv_istore (lv' := [(5, .int x15), (0, .ref q0), (2, .int l2), (4, .int l4)]) hx hb d_Mod_writeRun_98 hl (by decide) rfl (fun ls hl => ?_)
      refine lv_aload_n hx hb d_Mod_writeRun_100 rfl (lv_at hl 1 rfl) ?_
      refine lv_aload_n hx hb d_Mod_writeRun_101 rfl (lv_at hl 1 rfl) ?_
      refine va_get (D := D) (ci := 7) (v := .int (u13 0 12)) (C := R_Mod) (T := F_Mod) (N := 28) hx hb hw in_Mod hown hK hP 0 rfl rfl 15 (by decide) (hw _ m_448) (fun _ h9 => h9) rfl d_Mod_writeRun_102 ?_
      refine lv_bipush (v := 31) hx hb d_Mod_writeRun_105 (by decide) ?_
      refine lv_icmp_ge (tgt := 119) hx hb d_Mod_writeRun_107 (by decide) (fun hc => ?_) (fun hc => ?_)
      · have hf := bq_t hf hc
        refine lv_bipush (v := 31) hx hb d_Mod_writeRun_119 (by decide) ?_
        exact j121 _ _ _ l2 l4 x15 31 u13 (lv_sub hl [1, 2, 3, 0] rfl) hP hS hf
      have hf := bq_n hf hc
      refine lv_aload_n hx hb d_Mod_writeRun_110 rfl (lv_at hl 1 rfl) ?_
      refine va_get (D := D) (ci := 7) (v := .int (u13 0 12)) (C := R_Mod) (T := F_Mod) (N := 28) hx hb hw in_Mod hown hK hP 0 rfl rfl 15 (by decide) (hw _ m_448) (fun _ h9 => h9) rfl d_Mod_writeRun_111 ?_
      refine lv_iconst (v := 1) hx hb d_Mod_writeRun_114 (by decide) ?_
      refine lv_iadd hx hb d_Mod_writeRun_115 ?_
      refine lv_goto (tgt := 121) hx hb d_Mod_writeRun_116 (by decide) ?_
      exact j121 _ _ _ l2 l4 x15 ((u13 0 12) + 1) u13 (lv_sub hl [1, 2, 3, 0] rfl) hP hS hf
  have j59 : ∀ (ls : Array Slot) (H : Heap) (locs : List Loc) (l1 : Int32) (l2 : Int32) (l4 : Int32) (u : gU), lv_has ls 6 [(0, .ref q0), (1, .int l1), (2, .int l2), (4, .int l4)] → va_P D cls (wMod cI q0 q1 q2 q3 q4 q5 q6 q7 u) H → va_S (ad [q0, q1, q2, q3, q4, q5, q6, q7]) s.heap H locs → J_Mod_writeRun_59 l1 l2 l4 u = some (r, v) → W p l e ({ frames := 5, cells := 0, slots := 0, locals := 126 }) s m [.ref q0, .int a1, .int a2].toArray below meth c H locs 0 0 (MQ below (va_Qi (fun x (_ : Unit) => x = r) (fun _ t => va_P D cls (wMod cI q0 q1 q2 q3 q4 q5 q6 q7 v) t.heap) (ad [q0, q1, q2, q3, q4, q5, q6, q7])) [.ref q0, .int a1, .int a2].toArray s 0 0 (ad [q0, q1, q2, q3, q4, q5, q6, q7])) (F0 m 59 ls []) := by
    intro ls H locs l1 l2 l4 u hl hP hS hf
    unfold J_Mod_writeRun_59 at hf
    refine lv_iload hx hb d_Mod_writeRun_59 (lv_at hl 3 rfl) ?_
    refine lv_iload_n hx hb d_Mod_writeRun_61 rfl (lv_at hl 1 rfl) ?_
    refine lv_isub hx hb d_Mod_writeRun_62 ?_
    refine lv_topi (fun x1 e_x1 => ?_)
    have hf := tk_e hf e_x1
    refine lv_istore (lv' := [(5, .int x1), (0, .ref q0), (1, .int l1), (2, .int l2), (4, .int l4)]) hx hb d_Mod_writeRun_63 hl (by decide) rfl (fun ls hl => ?_)
    exact lp65 2000 _ _ _ l2 l4 x1 u (lv_sub hl [1, 3, 4, 0] rfl) hP hS hf
  have lp10 : ∀ (n10 : Nat), ∀ (ls : Array Slot) (H : Heap) (locs : List Loc) (l1 : Int32) (l2 : Int32) (l3 : Int32) (l4 : Int32) (u : gU), lv_has ls 6 [(0, .ref q0), (1, .int l1), (2, .int l2), (3, .int l3), (4, .int l4)] → va_P D cls (wMod cI q0 q1 q2 q3 q4 q5 q6 q7 u) H → va_S (ad [q0, q1, q2, q3, q4, q5, q6, q7]) s.heap H locs → L_Mod_writeRun_10 n10 l1 l2 l3 l4 u = some (r, v) → W p l e ({ frames := 5, cells := 0, slots := 0, locals := 126 }) s m [.ref q0, .int a1, .int a2].toArray below meth c H locs 0 0 (MQ below (va_Qi (fun x (_ : Unit) => x = r) (fun _ t => va_P D cls (wMod cI q0 q1 q2 q3 q4 q5 q6 q7 v) t.heap) (ad [q0, q1, q2, q3, q4, q5, q6, q7])) [.ref q0, .int a1, .int a2].toArray s 0 0 (ad [q0, q1, q2, q3, q4, q5, q6, q7])) (F0 m 10 ls []) := by
    intro n10
    induction n10 with
    | zero =>
      intro ls H locs l1 l2 l3 l4 u hl hP hS hf
      rw [L_Mod_writeRun_10_z] at hf
      cases hf
    | succ n10 ih10 =>
      intro ls H locs l1 l2 l3 l4 u hl hP hS hf
      rw [L_Mod_writeRun_10_s] at hf
      refine lv_iload hx hb d_Mod_writeRun_10 (lv_at hl 4 rfl) ?_
      refine lv_aload_n hx hb d_Mod_writeRun_12 rfl (lv_at hl 0 rfl) ?_
      refine va_get (D := D) (ci := 7) (v := .int (u 0 1)) (C := R_Mod) (T := F_Mod) (N := 28) hx hb hw in_Mod hown hK hP 0 rfl rfl 1 (by decide) (hw _ m_455) (fun _ h9 => h9) rfl d_Mod_writeRun_13 ?_
      refine lv_icmp_ge (tgt := 59) hx hb d_Mod_writeRun_16 (by decide) (fun hc => ?_) (fun hc => ?_)
      · have hf := bq_t hf hc
        exact j59 _ _ _ l1 l2 l4 u (lv_sub hl [0, 1, 2, 4] rfl) hP hS hf
      have hf := bq_n hf hc
      refine lv_aload_n hx hb d_Mod_writeRun_19 rfl (lv_at hl 0 rfl) ?_
      refine lv_aload_n hx hb d_Mod_writeRun_20 rfl (lv_at hl 0 rfl) ?_
      refine va_get (D := D) (ci := 7) (v := .ref q1) (C := R_Mod) (T := F_Mod) (N := 28) hx hb hw in_Mod hown hK hP 0 rfl rfl 12 (by decide) (hw _ m_451) (fun _ h9 => h9) rfl d_Mod_writeRun_21 ?_
      refine lv_bipush (v := 8) hx hb d_Mod_writeRun_24 (by decide) ?_
      refine lv_iload_n hx hb d_Mod_writeRun_26 rfl (lv_at hl 2 rfl) ?_
      refine lv_imul hx hb d_Mod_writeRun_27 ?_
      refine lv_iload hx hb d_Mod_writeRun_28 (lv_at hl 4 rfl) ?_
      refine lv_iadd hx hb d_Mod_writeRun_30 ?_
      obtain ⟨h1, hf⟩ := gd_o hf
      refine va_iald hx hb hK hP 1 0 rfl rfl (ix_in h1) d_Mod_writeRun_31 ?_
      refine lv_iload_n hx hb d_Mod_writeRun_32 rfl (lv_at hl 3 rfl) ?_
      refine lv_isub hx hb d_Mod_writeRun_33 ?_
      have hC : [0, 1, 2, 3, 4, 5, 6, 7].map (fun i => (wMod cI q0 q1 q2 q3 q4 q5 q6 q7 u)[i]?) = (wMod cI q0 q1 q2 q3 q4 q5 q6 q7 u).map some := rfl
      obtain ⟨x2, hc, hf⟩ := bd_o hf
      refine ro_i (va_runV (As := [.int ((u 1 (tc ((8 * l2) + l4))) - l3)]) (rest := []) ⟨hx, hb, hml, hown, hw⟩ (c_Mod_isNear l D cI q0 q1 q2 q3 q4 q5 q6 q7 ((u 1 (tc ((8 * l2) + l4))) - l3) u x2 hc) (cwV 1 hw g_92 rfl rfl rfl (by decide +kernel) ⟨Nat.le_of_ble_eq_true rfl, Nat.le_of_ble_eq_true rfl⟩) (pre_V (P_sub hC hP) hK rfl rfl) rfl rfl hl.1 rfl (lv_room (Nat.le_of_ble_eq_true rfl)) d_Mod_writeRun_34 ⟨Nat.le_of_ble_eq_true rfl, Nat.le_of_ble_eq_true rfl⟩) hS hP (fun H locs hP hS => ?_)
      refine lv_if_eq (tgt := 59) hx hb d_Mod_writeRun_37 (by decide) (fun hc => ?_) (fun hc => ?_)
      · have hf := bq_t hf hc
        exact j59 _ _ _ l1 l2 l4 u (lv_sub hl [0, 1, 2, 4] rfl) hP hS hf
      have hf := bq_n hf hc
      refine lv_aload_n hx hb d_Mod_writeRun_40 rfl (lv_at hl 0 rfl) ?_
      refine va_get (D := D) (ci := 7) (v := .ref q2) (C := R_Mod) (T := F_Mod) (N := 28) hx hb hw in_Mod hown hK hP 0 rfl rfl 13 (by decide) (hw _ m_447) (fun _ h9 => h9) rfl d_Mod_writeRun_41 ?_
      refine lv_bipush (v := 8) hx hb d_Mod_writeRun_44 (by decide) ?_
      refine lv_iload_n hx hb d_Mod_writeRun_46 rfl (lv_at hl 2 rfl) ?_
      refine lv_imul hx hb d_Mod_writeRun_47 ?_
      refine lv_iload hx hb d_Mod_writeRun_48 (lv_at hl 4 rfl) ?_
      refine lv_iadd hx hb d_Mod_writeRun_50 ?_
      refine lv_iload_n hx hb d_Mod_writeRun_51 rfl (lv_at hl 3 rfl) ?_
      obtain ⟨h3, hf⟩ := gd_o hf
      refine va_iast hx hb hK hP (hD _) hS 2 0 rfl rfl (ix_in h3) d_Mod_writeRun_52 (fun H locs hP _ hS => ?_)
      obtain ⟨u4, e_u4, hf⟩ := tk_o hf
      have hP : va_P D cls (wMod cI q0 q1 q2 q3 q4 q5 q6 q7 u4) H := by rw [e_u4]; exact hP
      obtain ⟨x5, e_x5, hf⟩ := tk_o hf
      refine lv_iinc (v := x5) (lv' := [(4, .int x5), (0, .ref q0), (1, .int l1), (2, .int l2), (3, .int l3)]) hx hb d_Mod_writeRun_53 hl (k := 4) rfl e_x5.symm (by decide) rfl (fun ls hl => ?_)
      refine lv_goto (tgt := 10) hx hb d_Mod_writeRun_56 (by decide) ?_
      exact ih10 _ _ _ l1 l2 l3 x5 u4 (lv_sub hl [1, 2, 3, 4, 0] rfl) hP hS hf
  unfold f_Mod_writeRun at hf
  refine lv_aload_n hx hb d_Mod_writeRun_0 rfl (lv_at hl 0 rfl) ?_
  refine lv_iload_n hx hb d_Mod_writeRun_1 rfl (lv_at hl 1 rfl) ?_
  refine lv_iload_n hx hb d_Mod_writeRun_2 rfl (lv_at hl 2 rfl) ?_
  have hC : [0, 1, 2, 3, 4, 5, 6, 7].map (fun i => (wMod cI q0 q1 q2 q3 q4 q5 q6 q7 u)[i]?) = (wMod cI q0 q1 q2 q3 q4 q5 q6 q7 u).map some := rfl
  obtain ⟨x1, hc, hf⟩ := bd_o hf
  refine ro_i (va_runV (As := [.int a1, .int a2]) (rest := []) ⟨hx, hb, hml, hown, hw⟩ (c_Mod_before l D cI q0 q1 q2 q3 q4 q5 q6 q7 a1 a2 u x1 hc) (cwV 2 hw g_77 rfl rfl rfl (by decide +kernel) ⟨Nat.le_of_ble_eq_true rfl, Nat.le_of_ble_eq_true rfl⟩) (pre_V (P_sub hC hP) hK rfl rfl) rfl rfl hl.1 rfl (lv_room (Nat.le_of_ble_eq_true rfl)) d_Mod_writeRun_3 ⟨Nat.le_of_ble_eq_true rfl, Nat.le_of_ble_eq_true rfl⟩) hS hP (fun H locs hP hS => ?_)
  refine lv_istore_n (lv' := [(3, .int x1), (0, .ref q0), (1, .int a1), (2, .int a2)]) hx hb d_Mod_writeRun_6 rfl hl (by decide) rfl (fun ls hl => ?_)
  refine lv_iload_n hx hb d_Mod_writeRun_7 rfl (lv_at hl 2 rfl) ?_
  refine lv_istore (lv' := [(4, .int a1), (3, .int x1), (0, .ref q0), (1, .int a1), (2, .int a2)]) hx hb d_Mod_writeRun_8 hl (by decide) rfl (fun ls hl => ?_)
  exact lp10 2000 _ _ _ a1 a2 x1 a1 u (lv_sub hl [2, 3, 4, 1, 0] rfl) hP hS hf
def J_Mod_readRun_230 (l2 : Int32) (l4 : Int32) (l5 : Int32) (u : gU) : Option (Int32 × gU) := bq (l5 = 0) (bq ((u 0 20) = 0) (some (u 0 1, u)) (bd (f_Mod_jOf (u 0 12) u) fun x1 => bd (f_Mod_endRun l4 l2 x1 u) fun w2 => tk (w2) fun u3 => some (l4 + 1, u3))) (some (u 0 1, u))
def L_Mod_readRun_178 (k13 : Int32 → Int32 → Int32 → Int32 → gU → Option (Int32 × gU)) : Nat → Int32 → Int32 → Int32 → Int32 → Int32 → Int32 → gU → Option (Int32 × gU)
  | 0, _, _, _, _, _, _, _ => none
  | n + 1, l2, l3, l4, l5, l6, l7, u => bq (l6 ≤ l7) (k13 l2 l3 l4 l5 u) (bq ((u 0 20) = 0) (k13 l2 l3 l4 l5 u) (gd (ix ((8 * l2) + l4) 64) (tk (st2 u 2 (tc ((8 * l2) + l4)) l3) fun u2 => gd (ix ((8 * l2) + l4) 64) (tk (st2 u2 1 (tc ((8 * l2) + l4)) l3) fun u4 => tk (l4 + 1) fun x5 => tk (l7 + 1) fun x6 => (L_Mod_readRun_178 k13 n) l2 l3 x5 l5 l6 x6 u4))))
theorem L_Mod_readRun_178_z (k13 : Int32 → Int32 → Int32 → Int32 → gU → Option (Int32 × gU)) (l2 : Int32) (l3 : Int32) (l4 : Int32) (l5 : Int32) (l6 : Int32) (l7 : Int32) (u : gU) : L_Mod_readRun_178 k13 0 l2 l3 l4 l5 l6 l7 u = none := rfl
theorem L_Mod_readRun_178_s (k13 : Int32 → Int32 → Int32 → Int32 → gU → Option (Int32 × gU)) (n : Nat) (l2 : Int32) (l3 : Int32) (l4 : Int32) (l5 : Int32) (l6 : Int32) (l7 : Int32) (u : gU) : L_Mod_readRun_178 k13 (n + 1) l2 l3 l4 l5 l6 l7 u = bq (l6 ≤ l7) (k13 l2 l3 l4 l5 u) (bq ((u 0 20) = 0) (k13 l2 l3 l4 l5 u) (gd (ix ((8 * l2) + l4) 64) (tk (st2 u 2 (tc ((8 * l2) + l4)) l3) fun u2 => gd (ix ((8 * l2) + l4) 64) (tk (st2 u2 1 (tc ((8 * l2) + l4)) l3) fun u4 => tk (l4 + 1) fun x5 => tk (l7 + 1) fun x6 => (L_Mod_readRun_178 k13 n) l2 l3 x5 l5 l6 x6 u4)))) := rfl
def J_Mod_readRun_172 (k13 : Int32 → Int32 → Int32 → Int32 → gU → Option (Int32 × gU)) (l2 : Int32) (l3 : Int32) (l4 : Int32) (l5 : Int32) (l6 : Int32) (s1 : Int32) (u : gU) : Option (Int32 × gU) := gd (s1 = 0 ∨ s1 = 1) (tk (st2 u 0 20 s1) fun u1 => L_Mod_readRun_178 k13 2000 l2 l3 l4 l5 l6 0 u1)
def J_Mod_readRun_171 (k13 : Int32 → Int32 → Int32 → Int32 → gU → Option (Int32 × gU)) (l2 : Int32) (l3 : Int32) (l4 : Int32) (l5 : Int32) (l6 : Int32) (u : gU) : Option (Int32 × gU) := J_Mod_readRun_172 k13 l2 l3 l4 l5 l6 0 u
def J_Mod_readRun_128 (k13 : Int32 → Int32 → Int32 → Int32 → gU → Option (Int32 × gU)) (l2 : Int32) (l3 : Int32) (l4 : Int32) (l5 : Int32) (s0 : Int32) (u : gU) : Option (Int32 × gU) := L_Mod_readRun_178 k13 2000 l2 l3 l4 l5 s0 0 u
def J_Mod_readRun_101 (k13 : Int32 → Int32 → Int32 → Int32 → gU → Option (Int32 × gU)) (l2 : Int32) (l3 : Int32) (l4 : Int32) (l5 : Int32) (l6 : Int32) (s1 : Int32) (u : gU) : Option (Int32 × gU) := tk (st2 u 0 12 s1) fun u1 => bq (((u1 0 1) - l4) < l6) (J_Mod_readRun_128 k13 l2 l3 l4 l5 ((u1 0 1) - l4) u1) (J_Mod_readRun_128 k13 l2 l3 l4 l5 l6 u1)
def J_Mod_readRun_97 (k13 : Int32 → Int32 → Int32 → Int32 → gU → Option (Int32 × gU)) (l2 : Int32) (l3 : Int32) (l4 : Int32) (l5 : Int32) (l6 : Int32) (u : gU) : Option (Int32 × gU) := J_Mod_readRun_101 k13 l2 l3 l4 l5 l6 (u 0 12) u
def J_Mod_readRun_59 (k13 : Int32 → Int32 → Int32 → Int32 → gU → Option (Int32 × gU)) (l2 : Int32) (l3 : Int32) (l4 : Int32) (l6 : Int32) (s0 : Int32) (u : gU) : Option (Int32 × gU) := bq (s0 = 0) (bd (f_Mod_jOf (u 0 12) u) fun x1 => bd (f_Mod_getMany x1 u) fun w2 => tk (w2.2) fun u3 => bq ((u3 0 20) = 0) (J_Mod_readRun_171 k13 l2 l3 l4 s0 w2.1 u3) (bq (((u3 0 1) - l4) ≤ w2.1) (J_Mod_readRun_171 k13 l2 l3 l4 s0 w2.1 u3) (J_Mod_readRun_172 k13 l2 l3 l4 s0 w2.1 1 u3))) (bq (((u 0 1) - l4) < l6) (J_Mod_readRun_97 k13 l2 l3 l4 s0 l6 u) (bq (31 ≤ (u 0 12)) (J_Mod_readRun_97 k13 l2 l3 l4 s0 l6 u) (J_Mod_readRun_101 k13 l2 l3 l4 s0 l6 ((u 0 12) + 1) u)))
def L_Mod_readRun_13 : Nat → Int32 → Int32 → Int32 → Int32 → gU → Option (Int32 × gU)
  | 0, _, _, _, _, _ => none
  | n + 1, l2, l3, l4, l5, u => bq ((u 0 20) = 0) (J_Mod_readRun_230 l2 l4 l5 u) (bq (l5 = 0) (J_Mod_readRun_230 l2 l4 l5 u) (bq ((u 0 1) ≤ l4) (J_Mod_readRun_230 l2 l4 l5 u) (bd (f_Mod_jOf (u 0 12) u) fun x1 => tk (1 <<< (x1 &&& 31)) fun x2 => bd (f_Mod_get u) fun w3 => tk (w3.2) fun u4 => bq (w3.1 = 1) (J_Mod_readRun_59 (L_Mod_readRun_13 n) l2 l3 l4 x2 1 u4) (J_Mod_readRun_59 (L_Mod_readRun_13 n) l2 l3 l4 x2 0 u4))))
theorem L_Mod_readRun_13_z (l2 : Int32) (l3 : Int32) (l4 : Int32) (l5 : Int32) (u : gU) : L_Mod_readRun_13 0 l2 l3 l4 l5 u = none := rfl
theorem L_Mod_readRun_13_s (n : Nat) (l2 : Int32) (l3 : Int32) (l4 : Int32) (l5 : Int32) (u : gU) : L_Mod_readRun_13 (n + 1) l2 l3 l4 l5 u = bq ((u 0 20) = 0) (J_Mod_readRun_230 l2 l4 l5 u) (bq (l5 = 0) (J_Mod_readRun_230 l2 l4 l5 u) (bq ((u 0 1) ≤ l4) (J_Mod_readRun_230 l2 l4 l5 u) (bd (f_Mod_jOf (u 0 12) u) fun x1 => tk (1 <<< (x1 &&& 31)) fun x2 => bd (f_Mod_get u) fun w3 => tk (w3.2) fun u4 => bq (w3.1 = 1) (J_Mod_readRun_59 (L_Mod_readRun_13 n) l2 l3 l4 x2 1 u4) (J_Mod_readRun_59 (L_Mod_readRun_13 n) l2 l3 l4 x2 0 u4)))) := rfl
def f_Mod_readRun (a1 : Int32) (a2 : Int32) (u : gU) : Option (Int32 × gU) := bd (f_Mod_before a1 a2 u) fun x1 => L_Mod_readRun_13 2000 a2 x1 a1 1 u
set_option maxHeartbeats 4000000 in
set_option maxRecDepth 100000 in
theorem c_Mod_readRun (l : Launch) (D : va_G) (cI : ClassId) (q0 : Nat) (q1 : Nat) (q2 : Nat) (q3 : Nat) (q4 : Nat) (q5 : Nat) (q6 : Nat) (q7 : Nat) (hd : dj [q0, q1, q2, q3, q4, q5, q6, q7]) (a1 : Int32) (a2 : Int32) (u : gU) (r : Int32) (v : gU) (hf : f_Mod_readRun a1 a2 u = some (r, v)) : Met l y_Mod_readRun (.code y_Mod_readRun b_Mod_readRun 8 (some .int) :: TS) ({ frames := 5, cells := 0, slots := 0, locals := 126 }) (va_Pc [.ref q0, .int a1, .int a2] (fun U => va_P D cls (wMod cI q0 q1 q2 q3 q4 q5 q6 q7 u) U.heap ∧ va_K D cls [(cI, .int)] U)) (va_Qi (fun x (_ : Unit) => x = r) (fun _ t => va_P D cls (wMod cI q0 q1 q2 q3 q4 q5 q6 q7 v) t.heap) (ad [q0, q1, q2, q3, q4, q5, q6, q7])) 0 0 (ad [q0, q1, q2, q3, q4, q5, q6, q7]) := by
  refine ct_of (by decide +kernel) (Nat.le_of_ble_eq_true rfl) ?_
  intro p e s m below meth c ls hx hb hml hr hlocks hown hw hP hK hl
  have hS : va_S (ad [q0, q1, q2, q3, q4, q5, q6, q7]) s.heap s.heap [] := va_S.rf
  have hD : ∀ v, va_D (ad [q0, q1, q2, q3, q4, q5, q6, q7]) (wMod cI q0 q1 q2 q3 q4 q5 q6 q7 v) := fun _ => dj_D rfl hd
  have hl : lv_has ls 8 [(0, .ref q0), (1, .int a1), (2, .int a2)] := hl
  have hP : va_P D cls (wMod cI q0 q1 q2 q3 q4 q5 q6 q7 u) s.heap := hP
  have j230 : ∀ (ls : Array Slot) (H : Heap) (locs : List Loc) (l2 : Int32) (l4 : Int32) (l5 : Int32) (u : gU), lv_has ls 8 [(0, .ref q0), (2, .int l2), (4, .int l4), (5, .int l5)] → va_P D cls (wMod cI q0 q1 q2 q3 q4 q5 q6 q7 u) H → va_S (ad [q0, q1, q2, q3, q4, q5, q6, q7]) s.heap H locs → J_Mod_readRun_230 l2 l4 l5 u = some (r, v) → W p l e ({ frames := 5, cells := 0, slots := 0, locals := 126 }) s m [.ref q0, .int a1, .int a2].toArray below meth c H locs 0 0 (MQ below (va_Qi (fun x (_ : Unit) => x = r) (fun _ t => va_P D cls (wMod cI q0 q1 q2 q3 q4 q5 q6 q7 v) t.heap) (ad [q0, q1, q2, q3, q4, q5, q6, q7])) [.ref q0, .int a1, .int a2].toArray s 0 0 (ad [q0, q1, q2, q3, q4, q5, q6, q7])) (F0 m 230 ls []) := by
    intro ls H locs l2 l4 l5 u hl hP hS hf
    unfold J_Mod_readRun_230 at hf
    refine lv_iload hx hb d_Mod_readRun_230 (lv_at hl 3 rfl) ?_
    refine lv_if_ne (tgt := 242) hx hb d_Mod_readRun_232 (by decide) (fun hc => ?_) (fun hc => ?_)
    · have hf := bq_n hf hc
      refine lv_aload_n hx hb d_Mod_readRun_242 rfl (lv_at hl 0 rfl) ?_
      refine va_get (D := D) (ci := 7) (v := .int (u 0 1)) (C := R_Mod) (T := F_Mod) (N := 28) hx hb hw in_Mod hown hK hP 0 rfl rfl 1 (by decide) (hw _ m_455) (fun _ h9 => h9) rfl d_Mod_readRun_243 ?_
      exact rt_i (wMod cI q0 q1 q2 q3 q4 q5 q6 q7) hx hb hr hlocks hS hP hf d_Mod_readRun_246
    have hf := bq_t hf hc
    refine lv_aload_n hx hb d_Mod_readRun_235 rfl (lv_at hl 0 rfl) ?_
    refine va_get (D := D) (ci := 7) (v := .int (u 0 20)) (C := R_Mod) (T := F_Mod) (N := 28) hx hb hw in_Mod hown hK hP 0 rfl rfl 24 (by decide) (hw _ m_480) (fun _ h9 => h9) rfl d_Mod_readRun_236 ?_
    refine lv_if_ne (tgt := 247) hx hb d_Mod_readRun_239 (by decide) (fun hc => ?_) (fun hc => ?_)
    · have hf := bq_n hf hc
      refine lv_aload_n hx hb d_Mod_readRun_247 rfl (lv_at hl 0 rfl) ?_
      refine lv_iload hx hb d_Mod_readRun_248 (lv_at hl 2 rfl) ?_
      refine lv_iload_n hx hb d_Mod_readRun_250 rfl (lv_at hl 1 rfl) ?_
      refine lv_aload_n hx hb d_Mod_readRun_251 rfl (lv_at hl 0 rfl) ?_
      refine lv_aload_n hx hb d_Mod_readRun_252 rfl (lv_at hl 0 rfl) ?_
      refine va_get (D := D) (ci := 7) (v := .int (u 0 12)) (C := R_Mod) (T := F_Mod) (N := 28) hx hb hw in_Mod hown hK hP 0 rfl rfl 15 (by decide) (hw _ m_448) (fun _ h9 => h9) rfl d_Mod_readRun_253 ?_
      have hC : [0, 1, 2, 3, 4, 5, 6, 7].map (fun i => (wMod cI q0 q1 q2 q3 q4 q5 q6 q7 u)[i]?) = (wMod cI q0 q1 q2 q3 q4 q5 q6 q7 u).map some := rfl
      obtain ⟨x1, hc, hf⟩ := bd_o hf
      refine ro_i (va_runV (As := [.int (u 0 12)]) (rest := [.int l2, .int l4, .ref q0]) ⟨hx, hb, hml, hown, hw⟩ (c_Mod_jOf l D cI q0 q1 q2 q3 q4 q5 q6 q7 (u 0 12) u x1 hc) (cwV 1 hw g_93 rfl rfl rfl (by decide +kernel) ⟨Nat.le_of_ble_eq_true rfl, Nat.le_of_ble_eq_true rfl⟩) (pre_V (P_sub hC hP) hK rfl rfl) rfl rfl hl.1 rfl (lv_room (Nat.le_of_ble_eq_true rfl)) d_Mod_readRun_256 ⟨Nat.le_of_ble_eq_true rfl, Nat.le_of_ble_eq_true rfl⟩) hS hP (fun H locs hP hS => ?_)
      have hC : [0, 1, 2, 3, 4, 5, 6, 7].map (fun i => (wMod cI q0 q1 q2 q3 q4 q5 q6 q7 u)[i]?) = (wMod cI q0 q1 q2 q3 q4 q5 q6 q7 u).map some := rfl
      obtain ⟨w2, hc, hf⟩ := bd_o hf
      refine rw_v (va_runV (As := [.int l4, .int l2, .int x1]) (rest := []) ⟨hx, hb, hml, hown, hw⟩ (c_Mod_endRun l D cI q0 q1 q2 q3 q4 q5 q6 q7 (dj_sub hd [0, 1, 2, 3, 4, 5, 6, 7] (by decide) rfl) l4 l2 x1 u w2 hc) (cwV 3 hw g_94 rfl rfl rfl (by decide +kernel) ⟨Nat.le_of_ble_eq_true rfl, Nat.le_of_ble_eq_true rfl⟩) (pre_V (P_sub hC hP) hK rfl rfl) rfl rfl hl.1 rfl (lv_room (Nat.le_of_ble_eq_true rfl)) d_Mod_readRun_259 ⟨Nat.le_of_ble_eq_true rfl, Nat.le_of_ble_eq_true rfl⟩) hS hP (hD _) hC rfl rfl (fun H locs hP hS => ?_)
      obtain ⟨u3, e_u3, hf⟩ := tk_o hf
      have hP : va_P D cls (wMod cI q0 q1 q2 q3 q4 q5 q6 q7 u3) H := by rw [e_u3]; exact hP
      refine lv_iload hx hb d_Mod_readRun_262 (lv_at hl 2 rfl) ?_
      refine lv_iconst (v := 1) hx hb d_Mod_readRun_264 (by decide) ?_
      refine lv_iadd hx hb d_Mod_readRun_265 ?_
      exact rt_i (wMod cI q0 q1 q2 q3 q4 q5 q6 q7) hx hb hr hlocks hS hP hf d_Mod_readRun_266
    have hf := bq_t hf hc
    refine lv_aload_n hx hb d_Mod_readRun_242 rfl (lv_at hl 0 rfl) ?_
    refine va_get (D := D) (ci := 7) (v := .int (u 0 1)) (C := R_Mod) (T := F_Mod) (N := 28) hx hb hw in_Mod hown hK hP 0 rfl rfl 1 (by decide) (hw _ m_455) (fun _ h9 => h9) rfl d_Mod_readRun_243 ?_
    exact rt_i (wMod cI q0 q1 q2 q3 q4 q5 q6 q7) hx hb hr hlocks hS hP hf d_Mod_readRun_246
  have lp13 : ∀ (n13 : Nat), ∀ (ls : Array Slot) (H : Heap) (locs : List Loc) (l2 : Int32) (l3 : Int32) (l4 : Int32) (l5 : Int32) (u : gU), lv_has ls 8 [(0, .ref q0), (2, .int l2), (3, .int l3), (4, .int l4), (5, .int l5)] → va_P D cls (wMod cI q0 q1 q2 q3 q4 q5 q6 q7 u) H → va_S (ad [q0, q1, q2, q3, q4, q5, q6, q7]) s.heap H locs → L_Mod_readRun_13 n13 l2 l3 l4 l5 u = some (r, v) → W p l e ({ frames := 5, cells := 0, slots := 0, locals := 126 }) s m [.ref q0, .int a1, .int a2].toArray below meth c H locs 0 0 (MQ below (va_Qi (fun x (_ : Unit) => x = r) (fun _ t => va_P D cls (wMod cI q0 q1 q2 q3 q4 q5 q6 q7 v) t.heap) (ad [q0, q1, q2, q3, q4, q5, q6, q7])) [.ref q0, .int a1, .int a2].toArray s 0 0 (ad [q0, q1, q2, q3, q4, q5, q6, q7])) (F0 m 13 ls []) := by
    intro n13
    induction n13 with
    | zero =>
      intro ls H locs l2 l3 l4 l5 u hl hP hS hf
      rw [L_Mod_readRun_13_z] at hf
      cases hf
    | succ n13 ih13 =>
      have lp178 : ∀ (n178 : Nat), ∀ (ls : Array Slot) (H : Heap) (locs : List Loc) (l2 : Int32) (l3 : Int32) (l4 : Int32) (l5 : Int32) (l6 : Int32) (l7 : Int32) (u : gU), lv_has ls 8 [(0, .ref q0), (2, .int l2), (3, .int l3), (4, .int l4), (5, .int l5), (6, .int l6), (7, .int l7)] → va_P D cls (wMod cI q0 q1 q2 q3 q4 q5 q6 q7 u) H → va_S (ad [q0, q1, q2, q3, q4, q5, q6, q7]) s.heap H locs → L_Mod_readRun_178 (L_Mod_readRun_13 n13) n178 l2 l3 l4 l5 l6 l7 u = some (r, v) → W p l e ({ frames := 5, cells := 0, slots := 0, locals := 126 }) s m [.ref q0, .int a1, .int a2].toArray below meth c H locs 0 0 (MQ below (va_Qi (fun x (_ : Unit) => x = r) (fun _ t => va_P D cls (wMod cI q0 q1 q2 q3 q4 q5 q6 q7 v) t.heap) (ad [q0, q1, q2, q3, q4, q5, q6, q7])) [.ref q0, .int a1, .int a2].toArray s 0 0 (ad [q0, q1, q2, q3, q4, q5, q6, q7])) (F0 m 178 ls []) := by
        intro n178
        induction n178 with
        | zero =>
          intro ls H locs l2 l3 l4 l5 l6 l7 u hl hP hS hf
          rw [L_Mod_readRun_178_z] at hf
          cases hf
        | succ n178 ih178 =>
          intro ls H locs l2 l3 l4 l5 l6 l7 u hl hP hS hf
          rw [L_Mod_readRun_178_s] at hf
          refine lv_iload hx hb d_Mod_readRun_178 (lv_at hl 6 rfl) ?_
          refine lv_iload hx hb d_Mod_readRun_180 (lv_at hl 5 rfl) ?_
          refine lv_icmp_ge (tgt := 227) hx hb d_Mod_readRun_182 (by decide) (fun hc => ?_) (fun hc => ?_)
          · have hf := bq_t hf hc
            refine lv_goto (tgt := 13) hx hb d_Mod_readRun_227 (by decide) ?_
            exact ih13 _ _ _ l2 l3 l4 l5 u (lv_sub hl [0, 1, 2, 3, 4] rfl) hP hS hf
          have hf := bq_n hf hc
          refine lv_aload_n hx hb d_Mod_readRun_185 rfl (lv_at hl 0 rfl) ?_
          refine va_get (D := D) (ci := 7) (v := .int (u 0 20)) (C := R_Mod) (T := F_Mod) (N := 28) hx hb hw in_Mod hown hK hP 0 rfl rfl 24 (by decide) (hw _ m_480) (fun _ h9 => h9) rfl d_Mod_readRun_186 ?_
          refine lv_if_eq (tgt := 227) hx hb d_Mod_readRun_189 (by decide) (fun hc => ?_) (fun hc => ?_)
          · have hf := bq_t hf hc
            refine lv_goto (tgt := 13) hx hb d_Mod_readRun_227 (by decide) ?_
            exact ih13 _ _ _ l2 l3 l4 l5 u (lv_sub hl [0, 1, 2, 3, 4] rfl) hP hS hf
          have hf := bq_n hf hc
          refine lv_aload_n hx hb d_Mod_readRun_192 rfl (lv_at hl 0 rfl) ?_
          refine va_get (D := D) (ci := 7) (v := .ref q2) (C := R_Mod) (T := F_Mod) (N := 28) hx hb hw in_Mod hown hK hP 0 rfl rfl 13 (by decide) (hw _ m_447) (fun _ h9 => h9) rfl d_Mod_readRun_193 ?_
          refine lv_bipush (v := 8) hx hb d_Mod_readRun_196 (by decide) ?_
          refine lv_iload_n hx hb d_Mod_readRun_198 rfl (lv_at hl 1 rfl) ?_
          refine lv_imul hx hb d_Mod_readRun_199 ?_
          refine lv_iload hx hb d_Mod_readRun_200 (lv_at hl 3 rfl) ?_
          refine lv_iadd hx hb d_Mod_readRun_202 ?_
          refine lv_iload_n hx hb d_Mod_readRun_203 rfl (lv_at hl 2 rfl) ?_
          obtain ⟨h1, hf⟩ := gd_o hf
          refine va_iast hx hb hK hP (hD _) hS 2 0 rfl rfl (ix_in h1) d_Mod_readRun_204 (fun H locs hP _ hS => ?_)
          obtain ⟨u2, e_u2, hf⟩ := tk_o hf
          have hP : va_P D cls (wMod cI q0 q1 q2 q3 q4 q5 q6 q7 u2) H := by rw [e_u2]; exact hP
          refine lv_aload_n hx hb d_Mod_readRun_205 rfl (lv_at hl 0 rfl) ?_
          refine va_get (D := D) (ci := 7) (v := .ref q1) (C := R_Mod) (T := F_Mod) (N := 28) hx hb hw in_Mod hown hK hP 0 rfl rfl 12 (by decide) (hw _ m_451) (fun _ h9 => h9) rfl d_Mod_readRun_206 ?_
          refine lv_bipush (v := 8) hx hb d_Mod_readRun_209 (by decide) ?_
          refine lv_iload_n hx hb d_Mod_readRun_211 rfl (lv_at hl 1 rfl) ?_
          refine lv_imul hx hb d_Mod_readRun_212 ?_
          refine lv_iload hx hb d_Mod_readRun_213 (lv_at hl 3 rfl) ?_
          refine lv_iadd hx hb d_Mod_readRun_215 ?_
          refine lv_iload_n hx hb d_Mod_readRun_216 rfl (lv_at hl 2 rfl) ?_
          obtain ⟨h3, hf⟩ := gd_o hf
          refine va_iast hx hb hK hP (hD _) hS 1 0 rfl rfl (ix_in h3) d_Mod_readRun_217 (fun H locs hP _ hS => ?_)
          obtain ⟨u4, e_u4, hf⟩ := tk_o hf
          have hP : va_P D cls (wMod cI q0 q1 q2 q3 q4 q5 q6 q7 u4) H := by rw [e_u4]; exact hP
          obtain ⟨x5, e_x5, hf⟩ := tk_o hf
          refine lv_iinc (v := x5) (lv' := [(4, .int x5), (0, .ref q0), (2, .int l2), (3, .int l3), (5, .int l5), (6, .int l6), (7, .int l7)]) hx hb d_Mod_readRun_218 hl (k := 3) rfl e_x5.symm (by decide) rfl (fun ls hl => ?_)
          obtain ⟨x6, e_x6, hf⟩ := tk_o hf
          refine lv_iinc (v := x6) (lv' := [(7, .int x6), (4, .int x5), (0, .ref q0), (2, .int l2), (3, .int l3), (5, .int l5), (6, .int l6)]) hx hb d_Mod_readRun_221 hl (k := 6) rfl e_x6.symm (by decide) rfl (fun ls hl => ?_)
          refine lv_goto (tgt := 178) hx hb d_Mod_readRun_224 (by decide) ?_
          exact ih178 _ _ _ l2 l3 x5 l5 l6 x6 u4 (lv_sub hl [2, 3, 4, 1, 5, 6, 0] rfl) hP hS hf
      have j172 : ∀ (ls : Array Slot) (H : Heap) (locs : List Loc) (l2 : Int32) (l3 : Int32) (l4 : Int32) (l5 : Int32) (l6 : Int32) (s1 : Int32) (u : gU), lv_has ls 8 [(0, .ref q0), (2, .int l2), (3, .int l3), (4, .int l4), (5, .int l5), (6, .int l6)] → va_P D cls (wMod cI q0 q1 q2 q3 q4 q5 q6 q7 u) H → va_S (ad [q0, q1, q2, q3, q4, q5, q6, q7]) s.heap H locs → J_Mod_readRun_172 (L_Mod_readRun_13 n13) l2 l3 l4 l5 l6 s1 u = some (r, v) → W p l e ({ frames := 5, cells := 0, slots := 0, locals := 126 }) s m [.ref q0, .int a1, .int a2].toArray below meth c H locs 0 0 (MQ below (va_Qi (fun x (_ : Unit) => x = r) (fun _ t => va_P D cls (wMod cI q0 q1 q2 q3 q4 q5 q6 q7 v) t.heap) (ad [q0, q1, q2, q3, q4, q5, q6, q7])) [.ref q0, .int a1, .int a2].toArray s 0 0 (ad [q0, q1, q2, q3, q4, q5, q6, q7])) (F0 m 172 ls [.int s1, .ref q0]) := by
        intro ls H locs l2 l3 l4 l5 l6 s1 u hl hP hS hf
        unfold J_Mod_readRun_172 at hf
        obtain ⟨h2, hf⟩ := gd_o hf
        refine va_put (D := D) (ci := 7) (v := .int s1) (ty := .boolean) (C := R_Mod) (T := F_Mod) (N := 28) hx hb hw in_Mod t_Mod t_Mod_ok n_Mod hown hK hP (hD _) hS 0 rfl rfl 24 (by decide) (hw _ m_480) (fun _ h9 => h9) rfl (by decide +kernel) (nzb h2) (fzb h2) (Nat.le_of_ble_eq_true rfl) d_Mod_readRun_172 (fun H locs hP _ hS => ?_)
        obtain ⟨u1, e_u1, hf⟩ := tk_o hf
        have hP : va_P D cls (wMod cI q0 q1 q2 q3 q4 q5 q6 q7 u1) H := by rw [e_u1]; exact hP
        refine lv_iconst (v := 0) hx hb d_Mod_readRun_175 (by decide) ?_
        refine lv_istore (lv' := [(7, .int 0), (0, .ref q0), (2, .int l2), (3, .int l3), (4, .int l4), (5, .int l5), (6, .int l6)]) hx hb d_Mod_readRun_176 hl (by decide) rfl (fun ls hl => ?_)
        exact lp178 2000 _ _ _ l2 l3 l4 l5 l6 0 u1 (lv_sub hl [1, 2, 3, 4, 5, 6, 0] rfl) hP hS hf
      have j171 : ∀ (ls : Array Slot) (H : Heap) (locs : List Loc) (l2 : Int32) (l3 : Int32) (l4 : Int32) (l5 : Int32) (l6 : Int32) (u : gU), lv_has ls 8 [(0, .ref q0), (2, .int l2), (3, .int l3), (4, .int l4), (5, .int l5), (6, .int l6)] → va_P D cls (wMod cI q0 q1 q2 q3 q4 q5 q6 q7 u) H → va_S (ad [q0, q1, q2, q3, q4, q5, q6, q7]) s.heap H locs → J_Mod_readRun_171 (L_Mod_readRun_13 n13) l2 l3 l4 l5 l6 u = some (r, v) → W p l e ({ frames := 5, cells := 0, slots := 0, locals := 126 }) s m [.ref q0, .int a1, .int a2].toArray below meth c H locs 0 0 (MQ below (va_Qi (fun x (_ : Unit) => x = r) (fun _ t => va_P D cls (wMod cI q0 q1 q2 q3 q4 q5 q6 q7 v) t.heap) (ad [q0, q1, q2, q3, q4, q5, q6, q7])) [.ref q0, .int a1, .int a2].toArray s 0 0 (ad [q0, q1, q2, q3, q4, q5, q6, q7])) (F0 m 171 ls [.ref q0]) := by
        intro ls H locs l2 l3 l4 l5 l6 u hl hP hS hf
        unfold J_Mod_readRun_171 at hf
        refine lv_iconst (v := 0) hx hb d_Mod_readRun_171 (by decide) ?_
        exact j172 _ _ _ l2 l3 l4 l5 l6 0 u (lv_sub hl [0, 1, 2, 3, 4, 5] rfl) hP hS hf
      have j128 : ∀ (ls : Array Slot) (H : Heap) (locs : List Loc) (l2 : Int32) (l3 : Int32) (l4 : Int32) (l5 : Int32) (s0 : Int32) (u : gU), lv_has ls 8 [(0, .ref q0), (2, .int l2), (3, .int l3), (4, .int l4), (5, .int l5)] → va_P D cls (wMod cI q0 q1 q2 q3 q4 q5 q6 q7 u) H → va_S (ad [q0, q1, q2, q3, q4, q5, q6, q7]) s.heap H locs → J_Mod_readRun_128 (L_Mod_readRun_13 n13) l2 l3 l4 l5 s0 u = some (r, v) → W p l e ({ frames := 5, cells := 0, slots := 0, locals := 126 }) s m [.ref q0, .int a1, .int a2].toArray below meth c H locs 0 0 (MQ below (va_Qi (fun x (_ : Unit) => x = r) (fun _ t => va_P D cls (wMod cI q0 q1 q2 q3 q4 q5 q6 q7 v) t.heap) (ad [q0, q1, q2, q3, q4, q5, q6, q7])) [.ref q0, .int a1, .int a2].toArray s 0 0 (ad [q0, q1, q2, q3, q4, q5, q6, q7])) (F0 m 128 ls [.int s0]) := by
        intro ls H locs l2 l3 l4 l5 s0 u hl hP hS hf
        unfold J_Mod_readRun_128 at hf
        refine lv_istore (lv' := [(6, .int s0), (0, .ref q0), (2, .int l2), (3, .int l3), (4, .int l4), (5, .int l5)]) hx hb d_Mod_readRun_128 hl (by decide) rfl (fun ls hl => ?_)
        refine lv_goto (tgt := 175) hx hb d_Mod_readRun_130 (by decide) ?_
        refine lv_iconst (v := 0) hx hb d_Mod_readRun_175 (by decide) ?_
        refine lv_istore (lv' := [(7, .int 0), (6, .int s0), (0, .ref q0), (2, .int l2), (3, .int l3), (4, .int l4), (5, .int l5)]) hx hb d_Mod_readRun_176 hl (by decide) rfl (fun ls hl => ?_)
        exact lp178 2000 _ _ _ l2 l3 l4 l5 s0 0 u (lv_sub hl [2, 3, 4, 5, 6, 1, 0] rfl) hP hS hf
      have j101 : ∀ (ls : Array Slot) (H : Heap) (locs : List Loc) (l2 : Int32) (l3 : Int32) (l4 : Int32) (l5 : Int32) (l6 : Int32) (s1 : Int32) (u : gU), lv_has ls 8 [(0, .ref q0), (2, .int l2), (3, .int l3), (4, .int l4), (5, .int l5), (6, .int l6)] → va_P D cls (wMod cI q0 q1 q2 q3 q4 q5 q6 q7 u) H → va_S (ad [q0, q1, q2, q3, q4, q5, q6, q7]) s.heap H locs → J_Mod_readRun_101 (L_Mod_readRun_13 n13) l2 l3 l4 l5 l6 s1 u = some (r, v) → W p l e ({ frames := 5, cells := 0, slots := 0, locals := 126 }) s m [.ref q0, .int a1, .int a2].toArray below meth c H locs 0 0 (MQ below (va_Qi (fun x (_ : Unit) => x = r) (fun _ t => va_P D cls (wMod cI q0 q1 q2 q3 q4 q5 q6 q7 v) t.heap) (ad [q0, q1, q2, q3, q4, q5, q6, q7])) [.ref q0, .int a1, .int a2].toArray s 0 0 (ad [q0, q1, q2, q3, q4, q5, q6, q7])) (F0 m 101 ls [.int s1, .ref q0]) := by
        intro ls H locs l2 l3 l4 l5 l6 s1 u hl hP hS hf
        unfold J_Mod_readRun_101 at hf
        refine va_put (D := D) (ci := 7) (v := .int s1) (ty := .int) (C := R_Mod) (T := F_Mod) (N := 28) hx hb hw in_Mod t_Mod t_Mod_ok n_Mod hown hK hP (hD _) hS 0 rfl rfl 15 (by decide) (hw _ m_448) (fun _ h9 => h9) rfl (by decide +kernel) rfl rfl (Nat.le_of_ble_eq_true rfl) d_Mod_readRun_101 (fun H locs hP _ hS => ?_)
        obtain ⟨u1, e_u1, hf⟩ := tk_o hf
        have hP : va_P D cls (wMod cI q0 q1 q2 q3 q4 q5 q6 q7 u1) H := by rw [e_u1]; exact hP
        refine lv_iload hx hb d_Mod_readRun_104 (lv_at hl 5 rfl) ?_
        refine lv_aload_n hx hb d_Mod_readRun_106 rfl (lv_at hl 0 rfl) ?_
        refine va_get (D := D) (ci := 7) (v := .int (u1 0 1)) (C := R_Mod) (T := F_Mod) (N := 28) hx hb hw in_Mod hown hK hP 0 rfl rfl 1 (by decide) (hw _ m_455) (fun _ h9 => h9) rfl d_Mod_readRun_107 ?_
        refine lv_iload hx hb d_Mod_readRun_110 (lv_at hl 3 rfl) ?_
        refine lv_isub hx hb d_Mod_readRun_112 ?_
        refine lv_icmp_gt (tgt := 121) hx hb d_Mod_readRun_113 (by decide) (fun hc => ?_) (fun hc => ?_)
        · have hf := bq_t hf hc
          refine lv_aload_n hx hb d_Mod_readRun_121 rfl (lv_at hl 0 rfl) ?_
          refine va_get (D := D) (ci := 7) (v := .int (u1 0 1)) (C := R_Mod) (T := F_Mod) (N := 28) hx hb hw in_Mod hown hK hP 0 rfl rfl 1 (by decide) (hw _ m_455) (fun _ h9 => h9) rfl d_Mod_readRun_122 ?_
          refine lv_iload hx hb d_Mod_readRun_125 (lv_at hl 3 rfl) ?_
          refine lv_isub hx hb d_Mod_readRun_127 ?_
          exact j128 _ _ _ l2 l3 l4 l5 ((u1 0 1) - l4) u1 (lv_sub hl [0, 1, 2, 3, 4] rfl) hP hS hf
        have hf := bq_n hf hc
        refine lv_iload hx hb d_Mod_readRun_116 (lv_at hl 5 rfl) ?_
        refine lv_goto (tgt := 128) hx hb d_Mod_readRun_118 (by decide) ?_
        exact j128 _ _ _ l2 l3 l4 l5 l6 u1 (lv_sub hl [0, 1, 2, 3, 4] rfl) hP hS hf
      have j97 : ∀ (ls : Array Slot) (H : Heap) (locs : List Loc) (l2 : Int32) (l3 : Int32) (l4 : Int32) (l5 : Int32) (l6 : Int32) (u : gU), lv_has ls 8 [(0, .ref q0), (2, .int l2), (3, .int l3), (4, .int l4), (5, .int l5), (6, .int l6)] → va_P D cls (wMod cI q0 q1 q2 q3 q4 q5 q6 q7 u) H → va_S (ad [q0, q1, q2, q3, q4, q5, q6, q7]) s.heap H locs → J_Mod_readRun_97 (L_Mod_readRun_13 n13) l2 l3 l4 l5 l6 u = some (r, v) → W p l e ({ frames := 5, cells := 0, slots := 0, locals := 126 }) s m [.ref q0, .int a1, .int a2].toArray below meth c H locs 0 0 (MQ below (va_Qi (fun x (_ : Unit) => x = r) (fun _ t => va_P D cls (wMod cI q0 q1 q2 q3 q4 q5 q6 q7 v) t.heap) (ad [q0, q1, q2, q3, q4, q5, q6, q7])) [.ref q0, .int a1, .int a2].toArray s 0 0 (ad [q0, q1, q2, q3, q4, q5, q6, q7])) (F0 m 97 ls [.ref q0]) := by
        intro ls H locs l2 l3 l4 l5 l6 u hl hP hS hf
        unfold J_Mod_readRun_97 at hf
        refine lv_aload_n hx hb d_Mod_readRun_97 rfl (lv_at hl 0 rfl) ?_
        refine va_get (D := D) (ci := 7) (v := .int (u 0 12)) (C := R_Mod) (T := F_Mod) (N := 28) hx hb hw in_Mod hown hK hP 0 rfl rfl 15 (by decide) (hw _ m_448) (fun _ h9 => h9) rfl d_Mod_readRun_98 ?_
        exact j101 _ _ _ l2 l3 l4 l5 l6 (u 0 12) u (lv_sub hl [0, 1, 2, 3, 4, 5] rfl) hP hS hf
      have j59 : ∀ (ls : Array Slot) (H : Heap) (locs : List Loc) (l2 : Int32) (l3 : Int32) (l4 : Int32) (l6 : Int32) (s0 : Int32) (u : gU), lv_has ls 8 [(0, .ref q0), (2, .int l2), (3, .int l3), (4, .int l4), (6, .int l6)] → va_P D cls (wMod cI q0 q1 q2 q3 q4 q5 q6 q7 u) H → va_S (ad [q0, q1, q2, q3, q4, q5, q6, q7]) s.heap H locs → J_Mod_readRun_59 (L_Mod_readRun_13 n13) l2 l3 l4 l6 s0 u = some (r, v) → W p l e ({ frames := 5, cells := 0, slots := 0, locals := 126 }) s m [.ref q0, .int a1, .int a2].toArray below meth c H locs 0 0 (MQ below (va_Qi (fun x (_ : Unit) => x = r) (fun _ t => va_P D cls (wMod cI q0 q1 q2 q3 q4 q5 q6 q7 v) t.heap) (ad [q0, q1, q2, q3, q4, q5, q6, q7])) [.ref q0, .int a1, .int a2].toArray s 0 0 (ad [q0, q1, q2, q3, q4, q5, q6, q7])) (F0 m 59 ls [.int s0]) := by
        intro ls H locs l2 l3 l4 l6 s0 u hl hP hS hf
        unfold J_Mod_readRun_59 at hf
        refine lv_istore (lv' := [(5, .int s0), (0, .ref q0), (2, .int l2), (3, .int l3), (4, .int l4), (6, .int l6)]) hx hb d_Mod_readRun_59 hl (by decide) rfl (fun ls hl => ?_)
        refine lv_iload hx hb d_Mod_readRun_61 (lv_at hl 0 rfl) ?_
        refine lv_if_eq (tgt := 133) hx hb d_Mod_readRun_63 (by decide) (fun hc => ?_) (fun hc => ?_)
        · have hf := bq_t hf hc
          refine lv_aload_n hx hb d_Mod_readRun_133 rfl (lv_at hl 1 rfl) ?_
          refine lv_aload_n hx hb d_Mod_readRun_134 rfl (lv_at hl 1 rfl) ?_
          refine lv_aload_n hx hb d_Mod_readRun_135 rfl (lv_at hl 1 rfl) ?_
          refine va_get (D := D) (ci := 7) (v := .int (u 0 12)) (C := R_Mod) (T := F_Mod) (N := 28) hx hb hw in_Mod hown hK hP 0 rfl rfl 15 (by decide) (hw _ m_448) (fun _ h9 => h9) rfl d_Mod_readRun_136 ?_
          have hC : [0, 1, 2, 3, 4, 5, 6, 7].map (fun i => (wMod cI q0 q1 q2 q3 q4 q5 q6 q7 u)[i]?) = (wMod cI q0 q1 q2 q3 q4 q5 q6 q7 u).map some := rfl
          obtain ⟨x1, hc, hf⟩ := bd_o hf
          refine ro_i (va_runV (As := [.int (u 0 12)]) (rest := [.ref q0]) ⟨hx, hb, hml, hown, hw⟩ (c_Mod_jOf l D cI q0 q1 q2 q3 q4 q5 q6 q7 (u 0 12) u x1 hc) (cwV 1 hw g_93 rfl rfl rfl (by decide +kernel) ⟨Nat.le_of_ble_eq_true rfl, Nat.le_of_ble_eq_true rfl⟩) (pre_V (P_sub hC hP) hK rfl rfl) rfl rfl hl.1 rfl (lv_room (Nat.le_of_ble_eq_true rfl)) d_Mod_readRun_139 ⟨Nat.le_of_ble_eq_true rfl, Nat.le_of_ble_eq_true rfl⟩) hS hP (fun H locs hP hS => ?_)
          have hC : [0, 1, 2, 3, 4, 5, 6, 7].map (fun i => (wMod cI q0 q1 q2 q3 q4 q5 q6 q7 u)[i]?) = (wMod cI q0 q1 q2 q3 q4 q5 q6 q7 u).map some := rfl
          obtain ⟨w2, hc, hf⟩ := bd_o hf
          refine rw_i (va_runV (As := [.int x1]) (rest := []) ⟨hx, hb, hml, hown, hw⟩ (c_Mod_getMany l D cI q0 q1 q2 q3 q4 q5 q6 q7 (dj_sub hd [0, 1, 2, 3, 4, 5, 6, 7] (by decide) rfl) x1 u w2.1 w2.2 hc) (cwV 1 hw g_74 rfl rfl rfl (by decide +kernel) ⟨Nat.le_of_ble_eq_true rfl, Nat.le_of_ble_eq_true rfl⟩) (pre_V (P_sub hC hP) hK rfl rfl) rfl rfl hl.1 rfl (lv_room (Nat.le_of_ble_eq_true rfl)) d_Mod_readRun_142 ⟨Nat.le_of_ble_eq_true rfl, Nat.le_of_ble_eq_true rfl⟩) hS hP (hD _) hC rfl rfl (fun H locs hP hS => ?_)
          obtain ⟨u3, e_u3, hf⟩ := tk_o hf
          have hP : va_P D cls (wMod cI q0 q1 q2 q3 q4 q5 q6 q7 u3) H := by rw [e_u3]; exact hP
          refine lv_istore (lv' := [(6, .int w2.1), (5, .int s0), (0, .ref q0), (2, .int l2), (3, .int l3), (4, .int l4)]) hx hb d_Mod_readRun_145 hl (by decide) rfl (fun ls hl => ?_)
          refine lv_aload_n hx hb d_Mod_readRun_147 rfl (lv_at hl 2 rfl) ?_
          refine lv_aload_n hx hb d_Mod_readRun_148 rfl (lv_at hl 2 rfl) ?_
          refine va_get (D := D) (ci := 7) (v := .int (u3 0 20)) (C := R_Mod) (T := F_Mod) (N := 28) hx hb hw in_Mod hown hK hP 0 rfl rfl 24 (by decide) (hw _ m_480) (fun _ h9 => h9) rfl d_Mod_readRun_149 ?_
          refine lv_if_eq (tgt := 171) hx hb d_Mod_readRun_152 (by decide) (fun hc => ?_) (fun hc => ?_)
          · have hf := bq_t hf hc
            exact j171 _ _ _ l2 l3 l4 s0 w2.1 u3 (lv_sub hl [2, 3, 4, 5, 1, 0] rfl) hP hS hf
          have hf := bq_n hf hc
          refine lv_iload hx hb d_Mod_readRun_155 (lv_at hl 0 rfl) ?_
          refine lv_aload_n hx hb d_Mod_readRun_157 rfl (lv_at hl 2 rfl) ?_
          refine va_get (D := D) (ci := 7) (v := .int (u3 0 1)) (C := R_Mod) (T := F_Mod) (N := 28) hx hb hw in_Mod hown hK hP 0 rfl rfl 1 (by decide) (hw _ m_455) (fun _ h9 => h9) rfl d_Mod_readRun_158 ?_
          refine lv_iload hx hb d_Mod_readRun_161 (lv_at hl 5 rfl) ?_
          refine lv_isub hx hb d_Mod_readRun_163 ?_
          refine lv_icmp_ge (tgt := 171) hx hb d_Mod_readRun_164 (by decide) (fun hc => ?_) (fun hc => ?_)
          · have hf := bq_t hf hc
            exact j171 _ _ _ l2 l3 l4 s0 w2.1 u3 (lv_sub hl [2, 3, 4, 5, 1, 0] rfl) hP hS hf
          have hf := bq_n hf hc
          refine lv_iconst (v := 1) hx hb d_Mod_readRun_167 (by decide) ?_
          refine lv_goto (tgt := 172) hx hb d_Mod_readRun_168 (by decide) ?_
          exact j172 _ _ _ l2 l3 l4 s0 w2.1 1 u3 (lv_sub hl [2, 3, 4, 5, 1, 0] rfl) hP hS hf
        have hf := bq_n hf hc
        refine lv_aload_n hx hb d_Mod_readRun_66 rfl (lv_at hl 1 rfl) ?_
        refine lv_iload hx hb d_Mod_readRun_67 (lv_at hl 5 rfl) ?_
        refine lv_aload_n hx hb d_Mod_readRun_69 rfl (lv_at hl 1 rfl) ?_
        refine va_get (D := D) (ci := 7) (v := .int (u 0 1)) (C := R_Mod) (T := F_Mod) (N := 28) hx hb hw in_Mod hown hK hP 0 rfl rfl 1 (by decide) (hw _ m_455) (fun _ h9 => h9) rfl d_Mod_readRun_70 ?_
        refine lv_iload hx hb d_Mod_readRun_73 (lv_at hl 4 rfl) ?_
        refine lv_isub hx hb d_Mod_readRun_75 ?_
        refine lv_icmp_gt (tgt := 97) hx hb d_Mod_readRun_76 (by decide) (fun hc => ?_) (fun hc => ?_)
        · have hf := bq_t hf hc
          exact j97 _ _ _ l2 l3 l4 s0 l6 u (lv_sub hl [1, 2, 3, 4, 0, 5] rfl) hP hS hf
        have hf := bq_n hf hc
        refine lv_aload_n hx hb d_Mod_readRun_79 rfl (lv_at hl 1 rfl) ?_
        refine va_get (D := D) (ci := 7) (v := .int (u 0 12)) (C := R_Mod) (T := F_Mod) (N := 28) hx hb hw in_Mod hown hK hP 0 rfl rfl 15 (by decide) (hw _ m_448) (fun _ h9 => h9) rfl d_Mod_readRun_80 ?_
        refine lv_bipush (v := 31) hx hb d_Mod_readRun_83 (by decide) ?_
        refine lv_icmp_ge (tgt := 97) hx hb d_Mod_readRun_85 (by decide) (fun hc => ?_) (fun hc => ?_)
        · have hf := bq_t hf hc
          exact j97 _ _ _ l2 l3 l4 s0 l6 u (lv_sub hl [1, 2, 3, 4, 0, 5] rfl) hP hS hf
        have hf := bq_n hf hc
        refine lv_aload_n hx hb d_Mod_readRun_88 rfl (lv_at hl 1 rfl) ?_
        refine va_get (D := D) (ci := 7) (v := .int (u 0 12)) (C := R_Mod) (T := F_Mod) (N := 28) hx hb hw in_Mod hown hK hP 0 rfl rfl 15 (by decide) (hw _ m_448) (fun _ h9 => h9) rfl d_Mod_readRun_89 ?_
        refine lv_iconst (v := 1) hx hb d_Mod_readRun_92 (by decide) ?_
        refine lv_iadd hx hb d_Mod_readRun_93 ?_
        refine lv_goto (tgt := 101) hx hb d_Mod_readRun_94 (by decide) ?_
        exact j101 _ _ _ l2 l3 l4 s0 l6 ((u 0 12) + 1) u (lv_sub hl [1, 2, 3, 4, 0, 5] rfl) hP hS hf
      intro ls H locs l2 l3 l4 l5 u hl hP hS hf
      rw [L_Mod_readRun_13_s] at hf
      refine lv_aload_n hx hb d_Mod_readRun_13 rfl (lv_at hl 0 rfl) ?_
      refine va_get (D := D) (ci := 7) (v := .int (u 0 20)) (C := R_Mod) (T := F_Mod) (N := 28) hx hb hw in_Mod hown hK hP 0 rfl rfl 24 (by decide) (hw _ m_480) (fun _ h9 => h9) rfl d_Mod_readRun_14 ?_
      refine lv_if_eq (tgt := 230) hx hb d_Mod_readRun_17 (by decide) (fun hc => ?_) (fun hc => ?_)
      · have hf := bq_t hf hc
        exact j230 _ _ _ l2 l4 l5 u (lv_sub hl [0, 1, 3, 4] rfl) hP hS hf
      have hf := bq_n hf hc
      refine lv_iload hx hb d_Mod_readRun_20 (lv_at hl 4 rfl) ?_
      refine lv_if_eq (tgt := 230) hx hb d_Mod_readRun_22 (by decide) (fun hc => ?_) (fun hc => ?_)
      · have hf := bq_t hf hc
        exact j230 _ _ _ l2 l4 l5 u (lv_sub hl [0, 1, 3, 4] rfl) hP hS hf
      have hf := bq_n hf hc
      refine lv_iload hx hb d_Mod_readRun_25 (lv_at hl 3 rfl) ?_
      refine lv_aload_n hx hb d_Mod_readRun_27 rfl (lv_at hl 0 rfl) ?_
      refine va_get (D := D) (ci := 7) (v := .int (u 0 1)) (C := R_Mod) (T := F_Mod) (N := 28) hx hb hw in_Mod hown hK hP 0 rfl rfl 1 (by decide) (hw _ m_455) (fun _ h9 => h9) rfl d_Mod_readRun_28 ?_
      refine lv_icmp_ge (tgt := 230) hx hb d_Mod_readRun_31 (by decide) (fun hc => ?_) (fun hc => ?_)
      · have hf := bq_t hf hc
        exact j230 _ _ _ l2 l4 l5 u (lv_sub hl [0, 1, 3, 4] rfl) hP hS hf
      have hf := bq_n hf hc
      refine lv_iconst (v := 1) hx hb d_Mod_readRun_34 (by decide) ?_
      refine lv_aload_n hx hb d_Mod_readRun_35 rfl (lv_at hl 0 rfl) ?_
      refine lv_aload_n hx hb d_Mod_readRun_36 rfl (lv_at hl 0 rfl) ?_
      refine va_get (D := D) (ci := 7) (v := .int (u 0 12)) (C := R_Mod) (T := F_Mod) (N := 28) hx hb hw in_Mod hown hK hP 0 rfl rfl 15 (by decide) (hw _ m_448) (fun _ h9 => h9) rfl d_Mod_readRun_37 ?_
      have hC : [0, 1, 2, 3, 4, 5, 6, 7].map (fun i => (wMod cI q0 q1 q2 q3 q4 q5 q6 q7 u)[i]?) = (wMod cI q0 q1 q2 q3 q4 q5 q6 q7 u).map some := rfl
      obtain ⟨x1, hc, hf⟩ := bd_o hf
      refine ro_i (va_runV (As := [.int (u 0 12)]) (rest := [.int 1]) ⟨hx, hb, hml, hown, hw⟩ (c_Mod_jOf l D cI q0 q1 q2 q3 q4 q5 q6 q7 (u 0 12) u x1 hc) (cwV 1 hw g_93 rfl rfl rfl (by decide +kernel) ⟨Nat.le_of_ble_eq_true rfl, Nat.le_of_ble_eq_true rfl⟩) (pre_V (P_sub hC hP) hK rfl rfl) rfl rfl hl.1 rfl (lv_room (Nat.le_of_ble_eq_true rfl)) d_Mod_readRun_40 ⟨Nat.le_of_ble_eq_true rfl, Nat.le_of_ble_eq_true rfl⟩) hS hP (fun H locs hP hS => ?_)
      refine lv_ishl hx hb d_Mod_readRun_43 ?_
      refine lv_topi (fun x2 e_x2 => ?_)
      have hf := tk_e hf e_x2
      refine lv_istore (lv' := [(6, .int x2), (0, .ref q0), (2, .int l2), (3, .int l3), (4, .int l4), (5, .int l5)]) hx hb d_Mod_readRun_44 hl (by decide) rfl (fun ls hl => ?_)
      refine lv_aload_n hx hb d_Mod_readRun_46 rfl (lv_at hl 1 rfl) ?_
      have hC : [0, 1, 2, 3, 4, 5, 6, 7].map (fun i => (wMod cI q0 q1 q2 q3 q4 q5 q6 q7 u)[i]?) = (wMod cI q0 q1 q2 q3 q4 q5 q6 q7 u).map some := rfl
      obtain ⟨w3, hc, hf⟩ := bd_o hf
      refine rw_i (va_runV (As := []) (rest := []) ⟨hx, hb, hml, hown, hw⟩ (c_Mod_get l D cI q0 q1 q2 q3 q4 q5 q6 q7 (dj_sub hd [0, 1, 2, 3, 4, 5, 6, 7] (by decide) rfl) u w3.1 w3.2 hc) (cwV 0 hw g_72 rfl rfl rfl (by decide +kernel) ⟨Nat.le_of_ble_eq_true rfl, Nat.le_of_ble_eq_true rfl⟩) (pre_V (P_sub hC hP) hK rfl rfl) rfl rfl hl.1 rfl (lv_room (Nat.le_of_ble_eq_true rfl)) d_Mod_readRun_47 ⟨Nat.le_of_ble_eq_true rfl, Nat.le_of_ble_eq_true rfl⟩) hS hP (hD _) hC rfl rfl (fun H locs hP hS => ?_)
      obtain ⟨u4, e_u4, hf⟩ := tk_o hf
      have hP : va_P D cls (wMod cI q0 q1 q2 q3 q4 q5 q6 q7 u4) H := by rw [e_u4]; exact hP
      refine lv_iconst (v := 1) hx hb d_Mod_readRun_50 (by decide) ?_
      refine lv_icmp_ne (tgt := 58) hx hb d_Mod_readRun_51 (by decide) (fun hc => ?_) (fun hc => ?_)
      · have hf := bq_n hf hc
        refine lv_iconst (v := 0) hx hb d_Mod_readRun_58 (by decide) ?_
        exact j59 _ _ _ l2 l3 l4 x2 0 u4 (lv_sub hl [1, 2, 3, 4, 0] rfl) hP hS hf
      have hf := bq_t hf hc
      refine lv_iconst (v := 1) hx hb d_Mod_readRun_54 (by decide) ?_
      refine lv_goto (tgt := 59) hx hb d_Mod_readRun_55 (by decide) ?_
      exact j59 _ _ _ l2 l3 l4 x2 1 u4 (lv_sub hl [1, 2, 3, 4, 0] rfl) hP hS hf
  unfold f_Mod_readRun at hf
  refine lv_aload_n hx hb d_Mod_readRun_0 rfl (lv_at hl 0 rfl) ?_
  refine lv_iload_n hx hb d_Mod_readRun_1 rfl (lv_at hl 1 rfl) ?_
  refine lv_iload_n hx hb d_Mod_readRun_2 rfl (lv_at hl 2 rfl) ?_
  have hC : [0, 1, 2, 3, 4, 5, 6, 7].map (fun i => (wMod cI q0 q1 q2 q3 q4 q5 q6 q7 u)[i]?) = (wMod cI q0 q1 q2 q3 q4 q5 q6 q7 u).map some := rfl
  obtain ⟨x1, hc, hf⟩ := bd_o hf
  refine ro_i (va_runV (As := [.int a1, .int a2]) (rest := []) ⟨hx, hb, hml, hown, hw⟩ (c_Mod_before l D cI q0 q1 q2 q3 q4 q5 q6 q7 a1 a2 u x1 hc) (cwV 2 hw g_77 rfl rfl rfl (by decide +kernel) ⟨Nat.le_of_ble_eq_true rfl, Nat.le_of_ble_eq_true rfl⟩) (pre_V (P_sub hC hP) hK rfl rfl) rfl rfl hl.1 rfl (lv_room (Nat.le_of_ble_eq_true rfl)) d_Mod_readRun_3 ⟨Nat.le_of_ble_eq_true rfl, Nat.le_of_ble_eq_true rfl⟩) hS hP (fun H locs hP hS => ?_)
  refine lv_istore_n (lv' := [(3, .int x1), (0, .ref q0), (1, .int a1), (2, .int a2)]) hx hb d_Mod_readRun_6 rfl hl (by decide) rfl (fun ls hl => ?_)
  refine lv_iload_n hx hb d_Mod_readRun_7 rfl (lv_at hl 2 rfl) ?_
  refine lv_istore (lv' := [(4, .int a1), (3, .int x1), (0, .ref q0), (1, .int a1), (2, .int a2)]) hx hb d_Mod_readRun_8 hl (by decide) rfl (fun ls hl => ?_)
  refine lv_iconst (v := 1) hx hb d_Mod_readRun_10 (by decide) ?_
  refine lv_istore (lv' := [(5, .int 1), (4, .int a1), (3, .int x1), (0, .ref q0), (1, .int a1), (2, .int a2)]) hx hb d_Mod_readRun_11 hl (by decide) rfl (fun ls hl => ?_)
  exact lp13 2000 _ _ _ a2 x1 a1 1 u (lv_sub hl [3, 5, 2, 1, 0] rfl) hP hS hf
def J_Mod_walk_96 (k2 : Int32 → gU → Option (gU)) (k19 : Int32 → Int32 → gU → Option (gU)) (l1 : Int32) (l2 : Int32) (s0 : Int32) (u : gU) : Option (gU) := bq (s0 = 0) (bd (f_Mod_regular l2 l1 u) fun w1 => tk (w1) fun u2 => tk (l2 + 1) fun x3 => k19 l1 x3 u2) (bq ((u 0 16) = 0) (bd (f_Mod_writeRun l2 l1 u) fun w4 => tk (w4.2) fun u5 => k19 l1 w4.1 u5) (bd (f_Mod_readRun l2 l1 u) fun w6 => tk (w6.2) fun u7 => k19 l1 w6.1 u7))
def J_Mod_walk_95 (k2 : Int32 → gU → Option (gU)) (k19 : Int32 → Int32 → gU → Option (gU)) (l1 : Int32) (l2 : Int32) (u : gU) : Option (gU) := J_Mod_walk_96 k2 k19 l1 l2 0 u
def L_Mod_walk_19 (k2 : Int32 → gU → Option (gU)) : Nat → Int32 → Int32 → gU → Option (gU)
  | 0, _, _, _ => none
  | n + 1, l1, l2, u => bq ((u 0 1) ≤ l2) (tk (l1 + 1) fun x1 => k2 x1 u) (bq ((u 0 20) = 0) (tk (l1 + 1) fun x2 => k2 x2 u) (bd (f_Mod_above l2 l1 u) fun x3 => bd (f_Mod_corner l2 l1 u) fun x4 => bd (f_Mod_beyond l2 l1 u) fun x5 => bd (f_Mod_isNear (x3 - x5) u) fun x6 => bq (x6 = 0) (J_Mod_walk_95 k2 (L_Mod_walk_19 k2 n) l1 l2 u) (bd (f_Mod_isNear (x4 - x3) u) fun x7 => bq (x7 = 0) (J_Mod_walk_95 k2 (L_Mod_walk_19 k2 n) l1 l2 u) (bd (f_Mod_before l2 l1 u) fun x8 => bd (f_Mod_isNear (x8 - x4) u) fun x9 => bq (x9 = 0) (J_Mod_walk_95 k2 (L_Mod_walk_19 k2 n) l1 l2 u) (J_Mod_walk_96 k2 (L_Mod_walk_19 k2 n) l1 l2 1 u)))))
theorem L_Mod_walk_19_z (k2 : Int32 → gU → Option (gU)) (l1 : Int32) (l2 : Int32) (u : gU) : L_Mod_walk_19 k2 0 l1 l2 u = none := rfl
theorem L_Mod_walk_19_s (k2 : Int32 → gU → Option (gU)) (n : Nat) (l1 : Int32) (l2 : Int32) (u : gU) : L_Mod_walk_19 k2 (n + 1) l1 l2 u = bq ((u 0 1) ≤ l2) (tk (l1 + 1) fun x1 => k2 x1 u) (bq ((u 0 20) = 0) (tk (l1 + 1) fun x2 => k2 x2 u) (bd (f_Mod_above l2 l1 u) fun x3 => bd (f_Mod_corner l2 l1 u) fun x4 => bd (f_Mod_beyond l2 l1 u) fun x5 => bd (f_Mod_isNear (x3 - x5) u) fun x6 => bq (x6 = 0) (J_Mod_walk_95 k2 (L_Mod_walk_19 k2 n) l1 l2 u) (bd (f_Mod_isNear (x4 - x3) u) fun x7 => bq (x7 = 0) (J_Mod_walk_95 k2 (L_Mod_walk_19 k2 n) l1 l2 u) (bd (f_Mod_before l2 l1 u) fun x8 => bd (f_Mod_isNear (x8 - x4) u) fun x9 => bq (x9 = 0) (J_Mod_walk_95 k2 (L_Mod_walk_19 k2 n) l1 l2 u) (J_Mod_walk_96 k2 (L_Mod_walk_19 k2 n) l1 l2 1 u))))) := rfl
def L_Mod_walk_2 : Nat → Int32 → gU → Option (gU)
  | 0, _, _ => none
  | n + 1, l1, u => bq ((u 0 2) ≤ l1) (some u) (bq ((u 0 20) = 0) (some u) (L_Mod_walk_19 (L_Mod_walk_2 n) 2000 l1 0 u))
theorem L_Mod_walk_2_z (l1 : Int32) (u : gU) : L_Mod_walk_2 0 l1 u = none := rfl
theorem L_Mod_walk_2_s (n : Nat) (l1 : Int32) (u : gU) : L_Mod_walk_2 (n + 1) l1 u = bq ((u 0 2) ≤ l1) (some u) (bq ((u 0 20) = 0) (some u) (L_Mod_walk_19 (L_Mod_walk_2 n) 2000 l1 0 u)) := rfl
def f_Mod_walk (u : gU) : Option (gU) := L_Mod_walk_2 2000 0 u
set_option maxHeartbeats 4000000 in
set_option maxRecDepth 100000 in
theorem c_Mod_walk (l : Launch) (D : va_G) (cI : ClassId) (q0 : Nat) (q1 : Nat) (q2 : Nat) (q3 : Nat) (q4 : Nat) (q5 : Nat) (q6 : Nat) (q7 : Nat) (hd : dj [q0, q1, q2, q3, q4, q5, q6, q7]) (u : gU) (v : gU) (hf : f_Mod_walk u = some v) : Met l y_Mod_walk (.code y_Mod_walk b_Mod_walk 6 none :: TS) ({ frames := 6, cells := 0, slots := 0, locals := 153 }) (va_Pc [.ref q0] (fun U => va_P D cls (wMod cI q0 q1 q2 q3 q4 q5 q6 q7 u) U.heap ∧ va_K D cls [(cI, .int)] U)) (va_Qv (fun (_ : Unit) => True) (fun _ t => va_P D cls (wMod cI q0 q1 q2 q3 q4 q5 q6 q7 v) t.heap) (ad [q0, q1, q2, q3, q4, q5, q6, q7])) 0 0 (ad [q0, q1, q2, q3, q4, q5, q6, q7]) := by
  refine ct_of (by decide +kernel) (Nat.le_of_ble_eq_true rfl) ?_
  intro p e s m below meth c ls hx hb hml hr hlocks hown hw hP hK hl
  have hS : va_S (ad [q0, q1, q2, q3, q4, q5, q6, q7]) s.heap s.heap [] := va_S.rf
  have hD : ∀ v, va_D (ad [q0, q1, q2, q3, q4, q5, q6, q7]) (wMod cI q0 q1 q2 q3 q4 q5 q6 q7 v) := fun _ => dj_D rfl hd
  have hl : lv_has ls 6 [(0, .ref q0)] := hl
  have hP : va_P D cls (wMod cI q0 q1 q2 q3 q4 q5 q6 q7 u) s.heap := hP
  have lp2 : ∀ (n2 : Nat), ∀ (ls : Array Slot) (H : Heap) (locs : List Loc) (l1 : Int32) (u : gU), lv_has ls 6 [(0, .ref q0), (1, .int l1)] → va_P D cls (wMod cI q0 q1 q2 q3 q4 q5 q6 q7 u) H → va_S (ad [q0, q1, q2, q3, q4, q5, q6, q7]) s.heap H locs → L_Mod_walk_2 n2 l1 u = some v → W p l e ({ frames := 6, cells := 0, slots := 0, locals := 153 }) s m [.ref q0].toArray below meth c H locs 0 0 (MQ below (va_Qv (fun (_ : Unit) => True) (fun _ t => va_P D cls (wMod cI q0 q1 q2 q3 q4 q5 q6 q7 v) t.heap) (ad [q0, q1, q2, q3, q4, q5, q6, q7])) [.ref q0].toArray s 0 0 (ad [q0, q1, q2, q3, q4, q5, q6, q7])) (F0 m 2 ls []) := by
    intro n2
    induction n2 with
    | zero =>
      intro ls H locs l1 u hl hP hS hf
      rw [L_Mod_walk_2_z] at hf
      cases hf
    | succ n2 ih2 =>
      have lp19 : ∀ (n19 : Nat), ∀ (ls : Array Slot) (H : Heap) (locs : List Loc) (l1 : Int32) (l2 : Int32) (u : gU), lv_has ls 6 [(0, .ref q0), (1, .int l1), (2, .int l2)] → va_P D cls (wMod cI q0 q1 q2 q3 q4 q5 q6 q7 u) H → va_S (ad [q0, q1, q2, q3, q4, q5, q6, q7]) s.heap H locs → L_Mod_walk_19 (L_Mod_walk_2 n2) n19 l1 l2 u = some v → W p l e ({ frames := 6, cells := 0, slots := 0, locals := 153 }) s m [.ref q0].toArray below meth c H locs 0 0 (MQ below (va_Qv (fun (_ : Unit) => True) (fun _ t => va_P D cls (wMod cI q0 q1 q2 q3 q4 q5 q6 q7 v) t.heap) (ad [q0, q1, q2, q3, q4, q5, q6, q7])) [.ref q0].toArray s 0 0 (ad [q0, q1, q2, q3, q4, q5, q6, q7])) (F0 m 19 ls []) := by
        intro n19
        induction n19 with
        | zero =>
          intro ls H locs l1 l2 u hl hP hS hf
          rw [L_Mod_walk_19_z] at hf
          cases hf
        | succ n19 ih19 =>
          have j96 : ∀ (ls : Array Slot) (H : Heap) (locs : List Loc) (l1 : Int32) (l2 : Int32) (s0 : Int32) (u : gU), lv_has ls 6 [(0, .ref q0), (1, .int l1), (2, .int l2)] → va_P D cls (wMod cI q0 q1 q2 q3 q4 q5 q6 q7 u) H → va_S (ad [q0, q1, q2, q3, q4, q5, q6, q7]) s.heap H locs → J_Mod_walk_96 (L_Mod_walk_2 n2) (L_Mod_walk_19 (L_Mod_walk_2 n2) n19) l1 l2 s0 u = some v → W p l e ({ frames := 6, cells := 0, slots := 0, locals := 153 }) s m [.ref q0].toArray below meth c H locs 0 0 (MQ below (va_Qv (fun (_ : Unit) => True) (fun _ t => va_P D cls (wMod cI q0 q1 q2 q3 q4 q5 q6 q7 v) t.heap) (ad [q0, q1, q2, q3, q4, q5, q6, q7])) [.ref q0].toArray s 0 0 (ad [q0, q1, q2, q3, q4, q5, q6, q7])) (F0 m 96 ls [.int s0]) := by
            intro ls H locs l1 l2 s0 u hl hP hS hf
            unfold J_Mod_walk_96 at hf
            refine lv_istore (lv' := [(5, .int s0), (0, .ref q0), (1, .int l1), (2, .int l2)]) hx hb d_Mod_walk_96 hl (by decide) rfl (fun ls hl => ?_)
            refine lv_iload hx hb d_Mod_walk_98 (lv_at hl 0 rfl) ?_
            refine lv_if_eq (tgt := 129) hx hb d_Mod_walk_100 (by decide) (fun hc => ?_) (fun hc => ?_)
            · have hf := bq_t hf hc
              refine lv_aload_n hx hb d_Mod_walk_129 rfl (lv_at hl 1 rfl) ?_
              refine lv_iload_n hx hb d_Mod_walk_130 rfl (lv_at hl 3 rfl) ?_
              refine lv_iload_n hx hb d_Mod_walk_131 rfl (lv_at hl 2 rfl) ?_
              have hC : [0, 1, 2, 3, 4, 5, 6, 7].map (fun i => (wMod cI q0 q1 q2 q3 q4 q5 q6 q7 u)[i]?) = (wMod cI q0 q1 q2 q3 q4 q5 q6 q7 u).map some := rfl
              obtain ⟨w1, hc, hf⟩ := bd_o hf
              refine rw_v (va_runV (As := [.int l2, .int l1]) (rest := []) ⟨hx, hb, hml, hown, hw⟩ (c_Mod_regular l D cI q0 q1 q2 q3 q4 q5 q6 q7 (dj_sub hd [0, 1, 2, 3, 4, 5, 6, 7] (by decide) rfl) l2 l1 u w1 hc) (cwV 2 hw g_95 rfl rfl rfl (by decide +kernel) ⟨Nat.le_of_ble_eq_true rfl, Nat.le_of_ble_eq_true rfl⟩) (pre_V (P_sub hC hP) hK rfl rfl) rfl rfl hl.1 rfl (lv_room (Nat.le_of_ble_eq_true rfl)) d_Mod_walk_132 ⟨Nat.le_of_ble_eq_true rfl, Nat.le_of_ble_eq_true rfl⟩) hS hP (hD _) hC rfl rfl (fun H locs hP hS => ?_)
              obtain ⟨u2, e_u2, hf⟩ := tk_o hf
              have hP : va_P D cls (wMod cI q0 q1 q2 q3 q4 q5 q6 q7 u2) H := by rw [e_u2]; exact hP
              obtain ⟨x3, e_x3, hf⟩ := tk_o hf
              refine lv_iinc (v := x3) (lv' := [(2, .int x3), (5, .int s0), (0, .ref q0), (1, .int l1)]) hx hb d_Mod_walk_135 hl (k := 3) rfl e_x3.symm (by decide) rfl (fun ls hl => ?_)
              refine lv_goto (tgt := 19) hx hb d_Mod_walk_138 (by decide) ?_
              exact ih19 _ _ _ l1 x3 u2 (lv_sub hl [2, 3, 0] rfl) hP hS hf
            have hf := bq_n hf hc
            refine lv_aload_n hx hb d_Mod_walk_103 rfl (lv_at hl 1 rfl) ?_
            refine va_get (D := D) (ci := 7) (v := .int (u 0 16)) (C := R_Mod) (T := F_Mod) (N := 28) hx hb hw in_Mod hown hK hP 0 rfl rfl 20 (by decide) (hw _ m_532) (fun _ h9 => h9) rfl d_Mod_walk_104 ?_
            refine lv_if_eq (tgt := 119) hx hb d_Mod_walk_107 (by decide) (fun hc => ?_) (fun hc => ?_)
            · have hf := bq_t hf hc
              refine lv_aload_n hx hb d_Mod_walk_119 rfl (lv_at hl 1 rfl) ?_
              refine lv_iload_n hx hb d_Mod_walk_120 rfl (lv_at hl 3 rfl) ?_
              refine lv_iload_n hx hb d_Mod_walk_121 rfl (lv_at hl 2 rfl) ?_
              have hC : [0, 1, 2, 3, 4, 5, 6, 7].map (fun i => (wMod cI q0 q1 q2 q3 q4 q5 q6 q7 u)[i]?) = (wMod cI q0 q1 q2 q3 q4 q5 q6 q7 u).map some := rfl
              obtain ⟨w4, hc, hf⟩ := bd_o hf
              refine rw_i (va_runV (As := [.int l2, .int l1]) (rest := []) ⟨hx, hb, hml, hown, hw⟩ (c_Mod_writeRun l D cI q0 q1 q2 q3 q4 q5 q6 q7 (dj_sub hd [0, 1, 2, 3, 4, 5, 6, 7] (by decide) rfl) l2 l1 u w4.1 w4.2 hc) (cwV 2 hw g_96 rfl rfl rfl (by decide +kernel) ⟨Nat.le_of_ble_eq_true rfl, Nat.le_of_ble_eq_true rfl⟩) (pre_V (P_sub hC hP) hK rfl rfl) rfl rfl hl.1 rfl (lv_room (Nat.le_of_ble_eq_true rfl)) d_Mod_walk_122 ⟨Nat.le_of_ble_eq_true rfl, Nat.le_of_ble_eq_true rfl⟩) hS hP (hD _) hC rfl rfl (fun H locs hP hS => ?_)
              obtain ⟨u5, e_u5, hf⟩ := tk_o hf
              have hP : va_P D cls (wMod cI q0 q1 q2 q3 q4 q5 q6 q7 u5) H := by rw [e_u5]; exact hP
              refine lv_istore_n (lv' := [(2, .int w4.1), (5, .int s0), (0, .ref q0), (1, .int l1)]) hx hb d_Mod_walk_125 rfl hl (by decide) rfl (fun ls hl => ?_)
              refine lv_goto (tgt := 138) hx hb d_Mod_walk_126 (by decide) ?_
              refine lv_goto (tgt := 19) hx hb d_Mod_walk_138 (by decide) ?_
              exact ih19 _ _ _ l1 w4.1 u5 (lv_sub hl [2, 3, 0] rfl) hP hS hf
            have hf := bq_n hf hc
            refine lv_aload_n hx hb d_Mod_walk_110 rfl (lv_at hl 1 rfl) ?_
            refine lv_iload_n hx hb d_Mod_walk_111 rfl (lv_at hl 3 rfl) ?_
            refine lv_iload_n hx hb d_Mod_walk_112 rfl (lv_at hl 2 rfl) ?_
            have hC : [0, 1, 2, 3, 4, 5, 6, 7].map (fun i => (wMod cI q0 q1 q2 q3 q4 q5 q6 q7 u)[i]?) = (wMod cI q0 q1 q2 q3 q4 q5 q6 q7 u).map some := rfl
            obtain ⟨w6, hc, hf⟩ := bd_o hf
            refine rw_i (va_runV (As := [.int l2, .int l1]) (rest := []) ⟨hx, hb, hml, hown, hw⟩ (c_Mod_readRun l D cI q0 q1 q2 q3 q4 q5 q6 q7 (dj_sub hd [0, 1, 2, 3, 4, 5, 6, 7] (by decide) rfl) l2 l1 u w6.1 w6.2 hc) (cwV 2 hw g_97 rfl rfl rfl (by decide +kernel) ⟨Nat.le_of_ble_eq_true rfl, Nat.le_of_ble_eq_true rfl⟩) (pre_V (P_sub hC hP) hK rfl rfl) rfl rfl hl.1 rfl (lv_room (Nat.le_of_ble_eq_true rfl)) d_Mod_walk_113 ⟨Nat.le_of_ble_eq_true rfl, Nat.le_of_ble_eq_true rfl⟩) hS hP (hD _) hC rfl rfl (fun H locs hP hS => ?_)
            obtain ⟨u7, e_u7, hf⟩ := tk_o hf
            have hP : va_P D cls (wMod cI q0 q1 q2 q3 q4 q5 q6 q7 u7) H := by rw [e_u7]; exact hP
            refine lv_goto (tgt := 125) hx hb d_Mod_walk_116 (by decide) ?_
            refine lv_istore_n (lv' := [(2, .int w6.1), (5, .int s0), (0, .ref q0), (1, .int l1)]) hx hb d_Mod_walk_125 rfl hl (by decide) rfl (fun ls hl => ?_)
            refine lv_goto (tgt := 138) hx hb d_Mod_walk_126 (by decide) ?_
            refine lv_goto (tgt := 19) hx hb d_Mod_walk_138 (by decide) ?_
            exact ih19 _ _ _ l1 w6.1 u7 (lv_sub hl [2, 3, 0] rfl) hP hS hf
          have j95 : ∀ (ls : Array Slot) (H : Heap) (locs : List Loc) (l1 : Int32) (l2 : Int32) (u : gU), lv_has ls 6 [(0, .ref q0), (1, .int l1), (2, .int l2)] → va_P D cls (wMod cI q0 q1 q2 q3 q4 q5 q6 q7 u) H → va_S (ad [q0, q1, q2, q3, q4, q5, q6, q7]) s.heap H locs → J_Mod_walk_95 (L_Mod_walk_2 n2) (L_Mod_walk_19 (L_Mod_walk_2 n2) n19) l1 l2 u = some v → W p l e ({ frames := 6, cells := 0, slots := 0, locals := 153 }) s m [.ref q0].toArray below meth c H locs 0 0 (MQ below (va_Qv (fun (_ : Unit) => True) (fun _ t => va_P D cls (wMod cI q0 q1 q2 q3 q4 q5 q6 q7 v) t.heap) (ad [q0, q1, q2, q3, q4, q5, q6, q7])) [.ref q0].toArray s 0 0 (ad [q0, q1, q2, q3, q4, q5, q6, q7])) (F0 m 95 ls []) := by
            intro ls H locs l1 l2 u hl hP hS hf
            unfold J_Mod_walk_95 at hf
            refine lv_iconst (v := 0) hx hb d_Mod_walk_95 (by decide) ?_
            exact j96 _ _ _ l1 l2 0 u (lv_sub hl [0, 1, 2] rfl) hP hS hf
          intro ls H locs l1 l2 u hl hP hS hf
          rw [L_Mod_walk_19_s] at hf
          refine lv_iload_n hx hb d_Mod_walk_19 rfl (lv_at hl 2 rfl) ?_
          refine lv_aload_n hx hb d_Mod_walk_20 rfl (lv_at hl 0 rfl) ?_
          refine va_get (D := D) (ci := 7) (v := .int (u 0 1)) (C := R_Mod) (T := F_Mod) (N := 28) hx hb hw in_Mod hown hK hP 0 rfl rfl 1 (by decide) (hw _ m_455) (fun _ h9 => h9) rfl d_Mod_walk_21 ?_
          refine lv_icmp_ge (tgt := 141) hx hb d_Mod_walk_24 (by decide) (fun hc => ?_) (fun hc => ?_)
          · have hf := bq_t hf hc
            obtain ⟨x1, e_x1, hf⟩ := tk_o hf
            refine lv_iinc (v := x1) (lv' := [(1, .int x1), (0, .ref q0), (2, .int l2)]) hx hb d_Mod_walk_141 hl (k := 1) rfl e_x1.symm (by decide) rfl (fun ls hl => ?_)
            refine lv_goto (tgt := 2) hx hb d_Mod_walk_144 (by decide) ?_
            exact ih2 _ _ _ x1 u (lv_sub hl [1, 0] rfl) hP hS hf
          have hf := bq_n hf hc
          refine lv_aload_n hx hb d_Mod_walk_27 rfl (lv_at hl 0 rfl) ?_
          refine va_get (D := D) (ci := 7) (v := .int (u 0 20)) (C := R_Mod) (T := F_Mod) (N := 28) hx hb hw in_Mod hown hK hP 0 rfl rfl 24 (by decide) (hw _ m_480) (fun _ h9 => h9) rfl d_Mod_walk_28 ?_
          refine lv_if_eq (tgt := 141) hx hb d_Mod_walk_31 (by decide) (fun hc => ?_) (fun hc => ?_)
          · have hf := bq_t hf hc
            obtain ⟨x2, e_x2, hf⟩ := tk_o hf
            refine lv_iinc (v := x2) (lv' := [(1, .int x2), (0, .ref q0), (2, .int l2)]) hx hb d_Mod_walk_141 hl (k := 1) rfl e_x2.symm (by decide) rfl (fun ls hl => ?_)
            refine lv_goto (tgt := 2) hx hb d_Mod_walk_144 (by decide) ?_
            exact ih2 _ _ _ x2 u (lv_sub hl [1, 0] rfl) hP hS hf
          have hf := bq_n hf hc
          refine lv_aload_n hx hb d_Mod_walk_34 rfl (lv_at hl 0 rfl) ?_
          refine lv_iload_n hx hb d_Mod_walk_35 rfl (lv_at hl 2 rfl) ?_
          refine lv_iload_n hx hb d_Mod_walk_36 rfl (lv_at hl 1 rfl) ?_
          have hC : [0, 1, 2, 3, 4, 5, 6, 7].map (fun i => (wMod cI q0 q1 q2 q3 q4 q5 q6 q7 u)[i]?) = (wMod cI q0 q1 q2 q3 q4 q5 q6 q7 u).map some := rfl
          obtain ⟨x3, hc, hf⟩ := bd_o hf
          refine ro_i (va_runV (As := [.int l2, .int l1]) (rest := []) ⟨hx, hb, hml, hown, hw⟩ (c_Mod_above l D cI q0 q1 q2 q3 q4 q5 q6 q7 l2 l1 u x3 hc) (cwV 2 hw g_76 rfl rfl rfl (by decide +kernel) ⟨Nat.le_of_ble_eq_true rfl, Nat.le_of_ble_eq_true rfl⟩) (pre_V (P_sub hC hP) hK rfl rfl) rfl rfl hl.1 rfl (lv_room (Nat.le_of_ble_eq_true rfl)) d_Mod_walk_37 ⟨Nat.le_of_ble_eq_true rfl, Nat.le_of_ble_eq_true rfl⟩) hS hP (fun H locs hP hS => ?_)
          refine lv_istore_n (lv' := [(3, .int x3), (0, .ref q0), (1, .int l1), (2, .int l2)]) hx hb d_Mod_walk_40 rfl hl (by decide) rfl (fun ls hl => ?_)
          refine lv_aload_n hx hb d_Mod_walk_41 rfl (lv_at hl 1 rfl) ?_
          refine lv_iload_n hx hb d_Mod_walk_42 rfl (lv_at hl 3 rfl) ?_
          refine lv_iload_n hx hb d_Mod_walk_43 rfl (lv_at hl 2 rfl) ?_
          have hC : [0, 1, 2, 3, 4, 5, 6, 7].map (fun i => (wMod cI q0 q1 q2 q3 q4 q5 q6 q7 u)[i]?) = (wMod cI q0 q1 q2 q3 q4 q5 q6 q7 u).map some := rfl
          obtain ⟨x4, hc, hf⟩ := bd_o hf
          refine ro_i (va_runV (As := [.int l2, .int l1]) (rest := []) ⟨hx, hb, hml, hown, hw⟩ (c_Mod_corner l D cI q0 q1 q2 q3 q4 q5 q6 q7 l2 l1 u x4 hc) (cwV 2 hw g_89 rfl rfl rfl (by decide +kernel) ⟨Nat.le_of_ble_eq_true rfl, Nat.le_of_ble_eq_true rfl⟩) (pre_V (P_sub hC hP) hK rfl rfl) rfl rfl hl.1 rfl (lv_room (Nat.le_of_ble_eq_true rfl)) d_Mod_walk_44 ⟨Nat.le_of_ble_eq_true rfl, Nat.le_of_ble_eq_true rfl⟩) hS hP (fun H locs hP hS => ?_)
          refine lv_istore (lv' := [(4, .int x4), (3, .int x3), (0, .ref q0), (1, .int l1), (2, .int l2)]) hx hb d_Mod_walk_47 hl (by decide) rfl (fun ls hl => ?_)
          refine lv_aload_n hx hb d_Mod_walk_49 rfl (lv_at hl 2 rfl) ?_
          refine lv_iload_n hx hb d_Mod_walk_50 rfl (lv_at hl 1 rfl) ?_
          refine lv_aload_n hx hb d_Mod_walk_51 rfl (lv_at hl 2 rfl) ?_
          refine lv_iload_n hx hb d_Mod_walk_52 rfl (lv_at hl 4 rfl) ?_
          refine lv_iload_n hx hb d_Mod_walk_53 rfl (lv_at hl 3 rfl) ?_
          have hC : [0, 1, 2, 3, 4, 5, 6, 7].map (fun i => (wMod cI q0 q1 q2 q3 q4 q5 q6 q7 u)[i]?) = (wMod cI q0 q1 q2 q3 q4 q5 q6 q7 u).map some := rfl
          obtain ⟨x5, hc, hf⟩ := bd_o hf
          refine ro_i (va_runV (As := [.int l2, .int l1]) (rest := [.int x3, .ref q0]) ⟨hx, hb, hml, hown, hw⟩ (c_Mod_beyond l D cI q0 q1 q2 q3 q4 q5 q6 q7 l2 l1 u x5 hc) (cwV 2 hw g_90 rfl rfl rfl (by decide +kernel) ⟨Nat.le_of_ble_eq_true rfl, Nat.le_of_ble_eq_true rfl⟩) (pre_V (P_sub hC hP) hK rfl rfl) rfl rfl hl.1 rfl (lv_room (Nat.le_of_ble_eq_true rfl)) d_Mod_walk_54 ⟨Nat.le_of_ble_eq_true rfl, Nat.le_of_ble_eq_true rfl⟩) hS hP (fun H locs hP hS => ?_)
          refine lv_isub hx hb d_Mod_walk_57 ?_
          have hC : [0, 1, 2, 3, 4, 5, 6, 7].map (fun i => (wMod cI q0 q1 q2 q3 q4 q5 q6 q7 u)[i]?) = (wMod cI q0 q1 q2 q3 q4 q5 q6 q7 u).map some := rfl
          obtain ⟨x6, hc, hf⟩ := bd_o hf
          refine ro_i (va_runV (As := [.int (x3 - x5)]) (rest := []) ⟨hx, hb, hml, hown, hw⟩ (c_Mod_isNear l D cI q0 q1 q2 q3 q4 q5 q6 q7 (x3 - x5) u x6 hc) (cwV 1 hw g_92 rfl rfl rfl (by decide +kernel) ⟨Nat.le_of_ble_eq_true rfl, Nat.le_of_ble_eq_true rfl⟩) (pre_V (P_sub hC hP) hK rfl rfl) rfl rfl hl.1 rfl (lv_room (Nat.le_of_ble_eq_true rfl)) d_Mod_walk_58 ⟨Nat.le_of_ble_eq_true rfl, Nat.le_of_ble_eq_true rfl⟩) hS hP (fun H locs hP hS => ?_)
          refine lv_if_eq (tgt := 95) hx hb d_Mod_walk_61 (by decide) (fun hc => ?_) (fun hc => ?_)
          · have hf := bq_t hf hc
            exact j95 _ _ _ l1 l2 u (lv_sub hl [2, 3, 4] rfl) hP hS hf
          have hf := bq_n hf hc
          refine lv_aload_n hx hb d_Mod_walk_64 rfl (lv_at hl 2 rfl) ?_
          refine lv_iload hx hb d_Mod_walk_65 (lv_at hl 0 rfl) ?_
          refine lv_iload_n hx hb d_Mod_walk_67 rfl (lv_at hl 1 rfl) ?_
          refine lv_isub hx hb d_Mod_walk_68 ?_
          have hC : [0, 1, 2, 3, 4, 5, 6, 7].map (fun i => (wMod cI q0 q1 q2 q3 q4 q5 q6 q7 u)[i]?) = (wMod cI q0 q1 q2 q3 q4 q5 q6 q7 u).map some := rfl
          obtain ⟨x7, hc, hf⟩ := bd_o hf
          refine ro_i (va_runV (As := [.int (x4 - x3)]) (rest := []) ⟨hx, hb, hml, hown, hw⟩ (c_Mod_isNear l D cI q0 q1 q2 q3 q4 q5 q6 q7 (x4 - x3) u x7 hc) (cwV 1 hw g_92 rfl rfl rfl (by decide +kernel) ⟨Nat.le_of_ble_eq_true rfl, Nat.le_of_ble_eq_true rfl⟩) (pre_V (P_sub hC hP) hK rfl rfl) rfl rfl hl.1 rfl (lv_room (Nat.le_of_ble_eq_true rfl)) d_Mod_walk_69 ⟨Nat.le_of_ble_eq_true rfl, Nat.le_of_ble_eq_true rfl⟩) hS hP (fun H locs hP hS => ?_)
          refine lv_if_eq (tgt := 95) hx hb d_Mod_walk_72 (by decide) (fun hc => ?_) (fun hc => ?_)
          · have hf := bq_t hf hc
            exact j95 _ _ _ l1 l2 u (lv_sub hl [2, 3, 4] rfl) hP hS hf
          have hf := bq_n hf hc
          refine lv_aload_n hx hb d_Mod_walk_75 rfl (lv_at hl 2 rfl) ?_
          refine lv_aload_n hx hb d_Mod_walk_76 rfl (lv_at hl 2 rfl) ?_
          refine lv_iload_n hx hb d_Mod_walk_77 rfl (lv_at hl 4 rfl) ?_
          refine lv_iload_n hx hb d_Mod_walk_78 rfl (lv_at hl 3 rfl) ?_
          have hC : [0, 1, 2, 3, 4, 5, 6, 7].map (fun i => (wMod cI q0 q1 q2 q3 q4 q5 q6 q7 u)[i]?) = (wMod cI q0 q1 q2 q3 q4 q5 q6 q7 u).map some := rfl
          obtain ⟨x8, hc, hf⟩ := bd_o hf
          refine ro_i (va_runV (As := [.int l2, .int l1]) (rest := [.ref q0]) ⟨hx, hb, hml, hown, hw⟩ (c_Mod_before l D cI q0 q1 q2 q3 q4 q5 q6 q7 l2 l1 u x8 hc) (cwV 2 hw g_77 rfl rfl rfl (by decide +kernel) ⟨Nat.le_of_ble_eq_true rfl, Nat.le_of_ble_eq_true rfl⟩) (pre_V (P_sub hC hP) hK rfl rfl) rfl rfl hl.1 rfl (lv_room (Nat.le_of_ble_eq_true rfl)) d_Mod_walk_79 ⟨Nat.le_of_ble_eq_true rfl, Nat.le_of_ble_eq_true rfl⟩) hS hP (fun H locs hP hS => ?_)
          refine lv_iload hx hb d_Mod_walk_82 (lv_at hl 0 rfl) ?_
          refine lv_isub hx hb d_Mod_walk_84 ?_
          have hC : [0, 1, 2, 3, 4, 5, 6, 7].map (fun i => (wMod cI q0 q1 q2 q3 q4 q5 q6 q7 u)[i]?) = (wMod cI q0 q1 q2 q3 q4 q5 q6 q7 u).map some := rfl
          obtain ⟨x9, hc, hf⟩ := bd_o hf
          refine ro_i (va_runV (As := [.int (x8 - x4)]) (rest := []) ⟨hx, hb, hml, hown, hw⟩ (c_Mod_isNear l D cI q0 q1 q2 q3 q4 q5 q6 q7 (x8 - x4) u x9 hc) (cwV 1 hw g_92 rfl rfl rfl (by decide +kernel) ⟨Nat.le_of_ble_eq_true rfl, Nat.le_of_ble_eq_true rfl⟩) (pre_V (P_sub hC hP) hK rfl rfl) rfl rfl hl.1 rfl (lv_room (Nat.le_of_ble_eq_true rfl)) d_Mod_walk_85 ⟨Nat.le_of_ble_eq_true rfl, Nat.le_of_ble_eq_true rfl⟩) hS hP (fun H locs hP hS => ?_)
          refine lv_if_eq (tgt := 95) hx hb d_Mod_walk_88 (by decide) (fun hc => ?_) (fun hc => ?_)
          · have hf := bq_t hf hc
            exact j95 _ _ _ l1 l2 u (lv_sub hl [2, 3, 4] rfl) hP hS hf
          have hf := bq_n hf hc
          refine lv_iconst (v := 1) hx hb d_Mod_walk_91 (by decide) ?_
          refine lv_goto (tgt := 96) hx hb d_Mod_walk_92 (by decide) ?_
          exact j96 _ _ _ l1 l2 1 u (lv_sub hl [2, 3, 4] rfl) hP hS hf
      intro ls H locs l1 u hl hP hS hf
      rw [L_Mod_walk_2_s] at hf
      refine lv_iload_n hx hb d_Mod_walk_2 rfl (lv_at hl 1 rfl) ?_
      refine lv_aload_n hx hb d_Mod_walk_3 rfl (lv_at hl 0 rfl) ?_
      refine va_get (D := D) (ci := 7) (v := .int (u 0 2)) (C := R_Mod) (T := F_Mod) (N := 28) hx hb hw in_Mod hown hK hP 0 rfl rfl 2 (by decide) (hw _ m_456) (fun _ h9 => h9) rfl d_Mod_walk_4 ?_
      refine lv_icmp_ge (tgt := 147) hx hb d_Mod_walk_7 (by decide) (fun hc => ?_) (fun hc => ?_)
      · have hf := bq_t hf hc
        exact rt_v (wMod cI q0 q1 q2 q3 q4 q5 q6 q7) hx hb hr hlocks hS hP hf d_Mod_walk_147
      have hf := bq_n hf hc
      refine lv_aload_n hx hb d_Mod_walk_10 rfl (lv_at hl 0 rfl) ?_
      refine va_get (D := D) (ci := 7) (v := .int (u 0 20)) (C := R_Mod) (T := F_Mod) (N := 28) hx hb hw in_Mod hown hK hP 0 rfl rfl 24 (by decide) (hw _ m_480) (fun _ h9 => h9) rfl d_Mod_walk_11 ?_
      refine lv_if_eq (tgt := 147) hx hb d_Mod_walk_14 (by decide) (fun hc => ?_) (fun hc => ?_)
      · have hf := bq_t hf hc
        exact rt_v (wMod cI q0 q1 q2 q3 q4 q5 q6 q7) hx hb hr hlocks hS hP hf d_Mod_walk_147
      have hf := bq_n hf hc
      refine lv_iconst (v := 0) hx hb d_Mod_walk_17 (by decide) ?_
      refine lv_istore_n (lv' := [(2, .int 0), (0, .ref q0), (1, .int l1)]) hx hb d_Mod_walk_18 rfl hl (by decide) rfl (fun ls hl => ?_)
      exact lp19 2000 _ _ _ l1 0 u (lv_sub hl [1, 2, 0] rfl) hP hS hf
  unfold f_Mod_walk at hf
  refine lv_iconst (v := 0) hx hb d_Mod_walk_0 (by decide) ?_
  refine lv_istore_n (lv' := [(1, .int 0), (0, .ref q0)]) hx hb d_Mod_walk_1 rfl hl (by decide) rfl (fun ls hl => ?_)
  exact lp2 2000 _ _ _ 0 u (lv_sub hl [1, 0] rfl) hP hS hf
