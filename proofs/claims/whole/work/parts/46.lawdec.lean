section LST
variable {p : Program} {l : Launch} {e : Env} {R : Room} {s : State} {m : MethodId} {args : Array Value} {below : List Frame} {meth : Method} {c : Code} {H : Heap} {locs : List Loc} {cells slots : Nat} {Q : State → Prop}
variable {cc : ByteArray} {pc : Nat} {ls : Array Slot} {rest : List Value} {D : va_G} {cl : List vw_C} {A : Nat → Prop} {a : Nat} {tys : List (ClassId × FieldType)} {H0 : Heap}
theorem la_st (hexec : p.tables.exec = Jvm.exec) (hb : c.code = cc) (hK : va_K D cl tys s) (t0 : Nat) {cA : ClassId} {n : Nat} {f : Nat → Int64} (hO : va_P D cl [(a, .inl (cA, n, .inr (.inl f)))] H) (hS : va_S A H0 H locs) (hAa : A a) (ht : tys[t0]? = some (cA, .long)) {i : Int32} {x : Int64} (hin : vp_in i n) (hdg : decode cc pc = .ok (.lastore, 1))
    (kk : ∀ (H1 : Heap) (locs1 : List Loc), (∀ q : Nat, q ≠ a → H1[q]? = H[q]?) → va_P D cl [(a, .inl (cA, n, .inr (.inl (vp_updL f i.toNatClampNeg x))))] H1 → va_S A H0 H1 locs1 → W p l e R s m args below meth c H1 locs1 cells slots Q (F0 m (pc + 1) ls rest)) : W p l e R s m args below meth c H locs cells slots Q (F0 m pc ls (.long x :: .int i :: .ref a :: rest)) := by
  have hc : H[a]? = some (vp_cell cA (n, .inr (.inl f))) := hO 0 _ rfl
  refine W.last hexec hb hc ((hK.2 t0 _ ht).1 n (fun j => .long (f j))) (fun q => by cases q) (by show ¬ (i < 0 ∨ (arrV _ _ _).slots.size ≤ _); rw [arrV_size]; exact hin) rfl rfl hdg fun H1 e z oq => ?_
  refine kk H1 _ oq (fun k q hk => ?_) (hS.put z oq hAa)
  have h1 := (List.getElem?_eq_some_iff.mp hk).1
  simp at h1
  subst h1
  cases hk
  show H1[a]? = some (vp_cell _ _)
  rw [e]
  rw [vp_cell_l, vp_cell_l, arrV_store]
  congr 2
  funext q
  by_cases hq : q = i.toNatClampNeg
  · subst hq
    simp [updV, vp_updL]
  · simp [updV, vp_updL, hq]
end LST
theorem ct_with {l : Launch} {y : MethodName} {cc : ByteArray} {maxL : Nat} {ret : Option FieldType} {hh : List (Nat × Nat × Nat × Nat)} {TS : List Cond} {rm : Room} {vs : List Value} {Bp : State → Prop} {Qc : Array Value → State → Outcome → State → Prop} {mc ms : Nat} {free : Addr → Prop}
    (hy : plainName y.cls = true) (hn : (lg_sl vs).length ≤ maxL)
    (body : ∀ (p : Program) (e : Env) (s : State) (m : MethodId) (below : List Frame) (meth : Method) (c : Code) (ls : Array Slot), p.tables.exec = Jvm.exec → c.code = cc → c.maxLocals = maxL → meth.sig.returnType = ret → meth.locks = false → s.vm.findClass y.cls = some m.cls → (∀ w ∈ TS, w.before vs.toArray s = true) → c.exceptionTable.toList.map (fun h => (h.startPc, h.endPc, h.handlerPc, h.catchType)) = hh → Bp s → lv_has ls maxL (lv_args 0 vs) →
      W p l e rm s m vs.toArray below meth c s.heap [] 0 0 (MQ below Qc vs.toArray s mc ms free) (F0 m 0 ls [])) :
    Met l y (.codeWith y cc maxL ret hh :: TS) rm (va_Pc vs Bp) Qc mc ms free := by
  refine va_MetW (cc := cc) (maxL := maxL) (ret := ret) (hh := hh) hy rfl ?_
  intro p e s m args below meth c s₁ B hml hv
  obtain ⟨rfl, hB⟩ := hv
  have hts := atoms_spec (ws := .codeWith y cc maxL ret hh :: TS) B.pre
  have hl := lv_entry vs (n := maxL) hn
  obtain ⟨m9, meth9, c9, hn9, hm9, hc9, -, -, ht9, -⟩ := Cond.codeWith_spec (hts _ List.mem_cons_self)
  cases B.named.symm.trans hn9
  cases B.method.symm.trans hm9
  cases (Stand.of_body B).code.symm.trans hc9
  rw [lg_entry_eq]
  exact body p e s m below meth c _ B.exec B.bytes hml B.returns B.notSynchronized (findClass_of_methodNamed B.named) (fun w h => hts w (List.mem_cons_of_mem _ h)) ht9 hB hl
set_option maxHeartbeats 4000000 in
set_option maxRecDepth 100000 in
theorem c_Law_decode_0 (l : Launch) (D : va_G) (cI cL : ClassId) (tJ : Nat) (q0 q1 q2 q3 q4 q5 q6 q7 q8 q9 q10 q11 q12 q13 q14 q15 q16 q17 q18 q19 q20 q21 q22 q23 qo : Nat) (hd : dj [q0, q1, q2, q3, q4, q5, q6, q7, q8, q9, q10, q11, q12, q13, q14, q15, q16, q17, q18, q19, q20, q21, q22, q23, qo]) (u : gU) (o : Nat → Int64) (r : Int32) (v : gU) (hf : f_Grc_decode u = some (.inr (r, v))) : Met l y_Law_decode (.codeWith y_Law_decode b_Law_decode 3 (some .int) [(0, 8, 11, 13)] :: TS) ({ frames := 13, cells := 1, slots := 6, locals := 274 }) (va_Pc [.ref q0, .ref qo] (fun U => va_P D cls (wGrc cI q0 q1 q2 q3 q4 q5 q6 q7 q8 q9 q10 q11 q12 q13 q14 q15 q16 q17 q18 q19 q20 q21 q22 q23 u) U.heap ∧ va_P D cls [(qo, .inl (cL, 1, .inr (.inl (o))))] U.heap ∧ va_K D cls [(cI, .int), (cL, .long)] U ∧ Jt tJ (ad [q0, q1, q2, q3, q4, q5, q6, q7, q8, q9, q10, q11, q12, q13, q14, q15, q16, q17, q18, q19, q20, q21, q22, q23, qo]) U ∧ Xt (ad [q0, q1, q2, q3, q4, q5, q6, q7, q8, q9, q10, q11, q12, q13, q14, q15, q16, q17, q18, q19, q20, q21, q22, q23, qo]) U)) (va_Qi (fun x (_ : Unit) => x = 0) (fun _ t => va_P D cls (wGrc cI q0 q1 q2 q3 q4 q5 q6 q7 q8 q9 q10 q11 q12 q13 q14 q15 q16 q17 q18 q19 q20 q21 q22 q23 v) t.heap ∧ va_P D cls [(qo, .inl (cL, 1, .inr (.inl (vp_updL o 0 r.toInt64))))] t.heap) (ad [q0, q1, q2, q3, q4, q5, q6, q7, q8, q9, q10, q11, q12, q13, q14, q15, q16, q17, q18, q19, q20, q21, q22, q23, qo])) 1 6 (ad [q0, q1, q2, q3, q4, q5, q6, q7, q8, q9, q10, q11, q12, q13, q14, q15, q16, q17, q18, q19, q20, q21, q22, q23, qo]) := by
  refine ct_with (by decide +kernel) (Nat.le_of_ble_eq_true rfl) ?_
  intro p e s m below meth c ls hx hb hml hr hlocks hown hw htab hB hl
  obtain ⟨hG, hO, hK, hJ, hX⟩ := hB
  have hS : va_S (ad [q0, q1, q2, q3, q4, q5, q6, q7, q8, q9, q10, q11, q12, q13, q14, q15, q16, q17, q18, q19, q20, q21, q22, q23, qo]) s.heap s.heap [] := va_S.rf
  have hsub : ∀ q, (ad [q0, q1, q2, q3, q4, q5, q6, q7, q8, q9, q10, q11, q12, q13, q14, q15, q16, q17, q18, q19, q20, q21, q22, q23]) q → (ad [q0, q1, q2, q3, q4, q5, q6, q7, q8, q9, q10, q11, q12, q13, q14, q15, q16, q17, q18, q19, q20, q21, q22, q23, qo]) q := ad_sub [0, 1, 2, 3, 4, 5, 6, 7, 8, 9, 10, 11, 12, 13, 14, 15, 16, 17, 18, 19, 20, 21, 22, 23] rfl
  have hdG : dj [q0, q1, q2, q3, q4, q5, q6, q7, q8, q9, q10, q11, q12, q13, q14, q15, q16, q17, q18, q19, q20, q21, q22, q23] := dj_sub hd [0, 1, 2, 3, 4, 5, 6, 7, 8, 9, 10, 11, 12, 13, 14, 15, 16, 17, 18, 19, 20, 21, 22, 23] (by decide) rfl
  have hqo : ¬ (ad [q0, q1, q2, q3, q4, q5, q6, q7, q8, q9, q10, q11, q12, q13, q14, q15, q16, q17, q18, q19, q20, q21, q22, q23]) qo := fun h => by
    obtain ⟨k, hk⟩ := List.getElem?_of_mem h
    have hk2 := (List.getElem?_eq_some_iff.mp hk).1
    have h1 : ([q0, q1, q2, q3, q4, q5, q6, q7, q8, q9, q10, q11, q12, q13, q14, q15, q16, q17, q18, q19, q20, q21, q22, q23, qo] : List Nat)[k]? = some qo := by
      rw [show ([q0, q1, q2, q3, q4, q5, q6, q7, q8, q9, q10, q11, q12, q13, q14, q15, q16, q17, q18, q19, q20, q21, q22, q23, qo] : List Nat) = [q0, q1, q2, q3, q4, q5, q6, q7, q8, q9, q10, q11, q12, q13, q14, q15, q16, q17, q18, q19, q20, q21, q22, q23] ++ [qo] from rfl, List.getElem?_append_left hk2]
      exact hk
    have h2 := hd k 24 qo h1 rfl
    simp at hk2
    omega
  have hDo : ∀ o : Nat → Int64, va_D (ad [q0, q1, q2, q3, q4, q5, q6, q7, q8, q9, q10, q11, q12, q13, q14, q15, q16, q17, q18, q19, q20, q21, q22, q23, qo]) [(qo, .inl (cL, 1, .inr (.inl (o))))] := fun o => ⟨fun i j x y hi hj _ => by
    have h1 := (List.getElem?_eq_some_iff.mp hi).1
    have h2 := (List.getElem?_eq_some_iff.mp hj).1
    simp at h1 h2
    omega, fun k x hk => by
    have h1 := (List.getElem?_eq_some_iff.mp hk).1
    simp at h1
    subst h1
    cases hk
    exact List.mem_of_getElem? (i := 24) rfl⟩
  have hl : lv_has ls 3 [(0, .ref q0), (1, .ref qo)] := hl
  refine lv_aload_n hx hb d_Law_decode_0 rfl (lv_at hl 1 rfl) ?_
  refine lv_iconst (v := 0) hx hb d_Law_decode_1 (by decide) ?_
  refine lv_aload_n hx hb d_Law_decode_2 rfl (lv_at hl 0 rfl) ?_
  refine va_calli (va_runV (As := []) (rest := [.int 0, .ref qo]) ⟨hx, hb, hml, hown, hw⟩ (c_Grc_decode l D cI tJ q0 q1 q2 q3 q4 q5 q6 q7 q8 q9 q10 q11 q12 q13 q14 q15 q16 q17 q18 q19 q20 q21 q22 q23 hdG u r v hf) (cwV 0 hw g_136 rfl rfl rfl (by decide +kernel) ⟨Nat.le_of_ble_eq_true rfl, Nat.le_of_ble_eq_true rfl⟩) (pre_VJ hG (hK.sub [0] rfl) rfl rfl (Jt_call hJ hS hsub)) rfl rfl hl.1 rfl (lv_room (Nat.le_of_ble_eq_true rfl)) d_Law_decode_3 ⟨Nat.le_of_ble_eq_true rfl, Nat.le_of_ble_eq_true rfl⟩) hS (fun q _ h => hsub q h) hsub (fun x _ t H locs ht hvm hx9 hG1 hz hk hS => ?_)
  subst hx9
  have hG : va_P D cls (wGrc cI q0 q1 q2 q3 q4 q5 q6 q7 q8 q9 q10 q11 q12 q13 q14 q15 q16 q17 q18 q19 q20 q21 q22 q23 v) H := by subst ht; exact hG1
  have hO := hO.kept (H1 := H) (fun k q hq => hk q.1 ((hO k q hq).lt) (by
    have h1 := (List.getElem?_eq_some_iff.mp hq).1
    simp at h1
    subst h1
    cases hq
    exact hqo))
  refine lv_i2l hx hb d_Law_decode_6 rfl ?_
  refine la_st hx hb hK 1 hO hS (List.mem_of_getElem? (i := 24) rfl) rfl (ix_in (by decide)) d_Law_decode_7 (fun H1 locs1 oq hO hS => ?_)
  have hG : va_P D cls (wGrc cI q0 q1 q2 q3 q4 q5 q6 q7 q8 q9 q10 q11 q12 q13 q14 q15 q16 q17 q18 q19 q20 q21 q22 q23 v) H1 := hG.kept (fun k z hz9 => oq z.1 (fun h => hqo (h ▸ List.mem_map.mpr ⟨z, List.mem_of_getElem? hz9, rfl⟩)))
  refine lv_goto (tgt := 14) hx hb d_Law_decode_8 (by decide) ?_
  refine lv_iconst (v := 0) hx hb d_Law_decode_14 (by decide) ?_
  refine W.widen (k := 1) (n := 6) (by omega) (by omega) ?_
  exact W.iret hx hb hr (fun t ht hW => ⟨⟨0, (), rfl, rfl, by subst ht; exact hG, by subst ht; exact hO⟩, hS.F ht⟩) hS.2.2 d_Law_decode_15 hlocks
set_option maxHeartbeats 4000000 in
set_option maxRecDepth 100000 in
theorem c_Law_decode_1 (l : Launch) (D : va_G) (cI cL : ClassId) (tJ : Nat) (q0 q1 q2 q3 q4 q5 q6 q7 q8 q9 q10 q11 q12 q13 q14 q15 q16 q17 q18 q19 q20 q21 q22 q23 qo : Nat) (hd : dj [q0, q1, q2, q3, q4, q5, q6, q7, q8, q9, q10, q11, q12, q13, q14, q15, q16, q17, q18, q19, q20, q21, q22, q23, qo]) (u : gU) (o : Nat → Int64) (hfl : l.flags = pinnedFlags ++ [noTraceFlag])  (v : gU) (hf : f_Grc_decode u = some (.inl v)) : Met l y_Law_decode (.codeWith y_Law_decode b_Law_decode 3 (some .int) [(0, 8, 11, 13)] :: TS) ({ frames := 13, cells := 1, slots := 6, locals := 274 }) (va_Pc [.ref q0, .ref qo] (fun U => va_P D cls (wGrc cI q0 q1 q2 q3 q4 q5 q6 q7 q8 q9 q10 q11 q12 q13 q14 q15 q16 q17 q18 q19 q20 q21 q22 q23 u) U.heap ∧ va_P D cls [(qo, .inl (cL, 1, .inr (.inl (o))))] U.heap ∧ va_K D cls [(cI, .int), (cL, .long)] U ∧ Jt tJ (ad [q0, q1, q2, q3, q4, q5, q6, q7, q8, q9, q10, q11, q12, q13, q14, q15, q16, q17, q18, q19, q20, q21, q22, q23, qo]) U ∧ Xt (ad [q0, q1, q2, q3, q4, q5, q6, q7, q8, q9, q10, q11, q12, q13, q14, q15, q16, q17, q18, q19, q20, q21, q22, q23, qo]) U)) (va_Qi (fun x (_ : Unit) => x = 1) (fun _ t => va_P D cls (wGrc cI q0 q1 q2 q3 q4 q5 q6 q7 q8 q9 q10 q11 q12 q13 q14 q15 q16 q17 q18 q19 q20 q21 q22 q23 v) t.heap ∧ va_P D cls [(qo, .inl (cL, 1, .inr (.inl (o))))] t.heap) (ad [q0, q1, q2, q3, q4, q5, q6, q7, q8, q9, q10, q11, q12, q13, q14, q15, q16, q17, q18, q19, q20, q21, q22, q23, qo])) 1 6 (ad [q0, q1, q2, q3, q4, q5, q6, q7, q8, q9, q10, q11, q12, q13, q14, q15, q16, q17, q18, q19, q20, q21, q22, q23, qo]) := by
  refine ct_with (by decide +kernel) (Nat.le_of_ble_eq_true rfl) ?_
  intro p e s m below meth c ls hx hb hml hr hlocks hown hw htab hB hl
  obtain ⟨hG, hO, hK, hJ, hX⟩ := hB
  have hS : va_S (ad [q0, q1, q2, q3, q4, q5, q6, q7, q8, q9, q10, q11, q12, q13, q14, q15, q16, q17, q18, q19, q20, q21, q22, q23, qo]) s.heap s.heap [] := va_S.rf
  have hsub : ∀ q, (ad [q0, q1, q2, q3, q4, q5, q6, q7, q8, q9, q10, q11, q12, q13, q14, q15, q16, q17, q18, q19, q20, q21, q22, q23]) q → (ad [q0, q1, q2, q3, q4, q5, q6, q7, q8, q9, q10, q11, q12, q13, q14, q15, q16, q17, q18, q19, q20, q21, q22, q23, qo]) q := ad_sub [0, 1, 2, 3, 4, 5, 6, 7, 8, 9, 10, 11, 12, 13, 14, 15, 16, 17, 18, 19, 20, 21, 22, 23] rfl
  have hdG : dj [q0, q1, q2, q3, q4, q5, q6, q7, q8, q9, q10, q11, q12, q13, q14, q15, q16, q17, q18, q19, q20, q21, q22, q23] := dj_sub hd [0, 1, 2, 3, 4, 5, 6, 7, 8, 9, 10, 11, 12, 13, 14, 15, 16, 17, 18, 19, 20, 21, 22, 23] (by decide) rfl
  have hqo : ¬ (ad [q0, q1, q2, q3, q4, q5, q6, q7, q8, q9, q10, q11, q12, q13, q14, q15, q16, q17, q18, q19, q20, q21, q22, q23]) qo := fun h => by
    obtain ⟨k, hk⟩ := List.getElem?_of_mem h
    have hk2 := (List.getElem?_eq_some_iff.mp hk).1
    have h1 : ([q0, q1, q2, q3, q4, q5, q6, q7, q8, q9, q10, q11, q12, q13, q14, q15, q16, q17, q18, q19, q20, q21, q22, q23, qo] : List Nat)[k]? = some qo := by
      rw [show ([q0, q1, q2, q3, q4, q5, q6, q7, q8, q9, q10, q11, q12, q13, q14, q15, q16, q17, q18, q19, q20, q21, q22, q23, qo] : List Nat) = [q0, q1, q2, q3, q4, q5, q6, q7, q8, q9, q10, q11, q12, q13, q14, q15, q16, q17, q18, q19, q20, q21, q22, q23] ++ [qo] from rfl, List.getElem?_append_left hk2]
      exact hk
    have h2 := hd k 24 qo h1 rfl
    simp at hk2
    omega
  have hDo : ∀ o : Nat → Int64, va_D (ad [q0, q1, q2, q3, q4, q5, q6, q7, q8, q9, q10, q11, q12, q13, q14, q15, q16, q17, q18, q19, q20, q21, q22, q23, qo]) [(qo, .inl (cL, 1, .inr (.inl (o))))] := fun o => ⟨fun i j x y hi hj _ => by
    have h1 := (List.getElem?_eq_some_iff.mp hi).1
    have h2 := (List.getElem?_eq_some_iff.mp hj).1
    simp at h1 h2
    omega, fun k x hk => by
    have h1 := (List.getElem?_eq_some_iff.mp hk).1
    simp at h1
    subst h1
    cases hk
    exact List.mem_of_getElem? (i := 24) rfl⟩
  have hl : lv_has ls 3 [(0, .ref q0), (1, .ref qo)] := hl
  refine lv_aload_n hx hb d_Law_decode_0 rfl (lv_at hl 1 rfl) ?_
  refine lv_iconst (v := 0) hx hb d_Law_decode_1 (by decide) ?_
  refine lv_aload_n hx hb d_Law_decode_2 rfl (lv_at hl 0 rfl) ?_
  have hlen : c.exceptionTable.toList.length = 1 := by
    have := congrArg List.length htab
    simpa using this
  obtain ⟨x, hxt⟩ : ∃ x, c.exceptionTable.toList = [x] := by
    match h9 : c.exceptionTable.toList, hlen with
    | [x], _ => exact ⟨x, rfl⟩
  rw [hxt] at htab
  simp only [List.map_cons, List.map_nil, List.cons.injEq, Prod.mk.injEq, and_true] at htab
  obtain ⟨t1, t2, t3, t4⟩ := htab
  refine ca_V (As := []) (rest := [.int 0, .ref qo]) ⟨hx, hb, hml, hown, hw⟩ (x_Grc_decode l hfl D cI tJ q0 q1 q2 q3 q4 q5 q6 q7 q8 q9 q10 q11 q12 q13 q14 q15 q16 q17 q18 q19 q20 q21 q22 q23 hdG u v hf) (cwV 0 hw g_136 rfl rfl rfl (by decide +kernel) ⟨Nat.le_of_ble_eq_true rfl, Nat.le_of_ble_eq_true rfl⟩) (pre_VX hG (hK.sub [0] rfl) rfl rfl hJ hX hS hsub) rfl hl.1 (Nat.le_of_ble_eq_true rfl) d_Law_decode_3 ⟨Nat.le_of_ble_eq_true rfl, Nat.le_of_ble_eq_true rfl⟩ hxt (by simp [covers, t1, t2]) (by rw [t4]; decide) (by rw [t4]; exact (hw _ m_758)) hX.2.2.1.2.2.2 (fun q H L hz hk hG hL => ?_)
  have hO := hO.kept (H1 := H) (fun k q hq => hk q.1 ((hO k q hq).lt) (by
    have h1 := (List.getElem?_eq_some_iff.mp hq).1
    simp at h1
    subst h1
    cases hq
    exact hqo))
  have hS : va_S (ad [q0, q1, q2, q3, q4, q5, q6, q7, q8, q9, q10, q11, q12, q13, q14, q15, q16, q17, q18, q19, q20, q21, q22, q23, qo]) s.heap H ([] ++ L) := ⟨hz, fun q h1 h2 => hk q h1 (fun h => h2 (hsub q h)), fun z hz => hsub _ (hL z hz)⟩
  rw [t3]
  refine lv_astore_n (lv' := [(2, .ref q), (0, .ref q0), (1, .ref qo)]) hx hb d_Law_decode_11 rfl hl (by decide) rfl (fun ls hl => ?_)
  refine lv_iconst (v := 1) hx hb d_Law_decode_12 (by decide) ?_
  exact W.iret hx hb hr (fun t ht hW => ⟨⟨1, (), rfl, rfl, by subst ht; exact hG, by subst ht; exact hO⟩, hS.F ht⟩) hS.2.2 d_Law_decode_13 hlocks
