/-! constructors: rows of mine -/
def Nt (U : State) : Prop := va_Nw (.methodLinkNest "GradientCoder$Coding" 1 ⟨"GradientCoder$Pass", "<init>", "()V"⟩ "GradientCoder") U ∧ va_Nw (.methodLinkNest "GradientCoder$Pass" 18 ⟨"GradientCoder$Contexts", "<init>", "()V"⟩ "GradientCoder") U ∧ va_Nw (.methodLinkNest "GradientCoder$Coding" 17 ⟨"GradientCoder$Writer", "<init>", "()V"⟩ "GradientCoder") U ∧ va_Nw (.methodLinkNest "GradientCoder" 18 ⟨"GradientCoder$Reading", "<init>", "()V"⟩ "GradientCoder") U ∧ va_Nw (.methodLinkNest "GradientCoder$Reading" 1 ⟨"GradientCoder$Pass", "<init>", "()V"⟩ "GradientCoder") U ∧ va_Nw (.methodLinkNest "GradientCoder$Reading" 9 ⟨"GradientCoder$Reader", "<init>", "()V"⟩ "GradientCoder") U
theorem Nt_go {s U : State} (h : Nt s) (hW : s.WarmedH U.vm) : Nt U := by
  obtain ⟨h1, h2, h3, h4, h5, h6⟩ := h
  exact ⟨va_Nw.warmM hW h1, va_Nw.warmM hW h2, va_Nw.warmM hW h3, va_Nw.warmM hW h4, va_Nw.warmM hW h5, va_Nw.warmM hW h6⟩
theorem Nt_blind {U : State} {g : JFrame} {mk : MethodId} {a : Array Value} (h : Nt U) : Nt (U.calling g mk a) := by
  obtain ⟨h1, h2, h3, h4, h5, h6⟩ := h
  exact ⟨va_Nw.same rfl (u := U) (U := U.calling g mk a) rfl h1, va_Nw.same rfl (u := U) (U := U.calling g mk a) rfl h2, va_Nw.same rfl (u := U) (U := U.calling g mk a) rfl h3, va_Nw.same rfl (u := U) (U := U.calling g mk a) rfl h4, va_Nw.same rfl (u := U) (U := U.calling g mk a) rfl h5, va_Nw.same rfl (u := U) (U := U.calling g mk a) rfl h6⟩
theorem pre_N {D : va_G} {cl : List vw_C} {tys : List (ClassId × FieldType)} {wc : va_W} {s : State} {H : Heap} {As : List Value} (hP : va_P D cl wc H) (hK : va_K D cl tys s) (hN : Nt s) : PreS s H (va_Pc As (fun U => U.heap.size = H.size ∧ va_P D cl wc U.heap ∧ va_K D cl tys U ∧ Nt U)) As :=
  ⟨fun a U g mk q => ⟨q.1, q.2.1, q.2.2.1, va_K.moved (u := U) (U := U.calling g mk a) (Vm.Alike.refl U.vm) q.2.2.2.1, Nt_blind q.2.2.2.2⟩, fun U hU hW => ⟨rfl, by rw [hU], by rw [hU]; exact hP, va_K.moved hW.alike hK, Nt_go hN hW⟩⟩
theorem ct_new {l : Launch} {y : MethodName} {cc : ByteArray} {maxL : Nat} {ret : Option FieldType} {TS : List Cond} {rm : Room} {vs : List Value} {D : va_G} {cl : List vw_C} {ws : va_W} {tys : List (ClassId × FieldType)} {Qc : Array Value → State → Outcome → State → Prop} {mc ms sz : Nat} {free : Addr → Prop}
    (hy : plainName y.cls = true) (hn : (lg_sl vs).length ≤ maxL)
    (body : ∀ (p : Program) (e : Env) (s : State) (m : MethodId) (below : List Frame) (meth : Method) (c : Code) (ls : Array Slot), p.tables.exec = Jvm.exec → c.code = cc → c.maxLocals = maxL → meth.sig.returnType = ret → meth.locks = false → s.vm.findClass y.cls = some m.cls → meth.name = y.name → (∀ w ∈ TS, w.before vs.toArray s = true) → s.heap.size = sz → va_P D cl ws s.heap → va_K D cl tys s → Nt s → lv_has ls maxL (lv_args 0 vs) →
      W p l e rm s m vs.toArray below meth c s.heap [] 0 0 (MQ below Qc vs.toArray s mc ms free) (F0 m 0 ls [])) :
    Met l y (.code y cc maxL ret :: TS) rm (va_Pc vs (fun U => U.heap.size = sz ∧ va_P D cl ws U.heap ∧ va_K D cl tys U ∧ Nt U)) Qc mc ms free := by
  refine Met.ofW (cc := cc) (maxL := maxL) (ret := ret) hy rfl ?_
  intro p e s m args below meth c s₁ B hml hv
  obtain ⟨rfl, hsz, hP, hK, hN⟩ := hv
  have hts := atoms_spec (ws := .code y cc maxL ret :: TS) B.pre
  have hl := lv_entry vs (n := maxL) hn
  rw [lg_entry_eq]
  exact body p e s m below meth c _ B.exec B.bytes hml B.returns B.notSynchronized (findClass_of_methodNamed B.named) (name_of_methodNamed B.named B.method).1 (fun w h => hts w (List.mem_cons_of_mem _ h)) hsz hP hK hN hl
theorem gi_C {TS : List Cond} {maxL : Nat} {y : MethodName} {cc : ByteArray} {ret : Option FieldType} (hg : GoodIn TS TS) (hc : Cond.code y cc maxL ret ∈ TS) : GoodIn TS (.code y cc maxL ret :: TS) := by
  intro w hw
  rcases List.mem_cons.mp hw with rfl | h
  · exact hg _ hc
  · exact hg _ h
theorem D_one {q : Nat} {e : va_E} {sz : Nat} : va_D (va_A [(q, e)] sz) [(q, e)] := by
  refine ⟨fun i j x y hi hj hxy => ?_, fun k x hk => va_A.in hk⟩
  have h1 := (List.getElem?_eq_some_iff.mp hi).1
  have h2 := (List.getElem?_eq_some_iff.mp hj).1
  simp at h1 h2
  omega
theorem D_ad {A : Nat → Prop} {ws ws' : va_W} (h : va_D A ws) (he : ws'.map (fun q => q.1) = ws.map (fun q => q.1)) : va_D A ws' := by
  have key : ∀ (k : Nat) (q : Nat × va_E), ws'[k]? = some q → ∃ q0, ws[k]? = some q0 ∧ q0.1 = q.1 := by
    intro k q hk
    have h1 : (ws'.map (fun q => q.1))[k]? = some q.1 := by rw [List.getElem?_map, hk]; rfl
    rw [he, List.getElem?_map] at h1
    cases hz : ws[k]? with
    | none => rw [hz] at h1; cases h1
    | some q0 => rw [hz] at h1; exact ⟨q0, rfl, Option.some.inj h1⟩
  refine ⟨fun i j x y hi hj hxy => ?_, fun k q hk => ?_⟩
  · obtain ⟨x0, h1, h2⟩ := key i x hi
    obtain ⟨y0, h3, h4⟩ := key j y hj
    exact h.1 i j x0 y0 h1 h3 (h2.trans (hxy.trans h4.symm))
  · obtain ⟨q0, h1, h2⟩ := key k q hk
    rw [← h2]
    exact h.2 k q0 h1
theorem dj_of {A : Nat → Prop} {ws wc : va_W} {as : List Nat} (h : va_D A ws) (is : List Nat) (hn : va_nd is = true) (hC : is.map (fun i => ws[i]?) = wc.map some) (ha : wc.map (fun q => q.1) = as) : dj as := by
  subst ha
  intro i j a hi hj
  have hd := h.sub (ws' := wc) is hn hC
  rw [List.getElem?_map] at hi hj
  cases hx : wc[i]? with
  | none => rw [hx] at hi; cases hi
  | some x =>
    cases hy : wc[j]? with
    | none => rw [hy] at hj; cases hj
    | some y =>
      rw [hx] at hi
      rw [hy] at hj
      exact hd.1 i j x y hx hy ((Option.some.inj hi).trans (Option.some.inj hj).symm)
section NA
variable {p : Program} {l : Launch} {e : Env} {R : Room} {s : State} {m : MethodId} {args : Array Value} {below : List Frame} {meth : Method} {c : Code} {H : Heap} {locs : List Loc} {cells slots : Nat} {Q : State → Prop}
variable {cc : ByteArray} {pc : Nat} {ls : Array Slot} {rest : List Value} {D : va_G} {cl : List vw_C} {A : Nat → Prop} {ws : va_W} {H0 : Heap} {cI : ClassId}
theorem nw_arr (hx : p.tables.exec = Jvm.exec) (hb : c.code = cc) (harr : (Cond.arrayClass .int).before args s = true) (hK : va_K D cl [(cI, .int)] s) (hP : va_P D cl ws H) (hD : va_D A ws) (hS : va_S A H0 H locs) (hA : ∀ q, H0.size ≤ q → A q) {n : Int32} {N : Nat} (hn : ¬ n < 0) (hN : n.toNatClampNeg = N) (hbytes : N * componentBytes .int ≤ 536870912) (hcells : cells + 1 ≤ R.cells) (hslots : slots + N ≤ R.slots) (hdg : decode cc pc = .ok (.newarray .int, 2))
    (kk : ∀ (q : Nat) (H1 : Heap), va_P D cl (ws ++ [(q, .inl (cI, N, .inl (fun _ => 0)))]) H1 → va_D A (ws ++ [(q, .inl (cI, N, .inl (fun _ => 0)))]) → va_S A H0 H1 locs → W p l e R s m args below meth c H1 locs (cells + 1) (slots + N) Q (F0 m (pc + 2) ls (.ref q :: rest))) : W p l e R s m args below meth c H locs cells slots Q (F0 m pc ls (.int n :: rest)) := by
  refine va_newa (atype := .int) (ty := .int) (N' := N) (n := n) (a0 := (N, .inl (fun _ => 0))) hx hb harr rfl hK hP hD hS hA (fun _ => rfl) hn hN hbytes hcells hslots hdg (fun q cA H1 hK1 hP1 hD1 hS1 => ?_)
  have h1 : s.vm.findClass ("[" ++ (FieldType.int).toString) = some cI := (hK.2 0 (cI, .int) rfl).2
  have h2 : s.vm.findClass ("[" ++ (FieldType.int).toString) = some cA := (hK1.2 1 (cA, .int) rfl).2
  have e : cI = cA := Option.some.inj (h1.symm.trans h2)
  subst e
  exact kk q H1 hP1 hD1 hS1
end NA
abbrev zU : gU := fun _ _ => 0
