/-! a method that throws: its contract, its opening, the throw's own row, a call that throws -/
def XQ (D : va_G) (cl : List vw_C) (w1 : va_W) (A : Nat → Prop) : Array Value → State → Outcome → State → Prop := fun _ st o t =>
  ∃ (q : Addr) (ce : Cell) (L : List Loc), o = .threw q ∧ va_P D cl w1 t.heap ∧ t.heap[q]? = some ce ∧ ce.vm = .none ∧ st.vm.findClass iae = some ce.cls ∧ va_F A st t ∧ st.WarmedH t.vm ∧ st.sameButNew ({ t with vm := st.vm } : State) L 1 6 ∧ ∀ z ∈ L, A z.base
def MetX (l : Launch) (y : MethodName) (ws : List Cond) (rm : Room) (Pc : Array Value → State → Prop) (D : va_G) (cl : List vw_C) (w1 : va_W) (A : Nat → Prop) : Prop := MetFree l y (headSpec ws rm) Pc (fun _ _ _ _ _ => True) (XQ D cl w1 A)
def MQX (below : List Frame) (D : va_G) (cl : List vw_C) (w1 : va_W) (A : Nat → Prop) (a : Array Value) (s : State) : State → Prop := fun t => ∃ o, t.status = .running ∧ Ended t below o ∧ XQ D cl w1 A a s o t
theorem ct_ofX {A : Nat → Prop} {tJ : Nat} {l : Launch} {y : MethodName} {cc : ByteArray} {maxL : Nat} {ret : Option FieldType} {TS : List Cond} {rm : Room} {vs : List Value} {D : va_G} {cl : List vw_C} {ws w1 : va_W} {tys : List (ClassId × FieldType)} (hfl : l.flags = pinnedFlags ++ [noTraceFlag])
    (hy : plainName y.cls = true) (hn : (lg_sl vs).length ≤ maxL)
    (body : ∀ (p : Program) (e : Env) (s : State) (m : MethodId) (below : List Frame) (meth : Method) (c : Code) (ls : Array Slot), p.tables.exec = Jvm.exec → c.code = cc → c.maxLocals = maxL → meth.sig.returnType = ret → meth.locks = false → s.vm.findClass y.cls = some m.cls → (∀ w ∈ TS, w.before vs.toArray s = true) → va_P D cl ws s.heap → va_K D cl tys s → Jt tJ A s → lv_has ls maxL (lv_args 0 vs) → Xt A s → e.platform.stackTraces = false → (∀ (x : ExceptionTableEntry) (pc : Nat), x ∈ c.exceptionTable.toList → covers x pc = false) →
      W p l e rm s m vs.toArray below meth c s.heap [] 0 0 (MQX below D cl w1 A vs.toArray s) (F0 m 0 ls [])) :
    MetX l y (.code y cc maxL ret :: TS) rm (va_Pc vs (fun U => va_P D cl ws U.heap ∧ va_K D cl tys U ∧ Jt tJ A U ∧ Xt A U)) D cl w1 A := by
  refine MetFree.of_bodyS (code := cc) (maxLocals := maxL) (ret := ret) hy ?_ ?_
  · intro args s m h hn
    obtain ⟨meth, c, h1, h2, h3, h4, h5, h6, -, -⟩ := Cond.code_spec hn (atoms_spec (ws := .code y cc maxL ret :: TS) h _ List.mem_cons_self)
    exact ⟨meth, c, h1, h2, h3, h4, h5, h6⟩
  · intro p e s m args below meth c s₁ B hml hv _
    obtain ⟨rfl, hP, hK, hJ, hX⟩ := hv
    have hts := atoms_spec (ws := .code y cc maxL ret :: TS) B.pre
    have hl := lv_entry vs (n := maxL) hn
    have hne := BodyLoose.noHandlers B (hts _ List.mem_cons_self)
    have hh0 : s₁.heap = s.heap := by rw [B.state]; rfl
    have K := body p e s m below meth c _ B.exec B.bytes hml B.returns B.notSynchronized (findClass_of_methodNamed B.named) (fun w h => hts w (List.mem_cons_of_mem _ h)) hP hK hJ hl hX (Launch.traces_off hfl B.admits) (fun x pc hx => by
      have hz : c.exceptionTable.toList = [] := by simpa using hne
      rw [hz] at hx
      cases hx)
    rw [← lg_entry_eq] at K
    obtain ⟨t, a1, o, b1, b2, b3⟩ := K s₁ hh0 (Stand.of_body B)
    exact ⟨t, o, a1, b1, b2, b3⟩
theorem fr_eq {s t : State} {k n : Nat} (h : s.sameButNew ({ t with vm := s.vm } : State) [] k n) : s.heap.size ≤ t.heap.size ∧ ∀ q : Nat, q < s.heap.size → t.heap[q]? = s.heap[q]? := by
  obtain ⟨-, h2, -, -, -, h6⟩ := h
  refine ⟨h2, fun q hq => ?_⟩
  obtain ⟨c', g1, g2, g3, g4⟩ := h6 q _ (Array.getElem?_eq_getElem hq)
  have hs : c'.slots = (s.heap[q]).slots := Array.ext_getElem? fun i => g4 i (by simp)
  rw [hs] at g2
  have g1' : t.heap[q]? = some c' := g1
  rw [g1', g2, Array.getElem?_eq_getElem hq]
section RB
variable {p : Program} {l : Launch} {e : Env} {R : Room} {s : State} {m : MethodId} {args : Array Value} {below : List Frame} {meth : Method} {c : Code} {T : State} {locs : List Loc}
/-- the state of the call, as if it had been made with the heap and the tables of now -/
abbrev nowS (s T : State) : State := ({ s with heap := T.heap, slotsUsed := T.slotsUsed } : State).setVm T.vm
theorem now_T (X : Stand p l e R s m args below meth c T locs 0 0) : T = (nowS s T).setFrames T.frames := by
  have e1 := X.same.1
  have h : T = (T.setVm s.vm).setVm T.vm := rfl
  rw [e1] at h
  exact h
theorem re_base (X : Stand p l e R s m args below meth c T locs 0 0) : Stand p l e R (nowS s T) m args below meth c T [] 0 0 := by
  have e3 : T.heap.size ≤ s.heap.size + 0 := X.same.2.2.1
  have e2 : s.heap.size ≤ T.heap.size := X.same.2.1
  have e4 : T.slotsUsed ≤ s.slotsUsed + 0 := X.used
  have hd0 : T.heap.toList.drop T.heap.size = [] := List.drop_eq_nil_of_le (Nat.le_of_eq Array.length_toList)
  have l1 := State.localsInUse_invoking X.frames X.method X.code
  have l2 := State.localsInUse_invoking (s := nowS s T) X.frames X.method' X.code
  refine ⟨X.admits, X.cas, X.clock, X.frames, ?_, ?_, X.method', X.code, X.here, X.tail, State.WarmedH.refl (nowS s T), X.limits, X.bytes, ?_⟩
  · have hr := X.room
    have hb := X.book
    simp only [State.hasRoom, Bool.and_eq_true, decide_eq_true_eq] at hr ⊢
    obtain ⟨⟨⟨⟨r1, r2⟩, r3⟩, r4⟩, r5⟩ := hr
    rw [l1] at r1 r2
    rw [l2]
    refine ⟨⟨⟨⟨r1, r2⟩, ?_⟩, ?_⟩, hb⟩
    · show T.heap.size + R.cells ≤ _
      omega
    · show T.slotsUsed + R.slots ≤ _
      omega
  · have hh := X.hears
    have hm : ∀ x, (nowS s T).vm.method? x = s.vm.method? x := fun x => X.warmed.alike.method? x
    have hc : ∀ x, (nowS s T).code? x = s.code? x := fun x => by rw [State.code?_eq, State.code?_eq, hm]
    unfold State.hears at hh ⊢
    split at hh <;> simp_all
  · refine ⟨?_, Nat.le_refl _, Nat.le_refl _, ?_, ?_, fun a c h => ⟨c, h, rfl, rfl, fun _ _ => rfl⟩⟩
    · exact now_T X
    · show T.slotsUsed = T.slotsUsed + ((T.heap.toList.drop T.heap.size).map (·.slots.size)).sum
      rw [hd0]
      rfl
    · show ((T.heap.toList.drop T.heap.size).map (·.slots.size)).sum ≤ 0
      rw [hd0]
      exact Nat.le_refl _
theorem now_same {t : State} {k n : Nat} (X : Stand p l e R s m args below meth c T locs 0 0) (h : (nowS s T).sameButNew ({ t with vm := (nowS s T).vm } : State) [] k n) : s.sameButNew ({ t with vm := s.vm } : State) locs k n := by
  have hT := now_T X
  have h1 : T.sameButNew ({ t with vm := T.vm } : State) [] k n := by
    obtain ⟨g1, g2⟩ := h
    refine ⟨?_, g2⟩
    have e9 : ∀ F, T.setFrames F = (nowS s T).setFrames F := fun F => by
      conv => lhs; rw [hT]
      rw [State.setFrames_setFrames]
    have g1' : ({ t with vm := T.vm } : State) = { (nowS s T).setFrames t.frames with heap := t.heap, slotsUsed := t.slotsUsed } := g1
    show ({ t with vm := T.vm } : State) = { T.setFrames t.frames with heap := t.heap, slotsUsed := t.slotsUsed }
    rw [e9]
    exact g1'
  have h2 : s.sameButNew ({ t with vm := s.vm } : State) (locs ++ []) (0 + k) (0 + n) := X.same.trans (h1.setVm s.vm)
  rw [List.append_nil, Nat.zero_add, Nat.zero_add] at h2
  exact h2
end RB
section TH
variable {p : Program} {l : Launch} {e : Env} {R : Room} {s : State} {m : MethodId} {args : Array Value} {below : List Frame} {meth : Method} {c : Code} {H : Heap} {locs : List Loc}
variable {cc : ByteArray} {pc : Nat} {ls : Array Slot} {rest : List Value} {D : va_G} {cl : List vw_C} {A : Nat → Prop} {ws : va_W}
/-- throw new IllegalArgumentException("..") -/
theorem thr_new {own tx : String} {i1 i2 ic nL : Nat} (hx : p.tables.exec = Jvm.exec) (hb : c.code = cc) (hml : c.maxLocals = nL) (hl : ls.size = nL) (hlocks : meth.locks = false) (htr : e.platform.stackTraces = false) (hown : s.vm.findClass own = some m.cls) (hw : ∀ w ∈ TS, w.before args s = true) (hX : Xt A s) (hS : va_S A s.heap H locs) (hP : va_P D cl ws H)
    (m1 : Cond.classLink own i1 iae ∈ TS) (m2 : Cond.instantiable iae 6 ∈ TS) (m3 : Cond.initialized iae ∈ TS) (m4 : Cond.methodLink own ic (Bundle.initS iae) ∈ TS) (hs : (own, i2, tx) ∈ XS) (hout : ∀ (x : ExceptionTableEntry) (pc : Nat), x ∈ c.exceptionTable.toList → covers x pc = false)
    (hcells : 1 ≤ R.cells) (hslots : 6 ≤ R.slots) (hframes : 5 < R.frames) (hlocals : (rest.map fun v => v.category).sum + 100 ≤ R.locals)
    (d0 : decode cc pc = .ok (.new i1, 3)) (d3 : decode cc (pc + 3) = .ok (.dup, 1)) (d4 : decode cc (pc + 4) = .ok (.ldc i2, 2)) (d6 : decode cc (pc + 6) = .ok (.invokespecial ic, 3)) (d9 : decode cc (pc + 9) = .ok (.athrow, 1)) :
    W p l e R s m args below meth c H locs 0 0 (MQX below D cl ws A args s) (F0 m pc ls rest) := by
  intro T hT X
  have X' := re_base X
  have hWn : s.WarmedH (nowS s T).vm := X.warmed
  have hg : ∀ w ∈ TS, w.before args (nowS s T) = true := fun w h => word_at hWn (TS_ok w h).2 (hw w h)
  have hX' : Xt A (nowS s T) := Xt_go hX hWn (fun q h1 h2 => by
    show T.heap[q]? = _
    rw [hT]
    exact hS.2.1 q h1 h2) (fun _ h => h)
  have hown' : (nowS s T).vm.findClass own = some m.cls := by rw [hWn.alike.findClass]; exact hown
  have hRl : (rest.map fun v => v.category).sum + 100 ≤ R.locals := hlocals
  have key : W p l e R (nowS s T) m args below meth c H [] 0 0 (fun t => t.status = .running ∧ ∃ (q : Addr) (ce : Cell), Ended t below (.threw q) ∧ (nowS s T).WarmedH t.vm ∧ (nowS s T).sameButNew ({ t with vm := (nowS s T).vm } : State) [] 1 6 ∧ t.heap[q]? = some ce ∧ ce.vm = .none ∧ (nowS s T).vm.findClass iae = some ce.cls) (F0 m pc ls rest) := by
    refine W.newc hx hb hown' (hg _ m1) (hg _ m2) (hg _ m3) rfl d0 (by omega) (by omega) (fun cC kC h1 h2 h3 h4 => ?_)
    refine W.eq (g2 := F0 m (pc + 3) ls (.ref H.size :: rest)) rfl ?_
    refine lv_dup hx hb d3 rfl ?_
    obtain ⟨q, hq⟩ := hX'.2.2.2 (own, i2, tx) hs
    refine va_ldcS hx hb hown' hq d4 ?_
    intro T2 hT2 X2
    obtain ⟨U, st, hrun, hend, hW, hsm, ce, hce, OC⟩ := X2.ctorThrowS hx htr hown' (cls := iae) (names := xnm) (ic := ic) (by decide +kernel) (by decide +kernel) (own_at (A := A) (fun w h => hg w (EL_in own ic m4 w h)) hX') (fun x hx => by cases hx) (a := H.size) h1 h2 (by rw [hT2]; simp [freshCell]) (by show T.heap.size ≤ H.size; rw [hT]; exact Nat.le_refl _) (msg := .ref q) rfl
      (g := F0 m (pc + 6) ls (.ref q :: .ref H.size :: .ref H.size :: rest)) rfl (by rw [hml]; exact hl) rfl rfl rfl (by rw [hb]; exact d6) (by rw [hb]; exact d9) (fun x hx => hout x _ hx) (by show 2 + 3 < R.frames; omega) (by
        show 2 * 0 + (1 + (rest.map fun v => v.category).sum) + (13 * (2 + 1) + 42) ≤ R.locals
        omega) hlocks
    exact ⟨U, st, hrun, H.size, ce, hend, hW, hsm, hce, OC.vm, OC.cls⟩
  obtain ⟨t, st, hrun, q, ce, hend, hW, hsm, hce, hv, hc⟩ := key T hT X'
  obtain ⟨f1, f2⟩ := fr_eq hsm
  have f1' : H.size ≤ t.heap.size := by rw [← hT]; exact f1
  have f2' : ∀ q : Nat, q < H.size → t.heap[q]? = H[q]? := fun q hq => by
    rw [← hT]
    exact f2 q (by show q < T.heap.size; rw [hT]; exact hq)
  refine ⟨t, st, .threw q, hrun, hend, q, ce, locs, rfl, hP.kept (fun k x hx => f2' x.1 ((hP k x hx).lt)), hce, hv, ?_, ⟨Nat.le_trans hS.1 f1', fun q h1 h2 => ?_⟩, State.WarmedH.trans hWn hW, now_same X hsm, hS.2.2⟩
  · rw [← hWn.alike.findClass]
    exact hc
  · rw [f2' q (Nat.lt_of_lt_of_le h1 hS.1)]
    exact hS.2.1 q h1 h2
end TH
section TB
variable {p : Program} {l : Launch} {e : Env} {R : Room} {s : State} {m : MethodId} {args : Array Value} {below : List Frame} {meth : Method} {c : Code} {U : State} {locs : List Loc}
variable {y : MethodName} {ws : List Cond} {rm : Room} {Pc : Array Value → State → Prop} {D : va_G} {cl : List vw_C} {w1 : va_W} {AC : Nat → Prop} {bytes : ByteArray} {maxL : Nat} {ret : Option FieldType}
theorem thr_back (hM : MetX l y ws rm Pc D cl w1 AC) (hrc : rm.cells = 1) (hrs : rm.slots = 6) (hframes : rm.frames + 1 ≤ R.frames) (hlocals : 8 + (maxL + 11) + rm.locals ≤ R.locals) (hws : ∀ w ∈ ws, ∀ (a' : Array Value) (U : State), s.WarmedH U.vm → w.before a' U = true) (hcode : Cond.code y bytes maxL ret ∈ ws) (hini : (Cond.initialized y.cls).before args s = true)
    (X : Stand p l e R s m args below meth c U locs 0 0) {g : JFrame} {ig : Instr} {len : Nat} (hg : g.method = m) (hsize : g.locals.size = c.maxLocals) (hdg : decode c.code g.pc = .ok (ig, len)) (hW : 2 * g.monitorRoom + (g.stack.map fun v => v.category).sum ≤ 8) {mk : MethodId} (hn : U.methodNamed? y = some mk) (hcells : 1 ≤ R.cells) (hslots : 6 ≤ R.slots) {a : Array Value} (hPc : Pc a (U.calling g mk a)) (hlocks : meth.locks = false) (hout : ∀ x ∈ c.exceptionTable.toList, covers x g.pc = false) (hlocked : g.locked = none) (hentered : g.entered = []) :
    ∃ (t : State) (q : Addr) (s₂ : State) (L : List Loc), Steps p.tables e below (doInvoke e (U.setTop g) [] mk a).1 t ∧ t.status = .running ∧ Ended t below (.threw q) ∧ t.heap = s₂.heap ∧ s.WarmedH t.vm ∧ s.sameButNew ({ t with vm := s.vm } : State) (locs ++ L) 1 6 ∧ (∀ z ∈ L, AC z.base) ∧ va_P D cl w1 s₂.heap ∧ va_F AC (U.calling g mk a) s₂ ∧ ∃ ce, s₂.heap[q]? = some ce ∧ ce.vm = .none ∧ s.vm.findClass iae = some ce.cls := by
  have h1 : (headSpec ws rm).pre.before a U = true := atoms_intro fun w hw => hws w hw _ _ X.warmed
  have h2 : (Cond.code y bytes maxL ret).before a U = true := hws _ hcode _ _ X.warmed
  have h3 : (Cond.initialized y.cls).before a U = true := word_at X.warmed (Or.inl (by first | rfl | simp [Cond.onTables, Cond.keeps, Cond.steady])) hini
  obtain ⟨methY, cY, hmY, hcY, -, hlY, -, -, -, -⟩ := Cond.code_spec hn h2
  obtain ⟨kY, hkY, -⟩ := className_of_methodNamed hn
  have hinitY : kY.init = .initialized := Cond.initialized_spec (findClass_of_methodNamed hn) hkY h3
  have h : At U g.method c below := by rw [hg]; exact X.here
  have happ : (headSpec ws rm).appliesLoose y e.platform (U.calling g mk a) = true :=
    Spec.appliesLoose_calling (g := g) h hdg hn hkY hinitY
      (X.room_calling (g := g) (R' := (headSpec ws rm).room) hsize hmY hcY hframes (by rw [hlY]; show _ + rm.locals ≤ _; omega) (by show 0 + rm.cells ≤ _; omega) (by show 0 + rm.slots ≤ _; omega)) h1
  obtain ⟨mid, hmid⟩ := h.above
  have hfr : (U.setTop g).frames = (.java g :: mid) ++ below := by rw [State.frames_setTop' g h.top, hmid]; rfl
  obtain ⟨o, s₂, hsteps, -, hend, hq⟩ := Steps.callFree hM p X.admits X.cas X.clock (acts := []) hfr happ hPc trivial
  rw [State.frames_setTop' g h.top] at hend
  obtain ⟨q, ce, L, rfl, hP1, hce, hcv, hcl, hF, hW₂, hsm, hL⟩ := hq
  obtain ⟨g₀, hg0⟩ := Option.isSome_iff_exists.mp h.top
  obtain ⟨r, hr⟩ := State.topJava?_eq_some.mp hg0
  have hr' : (({ U with heap := s₂.heap, slotsUsed := s₂.slotsUsed } : State).setVm s₂.vm).frames = .java g₀ :: r := hr
  obtain ⟨e2, q2, q3, q4, q5, q6⟩ := id hsm
  have e3 : s₂ = ({ (U.calling g mk a).setFrames s₂.frames with heap := s₂.heap, slotsUsed := s₂.slotsUsed } : State).setVm s₂.vm := by
    have e9 : ({ s₂ with vm := (U.calling g mk a).vm } : State) = { (U.calling g mk a).setFrames s₂.frames with heap := s₂.heap, slotsUsed := s₂.slotsUsed } := hsm.1
    have h9 : s₂ = ({ s₂ with vm := (U.calling g mk a).vm } : State).setVm s₂.vm := rfl
    exact h9.trans (congrArg (fun z : State => z.setVm s₂.vm) e9)
  have hf₂ : s₂.frames = .throwing q :: .java g :: U.frames.tail := hend
  have hW' : U.WarmedH s₂.vm := hW₂
  have hs₂ : s₂ = ((({ U with heap := s₂.heap, slotsUsed := s₂.slotsUsed } : State).setVm s₂.vm).setTop g).pushFrame (.throwing q) := by
    refine e3.trans ?_
    rw [hf₂, State.calling_eq h.top, State.setFrames_setFrames, State.pushFrame, State.frames_setTop _ hr', State.setTop_of_frames _ hr', State.setFrames_setFrames, hr]
    rfl
  have hsame : U.sameButNew ({ U with heap := s₂.heap, slotsUsed := s₂.slotsUsed } : State) L 1 6 := by
    refine ⟨?_, q2, q3, q4, q5, q6⟩
    obtain ⟨t, ht, -⟩ := State.frames_cons hr
    show ({ U with heap := s₂.heap, slotsUsed := s₂.slotsUsed } : State) = { U.setFrames U.frames with heap := s₂.heap, slotsUsed := s₂.slotsUsed }
    rw [State.setFrames_self ht]
  subst hg
  have X' : Stand p l e R s g.method args below meth c (({ U with heap := s₂.heap, slotsUsed := s₂.slotsUsed } : State).setVm s₂.vm) (locs ++ L) (0 + 1) (0 + 6) :=
    ⟨X.admits, X.cas, X.clock, X.frames, X.room, X.hears, X.method, X.code, (X.here.setHeapUsed s₂.heap s₂.slotsUsed).setVm hW'.alike, X.tail, State.WarmedH.trans X.warmed hW', X.limits, X.bytes, X.same.trans (hsame.setVm s.vm)⟩
  obtain ⟨st1, hrun, hend1, hW1, hsm1⟩ := X'.leaveThrown q (g := g) rfl hlocked hentered hout hlocks
  refine ⟨_, q, s₂, L, ?_, hrun, hend1, rfl, hW1, hsm1, hL, hP1, hF, ce, hce, hcv, ?_⟩
  · refine Steps.trans ?_ st1
    rw [← hs₂]
    exact hsteps
  · rw [← X.warmed.alike.findClass]
    exact hcl
end TB
theorem thr_fin {p : Program} {e : Env} {s t s₂ st₀ : State} {args : Array Value} {below : List Frame} {H : Heap} {locs L : List Loc} {D : va_G} {cl : List vw_C} {A0 : Nat → Prop} {ws0 wc w1 w2 : va_W} {as is : List Nat} {q : Addr} {ce : Cell} (hrun : t.status = .running) (hend : Ended t below (.threw q)) (hh : t.heap = s₂.heap) (hWt : s.WarmedH t.vm) (hsm : s.sameButNew ({ t with vm := s.vm } : State) (locs ++ L) 1 6) (hL : ∀ z ∈ L, ad as z.base) (hP1 : va_P D cl w1 s₂.heap) (h0 : st₀.heap = H) (hF : va_F (ad as) st₀ s₂) (hce : s₂.heap[q]? = some ce) (hcv : ce.vm = .none) (hcl : s.vm.findClass iae = some ce.cls)
    (hS : va_S A0 s.heap H locs) (hP : va_P D cl ws0 H) (hD : va_D A0 ws0) (hC : is.map (fun i => ws0[i]?) = wc.map some) (haC : wc.map (fun q => q.1) = as) (ha1 : w1.map (fun q => q.1) = as) (hw2 : rp ws0 is w1 = w2) : MQX below D cl w2 A0 args s t := by
  have hsub : ∀ q, ad as q → A0 q := by
    intro q hq
    have h3 : q ∈ wc.map (fun q => q.1) := by rw [haC]; exact hq
    obtain ⟨x, hx, hxe⟩ := List.mem_map.mp h3
    obtain ⟨j, hj⟩ := List.getElem?_of_mem hx
    obtain ⟨i, hi1, hi2⟩ := pl_key hC j x hj
    rw [← hxe]
    exact hD.2 i x hi2
  have hk : ∀ q : Nat, q < H.size → ¬ ad as q → t.heap[q]? = H[q]? := fun q h1 h2 => by
    rw [hh, ← h0]
    exact hF.2 q (by rw [h0]; exact h1) h2
  have hz : H.size ≤ t.heap.size := by
    rw [hh, ← h0]
    exact hF.1
  subst hw2
  refine ⟨.threw q, hrun, hend, q, ce, locs ++ L, rfl, rp_P hP hD is hC haC ha1 hk (by rw [hh]; exact hP1), by rw [hh]; exact hce, hcv, hcl, ⟨Nat.le_trans hS.1 hz, fun q h1 h2 => ?_⟩, hWt, hsm, fun z hz => ?_⟩
  · rw [hk q (Nat.lt_of_lt_of_le h1 hS.1) (fun h => h2 (hsub q h))]
    exact hS.2.1 q h1 h2
  · rcases List.mem_append.mp hz with h | h
    · exact hS.2.2 z h
    · exact hsub _ (hL z h)
section TC
variable {p : Program} {l : Launch} {e : Env} {R : Room} {s : State} {m : MethodId} {args : Array Value} {below : List Frame} {meth : Method} {c : Code} {H : Heap} {locs : List Loc}
variable {y : MethodName} {ws : List Cond} {rm : Room} {Pc : Array Value → State → Prop} {D : va_G} {cl : List vw_C} {A0 : Nat → Prop} {ws0 wc w1 w2 : va_W} {as is : List Nat} {bytes cc : ByteArray} {maxL nL n index pc : Nat} {ret : Option FieldType} {Ts : List Cond} {own C owner : String} {b : Addr} {As rest : List Value} {ls : Array Slot}
theorem thr_V (S : CallFix p m c cc nL s args Ts own) (hM : MetX l y ws rm Pc D cl w1 (ad as)) (cw : CallW R s args own C index y bytes maxL ret ws rm 1 6 n) (hp : PreV s H C b Pc As) (hn : As.length = n) (hsize : ls.size = nL) (hW : (rest.map fun v => v.category).sum ≤ 8) (hdg : decode cc pc = .ok (.invokevirtual index, 3)) (hf : 1 ≤ R.cells ∧ 6 ≤ R.slots) (hlocks : meth.locks = false) (hout : ∀ (x : ExceptionTableEntry) (pc : Nat), x ∈ c.exceptionTable.toList → covers x pc = false)
    (hS : va_S A0 s.heap H locs) (hP : va_P D cl ws0 H) (hD : va_D A0 ws0) (hC : is.map (fun i => ws0[i]?) = wc.map some) (haC : wc.map (fun q => q.1) = as) (ha1 : w1.map (fun q => q.1) = as) (hw2 : rp ws0 is w1 = w2) : W p l e R s m args below meth c H locs 0 0 (MQX below D cl w2 A0 args s) (F0 m pc ls (As.reverse ++ .ref b :: rest)) := by
  obtain ⟨⟨hrc, hrs, hfr, hlo, hws, hcd, hcode, hini, hy, hlen, hl⟩, hin, hse⟩ := cw
  obtain ⟨hx, hb, hml, ho, -⟩ := S
  obtain ⟨hbl, ⟨cellB, hcB, hoB, hclB⟩, hPc⟩ := hp
  intro T hT X
  obtain ⟨mk, methM, hnamed, hmethM, hstM, habM⟩ := Cond.instanceMethod_spec hin
  obtain ⟨methM', cM, hmethM', -, -, -, -, -, -, hsigM⟩ := Cond.code_spec hnamed hcode
  cases hmethM.symm.trans hmethM'
  obtain ⟨c2, r2, m2, q1, q2, q3, q4, kP, hkP, hkPi⟩ := Cond.selects_spec hse
  cases hclB.symm.trans q1
  cases (State.methodFound?_of_named hnamed hy).symm.trans q2
  cases hnamed.symm.trans q3
  have hselP : selectMethod e.platform s.vm cellB.cls mk = .method mk := by rw [Launch.admits_selectMethod X.admits]; exact q4
  obtain ⟨vm₁, X₁, hstep₁⟩ := X.invokevirtual hx ho hl hnamed hmethM hstM hkP hkPi hy (a := b) (cell := cellB) (by rw [hT]; exact hcB)
    (fun z h => by rw [h] at hoB; cases hoB) hselP hmethM habM hkP hkPi (g := F0 m pc ls (As.reverse ++ .ref b :: rest)) rfl (argsL := As) (rest := rest) (hn.trans (hlen _ hsigM)) rfl (by rw [hb]; exact hdg)
  obtain ⟨t, q, s₂, L, st, hrun, hend, hh, hWt, hsm, hL, hP1, hF, ce, hce, hcv, hcl⟩ := thr_back hM hrc hrs hfr hlo hws hcd hini X₁ (g := F0 m pc ls rest) rfl (by show ls.size = _; rw [hsize, hml]) (by rw [hb]; exact hdg) (by show 2 * 0 + (rest.map fun v => v.category).sum ≤ 8; omega) (X₁.named hnamed) hf.1 hf.2 (a := (Value.ref b :: As).toArray) (hbl _ _ _ _ (hPc (T.setVm vm₁) hT X₁.warmed)) hlocks (fun x hx => hout x _ hx) rfl rfl
  exact ⟨t, hstep₁ _ fun acts => by rw [doInvoke_state]; exact st, thr_fin (p := p) (e := e) hrun hend hh hWt hsm hL hP1 hT hF hce hcv hcl hS hP hD hC haC ha1 hw2⟩
theorem thr_U {x : MethodName} (S : CallFix p m c cc nL s args Ts own) (hM : MetX l y ws rm Pc D cl w1 (ad as)) (cw : va_CU R s args own C owner index x y bytes maxL ret ws rm 1 6 n) (hp : PreV s H C b Pc As) (hn : As.length = n) (hsize : ls.size = nL) (hW : (rest.map fun v => v.category).sum ≤ 8) (hdg : decode cc pc = .ok (.invokevirtual index, 3)) (hf : 1 ≤ R.cells ∧ 6 ≤ R.slots) (hlocks : meth.locks = false) (hout : ∀ (x : ExceptionTableEntry) (pc : Nat), x ∈ c.exceptionTable.toList → covers x pc = false)
    (hS : va_S A0 s.heap H locs) (hP : va_P D cl ws0 H) (hD : va_D A0 ws0) (hC : is.map (fun i => ws0[i]?) = wc.map some) (haC : wc.map (fun q => q.1) = as) (ha1 : w1.map (fun q => q.1) = as) (hw2 : rp ws0 is w1 = w2) : W p l e R s m args below meth c H locs 0 0 (MQX below D cl w2 A0 args s) (F0 m pc ls (As.reverse ++ .ref b :: rest)) := by
  obtain ⟨hrc, hrs, hfr, hlo, hws, hcd⟩ := cw.back
  obtain ⟨hx, hb, hml, ho, -⟩ := S
  obtain ⟨hbl, ⟨cellB, hcB, hoB, hclB⟩, hPc⟩ := hp
  intro T hT X
  obtain ⟨r0, r, hn0, hrm, hstR, hsigR⟩ := cw.decl
  obtain ⟨cn, ck, r1, hcn, hck, hni, hf0, hn1⟩ := Cond.sameMethod_found cw.same
  cases hn0.symm.trans hn1
  obtain ⟨mk, methM, hnamed, hmethM, -, habM⟩ := Cond.instanceMethod_spec cw.inst
  obtain ⟨c2, r2, m2, q1, q2, q3, q4, kP, hkP, hkPi⟩ := Cond.selects_spec cw.sel
  cases hclB.symm.trans q1
  cases hf0.symm.trans q2
  cases hnamed.symm.trans q3
  have hselP : selectMethod e.platform s.vm cellB.cls r0 = .method mk := by rw [Launch.admits_selectMethod X.admits]; exact q4
  obtain ⟨vm₁, X₁, hstep₁⟩ := X.invokevirtualUp hx ho cw.link cw.same cw.notMH hn0 hrm hstR (a := b) (cell := cellB) (by rw [hT]; exact hcB)
    (fun z h => by rw [h] at hoB; cases hoB) hselP hmethM habM hkP hkPi (g := F0 m pc ls (As.reverse ++ .ref b :: rest)) rfl (argsL := As) (rest := rest) (hn.trans (cw.len _ hsigR)) rfl (by rw [hb]; exact hdg)
  obtain ⟨t, q, s₂, L, st, hrun, hend, hh, hWt, hsm, hL, hP1, hF, ce, hce, hcv, hcl⟩ := thr_back hM hrc hrs hfr hlo hws hcd cw.init X₁ (g := F0 m pc ls rest) rfl (by show ls.size = _; rw [hsize, hml]) (by rw [hb]; exact hdg) (by show 2 * 0 + (rest.map fun v => v.category).sum ≤ 8; omega) (X₁.named hnamed) hf.1 hf.2 (a := (Value.ref b :: As).toArray) (hbl _ _ _ _ (hPc (T.setVm vm₁) hT X₁.warmed)) hlocks (fun x hx => hout x _ hx) rfl rfl
  exact ⟨t, hstep₁ _ fun acts => by rw [doInvoke_state]; exact st, thr_fin (p := p) (e := e) hrun hend hh hWt hsm hL hP1 hT hF hce hcv hcl hS hP hD hC haC ha1 hw2⟩
end TC
theorem pre_VX {A B : Nat → Prop} {tJ : Nat} {D : va_G} {cl : List vw_C} {tys : List (ClassId × FieldType)} {wc : va_W} {s : State} {H : Heap} {locs : List Loc} {As : List Value} {b ci : Nat} {q : vw_C} {fs : List Value} (hP : va_P D cl wc H) (hK : va_K D cl tys s) (hc : cl[ci]? = some q) (he : wc[0]? = some (b, .inr (ci, fs))) (hJ : Jt tJ A s) (hX : Xt A s) (hS : va_S A s.heap H locs) (hAB : ∀ q, B q → A q) : PreV s H q.1 b (va_Pc (.ref b :: As) (fun U => va_P D cl wc U.heap ∧ va_K D cl tys U ∧ Jt tJ B U ∧ Xt B U)) As :=
  ⟨fun a U g mk q => ⟨q.1, q.2.1, va_K.moved (u := U) (U := U.calling g mk a) (Vm.Alike.refl U.vm) q.2.2.1, Jt_blind q.2.2.2.1, Xt_blind q.2.2.2.2⟩, va_recv hK hP hc he, fun U hU hW => ⟨rfl, by rw [hU]; exact hP, va_K.moved hW.alike hK, Jt_call hJ hS hAB U hU hW, Xt_go hX hW (fun q h1 h2 => by rw [hU]; exact hS.2.1 q h1 h2) hAB⟩⟩
theorem sr {α β : Type} {a b : β} (h : (some (.inr a) : Option (α ⊕ β)) = some (.inr b)) : some a = some b := by cases h; rfl
theorem sl {α β : Type} {a b : α} (h : (some (.inl a) : Option (α ⊕ β)) = some (.inl b)) : a = b := by cases h; rfl
theorem eq_tr {α β : Type} {f : α → β} {x : β} {a b : α} (h : a = b) (e : x = f a) : x = f b := by subst h; exact e
