/-! my own rows: states as functions, pure pictures of methods, calls that make no cells -/
abbrev gU : Type := Nat → Nat → Int32
def tk {α β : Type} (x : α) (f : α → β) : β := f x
theorem tk_e {α β : Type} {x y : α} {f : α → β} {r : β} (h : tk x f = r) (e : y = x) : f y = r := by
  subst e
  exact h
theorem tk_o {α β : Type} {x : α} {f : α → β} {r : β} (h : tk x f = r) : ∃ y : α, y = x ∧ f y = r := ⟨x, rfl, h⟩
def gd {β : Type} (c : Prop) [Decidable c] (b : Option β) : Option β := if c then b else none
theorem gd_o {β : Type} {c : Prop} [Decidable c] {b : Option β} {r : β} (h : gd c b = some r) : c ∧ b = some r := by
  unfold gd at h
  by_cases hc : c
  · rw [if_pos hc] at h
    exact ⟨hc, h⟩
  · rw [if_neg hc] at h
    cases h
def bq {β : Type} (c : Prop) [Decidable c] (a b : β) : β := if c then a else b
theorem bq_t {β : Type} {c : Prop} [Decidable c] {a b r : β} (h : bq c a b = r) (hc : c) : a = r := by
  unfold bq at h
  rw [if_pos hc] at h
  exact h
theorem bq_n {β : Type} {c : Prop} [Decidable c] {a b r : β} (h : bq c a b = r) (hc : ¬ c) : b = r := by
  unfold bq at h
  rw [if_neg hc] at h
  exact h
def bd {α β : Type} (x : Option α) (f : α → Option β) : Option β := x.bind f
theorem bd_o {α β : Type} {x : Option α} {f : α → Option β} {r : β} (h : bd x f = some r) : ∃ a : α, x = some a ∧ f a = some r := by
  cases x with
  | none => cases h
  | some a => exact ⟨a, rfl, h⟩
/-- a place of an array of n cells -/
abbrev ix (i : Int32) (n : Nat) : Prop := 0 ≤ i.toInt ∧ i.toInt < (n : Int)
theorem ix_in {i : Int32} {n : Nat} (h : ix i n) : vp_in i n := vp_in_iff.mpr h
abbrev tc (i : Int32) : Nat := i.toNatClampNeg
def st1 (u : gU) (k : Nat) (f : Nat → Int32) : gU := fun i => if i = k then f else u i
def st2 (u : gU) (k j : Nat) (x : Int32) : gU := fun i => if i = k then upd (u k) j x else u i
def sb (mp : List Nat) (u : gU) : gU := fun i => u (mp.getD i 0)
def mg : List Nat → Nat → gU → gU → gU
  | [], _, u, _ => u
  | j :: l, k, u, v => st1 (mg l (k + 1) u v) j (v k)
/-- addresses: which, and that they are apart -/
def ad (as : List Nat) : Nat → Prop := fun q => q ∈ as
def dj (as : List Nat) : Prop := ∀ (i j a : Nat), as[i]? = some a → as[j]? = some a → i = j
theorem dj_D {ws : va_W} {as : List Nat} (h : ws.map (fun q => q.1) = as) (hd : dj as) : va_D (ad as) ws := by
  subst h
  refine ⟨fun i j p q hi hj hpq => ?_, fun k q hk => List.mem_map.mpr ⟨q, List.mem_of_getElem? hk, rfl⟩⟩
  refine hd i j p.1 ?_ ?_
  · rw [List.getElem?_map, hi]
    rfl
  · rw [List.getElem?_map, hj, hpq]
    rfl
theorem pl_key {α : Type} {as bs : List α} {is : List Nat} (hs : is.map (fun i => as[i]?) = bs.map some) (k : Nat) (a : α) (h : bs[k]? = some a) : ∃ i, is[k]? = some i ∧ as[i]? = some a := by
  have h1 : (is.map (fun i => as[i]?))[k]? = some (some a) := by
    rw [hs, List.getElem?_map, h]
    rfl
  rw [List.getElem?_map] at h1
  cases hi : is[k]? with
  | none => rw [hi] at h1; cases h1
  | some i => rw [hi] at h1; exact ⟨i, rfl, Option.some.inj h1⟩
theorem dj_sub {as bs : List Nat} (hd : dj as) (is : List Nat) (hn : va_nd is = true) (hs : is.map (fun i => as[i]?) = bs.map some) : dj bs := by
  intro i j a hi hj
  obtain ⟨x, h1, h2⟩ := pl_key hs i a hi
  obtain ⟨y, h3, h4⟩ := pl_key hs j a hj
  have hxy := hd x y a h2 h4
  subst hxy
  exact va_nd_inj is hn i j x h1 h3
theorem ad_sub {as bs : List Nat} (is : List Nat) (hs : is.map (fun i => as[i]?) = bs.map some) : ∀ q, ad bs q → ad as q := by
  intro q hq
  obtain ⟨k, hk⟩ := List.getElem?_of_mem hq
  obtain ⟨i, -, hi⟩ := pl_key hs k q hk
  exact List.mem_of_getElem? hi
theorem P_sub {D : va_G} {cl : List vw_C} {ws wc : va_W} {H : Heap} {is : List Nat} (hs : is.map (fun i => ws[i]?) = wc.map some) (h : va_P D cl ws H) : va_P D cl wc H := by
  intro k q hk
  obtain ⟨i, -, hi⟩ := pl_key hs k q hk
  exact h i q hi
/-- a world with some cells replaced -/
def rp (ws : va_W) : List Nat → va_W → va_W
  | i :: is, c :: w => (rp ws is w).set i c
  | _, _ => ws
theorem rp_get (ws : va_W) : ∀ (is : List Nat) (w : va_W) (k : Nat) (q : Nat × va_E), is.length = w.length → (rp ws is w)[k]? = some q → q ∈ w ∨ (k ∉ is ∧ ws[k]? = some q)
  | [], [], k, q, _, h => Or.inr ⟨by simp, h⟩
  | [], c :: w, k, q, hl, h => by simp at hl
  | i :: is, [], k, q, hl, h => by simp at hl
  | i :: is, c :: w, k, q, hl, h => by
    have hl' : is.length = w.length := by simpa using hl
    have h : ((rp ws is w).set i c)[k]? = some q := h
    by_cases hk : i = k
    · subst hk
      have hlt : i < ((rp ws is w).set i c).length := (List.getElem?_eq_some_iff.mp h).1
      rw [List.getElem?_set_self (by simpa using hlt)] at h
      cases h
      exact Or.inl List.mem_cons_self
    · rw [List.getElem?_set_ne hk] at h
      rcases rp_get ws is w k q hl' h with h1 | ⟨h1, h2⟩
      · exact Or.inl (List.mem_cons_of_mem _ h1)
      · exact Or.inr ⟨fun hm => (List.mem_cons.mp hm).elim (fun e => hk e.symm) h1, h2⟩
theorem rp_P {A0 : Nat → Prop} {D : va_G} {cl : List vw_C} {ws wc w1 : va_W} {as : List Nat} {H H1 : Heap} (hP : va_P D cl ws H) (hD : va_D A0 ws) (is : List Nat) (hC : is.map (fun i => ws[i]?) = wc.map some) (haC : wc.map (fun q => q.1) = as) (ha1 : w1.map (fun q => q.1) = as)
    (hk : ∀ q : Nat, q < H.size → ¬ ad as q → H1[q]? = H[q]?) (hP1 : va_P D cl w1 H1) : va_P D cl (rp ws is w1) H1 := by
  have hl : is.length = w1.length := by
    have e1 := congrArg List.length hC
    have e2 := congrArg List.length haC
    have e3 := congrArg List.length ha1
    simp at e1 e2 e3
    omega
  intro k q hq
  rcases rp_get ws is w1 k q hl hq with h1 | ⟨h1, h2⟩
  · obtain ⟨j, hj⟩ := List.getElem?_of_mem h1
    exact hP1 j q hj
  · refine (hP k q h2).kept (hk q.1 ((hP k q h2).lt) (fun h => ?_))
    have h3 : q.1 ∈ wc.map (fun q => q.1) := by rw [haC]; exact h
    obtain ⟨x, hx, hxe⟩ := List.mem_map.mp h3
    obtain ⟨j, hj⟩ := List.getElem?_of_mem hx
    obtain ⟨i, hi1, hi2⟩ := pl_key hC j x hj
    have := hD.1 k i q x h2 hi2 hxe.symm
    subst this
    exact h1 (List.mem_of_getElem? hi1)
theorem pre_S {D : va_G} {cl : List vw_C} {tys : List (ClassId × FieldType)} {wc : va_W} {s : State} {H : Heap} {As : List Value} (hP : va_P D cl wc H) (hK : va_K D cl tys s) : PreS s H (va_Pc As (fun U => va_P D cl wc U.heap ∧ va_K D cl tys U)) As :=
  ⟨fun a U g mk q => ⟨q.1, q.2.1, va_K.moved (u := U) (U := U.calling g mk a) (Vm.Alike.refl U.vm) q.2.2⟩, fun U hU hW => ⟨rfl, by rw [hU]; exact hP, va_K.moved hW.alike hK⟩⟩
theorem pre_V {D : va_G} {cl : List vw_C} {tys : List (ClassId × FieldType)} {wc : va_W} {s : State} {H : Heap} {As : List Value} {b ci : Nat} {q : vw_C} {fs : List Value} (hP : va_P D cl wc H) (hK : va_K D cl tys s) (hc : cl[ci]? = some q) (he : wc[0]? = some (b, .inr (ci, fs))) : PreV s H q.1 b (va_Pc (.ref b :: As) (fun U => va_P D cl wc U.heap ∧ va_K D cl tys U)) As :=
  ⟨fun a U g mk q => ⟨q.1, q.2.1, va_K.moved (u := U) (U := U.calling g mk a) (Vm.Alike.refl U.vm) q.2.2⟩, va_recv hK hP hc he, fun U hU hW => ⟨rfl, by rw [hU]; exact hP, va_K.moved hW.alike hK⟩⟩
section MYR
variable {p : Program} {l : Launch} {e : Env} {R : Room} {s : State} {m : MethodId} {args : Array Value} {below : List Frame} {meth : Method} {c : Code} {H : Heap} {locs : List Loc} {cells slots : Nat} {Q : State → Prop}
variable {pc : Nat} {ls : Array Slot} {rest st0 : List Value} {a : Array Value} {A0 : Nat → Prop} {H0 : Heap} {D : va_G} {cl : List vw_C} {ws wc w1 : va_W} {as : List Nat}
/-- a call that writes nothing -/
theorem ro_i {r : Int32} (hr : va_Run p l e R s m args below meth c H locs cells slots 0 0 (F0 m pc ls st0) rest (va_Qi (fun x (_ : Unit) => x = r) (fun _ _ => True) (fun _ => False) a) (fun _ => False)) (hS : va_S A0 H0 H locs) (hP : va_P D cl ws H)
    (kk : ∀ (H1 : Heap) (locs1 : List Loc), va_P D cl ws H1 → va_S A0 H0 H1 locs1 → W p l e R s m args below meth c H1 locs1 cells slots Q (F0 m (pc + 3) ls (.int r :: rest))) : W p l e R s m args below meth c H locs cells slots Q (F0 m pc ls st0) := by
  refine va_calli hr hS (fun q _ h => h.elim) (fun q h => h.elim) (fun x u t H1 locs1 ht hvm hx hB hz hk hS1 => ?_)
  subst hx
  exact kk H1 locs1 (hP.kept (fun k q hq => hk q.1 ((hP k q hq).lt) (fun h => h))) hS1
/-- a call that writes in its world -/
theorem rw_i {r : Int32} (hr : va_Run p l e R s m args below meth c H locs cells slots 0 0 (F0 m pc ls st0) rest (va_Qi (fun x (_ : Unit) => x = r) (fun _ t => va_P D cl w1 t.heap) (ad as) a) (ad as)) (hS : va_S A0 H0 H locs) (hP : va_P D cl ws H) (hD : va_D A0 ws) {is : List Nat} (hC : is.map (fun i => ws[i]?) = wc.map some) (haC : wc.map (fun q => q.1) = as) (ha1 : w1.map (fun q => q.1) = as)
    (kk : ∀ (H1 : Heap) (locs1 : List Loc), va_P D cl (rp ws is w1) H1 → va_S A0 H0 H1 locs1 → W p l e R s m args below meth c H1 locs1 cells slots Q (F0 m (pc + 3) ls (.int r :: rest))) : W p l e R s m args below meth c H locs cells slots Q (F0 m pc ls st0) := by
  have hF : ∀ q, ad as q → A0 q := by
    intro q hq
    have h3 : q ∈ wc.map (fun q => q.1) := by rw [haC]; exact hq
    obtain ⟨x, hx, hxe⟩ := List.mem_map.mp h3
    obtain ⟨j, hj⟩ := List.getElem?_of_mem hx
    obtain ⟨i, hi1, hi2⟩ := pl_key hC j x hj
    rw [← hxe]
    exact hD.2 i x hi2
  refine va_calli hr hS (fun q _ h => hF q h) hF (fun x u t H1 locs1 ht hvm hx hB hz hk hS1 => ?_)
  subst hx
  rw [ht] at hB
  exact kk H1 locs1 (rp_P hP hD is hC haC ha1 hk hB) hS1
theorem rw_v (hr : va_Run p l e R s m args below meth c H locs cells slots 0 0 (F0 m pc ls st0) rest (va_Qv (fun (_ : Unit) => True) (fun _ t => va_P D cl w1 t.heap) (ad as) a) (ad as)) (hS : va_S A0 H0 H locs) (hP : va_P D cl ws H) (hD : va_D A0 ws) {is : List Nat} (hC : is.map (fun i => ws[i]?) = wc.map some) (haC : wc.map (fun q => q.1) = as) (ha1 : w1.map (fun q => q.1) = as)
    (kk : ∀ (H1 : Heap) (locs1 : List Loc), va_P D cl (rp ws is w1) H1 → va_S A0 H0 H1 locs1 → W p l e R s m args below meth c H1 locs1 cells slots Q (F0 m (pc + 3) ls rest)) : W p l e R s m args below meth c H locs cells slots Q (F0 m pc ls st0) := by
  have hF : ∀ q, ad as q → A0 q := by
    intro q hq
    have h3 : q ∈ wc.map (fun q => q.1) := by rw [haC]; exact hq
    obtain ⟨x, hx, hxe⟩ := List.mem_map.mp h3
    obtain ⟨j, hj⟩ := List.getElem?_of_mem hx
    obtain ⟨i, hi1, hi2⟩ := pl_key hC j x hj
    rw [← hxe]
    exact hD.2 i x hi2
  refine va_callv hr hS (fun q _ h => hF q h) hF (fun u t H1 locs1 ht hvm hx hB hz hk hS1 => ?_)
  rw [ht] at hB
  exact kk H1 locs1 (rp_P hP hD is hC haC ha1 hk hB) hS1
/-- returns -/
theorem rt_roi {cc : ByteArray} {x r : Int32} (hx : p.tables.exec = Jvm.exec) (hb : c.code = cc) (hr : meth.sig.returnType = some .int) (hlocks : meth.locks = false) (hS : va_S (fun _ => False) s.heap H locs) (hf : some x = some r) (hdg : decode cc pc = .ok (.ireturn, 1)) : W p l e R s m args below meth c H locs cells slots (MQ below (va_Qi (fun x (_ : Unit) => x = r) (fun _ _ => True) (fun _ => False)) args s cells slots (fun _ => False)) (F0 m pc ls [.int x]) :=
  W.iret hx hb hr (fun t ht hW => ⟨⟨x, (), rfl, Option.some.inj hf, trivial⟩, hS.F ht⟩) hS.2.2 hdg hlocks
theorem rt_roz {cc : ByteArray} {x r : Int32} (hx : p.tables.exec = Jvm.exec) (hb : c.code = cc) (hr : meth.sig.returnType = some .boolean) (hlocks : meth.locks = false) (hz : x = 0 ∨ x = 1) (hS : va_S (fun _ => False) s.heap H locs) (hf : some x = some r) (hdg : decode cc pc = .ok (.ireturn, 1)) : W p l e R s m args below meth c H locs cells slots (MQ below (va_Qi (fun x (_ : Unit) => x = r) (fun _ _ => True) (fun _ => False)) args s cells slots (fun _ => False)) (F0 m pc ls [.int x]) :=
  W.zret hx hb hr (by rcases hz with h | h <;> subst h <;> rfl) (fun t ht hW => ⟨⟨x, (), rfl, Option.some.inj hf, trivial⟩, hS.F ht⟩) hS.2.2 hdg hlocks
theorem rt_i {cc : ByteArray} {x r : Int32} {v u : gU} {A : Nat → Prop} (wl : gU → va_W) (hx : p.tables.exec = Jvm.exec) (hb : c.code = cc) (hr : meth.sig.returnType = some .int) (hlocks : meth.locks = false) (hS : va_S A s.heap H locs) (hP : va_P D cl (wl v) H) (hf : some (x, v) = some (r, u)) (hdg : decode cc pc = .ok (.ireturn, 1)) : W p l e R s m args below meth c H locs cells slots (MQ below (va_Qi (fun x (_ : Unit) => x = r) (fun _ t => va_P D cl (wl u) t.heap) A) args s cells slots A) (F0 m pc ls [.int x]) := by
  cases hf
  exact W.iret hx hb hr (fun t ht hW => ⟨⟨x, (), rfl, rfl, by subst ht; exact hP⟩, hS.F ht⟩) hS.2.2 hdg hlocks
theorem rt_z {cc : ByteArray} {x r : Int32} {v u : gU} {A : Nat → Prop} (wl : gU → va_W) (hx : p.tables.exec = Jvm.exec) (hb : c.code = cc) (hr : meth.sig.returnType = some .boolean) (hlocks : meth.locks = false) (hz : x = 0 ∨ x = 1) (hS : va_S A s.heap H locs) (hP : va_P D cl (wl v) H) (hf : some (x, v) = some (r, u)) (hdg : decode cc pc = .ok (.ireturn, 1)) : W p l e R s m args below meth c H locs cells slots (MQ below (va_Qi (fun x (_ : Unit) => x = r) (fun _ t => va_P D cl (wl u) t.heap) A) args s cells slots A) (F0 m pc ls [.int x]) := by
  cases hf
  exact W.zret hx hb hr (by rcases hz with h | h <;> subst h <;> rfl) (fun t ht hW => ⟨⟨x, (), rfl, rfl, by subst ht; exact hP⟩, hS.F ht⟩) hS.2.2 hdg hlocks
theorem rt_v {cc : ByteArray} {v u : gU} {A : Nat → Prop} (wl : gU → va_W) (hx : p.tables.exec = Jvm.exec) (hb : c.code = cc) (hr : meth.sig.returnType = none) (hlocks : meth.locks = false) (hS : va_S A s.heap H locs) (hP : va_P D cl (wl v) H) (hf : some v = some u) (hdg : decode cc pc = .ok (.return_, 1)) : W p l e R s m args below meth c H locs cells slots (MQ below (va_Qv (fun (_ : Unit) => True) (fun _ t => va_P D cl (wl u) t.heap) A) args s cells slots A) (F0 m pc ls []) := by
  cases hf
  exact W.vret hx hb hr (fun t ht hW => ⟨⟨(), rfl, trivial, by subst ht; exact hP⟩, hS.F ht⟩) hS.2.2 hdg hlocks
end MYR
/-- a contract's opening -/
theorem ct_of {l : Launch} {y : MethodName} {cc : ByteArray} {maxL : Nat} {ret : Option FieldType} {TS : List Cond} {rm : Room} {vs : List Value} {D : va_G} {cl : List vw_C} {ws : va_W} {tys : List (ClassId × FieldType)} {Qc : Array Value → State → Outcome → State → Prop} {mc ms : Nat} {free : Addr → Prop}
    (hy : plainName y.cls = true) (hn : (lg_sl vs).length ≤ maxL)
    (body : ∀ (p : Program) (e : Env) (s : State) (m : MethodId) (below : List Frame) (meth : Method) (c : Code) (ls : Array Slot), p.tables.exec = Jvm.exec → c.code = cc → c.maxLocals = maxL → meth.sig.returnType = ret → meth.locks = false → s.vm.findClass y.cls = some m.cls → (∀ w ∈ TS, w.before vs.toArray s = true) → va_P D cl ws s.heap → va_K D cl tys s → lv_has ls maxL (lv_args 0 vs) →
      W p l e rm s m vs.toArray below meth c s.heap [] 0 0 (MQ below Qc vs.toArray s mc ms free) (F0 m 0 ls [])) :
    Met l y (.code y cc maxL ret :: TS) rm (va_Pc vs (fun U => va_P D cl ws U.heap ∧ va_K D cl tys U)) Qc mc ms free := by
  refine Met.ofW (cc := cc) (maxL := maxL) (ret := ret) hy rfl ?_
  intro p e s m args below meth c s₁ B hml hv
  obtain ⟨rfl, hP, hK⟩ := hv
  have hts := atoms_spec (ws := .code y cc maxL ret :: TS) B.pre
  have hl := lv_entry vs (n := maxL) hn
  rw [lg_entry_eq]
  exact body p e s m below meth c _ B.exec B.bytes hml B.returns B.notSynchronized (findClass_of_methodNamed B.named) (fun w h => hts w (List.mem_cons_of_mem _ h)) hP hK hl
theorem gi_V {TS : List Cond} {own C : String} {idx maxL : Nat} {y : MethodName} {cc : ByteArray} {ret : Option FieldType} (hg : GoodIn TS TS) (h1 : Cond.methodLink own idx y ∈ TS) (h2 : Cond.instanceMethod y ∈ TS) (h3 : Cond.selects C y y ∈ TS) (h4 : Cond.initialized C ∈ TS) (hc : Cond.code y cc maxL ret ∈ TS) : GoodIn TS (wsV own idx C y (.code y cc maxL ret :: TS)) := by
  intro w hw
  unfold wsV at hw
  rcases List.mem_append.mp hw with h | h
  · simp only [List.mem_cons, List.not_mem_nil, or_false] at h
    rcases h with rfl | rfl | rfl | rfl
    · exact hg _ h1
    · exact hg _ h2
    · exact hg _ h3
    · exact hg _ h4
  · rcases List.mem_cons.mp h with rfl | h
    · exact hg _ hc
    · exact hg _ h
theorem gi_S {TS : List Cond} {own : String} {idx maxL : Nat} {y : MethodName} {cc : ByteArray} {ret : Option FieldType} (hg : GoodIn TS TS) (h1 : Cond.methodLink own idx y ∈ TS) (h2 : Cond.static y ∈ TS) (h4 : Cond.initialized y.cls ∈ TS) (hc : Cond.code y cc maxL ret ∈ TS) : GoodIn TS (va_wsS own idx y (.code y cc maxL ret :: TS)) := by
  intro w hw
  unfold va_wsS at hw
  rcases List.mem_append.mp hw with h | h
  · simp only [List.mem_cons, List.not_mem_nil, or_false] at h
    rcases h with rfl | rfl | rfl
    · exact hg _ h1
    · exact hg _ h2
    · exact hg _ h4
  · rcases List.mem_cons.mp h with rfl | h
    · exact hg _ hc
    · exact hg _ h
theorem gi_U {TS : List Cond} {own C owner : String} {idx maxL : Nat} {x y : MethodName} {cc : ByteArray} {ret : Option FieldType} (hg : GoodIn TS TS) (h1 : Cond.methodLink own idx x ∈ TS) (h2 : Cond.sameMethod x.cls owner x.name x.desc ∈ TS) (h3 : Cond.selects C x y ∈ TS) (h4 : Cond.instanceMethod y ∈ TS) (h5 : Cond.initialized y.cls ∈ TS) (hc : Cond.code y cc maxL ret ∈ TS) : GoodIn TS (va_wsU own idx C owner x y (.code y cc maxL ret :: TS)) := by
  intro w hw
  unfold va_wsU at hw
  rcases List.mem_append.mp hw with h | h
  · simp only [List.mem_cons, List.not_mem_nil, or_false] at h
    rcases h with rfl | rfl | rfl | rfl | rfl
    · exact hg _ h1
    · exact hg _ h2
    · exact hg _ h3
    · exact hg _ h4
    · exact hg _ h5
  · rcases List.mem_cons.mp h with rfl | h
    · exact hg _ hc
    · exact hg _ h
/-! the static table J -/
def jv : Nat → Int32 := fun k => ([0, 0, 0, 0, 1, 1, 1, 1, 2, 2, 2, 2, 3, 3, 3, 3, 4, 4, 5, 5, 6, 6, 7, 7, 8, 9, 10, 11, 12, 13, 14, 15] : List Int32).getD k 0
def Jt (tJ : Nat) (A : Nat → Prop) (U : State) : Prop := va_Z "GradientCoder$Contexts" "J" "[I" (.ref tJ) A U U.heap ∧ va_T .int tJ 32 (fun j => .int (jv j)) A U U.heap ∧ va_Nw (.declares y_Pas_carryRun) U ∧ va_Nw (.declares y_Pas_carryRegular) U ∧ va_Nw (.declares y_Pas_carryEnd) U
theorem Jt_blind {A : Nat → Prop} {tJ : Nat} {U : State} {g : JFrame} {mk : MethodId} {a : Array Value} (h : Jt tJ A U) : Jt tJ A (U.calling g mk a) :=
  ⟨va_Z.moved (u := U) (U := U.calling g mk a) (Vm.Alike.refl U.vm) h.1, va_T.moved (u := U) (U := U.calling g mk a) (Vm.Alike.refl U.vm) h.2.1, va_Nw.same rfl (u := U) (U := U.calling g mk a) rfl h.2.2.1, va_Nw.same rfl (u := U) (U := U.calling g mk a) rfl h.2.2.2.1, va_Nw.same rfl (u := U) (U := U.calling g mk a) rfl h.2.2.2.2⟩
theorem Jt_call {A B : Nat → Prop} {tJ : Nat} {s : State} {H : Heap} {locs : List Loc} (h : Jt tJ A s) (hS : va_S A s.heap H locs) (hAB : ∀ q, B q → A q) : ∀ U : State, U.heap = H → s.WarmedH U.vm → Jt tJ B U := by
  intro U hU hW
  subst hU
  exact ⟨((h.1.kept hS.2.1).moved hW.alike).narrow hAB, ((h.2.1.kept hS.2.1).moved hW.alike).narrow hAB, va_Nw.warmD hW h.2.2.1, va_Nw.warmD hW h.2.2.2.1, va_Nw.warmD hW h.2.2.2.2⟩
theorem pre_SJ {A : Nat → Prop} {tJ : Nat} {D : va_G} {cl : List vw_C} {tys : List (ClassId × FieldType)} {wc : va_W} {s : State} {H : Heap} {As : List Value} (hP : va_P D cl wc H) (hK : va_K D cl tys s) (hJ : ∀ U : State, U.heap = H → s.WarmedH U.vm → Jt tJ A U) : PreS s H (va_Pc As (fun U => va_P D cl wc U.heap ∧ va_K D cl tys U ∧ Jt tJ A U)) As :=
  ⟨fun a U g mk q => ⟨q.1, q.2.1, va_K.moved (u := U) (U := U.calling g mk a) (Vm.Alike.refl U.vm) q.2.2.1, Jt_blind q.2.2.2⟩, fun U hU hW => ⟨rfl, by rw [hU]; exact hP, va_K.moved hW.alike hK, hJ U hU hW⟩⟩
theorem pre_VJ {A : Nat → Prop} {tJ : Nat} {D : va_G} {cl : List vw_C} {tys : List (ClassId × FieldType)} {wc : va_W} {s : State} {H : Heap} {As : List Value} {b ci : Nat} {q : vw_C} {fs : List Value} (hP : va_P D cl wc H) (hK : va_K D cl tys s) (hc : cl[ci]? = some q) (he : wc[0]? = some (b, .inr (ci, fs))) (hJ : ∀ U : State, U.heap = H → s.WarmedH U.vm → Jt tJ A U) : PreV s H q.1 b (va_Pc (.ref b :: As) (fun U => va_P D cl wc U.heap ∧ va_K D cl tys U ∧ Jt tJ A U)) As :=
  ⟨(pre_SJ (A := A) (tJ := tJ) (As := .ref b :: As) hP hK hJ).1, va_recv hK hP hc he, (pre_SJ (A := A) (tJ := tJ) (As := .ref b :: As) hP hK hJ).2⟩
theorem ct_ofJ {A : Nat → Prop} {tJ : Nat} {l : Launch} {y : MethodName} {cc : ByteArray} {maxL : Nat} {ret : Option FieldType} {TS : List Cond} {rm : Room} {vs : List Value} {D : va_G} {cl : List vw_C} {ws : va_W} {tys : List (ClassId × FieldType)} {Qc : Array Value → State → Outcome → State → Prop} {mc ms : Nat} {free : Addr → Prop}
    (hy : plainName y.cls = true) (hn : (lg_sl vs).length ≤ maxL)
    (body : ∀ (p : Program) (e : Env) (s : State) (m : MethodId) (below : List Frame) (meth : Method) (c : Code) (ls : Array Slot), p.tables.exec = Jvm.exec → c.code = cc → c.maxLocals = maxL → meth.sig.returnType = ret → meth.locks = false → s.vm.findClass y.cls = some m.cls → (∀ w ∈ TS, w.before vs.toArray s = true) → va_P D cl ws s.heap → va_K D cl tys s → Jt tJ A s → lv_has ls maxL (lv_args 0 vs) →
      W p l e rm s m vs.toArray below meth c s.heap [] 0 0 (MQ below Qc vs.toArray s mc ms free) (F0 m 0 ls [])) :
    Met l y (.code y cc maxL ret :: TS) rm (va_Pc vs (fun U => va_P D cl ws U.heap ∧ va_K D cl tys U ∧ Jt tJ A U)) Qc mc ms free := by
  refine Met.ofW (cc := cc) (maxL := maxL) (ret := ret) hy rfl ?_
  intro p e s m args below meth c s₁ B hml hv
  obtain ⟨rfl, hP, hK, hJ⟩ := hv
  have hts := atoms_spec (ws := .code y cc maxL ret :: TS) B.pre
  have hl := lv_entry vs (n := maxL) hn
  rw [lg_entry_eq]
  exact body p e s m below meth c _ B.exec B.bytes hml B.returns B.notSynchronized (findClass_of_methodNamed B.named) (fun w h => hts w (List.mem_cons_of_mem _ h)) hP hK hJ hl
theorem nzb {x : Int32} (h : x = 0 ∨ x = 1) : narrow .boolean (.int x) = .int x := by rcases h with h | h <;> subst h <;> rfl
theorem fzb {x : Int32} (h : x = 0 ∨ x = 1) : fits .boolean (.int x) = true := by rcases h with h | h <;> subst h <;> rfl
