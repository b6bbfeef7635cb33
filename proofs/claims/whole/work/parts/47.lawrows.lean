/-! the law: rows of mine -/
section LR
variable {p : Program} {l : Launch} {e : Env} {R : Room} {s : State} {m : MethodId} {args : Array Value} {below : List Frame} {meth : Method} {c : Code} {H : Heap} {locs : List Loc} {cells slots : Nat} {Q : State → Prop}
variable {pc : Nat} {ls : Array Slot} {rest st0 : List Value} {a : Array Value} {A0 : Nat → Prop} {H0 : Heap} {D : va_G} {cl : List vw_C} {w1 w2 : va_W} {as : List Nat}
theorem lw_ro {r : Int32} (hr : va_Run p l e R s m args below meth c H locs cells slots 0 0 (F0 m pc ls st0) rest (va_Qi (fun x (_ : Unit) => x = r) (fun _ _ => True) (fun _ => False) a) (fun _ => False)) (hS : va_S A0 H0 H locs)
    (kk : ∀ (H1 : Heap) (locs1 : List Loc), (∀ ws : va_W, va_P D cl ws H → va_P D cl ws H1) → va_S A0 H0 H1 locs1 → W p l e R s m args below meth c H1 locs1 cells slots Q (F0 m (pc + 3) ls (.int r :: rest))) : W p l e R s m args below meth c H locs cells slots Q (F0 m pc ls st0) := by
  refine va_calli hr hS (fun q _ h => h.elim) (fun q h => h.elim) (fun x u t H1 locs1 ht hvm hx hB hz hk hS1 => ?_)
  subst hx
  exact kk H1 locs1 (fun ws hP => hP.kept (fun k q hq => hk q.1 ((hP k q hq).lt) (fun h => h))) hS1
theorem lw_rw {r : Int32} (hr : va_Run p l e R s m args below meth c H locs cells slots 0 0 (F0 m pc ls st0) rest (va_Qi (fun x (_ : Unit) => x = r) (fun _ t => va_P D cl w1 t.heap) (ad as) a) (ad as)) (hS : va_S A0 H0 H locs) (hsub : ∀ q, ad as q → A0 q)
    (kk : ∀ (H1 : Heap) (locs1 : List Loc), va_P D cl w1 H1 → (∀ ws : va_W, (∀ x ∈ ws, ¬ ad as x.1) → va_P D cl ws H → va_P D cl ws H1) → va_S A0 H0 H1 locs1 → W p l e R s m args below meth c H1 locs1 cells slots Q (F0 m (pc + 3) ls (.int r :: rest))) : W p l e R s m args below meth c H locs cells slots Q (F0 m pc ls st0) := by
  refine va_calli hr hS (fun q _ h => hsub q h) hsub (fun x u t H1 locs1 ht hvm hx hB hz hk hS1 => ?_)
  subst hx
  rw [ht] at hB
  exact kk H1 locs1 hB (fun ws hd hP => hP.kept (fun k q hq => hk q.1 ((hP k q hq).lt) (hd q (List.mem_of_getElem? hq)))) hS1
theorem lw_dec {r : Int32} (hr : va_Run p l e R s m args below meth c H locs cells slots 1 6 (F0 m pc ls st0) rest (va_Qi (fun x (_ : Unit) => x = r) (fun _ t => va_P D cl w1 t.heap ∧ va_P D cl w2 t.heap) (ad as) a) (ad as)) (hS : va_S A0 H0 H locs) (hsub : ∀ q, ad as q → A0 q)
    (kk : ∀ (H1 : Heap) (locs1 : List Loc), va_P D cl w1 H1 → va_P D cl w2 H1 → (∀ ws : va_W, (∀ x ∈ ws, ¬ ad as x.1) → va_P D cl ws H → va_P D cl ws H1) → va_S A0 H0 H1 locs1 → W p l e R s m args below meth c H1 locs1 (cells + 1) (slots + 6) Q (F0 m (pc + 3) ls (.int r :: rest))) : W p l e R s m args below meth c H locs cells slots Q (F0 m pc ls st0) := by
  refine va_calli hr hS (fun q _ h => hsub q h) hsub (fun x u t H1 locs1 ht hvm hx hB hz hk hS1 => ?_)
  subst hx
  rw [ht] at hB
  exact kk H1 locs1 hB.1 hB.2 (fun ws hd hP => hP.kept (fun k q hq => hk q.1 ((hP k q hq).lt) (hd q (List.mem_of_getElem? hq)))) hS1
variable {y : MethodName} {bytes cc : ByteArray} {maxL nL mc ms n index : Nat} {ret : Option FieldType} {hh : List (Nat × Nat × Nat × Nat)} {ws : List Cond} {rm : Room} {Pc : Array Value → State → Prop} {Qc : Array Value → State → Outcome → State → Prop} {free : Addr → Prop} {Ts : List Cond} {own : String} {As : List Value} {g : JFrame}
theorem run_SW (S : CallFix p m c cc nL s args Ts own) (hM : Met l y ws rm Pc Qc mc ms free) (hcw : Cond.codeWith y bytes maxL ret hh ∈ ws) (hrc : rm.cells = mc) (hrs : rm.slots = ms) (hfr : rm.frames + 1 ≤ R.frames) (hlo : 8 + (maxL + 11) + rm.locals ≤ R.locals) (hG : GoodIn Ts ws) (hini : (Cond.initialized y.cls).before args s = true) (hl : (Cond.methodLink own index y).before args s = true) (hst : (Cond.static y).before args s = true)
    (hd : y.cls ≠ "java/lang/invoke/MethodHandle" ∧ y.cls ≠ "java/lang/invoke/VarHandle" ∧ (parseMethodDescriptor y.desc).map (fun d => d.parameters.length) = some n) (hp : PreS s H Pc As)
    (hg : g.method = m) (hn : As.length = n) (hsize : g.locals.size = nL) (hstack : g.stack = As.reverse ++ rest) (hW : 2 * g.monitorRoom + (rest.map fun v => v.category).sum ≤ 8) (hdg : decode cc g.pc = .ok (.invokestatic index, 3)) (hf : cells + mc ≤ R.cells ∧ slots + ms ≤ R.slots) :
    va_Run p l e R s m args below meth c H locs cells slots mc ms g rest (Qc As.toArray) (free) := by
  obtain ⟨hx, hb, hml, ho, hts⟩ := S
  have hws := pay_in hts hG
  have hK : Back l R p e below s args y 3 8 (PreOf R mc ms Pc) (PostOf Qc mc ms free) := va_backW (bytes := bytes) (maxL := maxL) (ret := ret) (hh := hh) hM hp.1 hrc hrs hfr hlo hws hcw (fun a' U hW => word_at hW (Or.inl (by first | rfl | simp [Cond.onTables, Cond.keeps, Cond.steady])) hini)
  obtain ⟨m9, methM, cM, hnamed, hmethM, -, -, -, -, -, -, hsigM⟩ := Cond.codeWith_spec (hts _ (hG _ hcw).1)
  have hstatic : methM.isStatic = true := Cond.static_spec hnamed hmethM hst
  obtain ⟨kP, hkP, -⟩ := className_of_methodNamed hnamed
  have hinitP : kP.init = .initialized := Cond.initialized_spec (findClass_of_methodNamed hnamed) hkP hini
  have hlen : As.length = methM.sig.parameters.length := by
    have h2 := hd.2.2
    rw [hsigM] at h2
    exact hn.trans (Option.some.inj h2).symm
  intro T hT X
  obtain ⟨vm₁, X₁, hstep₁⟩ := X.invokestatic hx ho hl hnamed hmethM hstatic hkP hinitP ⟨hd.1, hd.2.1⟩ (g := g) hg (argsL := As) (rest := rest) hlen hstack (by rw [hb]; exact hdg)
  obtain ⟨v, ⟨U', l2, c2, s2⟩, X', ⟨g', mk, t, L, e1, e2, hq, h1, hL, h2, h3⟩, hsteps⟩ := hK m meth c ⟨T.setVm vm₁, locs, cells, slots⟩ { g with stack := rest } (.invokestatic index) m9 As.toArray X₁ hg (hsize.trans hml.symm) (by rw [hb]; exact hdg) hW (X₁.named hnamed) ⟨hf.1, hf.2, hp.2 (T.setVm vm₁) hT X₁.warmed⟩
  dsimp only [Pt.U, Pt.locs, Pt.cells, Pt.slots] at X' e1 e2 h1 h2 h3 hsteps
  subst h1; subst h2; subst h3
  exact ⟨v, (T.setVm vm₁).calling g' mk As.toArray, t, U', L, hT, X', hL, e1, e2, hq, fun target h => hstep₁ _ fun acts => by rw [doInvoke_state]; exact hsteps.trans h⟩
end LR
/-- what two states of the class and of the reference must keep, call by call: the whole of the law in pure words -/
def LawOk (Inv : gU → gU → Prop) : Prop := ∀ u um : gU, Inv u um →
  (∀ a b c d : Int32, ∃ (r : Int32) (v vm : gU), f_Grc_frame a b c d u = some (r, v) ∧ f_Mod_frame a b c d um = some (r, vm) ∧ Inv v vm) ∧
  (∀ (a : Int32) (n : Int64), ∃ (r : Int32) (v vm : gU), f_Grc_row a n u = some (r, v) ∧ f_Mod_row a n um = some (r, vm) ∧ Inv v vm) ∧
  (∃ (r : Int32) (v vm : gU), f_Grc_encode u = some (r, v) ∧ f_Mod_encode um = some (r, vm) ∧ Inv v vm) ∧
  (∃ (r : Int32) (vm : gU), f_Grc_size u = some r ∧ f_Mod_size um = some (r, vm) ∧ Inv u vm) ∧
  (∀ a : Int32, ∃ (r : Int32) (vm : gU), f_Grc_code a u = some r ∧ f_Mod_code a um = some (r, vm) ∧ Inv u vm) ∧
  (∀ a b : Int32, ∃ (r : Int32) (v vm : gU), f_Grc_poke a b u = some (r, v) ∧ f_Mod_poke a b um = some (r, vm) ∧ Inv v vm) ∧
  (∀ a : Int32, ∃ (r : Int32) (v vm : gU), f_Grc_cut a u = some (r, v) ∧ f_Mod_cut a um = some (r, vm) ∧ Inv v vm) ∧
  ((∃ (r : Int32) (v vm : gU), f_Grc_decode u = some (.inr (r, v)) ∧ f_Mod_decode um = some (r, vm) ∧ vm 0 0 = 0 ∧ Inv v vm) ∨ (∃ (r : Int32) (v vm : gU), f_Grc_decode u = some (.inl v) ∧ f_Mod_decode um = some (r, vm) ∧ vm 0 0 = 1 ∧ Inv v vm)) ∧
  (∀ a : Int32, ∃ (r : Int32) (vm : gU), f_Grc_number a u = some r ∧ f_Mod_number a um = some (r, vm) ∧ Inv u vm) ∧
  (∀ a b : Int32, ∃ (r : Int32) (vm : gU), f_Grc_sample a b u = some r ∧ f_Mod_sample a b um = some (r, vm) ∧ Inv u vm) ∧
  (∀ a b : Int32, ∃ (r : Int32) (vm : gU), f_Grc_rebuilt a b u = some r ∧ f_Mod_rebuilt a b um = some (r, vm) ∧ Inv u vm) ∧
  (∀ a b : Int32, ∃ (r : Int32) (vm : gU), f_Grc_context a b u = some r ∧ f_Mod_context a b um = some (r, vm) ∧ Inv u vm) ∧
  (∃ (r : Int32) (vm : gU), f_Grc_runIndex u = some r ∧ f_Mod_runIndex um = some (r, vm) ∧ Inv u vm)
theorem l_head {i L : Nat} (hi : i ≤ 3000) (hL : L ≤ 3000) : (Int32.ofNat L - 5 < nI i) ↔ L < i + 5 := by
  have e5 : (5 : Int32) = nI 5 := by decide +kernel
  have h1 : (Int32.ofNat L - 5).toInt = (L : Int) - 5 := by
    rw [e5]
    exact pk_sub_toInt (a := L) (b := 5) (by omega) (by omega)
  rw [Int32.lt_iff_toInt_lt, h1, nI_toInt (by omega)]
  omega
theorem l_in {i k L : Nat} (h : i + k < L) (hL : L ≤ 3000) : vp_in (nI i + nI k) L := by
  rw [nI_add]
  exact vp_in_nI h (by omega)
