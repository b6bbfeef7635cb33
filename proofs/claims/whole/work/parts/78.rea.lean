/-! the reader and the reference's bits -/
def OC {α β : Type} (A : Option (gU ⊕ α)) (B : Option β) (P : α → β → Prop) (Q : β → Prop) : Prop := (∃ a b, A = some (.inr a) ∧ B = some b ∧ P a b) ∨ (∃ u b, A = some (.inl u) ∧ B = some b ∧ Q b)
def RD (u v : gU) : Prop := ∃ z p b : Nat, 8 ≤ z ∧ z ≤ 512 ∧ 6 ≤ p ∧ p + 2 ≤ z ∧ b ≤ 7 ∧ v 0 13 = nI z ∧ u 0 0 = nI (z - 2) ∧ u 0 1 = nI p ∧ v 0 17 = nI p ∧ u 0 2 = nI b ∧ v 0 19 = nI b ∧ BytW z (u 1) (v 4) ∧ (v 0 18 = v 4 (p - 1) ∨ (p = 6 ∧ b = 0 ∧ v 0 18 = 0 ∧ ¬ v 4 5 = 255))
def FR (v v' : gU) : Prop := (∀ k, ¬ k = 0 → v' k = v k) ∧ (∀ j, ¬ j = 17 → ¬ j = 18 → ¬ j = 19 → v' 0 j = v 0 j)
def FB (v v' : gU) : Prop := (∀ k, ¬ k = 0 → v' k = v k) ∧ (∀ j, ¬ j = 17 → ¬ j = 18 → ¬ j = 19 → ¬ j = 20 → v' 0 j = v 0 j) ∧ v' 0 20 = 0
theorem FR_rf (v : gU) : FR v v := ⟨fun _ _ => rfl, fun _ _ _ _ => rfl⟩
theorem FR_tr {v v1 v2 : gU} (h1 : FR v v1) (h2 : FR v1 v2) : FR v v2 := ⟨fun k a => by rw [h2.1 k a, h1.1 k a], fun j a b c => by rw [h2.2 j a b c, h1.2 j a b c]⟩
theorem FR_B {v v1 v2 : gU} (h1 : FR v v1) (h2 : FB v1 v2) : FB v v2 := ⟨fun k a => by rw [h2.1 k a, h1.1 k a], fun j a b c d => by rw [h2.2.1 j a b c d, h1.2 j a b c], h2.2.2⟩
theorem FB_s {v v1 : gU} (h : FB v v1) : FB v (st2 v1 0 20 0) := ⟨fun k a => by rw [s2k a, h.1 k a], fun j a b c d => by rw [s2j d, h.2.1 j a b c d], s2s⟩
theorem FB_0 (v : gU) : FB v (st2 v 0 20 0) := ⟨fun k hk => s2k hk, fun j _ _ _ j4 => s2j j4, s2s⟩
theorem RD_eq {u v u' v' : gU} (h : RD u v) (e0 : u' 0 = u 0) (e1 : u' 1 = u 1) (f0 : v' 0 13 = v 0 13) (f1 : v' 0 17 = v 0 17) (f2 : v' 0 18 = v 0 18) (f3 : v' 0 19 = v 0 19) (f4 : v' 4 = v 4) : RD u' v' := by
  obtain ⟨z, p, b, h⟩ := h
  refine ⟨z, p, b, ?_⟩
  rw [e0, e1, f0, f1, f2, f3, f4]
  exact h
theorem get_ok {u v : gU} (h : RD u v) : OC (f_Rea_readBit u) (f_Mod_get v) (fun a c => a.1 = c.1 ∧ (∃ β : Nat, β < 2 ∧ c.1 = nI β) ∧ RD a.2 c.2 ∧ FR v c.2) (fun c => c.1 = 0 ∧ FB v c.2) := by
  obtain ⟨z, p, b, z1, z2, p1, p2, b1, e1, e2, e3, e4, e5, e6, hB, hn⟩ := h
  have fin : ∀ (U V : gU) (p' B : Nat), 6 ≤ p' → p' + 2 ≤ z → 1 ≤ B → B ≤ 8 → U 0 0 = nI (z - 2) → U 0 1 = nI p' → U 0 2 = nI B → U 1 = u 1 → V 0 13 = nI z → V 0 17 = nI p' → V 0 19 = nI B → V 4 = v 4 → V 0 18 = v 4 (p' - 1) → FR v V → OC (J_Rea_readBit_94 U) (J_Mod_get_99 V) (fun a c => a.1 = c.1 ∧ (∃ β : Nat, β < 2 ∧ c.1 = nI β) ∧ RD a.2 c.2 ∧ FR v c.2) (fun c => c.1 = 0 ∧ FB v c.2) := by
    intro U V p' B k1 k2 k3 k4 g1 g2 g3 g4 g5 g6 g7 g8 g9 hF
    obtain ⟨t, ht, t1, t2⟩ := hB (p' - 1) (by omega)
    obtain ⟨β, hβ, eb⟩ := bit_e (nI t >>> (nI (B - 1) &&& 31))
    have hb1 : nI B - 1 = nI (B - 1) := pk_sub (b := 1) (by omega)
    have hp1 : nI p' - 1 = nI (p' - 1) := pk_sub (b := 1) (by omega)
    have hRD : RD (st2 U 0 2 (nI (B - 1))) (st2 V 0 19 (nI (B - 1))) := by
      refine ⟨z, p', B - 1, z1, z2, k1, k2, by omega, ?_, ?_, ?_, ?_, s2s, s2s, ?_, Or.inl ?_⟩
      · rw [s2j (by decide), g5]
      · rw [s2j (by decide), g1]
      · rw [s2j (by decide), g2]
      · rw [s2j (by decide), g6]
      · rw [s2k (by decide), s2k (by decide), g4, g8]
        exact hB
      · rw [s2j (by decide), s2k (by decide), g8, g9]
    have hFR : FR v (st2 V 0 19 (nI (B - 1))) := by
      refine ⟨?_, ?_⟩
      · intro k hk
        rw [s2k hk, hF.1 k hk]
      · intro j j1 j2 j3
        rw [s2j j3, hF.2 j j1 j2 j3]
    refine Or.inl ⟨(nI β, st2 U 0 2 (nI (B - 1))), (nI β, st2 V 0 19 (nI (B - 1))), ?_, ?_, rfl, ⟨β, hβ, rfl⟩, hRD, hFR⟩
    · unfold J_Rea_readBit_94
      rw [tk_v, s2s, s2j (by decide), s2k (by decide), g2, g3, g4, hb1, hp1, gd_v (ix_n (by omega) (by omega)), tk_v, tc_n (by omega), t1, eb]
    · unfold J_Mod_get_99
      rw [tk_v, s2s, s2j (by decide), g7, g9, hb1, t2, eb]
  unfold f_Rea_readBit f_Mod_get
  rw [e5, e6]
  by_cases b0 : b = 0
  · subst b0
    have hp1 : nI p - 1 = nI (p - 1) := pk_sub (b := 1) (by omega)
    have hz2 : nI z - 2 = nI (z - 2) := pk_sub (b := 2) (by omega)
    obtain ⟨t, ht, t1, t2⟩ := hB (p - 1) (by omega)
    have e255 : (u 1 (p - 1) = 255) ↔ (v 0 18 = 255) := by
      rcases hn with hn | ⟨hn1, -, hn2, hn3⟩
      · rw [hn, t1, t2]
      · subst hn1
        rw [show (6 - 1 : Nat) = 5 from rfl] at t1 t2 ⊢
        rw [hn2, t1, ← t2]
        exact ⟨fun hh => absurd hh hn3, fun hh => absurd hh (by decide)⟩
    have go : ∀ s : Int32, OC (J_Rea_readBit_29 s u) (J_Mod_get_22 s v) (fun a c => a.1 = c.1 ∧ (∃ β : Nat, β < 2 ∧ c.1 = nI β) ∧ RD a.2 c.2 ∧ FR v c.2) (fun c => c.1 = 0 ∧ FB v c.2) := by
      intro s
      have bad : OC (J_Rea_readBit_59 u) (J_Mod_get_54 v) (fun a c => a.1 = c.1 ∧ (∃ β : Nat, β < 2 ∧ c.1 = nI β) ∧ RD a.2 c.2 ∧ FR v c.2) (fun c => c.1 = 0 ∧ FB v c.2) := Or.inr ⟨u, (0, st2 v 0 20 0), rfl, rfl, rfl, FB_0 v⟩
      unfold J_Rea_readBit_29 J_Mod_get_22
      rw [e1, e2, e3, e4, hz2]
      by_cases gz : z - 2 ≤ p
      · rw [bq_v (nI_le gz (by omega)), bq_v (nI_le gz (by omega))]
        exact bad
      · have gz' : ¬ nI (z - 2) ≤ nI p := nI_ge (by omega) (by omega)
        rw [bq_w gz', bq_w gz']
        have goo : OC (J_Rea_readBit_69 s u) (J_Mod_get_61 s v) (fun a c => a.1 = c.1 ∧ (∃ β : Nat, β < 2 ∧ c.1 = nI β) ∧ RD a.2 c.2 ∧ FR v c.2) (fun c => c.1 = 0 ∧ FB v c.2) := by
          have gB : ∀ B : Nat, 7 ≤ B → B ≤ 8 → OC (J_Rea_readBit_81 (nI B) u) (J_Mod_get_96 (nI B) (st2 (st2 v 0 18 (v 4 p)) 0 17 (nI (p + 1)))) (fun a c => a.1 = c.1 ∧ (∃ β : Nat, β < 2 ∧ c.1 = nI β) ∧ RD a.2 c.2 ∧ FR v c.2) (fun c => c.1 = 0 ∧ FB v c.2) := by
            intro B B7 B8
            unfold J_Rea_readBit_81 J_Mod_get_96
            rw [tk_v, tk_v, tk_v, s2j (by decide), e3, ← nI_succ]
            refine fin _ _ (p + 1) B (by omega) (by omega) (by omega) (by omega) ?_ ?_ ?_ ?_ ?_ ?_ ?_ ?_ ?_ ⟨?_, ?_⟩
            · simp only [tk_v, bd_v, bx_vl, bx_vr, s2s, s2k, s2j, s1s, s1k, mg_v0, mg_v1, sb_v, List.getD_cons_zero, List.getD_cons_succ, not_false_eq_true, Nat.reduceEqDiff, reduceCtorEq]
              exact e2
            · simp only [tk_v, bd_v, bx_vl, bx_vr, s2s, s2k, s2j, s1s, s1k, mg_v0, mg_v1, sb_v, List.getD_cons_zero, List.getD_cons_succ, not_false_eq_true, Nat.reduceEqDiff, reduceCtorEq]
            · simp only [tk_v, bd_v, bx_vl, bx_vr, s2s, s2k, s2j, s1s, s1k, mg_v0, mg_v1, sb_v, List.getD_cons_zero, List.getD_cons_succ, not_false_eq_true, Nat.reduceEqDiff, reduceCtorEq]
            · simp only [tk_v, bd_v, bx_vl, bx_vr, s2s, s2k, s2j, s1s, s1k, mg_v0, mg_v1, sb_v, List.getD_cons_zero, List.getD_cons_succ, not_false_eq_true, Nat.reduceEqDiff, reduceCtorEq]
            · simp only [tk_v, bd_v, bx_vl, bx_vr, s2s, s2k, s2j, s1s, s1k, mg_v0, mg_v1, sb_v, List.getD_cons_zero, List.getD_cons_succ, not_false_eq_true, Nat.reduceEqDiff, reduceCtorEq]
              exact e1
            · simp only [tk_v, bd_v, bx_vl, bx_vr, s2s, s2k, s2j, s1s, s1k, mg_v0, mg_v1, sb_v, List.getD_cons_zero, List.getD_cons_succ, not_false_eq_true, Nat.reduceEqDiff, reduceCtorEq]
            · simp only [tk_v, bd_v, bx_vl, bx_vr, s2s, s2k, s2j, s1s, s1k, mg_v0, mg_v1, sb_v, List.getD_cons_zero, List.getD_cons_succ, not_false_eq_true, Nat.reduceEqDiff, reduceCtorEq]
            · simp only [tk_v, bd_v, bx_vl, bx_vr, s2s, s2k, s2j, s1s, s1k, mg_v0, mg_v1, sb_v, List.getD_cons_zero, List.getD_cons_succ, not_false_eq_true, Nat.reduceEqDiff, reduceCtorEq]
            · simp only [tk_v, bd_v, bx_vl, bx_vr, s2s, s2k, s2j, s1s, s1k, mg_v0, mg_v1, sb_v, List.getD_cons_zero, List.getD_cons_succ, not_false_eq_true, Nat.reduceEqDiff, reduceCtorEq, Nat.add_sub_cancel]
            · intro k hk
              rw [s2k hk, s2k hk, s2k hk]
            · intro j j1 j2 j3
              rw [s2j j3, s2j j1, s2j j2]
          unfold J_Rea_readBit_69 J_Mod_get_61
          rw [e4, gd_v (ix_n (by omega) (by omega)), tk_v, tk_v, s2j (by decide), e4, tc_n (by omega), ← nI_succ]
          by_cases s0 : s = 0
          · rw [bq_v s0, bq_v s0]
            exact gB 8 (by omega) (by omega)
          · rw [bq_w s0, bq_w s0]
            exact gB 7 (by omega) (by omega)
        by_cases s0 : s = 0
        · rw [bq_v s0, bq_v s0]
          exact goo
        · rw [bq_w s0, bq_w s0, gd_v (ix_n (by omega) (by omega)), gd_v (ix_n (by omega) (by omega)), tc_n (by omega)]
          obtain ⟨t', ht', t1', t2'⟩ := hB p (by omega)
          rw [t1', t2']
          by_cases g127 : nI t' ≤ 127
          · rw [bq_v g127, bq_v g127]
            exact goo
          · rw [bq_w g127, bq_w g127]
            exact bad
    rw [bq_v nI_0, bq_v nI_0, e3, hp1, gd_v (ix_n (by omega) (by omega)), tc_n (by omega)]
    by_cases g : u 1 (p - 1) = 255
    · rw [bq_v g, bq_v (e255.mp g)]
      exact go 1
    · rw [bq_w g, bq_w (fun hh => g (e255.mpr hh))]
      exact go 0
  · have hne : ¬ nI b = 0 := nI_ne0 (by omega) (by omega)
    rw [bq_w hne, bq_w hne]
    rcases hn with hn | ⟨-, hn, -⟩
    · exact fin u v p b p1 p2 (by omega) (by omega) e2 e3 e5 rfl e1 e4 e6 rfl hn (FR_rf v)
    · exact absurd hn b0
theorem gm_bad {f : Nat} (hf : 1 ≤ f) (l1 l2 l3 : Int32) {v : gU} (h : v 0 20 = 0) : L_Mod_getMany_4 f l1 l2 l3 v = some (l2, v) := by
  obtain ⟨f, rfl⟩ : ∃ k, f = k + 1 := ⟨f - 1, by omega⟩
  unfold L_Mod_getMany_4
  by_cases g : l1 ≤ l3
  · rw [bq_v g]
  · rw [bq_w g, bq_v h]
theorem gmany_ok (c : Nat) (hc : c ≤ 15) : ∀ (d i n f g : Nat) (u v : gU), i + d = c → d < n → d < f → g < 2 ^ i → RD u v → v 0 20 = 1 → OC (L_Rea_readBits_4 n (nI c) (nI g) (nI i) u) (L_Mod_getMany_4 f (nI c) (nI g) (nI i) v) (fun a r => (∃ m : Nat, m < 2 ^ c ∧ a.1 = nI m ∧ r.1 = nI m) ∧ RD a.2 r.2 ∧ FR v r.2) (fun r => FB v r.2) := by
  intro d
  induction d with
  | zero =>
    intro i n f g u v hi hn hf hg h h20
    obtain ⟨n, rfl⟩ : ∃ k, n = k + 1 := ⟨n - 1, by omega⟩
    obtain ⟨f, rfl⟩ : ∃ k, f = k + 1 := ⟨f - 1, by omega⟩
    obtain rfl : i = c := by omega
    refine Or.inl ⟨(nI g, u), (nI g, v), ?_, ?_, ⟨g, hg, rfl, rfl⟩, h, FR_rf v⟩
    · unfold L_Rea_readBits_4
      rw [bq_v (nI_le (by omega) (by omega))]
    · unfold L_Mod_getMany_4
      rw [bq_v (nI_le (by omega) (by omega))]
  | succ d ih =>
    intro i n f g u v hi hn hf hg h h20
    obtain ⟨n, rfl⟩ : ∃ k, n = k + 1 := ⟨n - 1, by omega⟩
    obtain ⟨f, rfl⟩ : ∃ k, f = k + 1 := ⟨f - 1, by omega⟩
    have hnl : ¬ nI c ≤ nI i := nI_ge (by omega) (by omega)
    have h21 : ¬ v 0 20 = 0 := by rw [h20]; decide
    rcases get_ok h with ⟨⟨r, u1⟩, ⟨r', v1⟩, a1, a2, a3, ⟨β, hβ, a4⟩, a5, a6⟩ | ⟨u1, ⟨r', v1⟩, a1, a2, a3, a4⟩
    · dsimp only at a3 a4 a5 a6
      subst a3
      subst a4
      have hg2 : (2 : Int32) * nI g + nI β = nI (2 * g + β) := by
        rw [show (2 : Int32) * nI g = nI (2 * g) from pk_mul 2 g, nI_add]
      have hpw : 2 ^ (i + 1) = 2 * 2 ^ i := by rw [Nat.pow_succ]; omega
      have C1 : L_Rea_readBits_4 (n + 1) (nI c) (nI g) (nI i) u = L_Rea_readBits_4 n (nI c) (nI (2 * g + β)) (nI (i + 1)) u1 := by
        conv => lhs; unfold L_Rea_readBits_4
        rw [bq_w hnl, a1, bd_v, bx_vr, tk_v, tk_v, tk_v, hg2, ← nI_succ]
      have C2 : L_Mod_getMany_4 (f + 1) (nI c) (nI g) (nI i) v = L_Mod_getMany_4 f (nI c) (nI (2 * g + β)) (nI (i + 1)) v1 := by
        conv => lhs; unfold L_Mod_getMany_4
        rw [bq_w hnl, bq_w h21, a2, bd_v, tk_v, tk_v, tk_v, hg2, ← nI_succ]
      rw [C1, C2]
      rcases ih (i + 1) n f (2 * g + β) u1 v1 (by omega) (by omega) (by omega) (by omega) a5 (by rw [a6.2 20 (by decide) (by decide) (by decide)]; exact h20) with ⟨a, r, b1, b2, b3, b4, b5⟩ | ⟨a, r, b1, b2, b3⟩
      · exact Or.inl ⟨a, r, b1, b2, b3, b4, FR_tr a6 b5⟩
      · exact Or.inr ⟨a, r, b1, b2, FR_B a6 b3⟩
    · dsimp only at a3 a4
      refine Or.inr ⟨u1, (2 * nI g + r', v1), ?_, ?_, a4⟩
      · unfold L_Rea_readBits_4
        rw [bq_w hnl, a1, bd_v, bx_vl]
      · unfold L_Mod_getMany_4
        rw [bq_w hnl, bq_w h21, a2, bd_v, tk_v, tk_v, tk_v]
        exact gm_bad (by omega) _ _ _ a4.2.2
theorem rd_bad {f : Nat} (hf : 1 ≤ f) (l1 l3 l4 : Int32) {v : gU} (h : v 0 20 = 0) : ∃ r : Int32, L_Mod_read_12 f l1 l3 l4 v = some (r, v) := by
  obtain ⟨f, rfl⟩ : ∃ k, f = k + 1 := ⟨f - 1, by omega⟩
  unfold L_Mod_read_12 J_Mod_read_43 f_Mod_getMany
  rw [bq_v h, gm_bad (by omega) _ _ _ h, gm_bad (by omega) _ _ _ h, bd_v, bd_v, tk_v, tk_v]
  by_cases g : l4 = l3
  · rw [bq_v g]
    exact ⟨_, rfl⟩
  · rw [bq_w g]
    exact ⟨_, rfl⟩
theorem orN {a k x : Nat} (hx : x < 2 ^ k) : nI (a * 2 ^ k) ||| nI x = nI (a * 2 ^ k + x) := by
  have e : a * 2 ^ k + x = a * 2 ^ k ||| x := by
    rw [Nat.mul_comm]
    exact Nat.two_pow_add_eq_or_of_lt hx a
  rw [e]
  apply Int32.toBitVec_inj.mp
  rw [Int32.toBitVec_or]
  exact BitVec.ofNat_or.symm
theorem gnum_ok {k q most : Nat} (hk : k ≤ 10) (hq : q ≤ 8) (hmo : most ≤ 31) : ∀ (b d zz n f : Nat) (u v : gU), d < b → zz + d = most → d + 1 < n → d + 1 < f → RD u v → v 0 20 = 1 → v 0 7 = nI q → OC (L_Rea_readNumber_10 n (nI k) (nI q) (nI most) (nI zz) u) (L_Mod_read_12 f (nI k) (nI most) (nI zz) v) (fun a r => (∃ m : Nat, m ≤ 40000 ∧ a.1 = nI m ∧ r.1 = nI m) ∧ RD a.2 r.2 ∧ FR v r.2) (fun r => FB v r.2) := by
  have hpk : 2 ^ k ≤ 2 ^ 10 := Nat.pow_le_pow_right (by omega) hk
  have hpq : 2 ^ q ≤ 2 ^ 8 := Nat.pow_le_pow_right (by omega) hq
  intro b
  induction b with
  | zero =>
    intro d zz n f u v hb hi hn hf h h20 h7
    omega
  | succ b ih =>
    intro d zz n f u v hb hi hn hf h h20 h7
    obtain ⟨n, rfl⟩ : ∃ k, n = k + 1 := ⟨n - 1, by omega⟩
    obtain ⟨f, rfl⟩ : ∃ k, f = k + 1 := ⟨f - 1, by omega⟩
    have hnl : ¬ nI most < nI zz := nI_nlt (by omega) (by omega)
    have h21 : ¬ v 0 20 = 0 := by rw [h20]; decide
    rcases get_ok h with ⟨⟨r, u1⟩, ⟨r', v1⟩, a1, a2, a3, ⟨β, hβ, a4⟩, a5, a6⟩ | ⟨u1, ⟨r', v1⟩, a1, a2, a3, a4⟩
    · dsimp only at a3 a4 a5 a6
      subst a3
      subst a4
      have h20' : v1 0 20 = 1 := by rw [a6.2 20 (by decide) (by decide) (by decide)]; exact h20
      have h7' : v1 0 7 = nI q := by rw [a6.2 7 (by decide) (by decide) (by decide)]; exact h7
      rcases (by omega : β = 0 ∨ β = 1) with rfl | rfl
      · by_cases hz : zz + 1 ≤ most
        · have C1 : L_Rea_readNumber_10 (n + 1) (nI k) (nI q) (nI most) (nI zz) u = L_Rea_readNumber_10 n (nI k) (nI q) (nI most) (nI (zz + 1)) u1 := by
            conv => lhs; unfold L_Rea_readNumber_10
            rw [bq_w hnl, a1, bd_v, bx_vr, tk_v, bq_v nI_0, tk_v, ← nI_succ]
          have C2 : L_Mod_read_12 (f + 1) (nI k) (nI most) (nI zz) v = L_Mod_read_12 f (nI k) (nI most) (nI (zz + 1)) v1 := by
            conv => lhs; unfold L_Mod_read_12
            rw [bq_w h21, a2, bd_v, tk_v, bq_v nI_0, tk_v, ← nI_succ, bq_v (nI_le hz (by omega))]
          rw [C1, C2]
          rcases ih (d - 1) (zz + 1) n f u1 v1 (by omega) (by omega) (by omega) (by omega) a5 h20' h7' with ⟨a, r, b1, b2, b3, b4, b5⟩ | ⟨a, r, b1, b2, b3⟩
          · exact Or.inl ⟨a, r, b1, b2, b3, b4, FR_tr a6 b5⟩
          · exact Or.inr ⟨a, r, b1, b2, FR_B a6 b3⟩
        · obtain ⟨r, hr⟩ := rd_bad (f := f) (by omega) (nI k) (nI most) (nI (zz + 1)) (v := st2 v1 0 20 0) s2s
          refine Or.inr ⟨u1, (r, st2 v1 0 20 0), ?_, ?_, FR_B a6 (FB_0 v1)⟩
          · unfold L_Rea_readNumber_10
            rw [bq_w hnl, a1, bd_v, bx_vr, tk_v, bq_v nI_0, tk_v]
            obtain ⟨n, rfl⟩ : ∃ k, n = k + 1 := ⟨n - 1, by omega⟩
            unfold L_Rea_readNumber_10 J_Rea_readNumber_30
            rw [← nI_succ, bq_v (nI_lt (by omega) (by omega)), bq_w (nI_ge (by omega) (by omega))]
          · unfold L_Mod_read_12
            rw [bq_w h21, a2, bd_v, tk_v, bq_v nI_0, tk_v, ← nI_succ, bq_w (nI_ge (by omega) (by omega)), tk_v, hr]
      · have h1n : ¬ nI 1 = 0 := by decide
        have C1 : L_Rea_readNumber_10 (n + 1) (nI k) (nI q) (nI most) (nI zz) u = J_Rea_readNumber_30 (nI k) (nI q) (nI most) (nI zz) u1 := by
          conv => lhs; unfold L_Rea_readNumber_10
          rw [bq_w hnl, a1, bd_v, bx_vr, tk_v, bq_w h1n]
        have C2 : L_Mod_read_12 (f + 1) (nI k) (nI most) (nI zz) v = J_Mod_read_43 (nI k) (nI most) (nI zz) v1 := by
          conv => lhs; unfold L_Mod_read_12
          rw [bq_w h21, a2, bd_v, tk_v, bq_w h1n]
        rw [C1, C2]
        unfold J_Rea_readNumber_30 J_Mod_read_43 f_Rea_readBits f_Mod_getMany
        rw [bq_v (nI_le (by omega) (by omega)), h7']
        by_cases hz : zz = most
        · subst hz
          rw [bq_v (nI_le (by omega) (by omega)), bq_v rfl]
          rcases gmany_ok q (by omega) q 0 100 2000 0 u1 v1 (by omega) (by omega) (by omega) (by simp) a5 h20' with ⟨⟨a, u2⟩, ⟨r, v2⟩, b1, b2, ⟨m, hm, b3, b4⟩, b5, b6⟩ | ⟨a, ⟨r, v2⟩, b1, b2, b3⟩
          · dsimp only at b3 b4 b5 b6
            subst b3
            subst b4
            refine Or.inl ⟨(nI (m + 1), u2), (nI (m + 1), v2), ?_, ?_, ⟨m + 1, by omega, rfl, rfl⟩, b5, FR_tr a6 b6⟩
            · rw [show L_Rea_readBits_4 100 (nI q) 0 0 u1 = some (.inr (nI m, u2)) from b1, bd_v, bx_vr, tk_v, nI_succ]
            · rw [show L_Mod_getMany_4 2000 (nI q) 0 0 v1 = some (nI m, v2) from b2, bd_v, tk_v, nI_succ]
          · refine Or.inr ⟨a, (r + 1, v2), ?_, ?_, FR_B a6 b3⟩
            · rw [show L_Rea_readBits_4 100 (nI q) 0 0 u1 = some (.inl a) from b1, bd_v, bx_vl]
            · rw [show L_Mod_getMany_4 2000 (nI q) 0 0 v1 = some (r, v2) from b2, bd_v, tk_v]
        · have hne : ¬ nI zz = nI most := fun hh => hz ((nI_eq (by omega) (by omega)).mp hh)
          rw [bq_w (nI_ge (by omega) (by omega)), bq_w hne]
          have hzk : zz * 2 ^ k ≤ 31 * 2 ^ k := Nat.mul_le_mul_right _ (by omega)
          rcases gmany_ok k (by omega) k 0 100 2000 0 u1 v1 (by omega) (by omega) (by omega) (by simp) a5 h20' with ⟨⟨a, u2⟩, ⟨r, v2⟩, b1, b2, ⟨m, hm, b3, b4⟩, b5, b6⟩ | ⟨a, ⟨r, v2⟩, b1, b2, b3⟩
          · dsimp only at b3 b4 b5 b6
            subst b3
            subst b4
            refine Or.inl ⟨(nI (zz * 2 ^ k + m), u2), (nI (zz * 2 ^ k + m), v2), ?_, ?_, ⟨zz * 2 ^ k + m, by omega, rfl, rfl⟩, b5, FR_tr a6 b6⟩
            · rw [show L_Rea_readBits_4 100 (nI k) 0 0 u1 = some (.inr (nI m, u2)) from b1, bd_v, bx_vr, tk_v, shlN (by omega) (by omega), nI_add]
            · rw [show L_Mod_getMany_4 2000 (nI k) 0 0 v1 = some (nI m, v2) from b2, bd_v, tk_v, shlN (by omega) (by omega), orN hm]
          · refine Or.inr ⟨a, ((nI zz <<< (nI k &&& 31)) ||| r, v2), ?_, ?_, FR_B a6 b3⟩
            · rw [show L_Rea_readBits_4 100 (nI k) 0 0 u1 = some (.inl a) from b1, bd_v, bx_vl]
            · rw [show L_Mod_getMany_4 2000 (nI k) 0 0 v1 = some (r, v2) from b2, bd_v, tk_v]
    · dsimp only at a3 a4
      have C1 : L_Rea_readNumber_10 (n + 1) (nI k) (nI q) (nI most) (nI zz) u = some (.inl u1) := by
        conv => lhs; unfold L_Rea_readNumber_10
        rw [bq_w hnl, a1, bd_v, bx_vl]
      rw [C1]
      by_cases hz : zz + 1 ≤ most
      · obtain ⟨r, hr⟩ := rd_bad (f := f) (by omega) (nI k) (nI most) (nI (zz + 1)) a4.2.2
        refine Or.inr ⟨u1, (r, v1), rfl, ?_, a4⟩
        unfold L_Mod_read_12
        rw [bq_w h21, a2, bd_v, tk_v, bq_v a3, tk_v, ← nI_succ, bq_v (nI_le hz (by omega)), hr]
      · obtain ⟨r, hr⟩ := rd_bad (f := f) (by omega) (nI k) (nI most) (nI (zz + 1)) (v := st2 v1 0 20 0) s2s
        refine Or.inr ⟨u1, (r, st2 v1 0 20 0), rfl, ?_, FB_s a4⟩
        unfold L_Mod_read_12
        rw [bq_w h21, a2, bd_v, tk_v, bq_v a3, tk_v, ← nI_succ, bq_w (nI_ge (by omega) (by omega)), tk_v, hr]
theorem rnum_ok {k l q : Nat} (hk : k ≤ 10) (hq : q ≤ 8) (hl : l ≤ 32) (hql : q + 2 ≤ l) {u v : gU} (h : RD u v) (h20 : v 0 20 = 1) (h7 : v 0 7 = nI q) : OC (f_Rea_readNumber (nI k) (nI l) (nI q) u) (f_Mod_read (nI k) (nI l) v) (fun a r => (∃ m : Nat, m ≤ 40000 ∧ a.1 = nI m ∧ r.1 = nI m) ∧ RD a.2 r.2 ∧ FR v r.2) (fun r => FB v r.2) := by
  have hmost : nI l - nI q - 1 = nI (l - q - 1) := by
    rw [pk_sub (by omega)]
    exact pk_sub (b := 1) (by omega)
  unfold f_Rea_readNumber f_Mod_read
  rw [tk_v, tk_v, h7, hmost]
  exact gnum_ok hk hq (by omega) (l - q) (l - q - 1) 0 100 2000 u v (by omega) (by omega) (by omega) (by omega) h h20 h7
