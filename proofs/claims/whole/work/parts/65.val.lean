/-! around a sample: what class and reference see alike -/
def RbW (W M x y : Nat) (r r' : Nat → Int32) : Prop := ∀ i j, i < W → (j < y ∨ (j = y ∧ i < x)) → ∃ t : Nat, t ≤ M ∧ r (8 * j + i) = nI t ∧ r' (8 * j + i) = nI t
theorem ron_st (a b : Int32) (u : gU) (j : Nat) (x : Int32) : f_Pas_rebuiltOrNothing_C a b (st2 u 0 j x) = f_Pas_rebuiltOrNothing_C a b u := by
  unfold f_Pas_rebuiltOrNothing_C
  rw [s2k (by decide)]
theorem nm1 : nI 0 - 1 = (-1 : Int32) := by decide
theorem nm2 : ∀ y, y < 8 → nI (y + 1) - 2 = nI y - 1 := by decide +kernel
theorem ron_at {W M x y : Nat} {u v : gU} (hR : RbW W M x y (u 8) (v 2)) (hW : W ≤ 8) (hy : y < 8) {i j : Nat} (hi : i < W) (hc : j < y ∨ (j = y ∧ i < x)) : ∃ t : Nat, t ≤ M ∧ f_Pas_rebuiltOrNothing_C (nI i) (nI j) u = some (nI t) ∧ f_Mod_value (nI i) (nI j) v = some (nI t) := by
  obtain ⟨t, ht, e1, e2⟩ := hR i j hi hc
  refine ⟨t, ht, ?_, ?_⟩
  · unfold f_Pas_rebuiltOrNothing_C
    rw [bq_v (nI_pos' (by omega)), f_Pic_place, bd_v, pl_c, gd_v (ix_n (by omega) (by omega)), tc_n (by omega), e1]
  · unfold f_Mod_value
    rw [bq_v (nI_pos' (by omega)), pl_m, gd_v (ix_n (by omega) (by omega)), tc_n (by omega), e2]
theorem ron_m1 (a : Int32) (u v : gU) : f_Pas_rebuiltOrNothing_C a (-1) u = some (nI 0) ∧ f_Mod_value a (-1) v = some (nI 0) := by
  unfold f_Pas_rebuiltOrNothing_C f_Mod_value
  rw [bq_w (by decide), bq_w (by decide)]
  exact ⟨rfl, rfl⟩
theorem ron_up {W M x y : Nat} {u v : gU} (hR : RbW W M x y (u 8) (v 2)) (hW : W ≤ 8) (hy : y < 8) {i : Nat} (hi : i < W) : ∃ t : Nat, t ≤ M ∧ f_Pas_rebuiltOrNothing_C (nI i) (nI y - 1) u = some (nI t) ∧ f_Mod_value (nI i) (nI y - 1) v = some (nI t) := by
  rcases Nat.eq_zero_or_pos y with h0 | h0
  · subst h0
    rw [nm1]
    exact ⟨0, by omega, (ron_m1 (nI i) u v).1, (ron_m1 (nI i) u v).2⟩
  · obtain ⟨y', rfl⟩ : ∃ y', y = y' + 1 := ⟨y - 1, by omega⟩
    rw [nI_pred]
    exact ron_at hR hW hy hi (Or.inl (by omega))
def lkS (u : gU) (a b c d : Int32) : gU := st2 (st2 (st2 (st2 u 0 1 b) 0 0 a) 0 2 c) 0 3 d
theorem look_ok {W H M N x y : Nat} {u v : gU} (hW : W ≤ 8) (hx : x < W) (hy : y < 8) (hu : u 1 0 = nI W) (hv : v 0 1 = nI W) (hR : RbW W M x y (u 8) (v 2)) : ∃ a b c d : Nat, a ≤ M ∧ b ≤ M ∧ c ≤ M ∧ d ≤ M ∧ f_Pas_lookAround_C (nI x) (nI y) u = some (lkS u (nI a) (nI b) (nI c) (nI d)) ∧ f_Mod_before (nI x) (nI y) v = some (nI a) ∧ f_Mod_above (nI x) (nI y) v = some (nI b) ∧ f_Mod_corner (nI x) (nI y) v = some (nI c) ∧ f_Mod_beyond (nI x) (nI y) v = some (nI d) := by
  obtain ⟨b, hb, b1, b2⟩ := ron_up hR hW hy hx
  have B : f_Mod_above (nI x) (nI y) v = some (nI b) := by
    unfold f_Mod_above
    rw [b2, bd_v]
  -- what lies beyond
  have hd : ∃ d : Nat, d ≤ M ∧ f_Mod_beyond (nI x) (nI y) v = some (nI d) ∧ ∀ (a c : Int32), J_Pas_lookAround_C_61 (nI x) (nI y) c (st2 (st2 u 0 1 (nI b)) 0 0 a) = some (lkS u a (nI b) c (nI d)) := by
    unfold f_Mod_beyond J_Pas_lookAround_C_61 J_Pas_lookAround_C_95
    rw [hv]
    have hw : nI W - 1 = nI (W - 1) := pk_sub (b := 1) (by omega)
    rw [hw]
    by_cases hl : x = W - 1
    · refine ⟨b, hb, ?_, fun a c => ?_⟩
      · rw [bq_v (nI_le (by omega) (by omega)), B, bd_v]
      · simp only [tk_v, bd_v, bx_vl, bx_vr, s2s, s2k, s2j, s1s, s1k, mg_v0, mg_v1, sb_v, List.getD_cons_zero, List.getD_cons_succ, not_false_eq_true, Nat.reduceEqDiff, reduceCtorEq]
        rw [hu, hw, bq_v (nI_le (by omega) (by omega))]
        rfl
    · obtain ⟨d, hd, d1, d2⟩ := ron_up hR hW hy (i := x + 1) (by omega)
      refine ⟨d, hd, ?_, fun a c => ?_⟩
      · rw [bq_w (nI_ge (by omega) (by omega)), ← nI_succ, d2, bd_v]
      · simp only [tk_v, bd_v, bx_vl, bx_vr, s2s, s2k, s2j, s1s, s1k, mg_v0, mg_v1, sb_v, List.getD_cons_zero, List.getD_cons_succ, not_false_eq_true, Nat.reduceEqDiff, reduceCtorEq]
        rw [hu, hw, bq_w (nI_ge (by omega) (by omega)), ron_st, ron_st, ron_st, ← nI_succ, d1, bd_v]
        rfl
  obtain ⟨d, hd1, D, hJ⟩ := hd
  unfold f_Pas_lookAround_C J_Pas_lookAround_C_32
  rw [b1, bd_v, tk_v]
  rcases Nat.eq_zero_or_pos x with h0 | h0
  · subst h0
    -- column 0
    have hA : f_Mod_before (nI 0) (nI y) v = some (nI b) := by
      unfold f_Mod_before
      rw [bq_v (by decide), show f_Mod_above 0 (nI y) v = some (nI b) from B, bd_v]
    have hc : ∃ c : Nat, c ≤ M ∧ f_Pas_rebuiltOrNothing_C (nI 0) (nI y - 2) u = some (nI c) ∧ f_Mod_corner (nI 0) (nI y) v = some (nI c) := by
      unfold f_Mod_corner
      rw [bq_v (by decide)]
      rcases Nat.eq_zero_or_pos y with y0 | y0
      · subst y0
        refine ⟨0, by omega, ?_, ?_⟩
        · unfold f_Pas_rebuiltOrNothing_C
          rw [bq_w (by decide)]
          rfl
        · rw [bq_v (by decide)]
          rfl
      · obtain ⟨y', rfl⟩ : ∃ y', y = y' + 1 := ⟨y - 1, by omega⟩
        rw [bq_w (nI_nle (by omega) (by omega)), nI_pred]
        have e2 : nI (y' + 1) - 2 = nI y' - 1 := nm2 y' (by omega)
        rw [e2]
        have hR' : RbW W M 0 y' (u 8) (v 2) := fun i j hi hc => hR i j hi (Or.inl (by omega))
        obtain ⟨c, hc, c1, c2⟩ := ron_up hR' hW (by omega) hx
        refine ⟨c, hc, c1, ?_⟩
        unfold f_Mod_before f_Mod_above
        rw [bq_v (by decide), show f_Mod_value 0 (nI y' - 1) v = some (nI c) from c2]
        rfl
    obtain ⟨c, hc1, c1, c2⟩ := hc
    refine ⟨b, b, c, d, hb, hb, hc1, hd1, ?_, hA, B, c2, D⟩
    rw [bq_v (by decide), tk_v, bq_v (by decide), s2s, ron_st, ron_st, c1, bd_v]
    exact hJ _ _
  · obtain ⟨x', rfl⟩ : ∃ x', x = x' + 1 := ⟨x - 1, by omega⟩
    have hx0 : ¬ nI (x' + 1) ≤ 0 := nI_nle (by omega) (by omega)
    obtain ⟨a, ha, a1, a2⟩ := ron_at hR hW hy (i := x') (j := y) (by omega) (Or.inr ⟨rfl, by omega⟩)
    obtain ⟨c, hc, c1, c2⟩ := ron_up hR hW hy (i := x') (by omega)
    have hp : nI (x' + 1) - 1 = nI x' := nI_pred x'
    refine ⟨a, b, c, d, ha, hb, hc, hd1, ?_, ?_, B, ?_, D⟩
    · rw [bq_w hx0, hp, ron_st, a1, bd_v, tk_v, bq_w hx0, ron_st, ron_st, c1, bd_v]
      exact hJ _ _
    · unfold f_Mod_before
      rw [bq_w hx0, hp, a2, bd_v]
    · unfold f_Mod_corner
      rw [bq_w hx0, hp, c2, bd_v]
def nrI (n z : Int32) : Int32 := if z < -n then 0 else if n < z then 0 else 1
theorem nrP (z : Int32) (u : gU) : f_Pic_isNear z u = some (nrI (u 0 3) z) := by
  unfold f_Pic_isNear nrI bq
  split
  · rfl
  · split <;> rfl
theorem nrM (z : Int32) (v : gU) : f_Mod_isNear z v = some (nrI (v 0 4) z) := by
  unfold f_Mod_isNear nrI bq
  split
  · rfl
  · split <;> rfl
def hlI (m z : Int32) : Int32 := if 0 ≤ z then (if z ≤ m then z else m) else 0
theorem hlM (z : Int32) (v : gU) : f_Mod_held z v = some (hlI (v 0 3) z) := by
  unfold f_Mod_held hlI bq
  split
  · split <;> rfl
  · rfl
theorem hl_rg (M : Nat) (hM : M ≤ 255) (z : Int32) : ∃ t : Nat, t ≤ M ∧ hlI (nI M) z = nI t := by
  unfold hlI
  split
  · split
    · rename_i h1 h2
      obtain ⟨t, ht, e⟩ := nI_of2 (nI_toInt (n := M) (by omega)) (x := z) (by rw [i_lt]; rw [i_le] at h1; simp at h1 ⊢; omega) h2
      exact ⟨t, ht, e⟩
    · exact ⟨M, by omega, rfl⟩
  · exact ⟨0, by omega, rfl⟩
theorem hlP (M : Nat) (hM : M ≤ 255) (z : Int32) (u : gU) (e : u 0 2 = nI M) : f_Pic_bounded z u = some (hlI (nI M) z) := by
  unfold f_Pic_bounded hlI
  rw [tk_v, tk_v, e]
  have hm := nI_toInt (n := M) (by omega)
  congr 1
  by_cases h0 : 0 ≤ z
  · rw [if_pos h0]
    rw [i_le] at h0
    simp at h0
    by_cases h1 : z < nI M
    · rw [if_pos h1, if_pos (c := z ≤ nI M) (by rw [i_lt] at h1; rw [i_le]; omega)]
      by_cases h2 : 0 < z
      · rw [if_pos h2]
      · rw [if_neg h2]
        rw [i_lt] at h2
        simp at h2
        rw [i_eq]
        simp
        omega
    · rw [if_neg h1]
      have h3 : (if 0 < nI M then nI M else 0) = nI M := by
        by_cases h4 : 0 < nI M
        · rw [if_pos h4]
        · rw [if_neg h4]
          rw [i_lt] at h4
          rw [i_eq]
          simp at h4 ⊢
          omega
      rw [h3]
      by_cases h2 : z ≤ nI M
      · rw [if_pos h2]
        rw [i_lt] at h1
        rw [i_le] at h2
        rw [i_eq]
        omega
      · rw [if_neg h2]
  · rw [if_neg h0]
    rw [i_le] at h0
    simp at h0
    have h1 : z < nI M := by
      rw [i_lt]
      omega
    rw [if_pos h1, if_neg (by rw [i_lt]; simp; omega)]
theorem bq_P {P : Option Int32 → Prop} {c : Prop} {d : Decidable c} {a b : Option Int32} (h1 : P a) (h2 : P b) : P (@bq _ c d a b) := by
  by_cases h : c
  · rw [bq_v h]
    exact h1
  · rw [bq_w h]
    exact h2
theorem level_ok {N : Nat} (hN : N ≤ 3) {u v : gU} {t1 t2 t3 : Int32} (z : Int32) (p3 : u 0 3 = nI N) (p8 : u 0 8 = t1) (p9 : u 0 9 = t2) (p10 : u 0 10 = t3) (m4 : v 0 4 = nI N) (m9 : v 0 9 = t1) (m10 : v 0 10 = t2) (m11 : v 0 11 = t3) (h1 : 1 ≤ t1.toInt) (h2 : 1 ≤ t2.toInt) (h3 : 1 ≤ t3.toInt) : ∃ L : Int32, f_Pic_level z u = some L ∧ f_Mod_quantized z v = some L ∧ -4 ≤ L.toInt ∧ L.toInt ≤ 4 := by
  unfold f_Pic_level f_Mod_quantized
  rw [p3, p8, p9, p10, m4, m9, m10, m11]
  have hn := nI_toInt (n := N) (by omega)
  have g0 := i_neg (a := nI N) (by omega)
  have g1 := i_neg (a := t1) (by omega)
  have g2 := i_neg (a := t2) (by omega)
  have g3 := i_neg (a := t3) (by omega)
  have fin : ∀ o : Option Int32, (∃ L : Int32, o = some L ∧ -4 ≤ L.toInt ∧ L.toInt ≤ 4) → ∃ L : Int32, o = some L ∧ o = some L ∧ -4 ≤ L.toInt ∧ L.toInt ≤ 4 := fun o ⟨L, a, b⟩ => ⟨L, a, a, b⟩
  by_cases h0 : 0 ≤ z
  · rw [bq_v (c := 0 ≤ z) h0]
    rw [i_le] at h0
    simp at h0
    rw [bq_v (by rw [i_lt]; omega), bq_v (by rw [i_lt]; omega), bq_v (by rw [i_lt]; omega), bq_v (by rw [i_le]; omega)]
    refine fin _ ?_
    refine bq_P (P := fun o => ∃ L : Int32, o = some L ∧ -4 ≤ L.toInt ∧ L.toInt ≤ 4) ?_ ⟨0, rfl, by decide, by decide⟩
    refine bq_P (P := fun o => ∃ L : Int32, o = some L ∧ -4 ≤ L.toInt ∧ L.toInt ≤ 4) ?_ ⟨1, rfl, by decide, by decide⟩
    refine bq_P (P := fun o => ∃ L : Int32, o = some L ∧ -4 ≤ L.toInt ∧ L.toInt ≤ 4) ?_ ⟨2, rfl, by decide, by decide⟩
    exact bq_P (P := fun o => ∃ L : Int32, o = some L ∧ -4 ≤ L.toInt ∧ L.toInt ≤ 4) ⟨4, rfl, by decide, by decide⟩ ⟨3, rfl, by decide, by decide⟩
  · rw [bq_w (c := 0 ≤ z) h0]
    rw [i_le] at h0
    simp at h0
    rw [bq_w (c := nI N < z) (by rw [i_lt]; omega)]
    refine fin _ ?_
    refine bq_P (P := fun o => ∃ L : Int32, o = some L ∧ -4 ≤ L.toInt ∧ L.toInt ≤ 4) ?_ ⟨-4, rfl, by decide, by decide⟩
    refine bq_P (P := fun o => ∃ L : Int32, o = some L ∧ -4 ≤ L.toInt ∧ L.toInt ≤ 4) ?_ ⟨-3, rfl, by decide, by decide⟩
    refine bq_P (P := fun o => ∃ L : Int32, o = some L ∧ -4 ≤ L.toInt ∧ L.toInt ≤ 4) ?_ ⟨-2, rfl, by decide, by decide⟩
    exact bq_P (P := fun o => ∃ L : Int32, o = some L ∧ -4 ≤ L.toInt ∧ L.toInt ≤ 4) ⟨0, rfl, by decide, by decide⟩ ⟨-1, rfl, by decide, by decide⟩
def mnI (a b : Int32) : Int32 := if b < a then b else a
theorem leM (a b : Int32) : f_Mod_lesser a b = some (mnI a b) := by
  unfold f_Mod_lesser mnI bq
  by_cases h : b ≤ a
  · rw [if_pos h]
    by_cases h2 : b < a
    · rw [if_pos h2]
    · rw [if_neg h2]
      rw [i_le] at h
      rw [i_lt] at h2
      exact congrArg some (i_eq.mpr (by omega))
  · rw [if_neg h, if_neg (by rw [i_lt]; rw [i_le] at h; omega)]
def pfI (a b c : Int32) : Int32 := if c < mxI a b then (if mnI a b < c then a + b - c else mxI a b) else mnI a b
theorem pfP (u : gU) : f_Pas_foretoldByNeighbours_C u = some (pfI (u 0 0) (u 0 1) (u 0 2)) := by
  unfold f_Pas_foretoldByNeighbours_C pfI
  rw [tk_v, tk_v]
  change bq (u 0 2 < mxI (u 0 0) (u 0 1)) (bq (mnI (u 0 0) (u 0 1) < u 0 2) (some (u 0 0 + u 0 1 - u 0 2)) (some (mxI (u 0 0) (u 0 1)))) (some (mnI (u 0 0) (u 0 1))) = _
  unfold bq
  split
  · split <;> rfl
  · rfl
theorem shK : ∀ i, i < 32 → ((nI i &&& 31).toBitVec.smod 32).toNat = i := by decide +kernel
theorem shlN {n i : Nat} (hi : i < 32) (h : n * 2 ^ i < 2 ^ 32) : nI n <<< (nI i &&& 31) = nI (n * 2 ^ i) := pk_shlN _ i (shK i hi) h
theorem shrN {n i : Nat} (hi : i < 32) (h : n < 2 ^ 31) : nI n >>> (nI i &&& 31) = nI (n / 2 ^ i) := pk_shrN h _ i (shK i hi)
theorem kf_l {n a q : Nat} (hn : n ≤ 64) (ha : a ≤ 1024 * n) (hq : q < 367) (u : gU) (e : u 4 q = nI n) : ∀ (d i f1 f2 : Nat), i + d = 10 → d < f1 → d < f2 → ∃ k, k ≤ 10 ∧ L_Ctx_leastK_2 f1 (nI q) (nI a) (nI i) u = some (nI k) ∧ L_Mod_kFor_2 f2 (nI n) (nI a) (nI i) = some (nI k) := by
  intro d
  induction d with
  | zero =>
    intro i f1 f2 hi h1 h2
    obtain ⟨f1, rfl⟩ : ∃ f, f1 = f + 1 := ⟨f1 - 1, by omega⟩
    obtain ⟨f2, rfl⟩ : ∃ f, f2 = f + 1 := ⟨f2 - 1, by omega⟩
    obtain rfl : i = 10 := by omega
    refine ⟨10, by omega, ?_, ?_⟩
    · unfold L_Ctx_leastK_2
      rw [bq_w (by decide), gd_v (ix_n hq (by omega)), tc_n (by omega), e, shlN (by omega) (by omega), bq_v (nI_le (by omega) (by omega))]
    · unfold L_Mod_kFor_2
      rw [shlN (by omega) (by omega), bq_v (nI_le (by omega) (by omega))]
  | succ d ih =>
    intro i f1 f2 hi h1 h2
    obtain ⟨f1, rfl⟩ : ∃ f, f1 = f + 1 := ⟨f1 - 1, by omega⟩
    obtain ⟨f2, rfl⟩ : ∃ f, f2 = f + 1 := ⟨f2 - 1, by omega⟩
    have hp : n * 2 ^ i ≤ 64 * 2 ^ 10 := Nat.mul_le_mul hn (Nat.pow_le_pow_right (by omega) (by omega))
    unfold L_Ctx_leastK_2 L_Mod_kFor_2
    rw [bq_w (show ¬ (24 : Int32) ≤ nI i from nI_ge (b := 24) (by omega) (by omega)), gd_v (ix_n hq (by omega)), tc_n (by omega), e, shlN (by omega) (by omega)]
    by_cases hc : a ≤ n * 2 ^ i
    · rw [bq_v (nI_le hc (by omega)), bq_v (nI_le hc (by omega))]
      exact ⟨i, by omega, rfl, rfl⟩
    · rw [bq_w (nI_ge (by omega) (by omega)), bq_w (nI_ge (by omega) (by omega)), tk_v, tk_v, ← nI_succ]
      exact ih (i + 1) f1 f2 (by omega) (by omega) (by omega)
theorem kf_ok {n a : Int32} {q : Nat} (h1 : 1 ≤ n.toInt) (h2 : n.toInt ≤ 64) (h3 : 0 ≤ a.toInt) (h4 : a.toInt ≤ 1024 * n.toInt) (hq : q < 367) (u : gU) (e : u 4 q = n) : ∃ k : Nat, k ≤ 10 ∧ f_Ctx_leastK (nI q) a u = some (nI k) ∧ f_Mod_kFor n a = some (nI k) := by
  obtain ⟨n', hn', rfl⟩ := nI_of (x := n) (by rw [i_lt]; simp; omega)
  obtain ⟨a', ha', rfl⟩ := nI_of (x := a) (by rw [i_lt]; simp; omega)
  rw [nI_toInt hn'] at h1 h2 h4
  rw [nI_toInt ha'] at h3 h4
  obtain ⟨k, hk, e1, e2⟩ := kf_l (n := n') (a := a') (by omega) (by omega) hq u e 10 0 40 2000 (by omega) (by omega) (by omega)
  exact ⟨k, hk, e1, e2⟩
