/-! filling and forgetting -/
theorem fill_l (nn : Nat) (hn : nn < 2000) (a : Int32) : ∀ (d i fuel : Nat) (u : gU), i + d = nn → d < fuel → ∃ u' : gU, L_Arrs_fill_102_5 nn fuel a (nI i) (nI nn) u = some u' ∧ (∀ j, u' 0 j = if i ≤ j ∧ j < nn then a else u 0 j) ∧ (∀ k, ¬ k = 0 → u' k = u k) := by
  intro d
  induction d with
  | zero =>
    intro i fuel u hi hf
    obtain ⟨f, rfl⟩ : ∃ f, fuel = f + 1 := ⟨fuel - 1, by omega⟩
    have hi' : nn = i := by omega
    refine ⟨u, ?_, fun j => ?_, fun k _ => rfl⟩
    · unfold L_Arrs_fill_102_5
      rw [bq_v (by rw [hi']; exact nI_le (Nat.le_refl _) (by omega))]
    · rw [if_neg (by omega)]
  | succ d ih =>
    intro i fuel u hi hf
    obtain ⟨f, rfl⟩ : ∃ f, fuel = f + 1 := ⟨fuel - 1, by omega⟩
    obtain ⟨u', e, h1, h2⟩ := ih (i + 1) f (st2 u 0 i a) (by omega) (by omega)
    refine ⟨u', ?_, fun j => ?_, fun k hk => by rw [h2 k hk, s2k hk]⟩
    · unfold L_Arrs_fill_102_5
      rw [bq_w (nI_ge (by omega) (by omega)), gd_v (ix_n (by omega) (by omega)), tk_v, tk_v, tc_n (by omega), ← nI_succ]
      exact e
    · rw [h1 j]
      by_cases hj : j = i
      · subst hj
        rw [if_neg (by omega), if_pos (by omega), s2s]
      · rw [s2j hj]
        by_cases hc : i ≤ j ∧ j < nn
        · rw [if_pos hc, if_pos (by omega)]
        · rw [if_neg hc, if_neg (by omega)]
theorem fill_ok (nn : Nat) (hn : nn < 1990) (a : Int32) (u : gU) : ∃ u' : gU, f_Arrs_fill_102 nn a u = some u' ∧ (∀ j, j < nn → u' 0 j = a) := by
  obtain ⟨u', e, h1, h2⟩ := fill_l nn (by omega) a nn 0 2000 u (by omega) (by omega)
  refine ⟨u', ?_, fun j hj => by rw [h1 j, if_pos ⟨by omega, hj⟩]⟩
  unfold f_Arrs_fill_102
  rw [tk_v]
  exact e
theorem restart_ok (a : Int32) (u : gU) : ∃ u' : gU, f_Ctx_restart a u = some u' ∧ u' 0 0 = 0 ∧ (∀ q, q < 367 → u' 1 q = mxI 2 ((a + 32) / 64) ∧ u' 2 q = 0 ∧ u' 3 q = 0 ∧ u' 4 q = 1 ∧ u' 5 q = 0) ∧ (∀ k, 6 ≤ k → u' k = u k) := by
  unfold f_Ctx_restart
  obtain ⟨w2, e2, h2⟩ := fill_ok 367 (by omega) (mxI 2 ((a + 32) / 64)) (sb [1] u)
  rw [tk_v, mxP, e2, bd_v, tk_v]
  obtain ⟨w4, e4, h4⟩ := fill_ok 367 (by omega) 0 (sb [2] (mg [1] 0 u w2))
  rw [e4, bd_v, tk_v]
  obtain ⟨w6, e6, h6⟩ := fill_ok 367 (by omega) 0 (sb [3] (mg [2] 0 (mg [1] 0 u w2) w4))
  rw [e6, bd_v, tk_v]
  obtain ⟨w8, e8, h8⟩ := fill_ok 367 (by omega) 1 (sb [4] (mg [3] 0 (mg [2] 0 (mg [1] 0 u w2) w4) w6))
  rw [e8, bd_v, tk_v]
  obtain ⟨w10, e10, h10⟩ := fill_ok 367 (by omega) 0 (sb [5] (mg [4] 0 (mg [3] 0 (mg [2] 0 (mg [1] 0 u w2) w4) w6) w8))
  rw [e10, bd_v, tk_v, tk_v]
  refine ⟨_, rfl, by simp only [tk_v, bd_v, bx_vl, bx_vr, s2s, s2k, s2j, s1s, s1k, mg_v0, mg_v1, sb_v, List.getD_cons_zero, List.getD_cons_succ, not_false_eq_true, Nat.reduceEqDiff, reduceCtorEq], fun q hq => ⟨?_, ?_, ?_, ?_, ?_⟩, fun k hk => ?_⟩
  · simp only [tk_v, bd_v, bx_vl, bx_vr, s2s, s2k, s2j, s1s, s1k, mg_v0, mg_v1, sb_v, List.getD_cons_zero, List.getD_cons_succ, not_false_eq_true, Nat.reduceEqDiff, reduceCtorEq, h2 q hq]
  · simp only [tk_v, bd_v, bx_vl, bx_vr, s2s, s2k, s2j, s1s, s1k, mg_v0, mg_v1, sb_v, List.getD_cons_zero, List.getD_cons_succ, not_false_eq_true, Nat.reduceEqDiff, reduceCtorEq, h4 q hq]
  · simp only [tk_v, bd_v, bx_vl, bx_vr, s2s, s2k, s2j, s1s, s1k, mg_v0, mg_v1, sb_v, List.getD_cons_zero, List.getD_cons_succ, not_false_eq_true, Nat.reduceEqDiff, reduceCtorEq, h6 q hq]
  · simp only [tk_v, bd_v, bx_vl, bx_vr, s2s, s2k, s2j, s1s, s1k, mg_v0, mg_v1, sb_v, List.getD_cons_zero, List.getD_cons_succ, not_false_eq_true, Nat.reduceEqDiff, reduceCtorEq, h8 q hq]
  · simp only [tk_v, bd_v, bx_vl, bx_vr, s2s, s2k, s2j, s1s, s1k, mg_v0, mg_v1, sb_v, List.getD_cons_zero, List.getD_cons_succ, not_false_eq_true, Nat.reduceEqDiff, reduceCtorEq, h10 q hq]
  · rw [s2k (by omega)]
    simp only [mg_v0, mg_v1]
    rw [s1k (by omega), s1k (by omega), s1k (by omega), s1k (by omega), s1k (by omega)]
theorem forget_88 : ∀ (d i fuel : Nat) (u : gU), i + d = 64 → d < fuel → ∃ u' : gU, L_Mod_forget_88 fuel (nI i) u = some u' ∧ (∀ j, u' 2 j = if i ≤ j ∧ j < 64 then 0 else u 2 j) ∧ (∀ k, ¬ k = 2 → u' k = u k) := by
  intro d
  induction d with
  | zero =>
    intro i fuel u hi hf
    obtain ⟨f, rfl⟩ : ∃ f, fuel = f + 1 := ⟨fuel - 1, by omega⟩
    have hi' : i = 64 := by omega
    subst hi'
    refine ⟨u, ?_, fun j => ?_, fun k _ => rfl⟩
    · unfold L_Mod_forget_88
      rw [bq_v (by decide)]
    · rw [if_neg (by omega)]
  | succ d ih =>
    intro i fuel u hi hf
    obtain ⟨f, rfl⟩ : ∃ f, fuel = f + 1 := ⟨fuel - 1, by omega⟩
    obtain ⟨u', e, h1, h2⟩ := ih (i + 1) f (st2 u 2 i 0) (by omega) (by omega)
    refine ⟨u', ?_, fun j => ?_, fun k hk => by rw [h2 k hk, s2k hk]⟩
    · unfold L_Mod_forget_88
      rw [bq_w (show ¬ (64 : Int32) ≤ nI i from nI_ge (b := 64) (by omega) (by omega)), gd_v (ix_n (by omega) (by omega)), tk_v, tk_v, tc_n (by omega), ← nI_succ]
      exact e
    · rw [h1 j]
      by_cases hj : j = i
      · subst hj
        rw [if_neg (by omega), if_pos (by omega), s2s]
      · rw [s2j hj]
        by_cases hc : i ≤ j ∧ j < 64
        · rw [if_pos hc, if_pos (by omega)]
        · rw [if_neg hc, if_neg (by omega)]
theorem n5 (i : Nat) : 5 * nI i = nI (5 * i) := pk_mul 5 i
theorem nA (i k : Nat) : nI i + (OfNat.ofNat k : Int32) = nI (i + k) := nI_add i k
theorem n1 (i : Nat) : nI i + 1 = nI (i + 1) := nI_add i 1
theorem n2 (i : Nat) : nI i + 2 = nI (i + 2) := nI_add i 2
theorem n3 (i : Nat) : nI i + 3 = nI (i + 3) := nI_add i 3
theorem n4 (i : Nat) : nI i + 4 = nI (i + 4) := nI_add i 4
theorem forget_2 (x : Int32) : ∀ (d i fuel : Nat) (u : gU), i + d = 367 → d < fuel → mxI 2 ((u 0 6 + 32) / 64) = x → ∃ u' : gU, L_Mod_forget_2 fuel (nI i) u = some u' ∧ u' 0 12 = 0 ∧ (∀ j, ¬ j = 12 → u' 0 j = u 0 j) ∧ (∀ q, i ≤ q → q < 367 → u' 3 (5 * q) = x ∧ u' 3 (5 * q + 1) = 0 ∧ u' 3 (5 * q + 2) = 0 ∧ u' 3 (5 * q + 3) = 1 ∧ u' 3 (5 * q + 4) = 0) ∧ (∀ j, j < 5 * i → u' 3 j = u 3 j) ∧ (∀ j, j < 64 → u' 2 j = 0) ∧ (∀ k, ¬ k = 0 → ¬ k = 2 → ¬ k = 3 → u' k = u k) := by
  intro d
  induction d with
  | zero =>
    intro i fuel u hi hf hx
    obtain ⟨f, rfl⟩ : ∃ f, fuel = f + 1 := ⟨fuel - 1, by omega⟩
    have hi' : i = 367 := by omega
    subst hi'
    obtain ⟨u', e, h1, h2⟩ := forget_88 64 0 2000 (st2 u 0 12 0) (by omega) (by omega)
    refine ⟨u', ?_, ?_, fun j hj => ?_, fun q h3 h4 => by omega, fun j _ => ?_, fun j hj => ?_, fun k k0 k2 k3 => ?_⟩
    · unfold L_Mod_forget_2
      rw [bq_v (by decide), tk_v]
      exact e
    · rw [h2 0 (by decide), s2s]
    · rw [h2 0 (by decide), s2j hj]
    · rw [h2 3 (by decide), s2k (by decide)]
    · rw [h1 j, if_pos (by omega)]
    · rw [h2 k k2, s2k k0]
  | succ d ih =>
    intro i fuel u hi hf hx
    obtain ⟨f, rfl⟩ : ∃ f, fuel = f + 1 := ⟨fuel - 1, by omega⟩
    obtain ⟨u', e, h1, h2, h3, h4, h5, h6⟩ := ih (i + 1) f (st2 (st2 (st2 (st2 (st2 u 3 (5 * i) x) 3 (5 * i + 1) 0) 3 (5 * i + 2) 0) 3 (5 * i + 3) 1) 3 (5 * i + 4) 0) (by omega) (by omega) (by simpa only [tk_v, bd_v, bx_vl, bx_vr, s2s, s2k, s2j, s1s, s1k, mg_v0, mg_v1, sb_v, List.getD_cons_zero, List.getD_cons_succ, not_false_eq_true, Nat.reduceEqDiff, reduceCtorEq] using hx)
    refine ⟨u', ?_, h1, fun j hj => by rw [h2 j hj]; simp only [tk_v, bd_v, bx_vl, bx_vr, s2s, s2k, s2j, s1s, s1k, mg_v0, mg_v1, sb_v, List.getD_cons_zero, List.getD_cons_succ, not_false_eq_true, Nat.reduceEqDiff, reduceCtorEq], fun q hq1 hq2 => ?_, fun j hj => ?_, h5, fun k k0 k2 k3 => by rw [h6 k k0 k2 k3, s2k k3, s2k k3, s2k k3, s2k k3, s2k k3]⟩
    · unfold L_Mod_forget_2
      rw [bq_w (show ¬ (367 : Int32) ≤ nI i from nI_ge (b := 367) (by omega) (by omega)), grM, hx, bd_v, n5, n1, n2, n3, n4, gd_v (ix_n (by omega) (by omega)), tk_v, gd_v (ix_n (by omega) (by omega)), tk_v, gd_v (ix_n (by omega) (by omega)), tk_v, gd_v (ix_n (by omega) (by omega)), tk_v, gd_v (ix_n (by omega) (by omega)), tk_v, tk_v, tc_n (by omega), tc_n (by omega), tc_n (by omega), tc_n (by omega), tc_n (by omega), ← nI_succ]
      exact e
    · by_cases hq : i + 1 ≤ q
      · exact h3 q hq hq2
      · have hqi : q = i := by omega
        subst hqi
        rw [h4 _ (by omega), h4 _ (by omega), h4 _ (by omega), h4 _ (by omega), h4 _ (by omega)]
        refine ⟨?_, ?_, ?_, ?_, ?_⟩
        · rw [s2j (by omega), s2j (by omega), s2j (by omega), s2j (by omega), s2s]
        · rw [s2j (by omega), s2j (by omega), s2j (by omega), s2s]
        · rw [s2j (by omega), s2j (by omega), s2s]
        · rw [s2j (by omega), s2s]
        · rw [s2s]
    · rw [h4 j (by omega), s2j (by omega), s2j (by omega), s2j (by omega), s2j (by omega), s2j (by omega)]
theorem forget_ok (u : gU) : ∃ u' : gU, f_Mod_forget u = some u' ∧ u' 0 12 = 0 ∧ (∀ j, ¬ j = 12 → u' 0 j = u 0 j) ∧ (∀ q, q < 367 → u' 3 (5 * q) = mxI 2 ((u 0 6 + 32) / 64) ∧ u' 3 (5 * q + 1) = 0 ∧ u' 3 (5 * q + 2) = 0 ∧ u' 3 (5 * q + 3) = 1 ∧ u' 3 (5 * q + 4) = 0) ∧ (∀ j, j < 64 → u' 2 j = 0) ∧ (∀ k, ¬ k = 0 → ¬ k = 2 → ¬ k = 3 → u' k = u k) := by
  obtain ⟨u', e, h1, h2, h3, h4, h5, h6⟩ := forget_2 _ 367 0 2000 u (by omega) (by omega) rfl
  exact ⟨u', e, h1, h2, fun q hq => h3 q (by omega) hq, h5, h6⟩
def CX (u v : gU) : Prop := u 0 0 = v 0 12 ∧ 0 ≤ (u 0 0).toInt ∧ (u 0 0).toInt ≤ 31 ∧ ∀ q, q < 367 → u 1 q = v 3 (5 * q) ∧ u 2 q = v 3 (5 * q + 1) ∧ u 3 q = v 3 (5 * q + 2) ∧ u 4 q = v 3 (5 * q + 3) ∧ u 5 q = v 3 (5 * q + 4) ∧ 1 ≤ (u 4 q).toInt ∧ (u 4 q).toInt ≤ 64 ∧ 0 ≤ (u 1 q).toInt ∧ (u 1 q).toInt ≤ 512 * (u 4 q).toInt ∧ -128 ≤ (u 3 q).toInt ∧ (u 3 q).toInt ≤ 127
theorem A0_rg : ∀ r, r < 300 → 0 ≤ (mxI 2 ((nI r + 32) / 64)).toInt ∧ (mxI 2 ((nI r + 32) / 64)).toInt ≤ 512 := by decide +kernel
theorem CX_new {u v : gU} {r : Nat} (hr : r < 300) (a : u 0 0 = 0) (b : ∀ q, q < 367 → u 1 q = mxI 2 ((nI r + 32) / 64) ∧ u 2 q = 0 ∧ u 3 q = 0 ∧ u 4 q = 1 ∧ u 5 q = 0) (c : v 0 12 = 0) (d : ∀ q, q < 367 → v 3 (5 * q) = mxI 2 ((nI r + 32) / 64) ∧ v 3 (5 * q + 1) = 0 ∧ v 3 (5 * q + 2) = 0 ∧ v 3 (5 * q + 3) = 1 ∧ v 3 (5 * q + 4) = 0) : CX u v := by
  refine ⟨by rw [a, c], by rw [a]; decide, by rw [a]; decide, fun q hq => ?_⟩
  obtain ⟨b1, b2, b3, b4, b5⟩ := b q hq
  obtain ⟨d1, d2, d3, d4, d5⟩ := d q hq
  have hA := A0_rg r hr
  refine ⟨by rw [b1, d1], by rw [b2, d2], by rw [b3, d3], by rw [b4, d4], by rw [b5, d5], by rw [b4]; decide, by rw [b4]; decide, by rw [b1]; exact hA.1, by rw [b1, b4]; exact hA.2, by rw [b3]; decide, by rw [b3]; decide⟩
theorem CX_eq {u v u' v' : gU} (h : CX u v) (e0 : u' 0 0 = u 0 0) (e1 : ∀ q, q < 367 → u' 1 q = u 1 q ∧ u' 2 q = u 2 q ∧ u' 3 q = u 3 q ∧ u' 4 q = u 4 q ∧ u' 5 q = u 5 q) (f0 : v' 0 12 = v 0 12) (f1 : v' 3 = v 3) : CX u' v' := by
  obtain ⟨a, b, c, d⟩ := h
  refine ⟨by rw [e0, f0, a], by rw [e0]; exact b, by rw [e0]; exact c, fun q hq => ?_⟩
  obtain ⟨g1, g2, g3, g4, g5⟩ := e1 q hq
  rw [g1, g2, g3, g4, g5, f1]
  exact d q hq
