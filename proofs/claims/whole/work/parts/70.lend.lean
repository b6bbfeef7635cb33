/-! what is learnt at a run's end -/
def leM1 (m e : Int32) : Int32 := if 0 ≤ e then m else m + 1
def leM2 (m e n : Int32) : Int32 := if n = 64 then leM1 m e >>> (1 &&& 31) else leM1 m e
def leA (a g n : Int32) : Int32 := if n = 64 then (a + g) >>> (1 &&& 31) else a + g
theorem le14 {u : gU} {t : Nat} (ht : t ≤ 1) {A B C N M w : Int32} (hA : u 1 (365 + t) = A) (hB : u 2 (365 + t) = B) (hC : u 3 (365 + t) = C) (hN : u 4 (365 + t) = N) (hM : u 5 (365 + t) = M) : ∃ u' : gU, J_Ctx_learnEnd_14 (nI (365 + t)) w u = some u' ∧ UP (365 + t) u u' (leA A ((w + 1 - nI t) / 2) N) B C (lrN N) (if N = 64 then M >>> (1 &&& 31) else M) := by
  unfold J_Ctx_learnEnd_14 J_Ctx_learnEnd_75
  simp only [gd_v (ix_n (show 365 + t < 367 by omega) (by omega)), tc_n (show 365 + t < 2 ^ 31 by omega), tk_v, bd_v, bx_vl, bx_vr, s2s, s2k, s2j, s1s, s1k, mg_v0, mg_v1, sb_v, List.getD_cons_zero, List.getD_cons_succ, not_false_eq_true, Nat.reduceEqDiff, reduceCtorEq]
  rw [n365, hA, hN]
  by_cases g : N = 64
  · rw [bq_v g]
    refine ⟨_, rfl, by simp only [tk_v, bd_v, bx_vl, bx_vr, s2s, s2k, s2j, s1s, s1k, mg_v0, mg_v1, sb_v, List.getD_cons_zero, List.getD_cons_succ, not_false_eq_true, Nat.reduceEqDiff, reduceCtorEq], fun k hk => by rw [s2k (by omega), s2k (by omega), s2k (by omega), s2k (by omega), s2k (by omega)], fun j hj => ?_, ?_, ?_, ?_, ?_, ?_⟩
    · simp only [tk_v, bd_v, bx_vl, bx_vr, s2s, s2k, s2j, s1s, s1k, mg_v0, mg_v1, sb_v, List.getD_cons_zero, List.getD_cons_succ, not_false_eq_true, Nat.reduceEqDiff, reduceCtorEq, s2j hj, and_self]
    · simp only [tk_v, bd_v, bx_vl, bx_vr, s2s, s2k, s2j, s1s, s1k, mg_v0, mg_v1, sb_v, List.getD_cons_zero, List.getD_cons_succ, not_false_eq_true, Nat.reduceEqDiff, reduceCtorEq, leA, if_pos g]
    · simp only [tk_v, bd_v, bx_vl, bx_vr, s2s, s2k, s2j, s1s, s1k, mg_v0, mg_v1, sb_v, List.getD_cons_zero, List.getD_cons_succ, not_false_eq_true, Nat.reduceEqDiff, reduceCtorEq, hB]
    · simp only [tk_v, bd_v, bx_vl, bx_vr, s2s, s2k, s2j, s1s, s1k, mg_v0, mg_v1, sb_v, List.getD_cons_zero, List.getD_cons_succ, not_false_eq_true, Nat.reduceEqDiff, reduceCtorEq, hC]
    · simp only [tk_v, bd_v, bx_vl, bx_vr, s2s, s2k, s2j, s1s, s1k, mg_v0, mg_v1, sb_v, List.getD_cons_zero, List.getD_cons_succ, not_false_eq_true, Nat.reduceEqDiff, reduceCtorEq, lrN, if_pos g]
      rw [g, sh64]
    · simp only [tk_v, bd_v, bx_vl, bx_vr, s2s, s2k, s2j, s1s, s1k, mg_v0, mg_v1, sb_v, List.getD_cons_zero, List.getD_cons_succ, not_false_eq_true, Nat.reduceEqDiff, reduceCtorEq, hM, if_pos g]
  · rw [bq_w g]
    refine ⟨_, rfl, by simp only [tk_v, bd_v, bx_vl, bx_vr, s2s, s2k, s2j, s1s, s1k, mg_v0, mg_v1, sb_v, List.getD_cons_zero, List.getD_cons_succ, not_false_eq_true, Nat.reduceEqDiff, reduceCtorEq], fun k hk => by rw [s2k (by omega), s2k (by omega)], fun j hj => ?_, ?_, ?_, ?_, ?_, ?_⟩
    · simp only [tk_v, bd_v, bx_vl, bx_vr, s2s, s2k, s2j, s1s, s1k, mg_v0, mg_v1, sb_v, List.getD_cons_zero, List.getD_cons_succ, not_false_eq_true, Nat.reduceEqDiff, reduceCtorEq, s2j hj, and_self]
    · simp only [tk_v, bd_v, bx_vl, bx_vr, s2s, s2k, s2j, s1s, s1k, mg_v0, mg_v1, sb_v, List.getD_cons_zero, List.getD_cons_succ, not_false_eq_true, Nat.reduceEqDiff, reduceCtorEq, leA, if_neg g]
    · simp only [tk_v, bd_v, bx_vl, bx_vr, s2s, s2k, s2j, s1s, s1k, mg_v0, mg_v1, sb_v, List.getD_cons_zero, List.getD_cons_succ, not_false_eq_true, Nat.reduceEqDiff, reduceCtorEq, hB]
    · simp only [tk_v, bd_v, bx_vl, bx_vr, s2s, s2k, s2j, s1s, s1k, mg_v0, mg_v1, sb_v, List.getD_cons_zero, List.getD_cons_succ, not_false_eq_true, Nat.reduceEqDiff, reduceCtorEq, hC]
    · simp only [tk_v, bd_v, bx_vl, bx_vr, s2s, s2k, s2j, s1s, s1k, mg_v0, mg_v1, sb_v, List.getD_cons_zero, List.getD_cons_succ, not_false_eq_true, Nat.reduceEqDiff, reduceCtorEq, lrN, if_neg g]
    · simp only [tk_v, bd_v, bx_vl, bx_vr, s2s, s2k, s2j, s1s, s1k, mg_v0, mg_v1, sb_v, List.getD_cons_zero, List.getD_cons_succ, not_false_eq_true, Nat.reduceEqDiff, reduceCtorEq, hM, if_neg g]
theorem lendC {u : gU} {t : Nat} (ht : t ≤ 1) {A B C N M e w : Int32} (hA : u 1 (365 + t) = A) (hB : u 2 (365 + t) = B) (hC : u 3 (365 + t) = C) (hN : u 4 (365 + t) = N) (hM : u 5 (365 + t) = M) : ∃ u' : gU, f_Ctx_learnEnd (nI (365 + t)) e w u = some u' ∧ UP (365 + t) u u' (leA A ((w + 1 - nI t) / 2) N) B C (lrN N) (leM2 M e N) := by
  unfold f_Ctx_learnEnd leM2 leM1
  by_cases g : 0 ≤ e
  · rw [bq_v g, if_pos g]
    exact le14 ht hA hB hC hN hM
  · rw [bq_w g, if_neg g, gd_v (ix_n (show 365 + t < 367 by omega) (by omega)), gd_v (ix_n (show 365 + t < 367 by omega) (by omega)), tk_v, tc_n (show 365 + t < 2 ^ 31 by omega), hM]
    have T : UP (365 + t) u (st2 u 5 (365 + t) (M + 1)) A B C N (M + 1) := by
      refine ⟨by simp only [tk_v, bd_v, bx_vl, bx_vr, s2s, s2k, s2j, s1s, s1k, mg_v0, mg_v1, sb_v, List.getD_cons_zero, List.getD_cons_succ, not_false_eq_true, Nat.reduceEqDiff, reduceCtorEq], fun k hk => by rw [s2k (by omega)], fun j hj => ?_, ?_, ?_, ?_, ?_, ?_⟩
      · simp only [tk_v, bd_v, bx_vl, bx_vr, s2s, s2k, s2j, s1s, s1k, mg_v0, mg_v1, sb_v, List.getD_cons_zero, List.getD_cons_succ, not_false_eq_true, Nat.reduceEqDiff, reduceCtorEq, s2j hj, and_self]
      · simp only [tk_v, bd_v, bx_vl, bx_vr, s2s, s2k, s2j, s1s, s1k, mg_v0, mg_v1, sb_v, List.getD_cons_zero, List.getD_cons_succ, not_false_eq_true, Nat.reduceEqDiff, reduceCtorEq, hA]
      · simp only [tk_v, bd_v, bx_vl, bx_vr, s2s, s2k, s2j, s1s, s1k, mg_v0, mg_v1, sb_v, List.getD_cons_zero, List.getD_cons_succ, not_false_eq_true, Nat.reduceEqDiff, reduceCtorEq, hB]
      · simp only [tk_v, bd_v, bx_vl, bx_vr, s2s, s2k, s2j, s1s, s1k, mg_v0, mg_v1, sb_v, List.getD_cons_zero, List.getD_cons_succ, not_false_eq_true, Nat.reduceEqDiff, reduceCtorEq, hC]
      · simp only [tk_v, bd_v, bx_vl, bx_vr, s2s, s2k, s2j, s1s, s1k, mg_v0, mg_v1, sb_v, List.getD_cons_zero, List.getD_cons_succ, not_false_eq_true, Nat.reduceEqDiff, reduceCtorEq, hN]
      · simp only [tk_v, bd_v, bx_vl, bx_vr, s2s, s2k, s2j, s1s, s1k, mg_v0, mg_v1, sb_v, List.getD_cons_zero, List.getD_cons_succ, not_false_eq_true, Nat.reduceEqDiff, reduceCtorEq]
    obtain ⟨u', e1, e2⟩ := le14 (w := w) ht T.2.2.2.1 T.2.2.2.2.1 T.2.2.2.2.2.1 T.2.2.2.2.2.2.1 T.2.2.2.2.2.2.2
    exact ⟨u', e1, UP_tr T e2⟩
def loI (r : Int32) : Int32 := if r ≤ 0 then r else r - 1
def VQ (q : Nat) (v v' : gU) (A B C N M : Int32) : Prop := (∀ k, ¬ k = 3 → ¬ k = 0 → v' k = v k) ∧ (∀ j, ¬ j = 12 → v' 0 j = v 0 j) ∧ v' 0 12 = loI (v 0 12) ∧ (∀ i, i < 5 * q ∨ 5 * q + 5 ≤ i → v' 3 i = v 3 i) ∧ v' 3 (5 * q) = A ∧ v' 3 (5 * q + 1) = B ∧ v' 3 (5 * q + 2) = C ∧ v' 3 (5 * q + 3) = N ∧ v' 3 (5 * q + 4) = M
theorem j398 {v : gU} {q : Nat} (hq : q < 367) (h0 : 0 ≤ (v 0 12).toInt) {A B C N M : Int32} (hA : v 3 (5 * q) = A) (hB : v 3 (5 * q + 1) = B) (hC : v 3 (5 * q + 2) = C) (hN : v 3 (5 * q + 3) = N) (hM : v 3 (5 * q + 4) = M) : ∃ v' : gU, J_Mod_endRun_398 (nI (5 * q)) v = some v' ∧ VQ q v v' A B C (N + 1) M := by
  have fin : ∀ r : Int32, r = loI (v 0 12) → VQ q v (st2 (st2 v 3 (5 * q + 3) (N + 1)) 0 12 r) A B C (N + 1) M := by
    intro r hr
    refine ⟨fun k k3 k0 => by rw [s2k k0, s2k k3], fun j hj => by rw [s2j hj, s2k (by decide)], by rw [s2s, hr], fun i hi => by rw [s2k (by decide), s2j (by omega)], ?_, ?_, ?_, ?_, ?_⟩
    · rw [s2k (by decide), s2j (by omega), hA]
    · rw [s2k (by decide), s2j (by omega), hB]
    · rw [s2k (by decide), s2j (by omega), hC]
    · rw [s2k (by decide), s2s]
    · rw [s2k (by decide), s2j (by omega), hM]
  unfold J_Mod_endRun_398 J_Mod_endRun_429
  rw [n3, gd_v (ix_n (by omega) (by omega)), gd_v (ix_n (by omega) (by omega)), tk_v, tc_n (n := 5 * q + 3) (by omega), hN, s2k (by decide)]
  by_cases g : v 0 12 ≤ 0
  · rw [bq_v g, tk_v]
    refine ⟨_, rfl, fin _ ?_⟩
    unfold loI
    rw [if_pos g]
    rw [i_le] at g
    have z0 : (0 : Int32).toInt = 0 := by decide
    exact i_eq.mpr (by omega)
  · rw [bq_w g, tk_v]
    refine ⟨_, rfl, fin _ ?_⟩
    unfold loI
    rw [if_neg g]
theorem VQ_tr {q : Nat} {u u1 u2 : gU} {A B C N M A' B' C' N' M' : Int32} (h1 : VP q u u1 A B C N M) (h2 : VQ q u1 u2 A' B' C' N' M') : VQ q u u2 A' B' C' N' M' := by
  obtain ⟨a0, a1, -⟩ := h1
  obtain ⟨b0, b1, b2, b3, b4⟩ := h2
  exact ⟨fun k k3 k0 => by rw [b0 k k3 k0, a0 k k3], fun j hj => by rw [b1 j hj, a0 0 (by decide)], by rw [b2, a0 0 (by decide)], fun i hi => by rw [b3 i hi, a1 i hi], b4⟩
theorem j321 {v : gU} {q : Nat} (hq : q < 367) (h0 : 0 ≤ (v 0 12).toInt) {A B C N M e w t d : Int32} (hd : leM1 M e = M + d) (hA : v 3 (5 * q) = A) (hB : v 3 (5 * q + 1) = B) (hC : v 3 (5 * q + 2) = C) (hN : v 3 (5 * q + 3) = N) : ∃ v' : gU, J_Mod_endRun_321 t (nI (5 * q)) N w (nI (5 * q + 4)) M d v = some v' ∧ VQ q v v' (leA A ((w + 1 - t) / 2) N) B C (lrN N) (leM2 M e N) := by
  have k1 : ¬ 5 * q = 5 * q + 4 := by omega
  have k2 : ¬ 5 * q + 1 = 5 * q + 4 := by omega
  have k3 : ¬ 5 * q + 2 = 5 * q + 4 := by omega
  have k4 : ¬ 5 * q + 3 = 5 * q + 4 := by omega
  have k5 : ¬ 5 * q + 1 = 5 * q := by omega
  have k6 : ¬ 5 * q + 2 = 5 * q := by omega
  have k7 : ¬ 5 * q + 3 = 5 * q := by omega
  have k8 : ¬ 5 * q + 4 = 5 * q := by omega
  have k9 : ¬ 5 * q = 5 * q + 3 := by omega
  have k10 : ¬ 5 * q + 1 = 5 * q + 3 := by omega
  have k11 : ¬ 5 * q + 2 = 5 * q + 3 := by omega
  have k12 : ¬ 5 * q + 4 = 5 * q + 3 := by omega
  unfold J_Mod_endRun_321 f_Mod_half leM2
  rw [n3, n4, hd]
  simp only [gd_v (ix_n (show 5 * q < 1835 by omega) (by omega)), gd_v (ix_n (show 5 * q + 4 < 1835 by omega) (by omega)), gd_v (ix_n (show 5 * q + 3 < 1835 by omega) (by omega)), tc_n (show 5 * q < 2 ^ 31 by omega), tc_n (show 5 * q + 4 < 2 ^ 31 by omega), tc_n (show 5 * q + 3 < 2 ^ 31 by omega), tk_v, bd_v, s2s, s2j k1, s2j k8]
  rw [hA]
  by_cases g : N = 64
  · rw [bq_v g, if_pos g]
    have T : VP q v (st2 (st2 (st2 (st2 (st2 v 3 (5 * q + 4) (M + d)) 3 (5 * q) (A + (w + 1 - t) / 2)) 3 (5 * q) ((A + (w + 1 - t) / 2) >>> (1 &&& 31))) 3 (5 * q + 4) ((M + d) >>> (1 &&& 31))) 3 (5 * q + 3) 32) ((A + (w + 1 - t) / 2) >>> (1 &&& 31)) B C 32 ((M + d) >>> (1 &&& 31)) := by
      refine ⟨fun k hk => by rw [s2k hk, s2k hk, s2k hk, s2k hk, s2k hk], fun i hi => by rw [s2j (by omega), s2j (by omega), s2j (by omega), s2j (by omega), s2j (by omega)], ?_, ?_, ?_, ?_, ?_⟩
      · rw [s2j k9, s2j k1, s2s]
      · rw [s2j k10, s2j k2, s2j k5, s2j k5, s2j k2, hB]
      · rw [s2j k11, s2j k3, s2j k6, s2j k6, s2j k3, hC]
      · rw [s2s]
      · rw [s2j k12, s2s]
    obtain ⟨v', e1, e2⟩ := j398 hq (by rw [T.1 0 (by decide)]; exact h0) T.2.2.1 T.2.2.2.1 T.2.2.2.2.1 T.2.2.2.2.2.1 T.2.2.2.2.2.2
    refine ⟨v', e1, ?_⟩
    unfold leA lrN
    rw [if_pos g, if_pos g]
    exact VQ_tr T e2
  · rw [bq_w g, if_neg g]
    have T : VP q v (st2 (st2 v 3 (5 * q + 4) (M + d)) 3 (5 * q) (A + (w + 1 - t) / 2)) (A + (w + 1 - t) / 2) B C N (M + d) := by
      refine ⟨fun k hk => by rw [s2k hk, s2k hk], fun i hi => by rw [s2j (by omega), s2j (by omega)], ?_, ?_, ?_, ?_, ?_⟩
      · rw [s2s]
      · rw [s2j k5, s2j k2, hB]
      · rw [s2j k6, s2j k3, hC]
      · rw [s2j k7, s2j k4, hN]
      · rw [s2j k8, s2s]
    obtain ⟨v', e1, e2⟩ := j398 hq (by rw [T.1 0 (by decide)]; exact h0) T.2.2.1 T.2.2.2.1 T.2.2.2.2.1 T.2.2.2.2.2.1 T.2.2.2.2.2.2
    refine ⟨v', e1, ?_⟩
    unfold leA lrN
    rw [if_neg g, if_neg g]
    exact VQ_tr T e2
theorem lend_any {v : gU} {q : Nat} (hq : q < 367) (h0 : 0 ≤ (v 0 12).toInt) {e w t N : Int32} (hN : v 3 (5 * q + 3) = N) : ∃ v' : gU, J_Mod_endRun_301 t (nI (5 * q)) N e w v = some v' ∧ VQ q v v' (leA (v 3 (5 * q)) ((w + 1 - t) / 2) N) (v 3 (5 * q + 1)) (v 3 (5 * q + 2)) (lrN N) (leM2 (v 3 (5 * q + 4)) e N) := by
  unfold J_Mod_endRun_301
  rw [n4, gd_v (ix_n (by omega) (by omega)), tc_n (n := 5 * q + 4) (by omega)]
  by_cases g : 0 ≤ e
  · rw [bq_v g]
    exact j321 hq h0 (by unfold leM1; rw [if_pos g, Int32.add_zero]) rfl rfl rfl hN
  · rw [bq_w g]
    exact j321 hq h0 (by unfold leM1; rw [if_neg g]) rfl rfl rfl hN
theorem lend_ok {u v : gU} {t : Nat} {e w : Int32} (ht : t ≤ 1) (h : CX u v) (w1 : 0 ≤ w.toInt + 1 - t) (w2 : w.toInt ≤ 600) : ∃ u1 u' v' : gU, f_Ctx_learnEnd (nI (365 + t)) e w u = some u1 ∧ f_Ctx_lowerRunIndex u1 = some u' ∧ J_Mod_endRun_301 (nI t) (nI (5 * (365 + t))) (u 4 (365 + t)) e w v = some v' ∧ CX u' v' ∧ (∀ k, 6 ≤ k → u' k = u k) ∧ (∀ k, ¬ k = 3 → ¬ k = 0 → v' k = v k) ∧ (∀ j, ¬ j = 12 → v' 0 j = v 0 j) := by
  obtain ⟨r0, r1, r2, hc⟩ := h
  obtain ⟨c1, c2, c3, c4, c5, c6, c7, c8, c9, c10, c11⟩ := hc (365 + t) (by omega)
  obtain ⟨u1, f1, f2⟩ := lendC (u := u) (e := e) (w := w) ht rfl rfl rfl rfl rfl
  obtain ⟨v', g1, g2⟩ := lend_any (v := v) (q := 365 + t) (e := e) (w := w) (t := nI t) (N := u 4 (365 + t)) (by omega) (by rw [← r0]; exact r1) c4.symm
  have o1 : (1 : Int32).toInt = 1 := by decide
  have z0 : (0 : Int32).toInt = 0 := by decide
  have ti := nI_toInt (n := t) (by omega)
  have b1 : (w + 1).toInt = w.toInt + 1 := by rw [i_add (by omega) (by omega), o1]
  have b2 : (w + 1 - nI t).toInt = w.toInt + 1 - t := by rw [i_sub (by omega) (by omega), b1, ti]
  obtain ⟨m, hm, em⟩ := nI_of (x := w + 1 - nI t) (by rw [i_lt, b2, z0]; omega)
  have hmi := nI_toInt hm
  rw [← em, b2] at hmi
  have b3 : (w + 1 - nI t) / 2 = nI (m / 2) := by
    rw [em]
    exact pk_div (d := 2) hm (by omega) (by omega)
  have b4 := nI_toInt (n := m / 2) (by omega)
  have hA : (u 1 (365 + t) + (w + 1 - nI t) / 2).toInt = (u 1 (365 + t)).toInt + ((m / 2 : Nat) : Int) := by rw [b3, i_add (by omega) (by omega), b4]
  have hN : (lrN (u 4 (365 + t))).toInt = if (u 4 (365 + t)).toInt = 64 then 33 else (u 4 (365 + t)).toInt + 1 := by
    unfold lrN
    by_cases g : u 4 (365 + t) = 64
    · rw [if_pos g, g, if_pos (by decide)]
      decide
    · have g' : ¬ (u 4 (365 + t)).toInt = 64 := fun hh => g (i_eq.mpr hh)
      rw [if_neg g, if_neg g', i_add (by omega) (by omega), o1]
  have hA2 : (leA (u 1 (365 + t)) ((w + 1 - nI t) / 2) (u 4 (365 + t))).toInt = if (u 4 (365 + t)).toInt = 64 then ((u 1 (365 + t)).toInt + ((m / 2 : Nat) : Int)) / 2 else (u 1 (365 + t)).toInt + ((m / 2 : Nat) : Int) := by
    unfold leA
    by_cases g : u 4 (365 + t) = 64
    · rw [if_pos g, g, if_pos (by decide), sh1 _ (by omega), hA]
    · have g' : ¬ (u 4 (365 + t)).toInt = 64 := fun hh => g (i_eq.mpr hh)
      rw [if_neg g, if_neg g', hA]
  have hlo : ∃ u' : gU, f_Ctx_lowerRunIndex u1 = some u' ∧ u' 0 0 = loI (u 0 0) ∧ (∀ k, ¬ k = 0 → u' k = u1 k) := by
    unfold f_Ctx_lowerRunIndex loI
    rw [f2.1]
    by_cases g : u 0 0 ≤ 0
    · rw [bq_v g, if_pos g]
      exact ⟨u1, rfl, by rw [f2.1], fun _ _ => rfl⟩
    · rw [bq_w g, tk_v, if_neg g]
      exact ⟨_, rfl, s2s, fun k hk => s2k hk⟩
  obtain ⟨u', l1, l2, l3⟩ := hlo
  obtain ⟨d1, d2, d3, d4, d5, d6, d7, d8, d9⟩ := g2
  refine ⟨u1, u', v', f1, l1, g1, ⟨?_, ?_, ?_, fun j hj => ?_⟩, fun k hk => by rw [l3 k (by omega), f2.2.1 k hk], d1, d2⟩
  · rw [l2, d3, r0]
  · rw [l2]
    unfold loI
    by_cases g : u 0 0 ≤ 0
    · rw [if_pos g]
      exact r1
    · rw [if_neg g]
      rw [i_le] at g
      rw [i_sub (by omega) (by omega)]
      omega
  · rw [l2]
    unfold loI
    by_cases g : u 0 0 ≤ 0
    · rw [if_pos g]
      exact r2
    · rw [if_neg g]
      rw [i_le] at g
      rw [i_sub (by omega) (by omega)]
      omega
  · obtain ⟨-, -, f3, f4, f5, f6, f7, f8⟩ := f2
    rw [l3 1 (by decide), l3 2 (by decide), l3 3 (by decide), l3 4 (by decide), l3 5 (by decide)]
    by_cases hjq : j = 365 + t
    · subst hjq
      rw [f4, f5, f6, f7, f8, d5, d6, d7, d8, d9, ← c1, ← c2, ← c3, ← c5]
      refine ⟨rfl, rfl, rfl, rfl, rfl, ?_, ?_, ?_, ?_, c10, c11⟩
      · rw [hN]
        split <;> omega
      · rw [hN]
        split <;> omega
      · rw [hA2]
        split <;> omega
      · rw [hA2, hN]
        split <;> omega
    · obtain ⟨w1, w2, w3, w4, w5⟩ := f3 j hjq
      rw [w1, w2, w3, w4, w5, d4 _ (by omega), d4 _ (by omega), d4 _ (by omega), d4 _ (by omega), d4 _ (by omega)]
      exact hc j hj
