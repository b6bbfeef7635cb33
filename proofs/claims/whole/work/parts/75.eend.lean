/-! a run's end, coded -/
def jC (r : Nat) : Bool := decide (f_Mod_jOf (nI r) zU = some (jv r)) && decide (0 ≤ (jv r).toInt) && decide ((jv r).toInt ≤ 15)
theorem j_all : ∀ r, r < 32 → jC r = true := by decide +kernel
theorem j_ok {U v : gU} (h0 : U 0 0 = v 0 12) (h1 : 0 ≤ (U 0 0).toInt) (h2 : (U 0 0).toInt ≤ 31) : ∃ j : Nat, j ≤ 15 ∧ f_Ctx_j U = some (nI j) ∧ f_Mod_jOf (v 0 12) v = some (nI j) := by
  obtain ⟨r, hr, er⟩ := nI_of (x := U 0 0) (by rw [i_lt]; simp; omega)
  have hri := nI_toInt hr
  rw [← er] at hri
  have := j_all r (by omega)
  simp only [jC, Bool.and_eq_true, decide_eq_true_eq] at this
  obtain ⟨⟨a1, a2⟩, a3⟩ := this
  obtain ⟨j, hj, ej⟩ := nI_of (x := jv r) (by rw [i_lt]; simp; omega)
  have hji := nI_toInt hj
  rw [← ej] at hji
  refine ⟨j, by omega, ?_, ?_⟩
  · unfold f_Ctx_j
    rw [er, gd_v (ix_n (by omega) (by omega)), tc_n (by omega), ej]
  · rw [← h0, er, ← ej]
    exact a1
theorem low_ok (U : gU) : ∃ U' : gU, f_Ctx_lowerRunIndex U = some U' ∧ U' 0 0 = loI (U 0 0) ∧ (∀ k, ¬ k = 0 → U' k = U k) := by
  unfold f_Ctx_lowerRunIndex loI
  by_cases g : U 0 0 ≤ 0
  · rw [bq_v g, if_pos g]
    exact ⟨U, rfl, rfl, fun _ _ => rfl⟩
  · rw [bq_w g, tk_v, if_neg g]
    exact ⟨_, rfl, s2s, fun k hk => s2k hk⟩
theorem nr_out {N s a : Nat} (hN : N ≤ 3) (hs : s ≤ 255) (ha : a ≤ 255) (h : nrI (nI N) (nI s - nI a) = 0) : ¬ (-(N : Int) ≤ (s : Int) - a ∧ (s : Int) - a ≤ N) := by
  unfold nrI at h
  have e1 := pk_sub_toInt (a := s) (b := a) (by omega) (by omega)
  have e2 := nI_toInt (n := N) (by omega)
  have e3 := i_neg (a := nI N) (by omega)
  rintro ⟨h1, h2⟩
  rw [if_neg (by rw [i_lt]; omega), if_neg (by rw [i_lt]; omega)] at h
  exact absurd h (by decide)
theorem fe_m {e t fb k l q n : Int32} {u : gU} (hfb : fb = 0 ∨ fb = 1) : (bq (0 ≤ e) (J_Mod_endRun_251 t q n k fb l e u) (bq (fb = 0) (J_Mod_endRun_251 t q n k fb l e u) (J_Mod_endRun_261 t q n k l e u))) = (bd (f_Mod_write (2 * abI e - t - flI e fb) k l u) fun w2 => tk (w2) fun u3 => J_Mod_endRun_301 t q n e (2 * abI e - t - flI e fb) u3) := by
  have z0 : (0 : Int32).toInt = 0 := by decide
  have hab := ab_m e
  unfold J_Mod_endRun_251 J_Mod_endRun_265 J_Mod_endRun_261 J_Mod_endRun_266 J_Mod_endRun_282 flI
  by_cases g1 : 0 ≤ e
  · rw [bq_v g1, if_pos g1]
    rw [if_pos g1] at hab
    by_cases g2 : e ≤ 0
    · have g3 : e = 0 := i_eq.mpr (by rw [i_le] at g1 g2; omega)
      rw [bq_v g2, if_pos g3, bq_v g1, tk_v, ← hab]
    · have g3 : ¬ e = 0 := fun hh => g2 (by rw [hh]; decide)
      rw [bq_w g2, if_neg g3]
      by_cases g4 : fb = 0
      · rw [bq_v g4, if_pos g4, bq_v g1, tk_v, ← hab]
      · rw [bq_w g4, if_neg g4, bq_v g1, tk_v, ← hab]
  · rw [bq_w g1, if_neg g1]
    rw [if_neg g1] at hab
    have g3 : ¬ e = 0 := fun hh => g1 (by rw [hh]; decide)
    rw [if_neg g3]
    have g2 : e ≤ 0 := by
      rw [i_le] at g1 ⊢
      omega
    by_cases g4 : fb = 0
    · rw [bq_v g4, if_pos g4, bq_v g2, bq_w g1, tk_v, hab]
    · rw [bq_w g4, if_neg g4, bq_w g1, tk_v, hab]
theorem end_en {W H M N T x y a b s : Nat} (hP : PN W H M N) {u v : gU} (h : EN W H M N T x y u v) (hx : x < W) (hy : y < H) (hT : T + 42 ≤ 2990) (ha1 : a ≤ M) (hb1 : b ≤ M) (hs : s ≤ M) (es : u 9 (8 * y + x) = nI s) (hnn : nrI (nI N) (nI s - nI a) = 0) (ha : u 0 0 = nI a) (hb : u 0 1 = nI b) (A : f_Mod_before (nI x) (nI y) v = some (nI a)) (B : f_Mod_above (nI x) (nI y) v = some (nI b)) : ∃ (j : Nat) (u' v' : gU), j ≤ 15 ∧ f_Mod_jOf (v 0 12) v = some (nI j) ∧ f_Pas_overEnd_C (nI (8 * y + x)) u = some u' ∧ f_Mod_endRun (nI x) (nI y) (nI j) v = some v' ∧ EN W H M N (T + 41 - j) (x + 1) y u' v' := by
  obtain ⟨h1, h2, h3, h4, h5, h6, h7, h8⟩ := h
  have hP' := hP
  obtain ⟨q1, q2, q3, q4, q5, q6, q7, q8⟩ := hP'
  obtain ⟨j, hj, J1, J2⟩ := j_ok (U := sb [2, 3, 4, 5, 6, 7] u) (v := v) h3.1 h3.2.1 h3.2.2.1
  obtain ⟨t, k, f, sg, fb, ht, hk, hf, hsg, hfb, htf, E1, E2⟩ := end_pre_C (p := nI (8 * y + x)) (j := nI j) hP ha1 hb1 ha hb h1 h2 h3 A B
  refine ⟨j, ?_⟩
  rw [E1, E2]
  obtain ⟨s', hs', s1, s2⟩ := h5 x y hx hy
  have ess : s' = s := by
    rw [es] at s1
    exact ((nI_eq (by omega) (by omega)).mp s1).symm
  subst ess
  obtain ⟨l, q, el, eq, l1, l2, l3, l4, l5⟩ := nb_nat hP
  obtain ⟨e, r, hr, e1, e2, e3, T1, T2⟩ := err_ok (u := st2 (st2 u 0 5 (nI f)) 0 4 sg) (v := v) hP hsg (x := x) (y := y) (by omega) (by omega) hf hs (by simp only [tk_v, bd_v, bx_vl, bx_vr, s2s, s2k, s2j, s1s, s1k, mg_v0, mg_v1, sb_v, List.getD_cons_zero, List.getD_cons_succ, not_false_eq_true, Nat.reduceEqDiff, reduceCtorEq]) (by simp only [tk_v, bd_v, bx_vl, bx_vr, s2s, s2k, s2j, s1s, s1k, mg_v0, mg_v1, sb_v, List.getD_cons_zero, List.getD_cons_succ, not_false_eq_true, Nat.reduceEqDiff, reduceCtorEq]) (by simp only [tk_v, bd_v, bx_vl, bx_vr, s2s, s2k, s2j, s1s, s1k, mg_v0, mg_v1, sb_v, List.getD_cons_zero, List.getD_cons_succ, not_false_eq_true, Nat.reduceEqDiff, reduceCtorEq]; exact h1) h2 (by simp only [tk_v, bd_v, bx_vl, bx_vr, s2s, s2k, s2j, s1s, s1k, mg_v0, mg_v1, sb_v, List.getD_cons_zero, List.getD_cons_succ, not_false_eq_true, Nat.reduceEqDiff, reduceCtorEq]; exact s1) s2
  have hne := nr_out q7 (by omega) (by omega) hnn
  obtain ⟨kk, hkk, ek, eki⟩ := e_tab e1 e2
  obtain ⟨bb, hbb, eb⟩ : ∃ bb : Nat, bb < 2 ∧ fb = nI bb := by
    rcases hfb with rfl | rfl
    · exact ⟨0, by omega, rfl⟩
    · exact ⟨1, by omega, rfl⟩
  obtain ⟨F1, F2, F3⟩ := fend_tb kk hkk t (by omega) bb hbb (fun ht1 hk1 => by
    have := e3 (by omega)
    rw [(htf ht1).1] at this
    exact hne this)
  rw [← ek, ← eb] at F1 F2 F3
  have hlim : nI l - nI j - 1 = nI (l - j - 1) := by
    rw [pk_sub (by omega)]
    exact pk_sub (b := 1) (by omega)
  have fe := fun uu => fe_m (e := e) (t := nI t) (fb := fb) (k := nI k) (l := nI (l - j - 1)) (q := nI (5 * (365 + t))) (n := u 6 (365 + t)) (u := uu) hfb
  generalize hm0 : 2 * abI e - nI t - flI e fb = m0 at F1 F2 F3
  obtain ⟨m, hm, em⟩ := nI_of (x := m0) (by rw [i_lt]; simp; omega)
  have hmi := nI_toInt hm
  rw [← em] at hmi
  have hwr : WR T (sb [10, 11] (st2 (st2 (st2 u 0 5 (nI f)) 0 4 sg) 8 (8 * y + x) (nI r))) (st2 v 2 (8 * y + x) (nI r)) := by
    refine WR_eq h6 ?_ ?_ ?_ ?_ ?_ ?_ <;> simp only [tk_v, bd_v, bx_vl, bx_vr, s2s, s2k, s2j, s1s, s1k, mg_v0, mg_v1, sb_v, List.getD_cons_zero, List.getD_cons_succ, not_false_eq_true, Nat.reduceEqDiff, reduceCtorEq]
  obtain ⟨w4, v4, G1, G2, G3, G4⟩ := num_ok (m := m) (k := k) (l := l - j - 1) (q := q) hm hk (by omega) l4 (by omega) (by simp only [tk_v, bd_v, bx_vl, bx_vr, s2s, s2k, s2j, s1s, s1k, mg_v0, mg_v1, sb_v, List.getD_cons_zero, List.getD_cons_succ, not_false_eq_true, Nat.reduceEqDiff, reduceCtorEq]; rw [h2.2.2.2.2 6 (by omega) (by omega), eq]) (by omega) hwr
  have K1 : f_Cod_carryEnd (nI (8 * y + x)) (nI t) (nI k) fb (st2 (st2 u 0 5 (nI f)) 0 4 sg) = some (e, mg [10, 11] 0 (st2 (st2 (st2 u 0 5 (nI f)) 0 4 sg) 8 (8 * y + x) (nI r)) w4) := by
    unfold f_Cod_carryEnd f_Pas_limitOfEnd_C
    rw [T1, bd_v, tk_v, F1, bd_v, em]
    rw [show f_Ctx_j (sb [2, 3, 4, 5, 6, 7] (e, st2 (st2 (st2 u 0 5 (nI f)) 0 4 sg) 8 (8 * y + x) (nI r)).2) = some (nI j) by
      have : f_Ctx_j (sb [2, 3, 4, 5, 6, 7] (e, st2 (st2 (st2 u 0 5 (nI f)) 0 4 sg) 8 (8 * y + x) (nI r)).2) = f_Ctx_j (sb [2, 3, 4, 5, 6, 7] u) := by
        unfold f_Ctx_j
        simp only [tk_v, bd_v, bx_vl, bx_vr, s2s, s2k, s2j, s1s, s1k, mg_v0, mg_v1, sb_v, List.getD_cons_zero, List.getD_cons_succ, not_false_eq_true, Nat.reduceEqDiff, reduceCtorEq]
      rw [this, J1], bd_v]
    rw [show (e, st2 (st2 (st2 u 0 5 (nI f)) 0 4 sg) 8 (8 * y + x) (nI r)).2 1 7 = nI l by simp only [tk_v, bd_v, bx_vl, bx_vr, s2s, s2k, s2j, s1s, s1k, mg_v0, mg_v1, sb_v, List.getD_cons_zero, List.getD_cons_succ, not_false_eq_true, Nat.reduceEqDiff, reduceCtorEq]; rw [h1.2.2.2.2 7 (by omega) (by omega), el], show (e, st2 (st2 (st2 u 0 5 (nI f)) 0 4 sg) 8 (8 * y + x) (nI r)).2 1 6 = nI q by simp only [tk_v, bd_v, bx_vl, bx_vr, s2s, s2k, s2j, s1s, s1k, mg_v0, mg_v1, sb_v, List.getD_cons_zero, List.getD_cons_succ, not_false_eq_true, Nat.reduceEqDiff, reduceCtorEq]; rw [h1.2.2.2.2 6 (by omega) (by omega), eq], hlim, bd_v, G1, bd_v, tk_v]
  have hv4 : ∀ j, ¬ j = 13 → ¬ j = 14 → ¬ j = 15 → v4 0 j = v 0 j := fun j a1 a2 a3 => by rw [G4.2 j a1 a2 a3, s2k (by decide)]
  have hC4 : CX (sb [2, 3, 4, 5, 6, 7] (mg [10, 11] 0 (st2 (st2 (st2 u 0 5 (nI f)) 0 4 sg) 8 (8 * y + x) (nI r)) w4)) v4 := by
    refine CX_eq h3 ?_ (fun q hq => ?_) (hv4 12 (by decide) (by decide) (by decide)) (by rw [G4.1 3 (by decide) (by decide), s2k (by decide)])
    · simp only [tk_v, bd_v, bx_vl, bx_vr, s2s, s2k, s2j, s1s, s1k, mg_v0, mg_v1, sb_v, List.getD_cons_zero, List.getD_cons_succ, not_false_eq_true, Nat.reduceEqDiff, reduceCtorEq]
    · simp only [tk_v, bd_v, bx_vl, bx_vr, s2s, s2k, s2j, s1s, s1k, mg_v0, mg_v1, sb_v, List.getD_cons_zero, List.getD_cons_succ, not_false_eq_true, Nat.reduceEqDiff, reduceCtorEq, and_self]
  obtain ⟨w5, w5', v', L1, L2, L3, L4, L5, L6, L7⟩ := lend_ok (t := t) (e := e) (w := m0) ht hC4 (by omega) (by omega)
  obtain ⟨w5'', o1, o2, o3⟩ := low_ok w5
  rw [o1] at L2
  obtain rfl : w5'' = w5' := Option.some.inj L2
  obtain ⟨w6, p1, p2, p3⟩ := low_ok (sb [2, 3, 4, 5, 6, 7] (mg [2, 3, 4, 5, 6, 7] 0 (mg [10, 11] 0 (st2 (st2 (st2 u 0 5 (nI f)) 0 4 sg) 8 (8 * y + x) (nI r)) w4) w5))
  refine ⟨mg [2, 3, 4, 5, 6, 7] 0 (mg [2, 3, 4, 5, 6, 7] 0 (mg [10, 11] 0 (st2 (st2 (st2 u 0 5 (nI f)) 0 4 sg) 8 (8 * y + x) (nI r)) w4) w5) w6, v', hj, J2, ?_, ?_, ?_⟩
  · unfold J_Pas_overEnd_C_106
    rw [K1, bd_v, tk_v, F1, bd_v, L1, bd_v, tk_v, p1, bd_v, tk_v]
  · unfold J_Mod_endRun_138
    rw [tk_v, h2.2.2.2.2 7 (by omega) (by omega), el, hlim, bq_v h7, T2, bd_v, tk_v]
    have fe1 := fe (st2 v 2 (8 * y + x) (nI r))
    rw [hm0] at fe1
    rw [fe1, em, G2, bd_v, tk_v, ← em]
    rw [show sb [2, 3, 4, 5, 6, 7] (mg [10, 11] 0 (st2 (st2 (st2 u 0 5 (nI f)) 0 4 sg) 8 (8 * y + x) (nI r)) w4) 4 (365 + t) = u 6 (365 + t) by simp only [tk_v, bd_v, bx_vl, bx_vr, s2s, s2k, s2j, s1s, s1k, mg_v0, mg_v1, sb_v, List.getD_cons_zero, List.getD_cons_succ, not_false_eq_true, Nat.reduceEqDiff, reduceCtorEq]] at L3
    exact L3
  · refine ⟨?_, ?_, ?_, ?_, ?_, ?_, ?_, ?_⟩
    · simp only [tk_v, bd_v, bx_vl, bx_vr, s2s, s2k, s2j, s1s, s1k, mg_v0, mg_v1, sb_v, List.getD_cons_zero, List.getD_cons_succ, not_false_eq_true, Nat.reduceEqDiff, reduceCtorEq]
      exact h1
    · exact ModW_eq h2 (fun j a1 a2 => by rw [L7 j (by omega)]; exact hv4 j (by omega) (by omega) (by omega))
    · refine CX_eq L4 ?_ (fun q hq => ?_) rfl rfl
      · simp only [tk_v, bd_v, bx_vl, bx_vr, s2s, s2k, s2j, s1s, s1k, mg_v0, mg_v1, sb_v, List.getD_cons_zero, List.getD_cons_succ, not_false_eq_true, Nat.reduceEqDiff, reduceCtorEq]
        rw [p2, o2]
        simp only [tk_v, bd_v, bx_vl, bx_vr, s2s, s2k, s2j, s1s, s1k, mg_v0, mg_v1, sb_v, List.getD_cons_zero, List.getD_cons_succ, not_false_eq_true, Nat.reduceEqDiff, reduceCtorEq]
      · simp only [tk_v, bd_v, bx_vl, bx_vr, s2s, s2k, s2j, s1s, s1k, mg_v0, mg_v1, sb_v, List.getD_cons_zero, List.getD_cons_succ, not_false_eq_true, Nat.reduceEqDiff, reduceCtorEq]
        rw [p3 1 (by decide), p3 2 (by decide), p3 3 (by decide), p3 4 (by decide), p3 5 (by decide), o3 1 (by decide), o3 2 (by decide), o3 3 (by decide), o3 4 (by decide), o3 5 (by decide)]
        simp only [tk_v, bd_v, bx_vl, bx_vr, s2s, s2k, s2j, s1s, s1k, mg_v0, mg_v1, sb_v, List.getD_cons_zero, List.getD_cons_succ, not_false_eq_true, Nat.reduceEqDiff, reduceCtorEq, and_self]
    · refine RbW_st q2 hx hr h4 ?_ ?_ ?_ ?_
      · simp only [tk_v, bd_v, bx_vl, bx_vr, s2s, s2k, s2j, s1s, s1k, mg_v0, mg_v1, sb_v, List.getD_cons_zero, List.getD_cons_succ, not_false_eq_true, Nat.reduceEqDiff, reduceCtorEq]
      · rw [L6 2 (by decide) (by decide), G4.1 2 (by decide) (by decide)]
        simp only [tk_v, bd_v, bx_vl, bx_vr, s2s, s2k, s2j, s1s, s1k, mg_v0, mg_v1, sb_v, List.getD_cons_zero, List.getD_cons_succ, not_false_eq_true, Nat.reduceEqDiff, reduceCtorEq]
      · intro i hi
        simp only [tk_v, bd_v, bx_vl, bx_vr, s2s, s2k, s2j, s1s, s1k, mg_v0, mg_v1, sb_v, List.getD_cons_zero, List.getD_cons_succ, not_false_eq_true, Nat.reduceEqDiff, reduceCtorEq, s2j hi]
      · intro i hi
        rw [L6 2 (by decide) (by decide), G4.1 2 (by decide) (by decide)]
        simp only [tk_v, bd_v, bx_vl, bx_vr, s2s, s2k, s2j, s1s, s1k, mg_v0, mg_v1, sb_v, List.getD_cons_zero, List.getD_cons_succ, not_false_eq_true, Nat.reduceEqDiff, reduceCtorEq, s2j hi]
    · rw [L6 1 (by decide) (by decide), G4.1 1 (by decide) (by decide)]
      simp only [tk_v, bd_v, bx_vl, bx_vr, s2s, s2k, s2j, s1s, s1k, mg_v0, mg_v1, sb_v, List.getD_cons_zero, List.getD_cons_succ, not_false_eq_true, Nat.reduceEqDiff, reduceCtorEq]
      exact h5
    · refine WR_eq (WR_le G3 (by omega)) ?_ ?_ ?_ ?_ ?_ ?_
      · simp only [tk_v, bd_v, bx_vl, bx_vr, s2s, s2k, s2j, s1s, s1k, mg_v0, mg_v1, sb_v, List.getD_cons_zero, List.getD_cons_succ, not_false_eq_true, Nat.reduceEqDiff, reduceCtorEq]
      · simp only [tk_v, bd_v, bx_vl, bx_vr, s2s, s2k, s2j, s1s, s1k, mg_v0, mg_v1, sb_v, List.getD_cons_zero, List.getD_cons_succ, not_false_eq_true, Nat.reduceEqDiff, reduceCtorEq]
      · rw [L7 13 (by decide)]
      · rw [L7 14 (by decide)]
      · rw [L7 15 (by decide)]
      · rw [L6 4 (by decide) (by decide)]
    · rw [L7 16 (by decide), hv4 16 (by decide) (by decide) (by decide)]
      exact h7
    · rw [L7 20 (by decide), hv4 20 (by decide) (by decide) (by decide)]
      exact h8
