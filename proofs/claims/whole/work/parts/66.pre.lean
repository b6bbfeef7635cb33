/-! a regular sample and a run's end, as far as coding and reading are one -/
theorem i_mulk {a b : Int32} (k : Int) (hk : a.toInt = k) (h1 : -2147483648 ≤ k * b.toInt) (h2 : k * b.toInt < 2147483648) : (a * b).toInt = k * b.toInt := by
  subst hk
  exact i_mul h1 h2
theorem sg_ok (l1 l2 l3 : Int32) (a1 : -4 ≤ l1.toInt) (a2 : l1.toInt ≤ 4) (b1 : -4 ≤ l2.toInt) (b2 : l2.toInt ≤ 4) (c1 : -4 ≤ l3.toInt) (c2 : l3.toInt ≤ 4) : ∃ Q : Nat, Q < 365 ∧ ((0 ≤ 81 * l1 + 9 * l2 + l3 ∧ (if 0 ≤ 81 * l1 + 9 * l2 + l3 then 81 * l1 + 9 * l2 + l3 else 0 - (81 * l1 + 9 * l2 + l3)) = nI Q ∧ 5 * 1 * (81 * l1 + 9 * l2 + l3) = nI (5 * Q)) ∨ (¬ 0 ≤ 81 * l1 + 9 * l2 + l3 ∧ (if 0 ≤ 81 * l1 + 9 * l2 + l3 then 81 * l1 + 9 * l2 + l3 else 0 - (81 * l1 + 9 * l2 + l3)) = nI Q ∧ 5 * (-1) * (81 * l1 + 9 * l2 + l3) = nI (5 * Q))) := by
  have e81 : (81 : Int32).toInt = 81 := by decide
  have e9 : (9 : Int32).toInt = 9 := by decide
  have m1 : (81 * l1).toInt = 81 * l1.toInt := i_mulk 81 e81 (by omega) (by omega)
  have m2 : (9 * l2).toInt = 9 * l2.toInt := i_mulk 9 e9 (by omega) (by omega)
  have m3 : (81 * l1 + 9 * l2).toInt = 81 * l1.toInt + 9 * l2.toInt := by rw [i_add (by omega) (by omega), m1, m2]
  have m4 : (81 * l1 + 9 * l2 + l3).toInt = 81 * l1.toInt + 9 * l2.toInt + l3.toInt := by rw [i_add (by omega) (by omega), m3]
  generalize 81 * l1 + 9 * l2 + l3 = s at m4
  by_cases h0 : 0 ≤ s
  · obtain ⟨Q, hQ, e⟩ := nI_of (x := s) (by rw [i_lt]; rw [i_le] at h0; simp at h0 ⊢; omega)
    have hq := nI_toInt hQ
    rw [← e] at hq
    refine ⟨Q, by omega, Or.inl ⟨h0, by rw [if_pos h0, e], ?_⟩⟩
    rw [e, show (5 : Int32) * 1 = 5 by decide, n5]
  · have h1 := h0
    rw [i_le] at h1
    simp at h1
    have z0 : (0 : Int32).toInt = 0 := by decide
    have m5 : (0 - s).toInt = - s.toInt := by rw [i_sub (by omega) (by omega), z0]; omega
    obtain ⟨Q, hQ, e⟩ := nI_of (x := 0 - s) (by rw [i_lt, m5, z0]; omega)
    have hq := nI_toInt hQ
    rw [← e, m5] at hq
    refine ⟨Q, by omega, Or.inr ⟨h0, by rw [if_neg h0, e], ?_⟩⟩
    rw [← n5, ← e, i_eq, show (5 : Int32) * (-1) = -5 by decide]
    have e5 : (-5 : Int32).toInt = -5 := by decide
    have e6 : (5 : Int32).toInt = 5 := by decide
    rw [i_mulk (-5) e5 (by omega) (by omega), i_mulk 5 e6 (by omega) (by omega), m5]
    omega
theorem reg_mid_C {W H M N : Nat} (hP : PN W H M N) {u v : gU} {a b c x y p s sg : Int32} {Q : Nat} (hQ : Q < 365) (ha : u 0 0 = a) (hb : u 0 1 = b) (hc : u 0 2 = c) (hu : PicW W H M N (u 1)) (hv : ModW W H M N (v 0)) (hC : CX (sb [2, 3, 4, 5, 6, 7] u) v) (e1 : (if 0 ≤ s then s else 0 - s) = nI Q) (e2 : 5 * sg * s = nI (5 * Q)) : ∃ (k f : Nat) (tb : Int32), k ≤ 10 ∧ f ≤ M ∧ (tb = 0 ∨ tb = 1) ∧ J_Pas_overRegular_C_15 p s sg u = J_Pas_overRegular_C_94 p (nI Q) (nI k) tb (st2 (st2 u 0 4 sg) 0 5 (nI f)) ∧ J_Mod_regular_77 x y a b c s sg v = J_Mod_regular_216 x y (nI (5 * Q)) sg (nI f) (nI k) tb v := by
  obtain ⟨q1, q2, q3, q4, q5, q6, q7, q8⟩ := hP
  obtain ⟨p0, p1, p2, p3, p4⟩ := hu
  obtain ⟨m0, m1, m2, m3, m4⟩ := hv
  obtain ⟨r0, r1, r2, hq⟩ := hC
  obtain ⟨c1, c2, c3, c4, c5, c6, c7, c8, c9, c10, c11⟩ := hq Q (by omega)
  simp only [sb_v, List.getD_cons_zero, List.getD_cons_succ] at c1 c2 c3 c4 c5 c6 c7 c8 c9 c10 c11
  obtain ⟨f, hf, ef⟩ := hl_rg M q6 (pfI a b c + sg * u 5 Q)
  obtain ⟨k, hk, k1, k2⟩ := kf_ok (n := u 6 Q) (a := u 3 Q) (q := Q) c6 c7 c8 (by omega) (by omega) (sb [2, 3, 4, 5, 6, 7] (st2 (st2 u 0 4 sg) 0 5 (nI f))) (by simp only [tk_v, bd_v, bx_vl, bx_vr, s2s, s2k, s2j, s1s, s1k, mg_v0, mg_v1, sb_v, List.getD_cons_zero, List.getD_cons_succ, not_false_eq_true, Nat.reduceEqDiff, reduceCtorEq])
  have X1 : J_Pas_overRegular_C_15 p s sg u = bq (nI N = 0) (bq (nI k = 0) (bq (-(u 6 Q) < 2 * u 4 Q) (J_Pas_overRegular_C_94 p (nI Q) (nI k) 0 (st2 (st2 u 0 4 sg) 0 5 (nI f))) (J_Pas_overRegular_C_94 p (nI Q) (nI k) 1 (st2 (st2 u 0 4 sg) 0 5 (nI f)))) (J_Pas_overRegular_C_94 p (nI Q) (nI k) 0 (st2 (st2 u 0 4 sg) 0 5 (nI f)))) (J_Pas_overRegular_C_94 p (nI Q) (nI k) 0 (st2 (st2 u 0 4 sg) 0 5 (nI f))) := by
    unfold J_Pas_overRegular_C_15 J_Pas_overRegular_C_93
    rw [tk_v, tk_v, e1, pfP, bd_v, gd_v (ix_n (by omega) (by omega)), hlP M q6 _ _ (by simp only [tk_v, bd_v, bx_vl, bx_vr, s2s, s2k, s2j, s1s, s1k, mg_v0, mg_v1, sb_v, List.getD_cons_zero, List.getD_cons_succ, not_false_eq_true, Nat.reduceEqDiff, reduceCtorEq]; exact p2), tc_n (by omega), bd_v, tk_v]
    simp only [s2s, s2j, s2k, not_false_eq_true, Nat.reduceEqDiff, reduceCtorEq]
    rw [ha, hb, hc, ef]
    unfold f_Ctx_kOfRegular f_Ctx_leansDown
    simp only [gd_v (ix_n (show Q < 367 by omega) (by omega)), tc_n (show Q < 2 ^ 31 by omega)]
    rw [show sb [2, 3, 4, 5, 6, 7] (st2 (st2 u 0 4 sg) 0 5 (nI f)) 1 Q = u 3 Q by simp only [tk_v, bd_v, bx_vl, bx_vr, s2s, s2k, s2j, s1s, s1k, mg_v0, mg_v1, sb_v, List.getD_cons_zero, List.getD_cons_succ, not_false_eq_true, Nat.reduceEqDiff, reduceCtorEq], k1, bd_v, bd_v, p3]
    by_cases g1 : nI N = 0
    · rw [bq_v g1, bq_v g1]
      by_cases g2 : nI k = 0
      · rw [bq_v g2, bq_v g2]
        simp only [tk_v, bd_v, bx_vl, bx_vr, s2s, s2k, s2j, s1s, s1k, mg_v0, mg_v1, sb_v, List.getD_cons_zero, List.getD_cons_succ, not_false_eq_true, Nat.reduceEqDiff, reduceCtorEq]
        by_cases g3 : -(u 6 Q) < 2 * u 4 Q
        · rw [bq_v g3, bq_v g3, bd_v, bq_v rfl]
        · rw [bq_w g3, bq_w g3, bd_v, bq_w (by decide)]
      · rw [bq_w g2, bq_w g2]
    · rw [bq_w g1, bq_w g1]
  have X2 : J_Mod_regular_77 x y a b c s sg v = bq (nI N = 0) (bq (nI k = 0) (bq (-(u 6 Q) < 2 * u 4 Q) (J_Mod_regular_216 x y (nI (5 * Q)) sg (nI f) (nI k) 0 v) (J_Mod_regular_216 x y (nI (5 * Q)) sg (nI f) (nI k) 1 v)) (J_Mod_regular_216 x y (nI (5 * Q)) sg (nI f) (nI k) 0 v)) (J_Mod_regular_216 x y (nI (5 * Q)) sg (nI f) (nI k) 0 v) := by
    have Y : J_Mod_regular_77 x y a b c s sg v = J_Mod_regular_136 x y (nI (5 * Q)) sg (pfI a b c) v := by
      unfold J_Mod_regular_77
      rw [tk_v, e2, leM, bd_v, grM, bd_v]
      unfold pfI
      by_cases g1 : c < mxI a b
      · rw [bq_v g1, if_pos g1]
        by_cases g2 : mnI a b < c
        · rw [bq_v g2, if_pos g2]
        · rw [bq_w g2, if_neg g2]
      · rw [bq_w g1, if_neg g1]
    rw [Y]
    unfold J_Mod_regular_136 J_Mod_regular_215
    rw [n1, n2, n3, gd_v (ix_n (by omega) (by omega)), tc_n (n := 5 * Q + 2) (by omega), hlM, m2, ← c3, ef, bd_v, gd_v (ix_n (by omega) (by omega)), gd_v (ix_n (by omega) (by omega)), tc_n (n := 5 * Q + 3) (by omega), tc_n (n := 5 * Q) (by omega), ← c1, ← c4, k2, bd_v, m3, gd_v (ix_n (by omega) (by omega)), gd_v (ix_n (by omega) (by omega)), tc_n (n := 5 * Q + 1) (by omega), ← c2]
  rw [X1, X2]
  by_cases g1 : nI N = 0
  · rw [bq_v g1, bq_v g1]
    by_cases g2 : nI k = 0
    · rw [bq_v g2, bq_v g2]
      by_cases g3 : -(u 6 Q) < 2 * u 4 Q
      · rw [bq_v g3, bq_v g3]
        exact ⟨k, f, 0, hk, hf, Or.inl rfl, rfl, rfl⟩
      · rw [bq_w g3, bq_w g3]
        exact ⟨k, f, 1, hk, hf, Or.inr rfl, rfl, rfl⟩
    · rw [bq_w g2, bq_w g2]
      exact ⟨k, f, 0, hk, hf, Or.inl rfl, rfl, rfl⟩
  · rw [bq_w g1, bq_w g1]
    exact ⟨k, f, 0, hk, hf, Or.inl rfl, rfl, rfl⟩
theorem reg_pre_C {W H M N : Nat} (hP : PN W H M N) {u v : gU} {a b c d x y p : Int32} (ha : u 0 0 = a) (hb : u 0 1 = b) (hc : u 0 2 = c) (hd : u 0 3 = d) (hu : PicW W H M N (u 1)) (hv : ModW W H M N (v 0)) (hC : CX (sb [2, 3, 4, 5, 6, 7] u) v) (A : f_Mod_before x y v = some a) (B : f_Mod_above x y v = some b) (C : f_Mod_corner x y v = some c) (D : f_Mod_beyond x y v = some d) : ∃ (Q k f : Nat) (sg tb : Int32), Q < 365 ∧ k ≤ 10 ∧ f ≤ M ∧ (sg = 1 ∨ sg = -1) ∧ (tb = 0 ∨ tb = 1) ∧ f_Pas_overRegular_C p u = J_Pas_overRegular_C_94 p (nI Q) (nI k) tb (st2 (st2 u 0 4 sg) 0 5 (nI f)) ∧ f_Mod_regular x y v = J_Mod_regular_216 x y (nI (5 * Q)) sg (nI f) (nI k) tb v := by
  have hP' := hP
  have hu' := hu
  have hv' := hv
  obtain ⟨q1, q2, q3, q4, q5, q6, q7, q8⟩ := hP
  obtain ⟨p0, p1, p2, p3, p4⟩ := hu
  obtain ⟨m0, m1, m2, m3, m4⟩ := hv
  obtain ⟨t1, t2, t3⟩ := (nb_ok q5 q6 q7 q8).2.2.2.2.2.2.2.2.2.2.2.2.2
  have LV := fun z => level_ok (N := N) q7 (u := sb [1] u) (v := v) (t1 := t1I (nI M) (nI N)) (t2 := t2I (nI M) (nI N)) (t3 := t3I (nI M) (nI N)) z p3 (p4 8 (by omega) (by omega)) (p4 9 (by omega) (by omega)) (p4 10 (by omega) (by omega)) m3 (m4 8 (by omega) (by omega)) (m4 9 (by omega) (by omega)) (m4 10 (by omega) (by omega)) t1 t2 t3
  obtain ⟨L1, a1, a2, a3, a4⟩ := LV (d - b)
  obtain ⟨L2, b1, b2, b3, b4⟩ := LV (b - c)
  obtain ⟨L3, c1, c2, c3, c4⟩ := LV (c - a)
  unfold f_Pas_overRegular_C f_Pas_signedContext_C f_Mod_regular
  rw [A, B, C, D, ha, hb, hc, hd]
  simp only [bd_v]
  rw [a1, b1, c1, a2, b2, c2]
  simp only [bd_v]
  rw [tk_v]
  obtain ⟨Q, hQ, ⟨h0, e1, e2⟩ | ⟨h0, e1, e2⟩⟩ := sg_ok L1 L2 L3 a3 a4 b3 b4 c3 c4
  · rw [bq_v h0, bq_v h0]
    obtain ⟨k, f, tb, h1, h2, h3, h4, h5⟩ := reg_mid_C (x := x) (y := y) (p := p) hP' hQ ha hb hc hu' hv' hC e1 e2
    exact ⟨Q, k, f, 1, tb, hQ, h1, h2, Or.inl rfl, h3, h4, h5⟩
  · rw [bq_w h0, bq_w h0]
    obtain ⟨k, f, tb, h1, h2, h3, h4, h5⟩ := reg_mid_C (x := x) (y := y) (p := p) hP' hQ ha hb hc hu' hv' hC e1 e2
    exact ⟨Q, k, f, -1, tb, hQ, h1, h2, Or.inr rfl, h3, h4, h5⟩
