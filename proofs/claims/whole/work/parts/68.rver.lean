/-! the same of a reading -/
theorem look_R (x y : Int32) (u : gU) : f_Pas_lookAround_R x y u = f_Pas_lookAround_C x y u := rfl
theorem even_R (u : gU) : f_Pas_isEven_R u = f_Pas_isEven_C u := rfl
theorem limE_R (u : gU) : f_Pas_limitOfEnd_R u = f_Pas_limitOfEnd_C u := rfl
theorem pfP_R (u : gU) : f_Pas_foretoldByNeighbours_R u = some (pfI (u 0 0) (u 0 1) (u 0 2)) := pfP u
theorem reg_mid_R {W H M N : Nat} (hP : PN W H M N) {u v : gU} {a b c x y p s sg : Int32} {Q : Nat} (hQ : Q < 365) (ha : u 0 0 = a) (hb : u 0 1 = b) (hc : u 0 2 = c) (hu : PicW W H M N (u 1)) (hv : ModW W H M N (v 0)) (hC : CX (sb [2, 3, 4, 5, 6, 7] u) v) (e1 : (if 0 ≤ s then s else 0 - s) = nI Q) (e2 : 5 * sg * s = nI (5 * Q)) : ∃ (k f : Nat) (tb : Int32), k ≤ 10 ∧ f ≤ M ∧ (tb = 0 ∨ tb = 1) ∧ J_Pas_overRegular_R_15 p s sg u = J_Pas_overRegular_R_94 p (nI Q) (nI k) tb (st2 (st2 u 0 4 sg) 0 5 (nI f)) ∧ J_Mod_regular_77 x y a b c s sg v = J_Mod_regular_216 x y (nI (5 * Q)) sg (nI f) (nI k) tb v := by
  obtain ⟨q1, q2, q3, q4, q5, q6, q7, q8⟩ := hP
  obtain ⟨p0, p1, p2, p3, p4⟩ := hu
  obtain ⟨m0, m1, m2, m3, m4⟩ := hv
  obtain ⟨r0, r1, r2, hq⟩ := hC
  obtain ⟨c1, c2, c3, c4, c5, c6, c7, c8, c9, c10, c11⟩ := hq Q (by omega)
  simp only [sb_v, List.getD_cons_zero, List.getD_cons_succ] at c1 c2 c3 c4 c5 c6 c7 c8 c9 c10 c11
  obtain ⟨f, hf, ef⟩ := hl_rg M q6 (pfI a b c + sg * u 5 Q)
  obtain ⟨k, hk, k1, k2⟩ := kf_ok (n := u 6 Q) (a := u 3 Q) (q := Q) c6 c7 c8 (by omega) (by omega) (sb [2, 3, 4, 5, 6, 7] (st2 (st2 u 0 4 sg) 0 5 (nI f))) (by simp only [tk_v, bd_v, bx_vl, bx_vr, s2s, s2k, s2j, s1s, s1k, mg_v0, mg_v1, sb_v, List.getD_cons_zero, List.getD_cons_succ, not_false_eq_true, Nat.reduceEqDiff, reduceCtorEq])
  have X1 : J_Pas_overRegular_R_15 p s sg u = bq (nI N = 0) (bq (nI k = 0) (bq (-(u 6 Q) < 2 * u 4 Q) (J_Pas_overRegular_R_94 p (nI Q) (nI k) 0 (st2 (st2 u 0 4 sg) 0 5 (nI f))) (J_Pas_overRegular_R_94 p (nI Q) (nI k) 1 (st2 (st2 u 0 4 sg) 0 5 (nI f)))) (J_Pas_overRegular_R_94 p (nI Q) (nI k) 0 (st2 (st2 u 0 4 sg) 0 5 (nI f)))) (J_Pas_overRegular_R_94 p (nI Q) (nI k) 0 (st2 (st2 u 0 4 sg) 0 5 (nI f))) := by
    unfold J_Pas_overRegular_R_15 J_Pas_overRegular_R_93
    rw [tk_v, tk_v, e1, pfP_R, bd_v, gd_v (ix_n (by omega) (by omega)), hlP M q6 _ _ (by simp only [tk_v, bd_v, bx_vl, bx_vr, s2s, s2k, s2j, s1s, s1k, mg_v0, mg_v1, sb_v, List.getD_cons_zero, List.getD_cons_succ, not_false_eq_true, Nat.reduceEqDiff, reduceCtorEq]; exact p2), tc_n (by omega), bd_v, tk_v]
    simp only [s2s, s2j, s2k, not_false_eq_true, Nat.reduceEqDiff, reduceCtorEq]
    rw [ha, hb, hc, ef]
    unfold f_Ctx_kOfRegular f_Ctx_leansDown
    simp only [gd_v (ix_n (show Q < 367 by omega) (by omega)), tc_n (show Q < 2 ^ 31 by omega)]
    rw [show sb [2, 3, 4, 5, 6, 7] (st2 (st2 u 0 4 sg) 0 5 (nI f)) 1 Q = u 3 Q by simp only [tk_v, bd_v, bx_vl, bx_vr, s2s, s2k, s2j, s1s, s1k, mg_v0, mg_v1, sb_v, List.getD_cons_zero, List.getD_cons_succ, not_false_eq_true, Nat.reduceEqDiff, reduceCtorEq], k1, bd_v, bd_v, p3]
    by_cases g1 : nI N = 0
    · rw [bq_v g1, bq_v g1]
      by_cases g2 : nI k = 0
      · rw [bq_v g2, bq_v g2]
        simp only [tk_v, bd_v, bx_vl, bx_vr, s2s, s2k, s2j, s1s, s1k, mg_v0, mg_v1, sb_v, List.getD_cons_zero, List.getD_cons_succ, not_false_eq_true, Nat.reduceEqDiff, reduceCtorEq]
        by_cases g3 : -(u 6 Q) < 2 * u 4 Q
        · rw [bq_v g3, bq_v g3, bd_v, bq_v rfl]
        · rw [bq_w g3, bq_w g3, bd_v, bq_w (by decide)]
      · rw [bq_w g2, bq_w g2]
    · rw [bq_w g1, bq_w g1]
  have X2 : J_Mod_regular_77 x y a b c s sg v = bq (nI N = 0) (bq (nI k = 0) (bq (-(u 6 Q) < 2 * u 4 Q) (J_Mod_regular_216 x y (nI (5 * Q)) sg (nI f) (nI k) 0 v) (J_Mod_regular_216 x y (nI (5 * Q)) sg (nI f) (nI k) 1 v)) (J_Mod_regular_216 x y (nI (5 * Q)) sg (nI f) (nI k) 0 v)) (J_Mod_regular_216 x y (nI (5 * Q)) sg (nI f) (nI k) 0 v) := by
    have Y : J_Mod_regular_77 x y a b c s sg v = J_Mod_regular_136 x y (nI (5 * Q)) sg (pfI a b c) v := by
      unfold J_Mod_regular_77
      rw [tk_v, e2, leM, bd_v, grM, bd_v]
      unfold pfI
      by_cases g1 : c < mxI a b
      · rw [bq_v g1, if_pos g1]
        by_cases g2 : mnI a b < c
        · rw [bq_v g2, if_pos g2]
        · rw [bq_w g2, if_neg g2]
      · rw [bq_w g1, if_neg g1]
    rw [Y]
    unfold J_Mod_regular_136 J_Mod_regular_215
    rw [n1, n2, n3, gd_v (ix_n (by omega) (by omega)), tc_n (n := 5 * Q + 2) (by omega), hlM, m2, ← c3, ef, bd_v, gd_v (ix_n (by omega) (by omega)), gd_v (ix_n (by omega) (by omega)), tc_n (n := 5 * Q + 3) (by omega), tc_n (n := 5 * Q) (by omega), ← c1, ← c4, k2, bd_v, m3, gd_v (ix_n (by omega) (by omega)), gd_v (ix_n (by omega) (by omega)), tc_n (n := 5 * Q + 1) (by omega), ← c2]
  rw [X1, X2]
  by_cases g1 : nI N = 0
  · rw [bq_v g1, bq_v g1]
    by_cases g2 : nI k = 0
    · rw [bq_v g2, bq_v g2]
      by_cases g3 : -(u 6 Q) < 2 * u 4 Q
      · rw [bq_v g3, bq_v g3]
        exact ⟨k, f, 0, hk, hf, Or.inl rfl, rfl, rfl⟩
      · rw [bq_w g3, bq_w g3]
        exact ⟨k, f, 1, hk, hf, Or.inr rfl, rfl, rfl⟩
    · rw [bq_w g2, bq_w g2]
      exact ⟨k, f, 0, hk, hf, Or.inl rfl, rfl, rfl⟩
  · rw [bq_w g1, bq_w g1]
    exact ⟨k, f, 0, hk, hf, Or.inl rfl, rfl, rfl⟩
theorem reg_pre_R {W H M N : Nat} (hP : PN W H M N) {u v : gU} {a b c d x y p : Int32} (ha : u 0 0 = a) (hb : u 0 1 = b) (hc : u 0 2 = c) (hd : u 0 3 = d) (hu : PicW W H M N (u 1)) (hv : ModW W H M N (v 0)) (hC : CX (sb [2, 3, 4, 5, 6, 7] u) v) (A : f_Mod_before x y v = some a) (B : f_Mod_above x y v = some b) (C : f_Mod_corner x y v = some c) (D : f_Mod_beyond x y v = some d) : ∃ (Q k f : Nat) (sg tb : Int32), Q < 365 ∧ k ≤ 10 ∧ f ≤ M ∧ (sg = 1 ∨ sg = -1) ∧ (tb = 0 ∨ tb = 1) ∧ f_Pas_overRegular_R p u = J_Pas_overRegular_R_94 p (nI Q) (nI k) tb (st2 (st2 u 0 4 sg) 0 5 (nI f)) ∧ f_Mod_regular x y v = J_Mod_regular_216 x y (nI (5 * Q)) sg (nI f) (nI k) tb v := by
  have hP' := hP
  have hu' := hu
  have hv' := hv
  obtain ⟨q1, q2, q3, q4, q5, q6, q7, q8⟩ := hP
  obtain ⟨p0, p1, p2, p3, p4⟩ := hu
  obtain ⟨m0, m1, m2, m3, m4⟩ := hv
  obtain ⟨t1, t2, t3⟩ := (nb_ok q5 q6 q7 q8).2.2.2.2.2.2.2.2.2.2.2.2.2
  have LV := fun z => level_ok (N := N) q7 (u := sb [1] u) (v := v) (t1 := t1I (nI M) (nI N)) (t2 := t2I (nI M) (nI N)) (t3 := t3I (nI M) (nI N)) z p3 (p4 8 (by omega) (by omega)) (p4 9 (by omega) (by omega)) (p4 10 (by omega) (by omega)) m3 (m4 8 (by omega) (by omega)) (m4 9 (by omega) (by omega)) (m4 10 (by omega) (by omega)) t1 t2 t3
  obtain ⟨L1, a1, a2, a3, a4⟩ := LV (d - b)
  obtain ⟨L2, b1, b2, b3, b4⟩ := LV (b - c)
  obtain ⟨L3, c1, c2, c3, c4⟩ := LV (c - a)
  unfold f_Pas_overRegular_R f_Pas_signedContext_R f_Mod_regular
  rw [A, B, C, D, ha, hb, hc, hd]
  simp only [bd_v]
  rw [a1, b1, c1, a2, b2, c2]
  simp only [bd_v]
  rw [tk_v]
  obtain ⟨Q, hQ, ⟨h0, e1, e2⟩ | ⟨h0, e1, e2⟩⟩ := sg_ok L1 L2 L3 a3 a4 b3 b4 c3 c4
  · rw [bq_v h0, bq_v h0]
    obtain ⟨k, f, tb, h1, h2, h3, h4, h5⟩ := reg_mid_R (x := x) (y := y) (p := p) hP' hQ ha hb hc hu' hv' hC e1 e2
    exact ⟨Q, k, f, 1, tb, hQ, h1, h2, Or.inl rfl, h3, h4, h5⟩
  · rw [bq_w h0, bq_w h0]
    obtain ⟨k, f, tb, h1, h2, h3, h4, h5⟩ := reg_mid_R (x := x) (y := y) (p := p) hP' hQ ha hb hc hu' hv' hC e1 e2
    exact ⟨Q, k, f, -1, tb, hQ, h1, h2, Or.inr rfl, h3, h4, h5⟩
theorem end_mid_R {W H M N : Nat} (hP : PN W H M N) {u v : gU} {x y p j sg f : Int32} {t : Nat} (ht : t ≤ 1) (hu : PicW W H M N (u 1)) (hv : ModW W H M N (v 0)) (hC : CX (sb [2, 3, 4, 5, 6, 7] u) v) : ∃ (k : Nat) (fb : Int32), k ≤ 10 ∧ (fb = 0 ∨ fb = 1) ∧ J_Pas_overEnd_R_66 p (nI t) sg (st2 u 0 5 f) = J_Pas_overEnd_R_106 p (nI t) (nI (365 + t)) (nI k) fb (st2 (st2 u 0 5 f) 0 4 sg) ∧ J_Mod_endRun_67 x y j (nI t) f sg v = J_Mod_endRun_138 x y j (nI t) f sg (nI (5 * (365 + t))) (u 6 (365 + t)) (nI k) fb v := by
  obtain ⟨r0, r1, r2, hq⟩ := hC
  obtain ⟨c1, c2, c3, c4, c5, c6, c7, c8, c9, c10, c11⟩ := hq (365 + t) (by omega)
  simp only [sb_v, List.getD_cons_zero, List.getD_cons_succ] at c1 c2 c3 c4 c5 c6 c7 c8 c9 c10 c11
  obtain ⟨n', hn', en⟩ := nI_of (x := u 6 (365 + t)) (by rw [i_lt]; simp; omega)
  have hnn := nI_toInt hn'
  rw [← en] at hnn
  have hdv : u 6 (365 + t) / 2 = nI (n' / 2) := by
    rw [en]
    exact pk_div (d := 2) hn' (by omega) (by omega)
  have hml : nI t * (u 6 (365 + t) / 2) = nI (t * (n' / 2)) := by rw [hdv, pk_mul]
  have htn : t * (n' / 2) ≤ n' / 2 := by
    rcases Nat.eq_zero_or_pos t with h | h
    · subst h
      omega
    · obtain rfl : t = 1 := by omega
      omega
  have hmi := nI_toInt (n := t * (n' / 2)) (by omega)
  have hai : (u 3 (365 + t) + nI t * (u 6 (365 + t) / 2)).toInt = (u 3 (365 + t)).toInt + ((t * (n' / 2) : Nat) : Int) := by
    rw [hml, i_add (by omega) (by omega), hmi]
  obtain ⟨k, hk, k1, k2⟩ := kf_ok (n := u 6 (365 + t)) (a := u 3 (365 + t) + nI t * (u 6 (365 + t) / 2)) (q := 365 + t) c6 c7 (by omega) (by omega) (by omega) (sb [2, 3, 4, 5, 6, 7] (st2 (st2 u 0 5 f) 0 4 sg)) (by simp only [tk_v, bd_v, bx_vl, bx_vr, s2s, s2k, s2j, s1s, s1k, mg_v0, mg_v1, sb_v, List.getD_cons_zero, List.getD_cons_succ, not_false_eq_true, Nat.reduceEqDiff, reduceCtorEq])
  have X1 : J_Pas_overEnd_R_66 p (nI t) sg (st2 u 0 5 f) = bq (nI k = 0) (bq (2 * u 7 (365 + t) < u 6 (365 + t)) (J_Pas_overEnd_R_106 p (nI t) (nI (365 + t)) (nI k) 0 (st2 (st2 u 0 5 f) 0 4 sg)) (J_Pas_overEnd_R_106 p (nI t) (nI (365 + t)) (nI k) 1 (st2 (st2 u 0 5 f) 0 4 sg))) (J_Pas_overEnd_R_106 p (nI t) (nI (365 + t)) (nI k) 1 (st2 (st2 u 0 5 f) 0 4 sg)) := by
    unfold J_Pas_overEnd_R_66 J_Pas_overEnd_R_101
    rw [tk_v, tk_v, show (365 : Int32) + nI t = nI (365 + t) from nI_add 365 t]
    unfold f_Ctx_kOfEnd f_Ctx_isMostlyBelow
    simp only [gd_v (ix_n (show 365 + t < 367 by omega) (by omega)), tc_n (show 365 + t < 2 ^ 31 by omega)]
    rw [n365 t]
    rw [tk_v, show sb [2, 3, 4, 5, 6, 7] (st2 (st2 u 0 5 f) 0 4 sg) 1 (365 + t) = u 3 (365 + t) by simp only [tk_v, bd_v, bx_vl, bx_vr, s2s, s2k, s2j, s1s, s1k, mg_v0, mg_v1, sb_v, List.getD_cons_zero, List.getD_cons_succ, not_false_eq_true, Nat.reduceEqDiff, reduceCtorEq], show sb [2, 3, 4, 5, 6, 7] (st2 (st2 u 0 5 f) 0 4 sg) 4 (365 + t) = u 6 (365 + t) by simp only [tk_v, bd_v, bx_vl, bx_vr, s2s, s2k, s2j, s1s, s1k, mg_v0, mg_v1, sb_v, List.getD_cons_zero, List.getD_cons_succ, not_false_eq_true, Nat.reduceEqDiff, reduceCtorEq], show sb [2, 3, 4, 5, 6, 7] (st2 (st2 u 0 5 f) 0 4 sg) 5 (365 + t) = u 7 (365 + t) by simp only [tk_v, bd_v, bx_vl, bx_vr, s2s, s2k, s2j, s1s, s1k, mg_v0, mg_v1, sb_v, List.getD_cons_zero, List.getD_cons_succ, not_false_eq_true, Nat.reduceEqDiff, reduceCtorEq], k1, bd_v, bd_v]
    by_cases g2 : nI k = 0
    · rw [bq_v g2, bq_v g2]
      by_cases g3 : 2 * u 7 (365 + t) < u 6 (365 + t)
      · rw [bq_v g3, bq_v g3, bd_v, bq_v rfl]
      · rw [bq_w g3, bq_w g3, bd_v, bq_w (by decide)]
    · rw [bq_w g2, bq_w g2]
  have X2 : J_Mod_endRun_67 x y j (nI t) f sg v = bq (nI k = 0) (bq (2 * u 7 (365 + t) < u 6 (365 + t)) (J_Mod_endRun_138 x y j (nI t) f sg (nI (5 * (365 + t))) (u 6 (365 + t)) (nI k) 0 v) (J_Mod_endRun_138 x y j (nI t) f sg (nI (5 * (365 + t))) (u 6 (365 + t)) (nI k) 1 v)) (J_Mod_endRun_138 x y j (nI t) f sg (nI (5 * (365 + t))) (u 6 (365 + t)) (nI k) 1 v) := by
    unfold J_Mod_endRun_67 J_Mod_endRun_133
    rw [show (365 : Int32) + nI t = nI (365 + t) from nI_add 365 t, n5, tk_v, n3, n4, gd_v (ix_n (by omega) (by omega)), tc_n (n := 5 * (365 + t) + 3) (by omega), tk_v, gd_v (ix_n (by omega) (by omega)), tc_n (n := 5 * (365 + t)) (by omega), ← c1, ← c4, k2, bd_v, gd_v (ix_n (by omega) (by omega)), tc_n (n := 5 * (365 + t) + 4) (by omega), ← c5]
  rw [X1, X2]
  by_cases g2 : nI k = 0
  · rw [bq_v g2, bq_v g2]
    by_cases g3 : 2 * u 7 (365 + t) < u 6 (365 + t)
    · rw [bq_v g3, bq_v g3]
      exact ⟨k, 0, hk, Or.inl rfl, rfl, rfl⟩
    · rw [bq_w g3, bq_w g3]
      exact ⟨k, 1, hk, Or.inr rfl, rfl, rfl⟩
  · rw [bq_w g2, bq_w g2]
    exact ⟨k, 1, hk, Or.inr rfl, rfl, rfl⟩
theorem end_pre_R {W H M N : Nat} (hP : PN W H M N) {u v : gU} {x y p j : Int32} {a b : Nat} (h1 : a ≤ M) (h2 : b ≤ M) (ha : u 0 0 = nI a) (hb : u 0 1 = nI b) (hu : PicW W H M N (u 1)) (hv : ModW W H M N (v 0)) (hC : CX (sb [2, 3, 4, 5, 6, 7] u) v) (A : f_Mod_before x y v = some (nI a)) (B : f_Mod_above x y v = some (nI b)) : ∃ (t k f : Nat) (sg fb : Int32), t ≤ 1 ∧ k ≤ 10 ∧ f ≤ M ∧ (sg = 1 ∨ sg = -1) ∧ (fb = 0 ∨ fb = 1) ∧ (t = 1 → f = a ∧ sg = 1) ∧ f_Pas_overEnd_R p u = J_Pas_overEnd_R_106 p (nI t) (nI (365 + t)) (nI k) fb (st2 (st2 u 0 5 (nI f)) 0 4 sg) ∧ f_Mod_endRun x y j v = J_Mod_endRun_138 x y j (nI t) (nI f) sg (nI (5 * (365 + t))) (u 6 (365 + t)) (nI k) fb v := by
  have hu' := hu
  have hv' := hv
  obtain ⟨p0, p1, p2, p3, p4⟩ := hu
  obtain ⟨m0, m1, m2, m3, m4⟩ := hv
  unfold f_Pas_overEnd_R f_Mod_endRun
  rw [A, B, ha, hb, nrP, bd_v, bd_v, bd_v, nrM, bd_v, show sb [1] u 0 3 = nI N from p3, m3]
  rcases nr_01 (nI N) (nI a - nI b) with g | g
  · rw [g, bq_v rfl, bq_v rfl]
    unfold J_Pas_overEnd_R_24 J_Mod_endRun_33 J_Pas_overEnd_R_42 J_Mod_endRun_48
    rw [bq_w (by decide), bq_w (by decide), tk_v, bq_v rfl, bq_v rfl, s2j (by decide), s2j (by decide), ha, hb]
    by_cases g2 : nI a ≤ nI b
    · rw [bq_v g2, bq_v g2]
      obtain ⟨k, fb, e1, e2, e3, e4⟩ := end_mid_R (x := x) (y := y) (p := p) (j := j) (sg := 1) (f := nI b) (t := 0) hP (by omega) hu' hv' hC
      exact ⟨0, k, b, 1, fb, by omega, e1, h2, Or.inl rfl, e2, fun h => absurd h (by omega), e3, e4⟩
    · rw [bq_w g2, bq_w g2]
      obtain ⟨k, fb, e1, e2, e3, e4⟩ := end_mid_R (x := x) (y := y) (p := p) (j := j) (sg := -1) (f := nI b) (t := 0) hP (by omega) hu' hv' hC
      exact ⟨0, k, b, -1, fb, by omega, e1, h2, Or.inr rfl, e2, fun h => absurd h (by omega), e3, e4⟩
  · rw [g, bq_w (by decide), bq_w (by decide)]
    unfold J_Pas_overEnd_R_24 J_Mod_endRun_33 J_Pas_overEnd_R_42 J_Mod_endRun_48
    rw [bq_v rfl, bq_v rfl, tk_v, bq_w (by decide), bq_w (by decide), ha]
    obtain ⟨k, fb, e1, e2, e3, e4⟩ := end_mid_R (x := x) (y := y) (p := p) (j := j) (sg := 1) (f := nI a) (t := 1) hP (by omega) hu' hv' hC
    exact ⟨1, k, a, 1, fb, by omega, e1, h1, Or.inl rfl, e2, fun _ => ⟨rfl, rfl⟩, e3, e4⟩
