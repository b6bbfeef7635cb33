/-! the call encode -/
theorem hb_ok {s t : Nat} {u v : gU} (hs : s < 512) (ht : t < 256) (h : BS s (sb [10, 11] u) v) : ∃ w v' : gU, f_Wri_writeByte (nI t) (sb [10, 11] u) = some w ∧ f_Mod_say (nI t) v = some v' ∧ BS (s + 1) (sb [10, 11] (mg [10, 11] 0 u w)) v' ∧ mg [10, 11] 0 u w 10 1 = u 10 1 ∧ (∀ k, ¬ k = 10 → ¬ k = 11 → mg [10, 11] 0 u w k = u k) ∧ (∀ k, ¬ k = 0 → ¬ k = 4 → v' k = v k) ∧ (∀ j, ¬ j = 13 → v' 0 j = v 0 j) ∧ v' 4 s = nI t := by
  obtain ⟨w, v', a1, a2, a3, a4, a5, a6, a7⟩ := byte_ok hs ht h
  refine ⟨w, v', a1, a2, ?_, ?_, ?_, a5, a6, a7⟩
  · obtain ⟨b1, b2, b3⟩ := a3
    refine ⟨by simp only [tk_v, bd_v, bx_vl, bx_vr, s2s, s2k, s2j, s1s, s1k, mg_v0, mg_v1, sb_v, List.getD_cons_zero, List.getD_cons_succ, not_false_eq_true, Nat.reduceEqDiff, reduceCtorEq]; exact b1, b2, ?_⟩
    simp only [tk_v, bd_v, bx_vl, bx_vr, s2s, s2k, s2j, s1s, s1k, mg_v0, mg_v1, sb_v, List.getD_cons_zero, List.getD_cons_succ, not_false_eq_true, Nat.reduceEqDiff, reduceCtorEq]
    exact b3
  · simp only [tk_v, bd_v, bx_vl, bx_vr, s2s, s2k, s2j, s1s, s1k, mg_v0, mg_v1, sb_v, List.getD_cons_zero, List.getD_cons_succ, not_false_eq_true, Nat.reduceEqDiff, reduceCtorEq]
    rw [a4]
    simp only [tk_v, bd_v, bx_vl, bx_vr, s2s, s2k, s2j, s1s, s1k, mg_v0, mg_v1, sb_v, List.getD_cons_zero, List.getD_cons_succ, not_false_eq_true, Nat.reduceEqDiff, reduceCtorEq]
  · intro k k0 k1
    rw [mg_v1, mg_v1, mg_v0, s1k k0, s1k k1]
theorem head_ok {W H M N : Nat} (hP : PN W H M N) {u v : gU} (hu : PicW W H M N (u 1)) (hv : ModW W H M N (v 0)) : ∃ (u' : gU) (v1 v2 v3 v4 v5 v' : gU), f_Cod_writeHead u = some u' ∧ f_Mod_say 255 (st2 v 0 13 0) = some v1 ∧ f_Mod_say 216 v1 = some v2 ∧ f_Mod_say (v2 0 1) v2 = some v3 ∧ f_Mod_say (v3 0 2) v3 = some v4 ∧ f_Mod_say (v4 0 3) v4 = some v5 ∧ f_Mod_say (v5 0 4) v5 = some v' ∧ BS 6 (sb [10, 11] u') v' ∧ u' 10 1 = 0 ∧ v' 4 5 = nI N ∧ (∀ k, ¬ k = 10 → ¬ k = 11 → u' k = u k) ∧ (∀ k, ¬ k = 0 → ¬ k = 4 → v' k = v k) ∧ (∀ j, ¬ j = 13 → v' 0 j = v 0 j) := by
  obtain ⟨q1, q2, q3, q4, q5, q6, q7, q8⟩ := hP
  have hr : f_Wri_restart (sb [10, 11] u) = some (st2 (st2 (sb [10, 11] u) 0 0 0) 0 1 0) := rfl
  have b0 : BS 0 (sb [10, 11] (mg [10, 11] 0 u (st2 (st2 (sb [10, 11] u) 0 0 0) 0 1 0))) (st2 v 0 13 0) := by
    refine ⟨?_, ?_, fun i hi => absurd hi (by omega)⟩
    · simp only [tk_v, bd_v, bx_vl, bx_vr, s2s, s2k, s2j, s1s, s1k, mg_v0, mg_v1, sb_v, List.getD_cons_zero, List.getD_cons_succ, not_false_eq_true, Nat.reduceEqDiff, reduceCtorEq]
      rfl
    · simp only [tk_v, bd_v, bx_vl, bx_vr, s2s, s2k, s2j, s1s, s1k, mg_v0, mg_v1, sb_v, List.getD_cons_zero, List.getD_cons_succ, not_false_eq_true, Nat.reduceEqDiff, reduceCtorEq]
      rfl
  have f0 : ∀ k, ¬ k = 10 → ¬ k = 11 → mg [10, 11] 0 u (st2 (st2 (sb [10, 11] u) 0 0 0) 0 1 0) k = u k := by
    intro k k0 k1
    rw [mg_v1, mg_v1, mg_v0, s1k k0, s1k k1]
  have z0 : mg [10, 11] 0 u (st2 (st2 (sb [10, 11] u) 0 0 0) 0 1 0) 10 1 = 0 := by simp only [tk_v, bd_v, bx_vl, bx_vr, s2s, s2k, s2j, s1s, s1k, mg_v0, mg_v1, sb_v, List.getD_cons_zero, List.getD_cons_succ, not_false_eq_true, Nat.reduceEqDiff, reduceCtorEq]
  have g0 : ∀ k, ¬ k = 0 → ¬ k = 4 → st2 v 0 13 0 k = v k := fun k k0 _ => s2k k0
  have i0 : ∀ j, ¬ j = 13 → st2 v 0 13 0 0 j = v 0 j := fun j hj => s2j hj
  generalize hu0 : mg [10, 11] 0 u (st2 (st2 (sb [10, 11] u) 0 0 0) 0 1 0) = u0 at b0 f0 z0
  generalize hv0 : st2 v 0 13 0 = v0 at b0 g0 i0
  obtain ⟨w1, v1, a1, c1, b1, z1, f1, g1, i1, -⟩ := hb_ok (t := 255) (by omega) (by omega) b0
  generalize hu1 : mg [10, 11] 0 u0 w1 = u1 at b1 z1 f1
  obtain ⟨w2, v2, a2, c2, b2, z2, f2, g2, i2, -⟩ := hb_ok (t := 216) (by omega) (by omega) b1
  generalize hu2 : mg [10, 11] 0 u1 w2 = u2 at b2 z2 f2
  obtain ⟨w3, v3, a3, c3, b3, z3, f3, g3, i3, -⟩ := hb_ok (t := W) (by omega) (by omega) b2
  generalize hu3 : mg [10, 11] 0 u2 w3 = u3 at b3 z3 f3
  obtain ⟨w4, v4, a4, c4, b4, z4, f4, g4, i4, -⟩ := hb_ok (t := H) (by omega) (by omega) b3
  generalize hu4 : mg [10, 11] 0 u3 w4 = u4 at b4 z4 f4
  obtain ⟨w5, v5, a5, c5, b5, z5, f5, g5, i5, -⟩ := hb_ok (t := M) (by omega) (by omega) b4
  generalize hu5 : mg [10, 11] 0 u4 w5 = u5 at b5 z5 f5
  obtain ⟨w6, v6, a6, c6, b6, z6, f6, g6, i6, j6⟩ := hb_ok (t := N) (by omega) (by omega) b5
  generalize hu6 : mg [10, 11] 0 u5 w6 = u6 at b6 z6 f6
  have x2 : u2 1 0 = nI W := by rw [f2 1 (by decide) (by decide), f1 1 (by decide) (by decide), f0 1 (by decide) (by decide)]; exact hu.1
  have x3 : u3 1 1 = nI H := by rw [f3 1 (by decide) (by decide), f2 1 (by decide) (by decide), f1 1 (by decide) (by decide), f0 1 (by decide) (by decide)]; exact hu.2.1
  have x4 : u4 1 2 = nI M := by rw [f4 1 (by decide) (by decide), f3 1 (by decide) (by decide), f2 1 (by decide) (by decide), f1 1 (by decide) (by decide), f0 1 (by decide) (by decide)]; exact hu.2.2.1
  have x5 : u5 1 3 = nI N := by rw [f5 1 (by decide) (by decide), f4 1 (by decide) (by decide), f3 1 (by decide) (by decide), f2 1 (by decide) (by decide), f1 1 (by decide) (by decide), f0 1 (by decide) (by decide)]; exact hu.2.2.2.1
  have y2 : v2 0 1 = nI W := by rw [i2 1 (by decide), i1 1 (by decide), i0 1 (by decide)]; exact hv.1
  have y3 : v3 0 2 = nI H := by rw [i3 2 (by decide), i2 2 (by decide), i1 2 (by decide), i0 2 (by decide)]; exact hv.2.1
  have y4 : v4 0 3 = nI M := by rw [i4 3 (by decide), i3 3 (by decide), i2 3 (by decide), i1 3 (by decide), i0 3 (by decide)]; exact hv.2.2.1
  have y5 : v5 0 4 = nI N := by rw [i5 4 (by decide), i4 4 (by decide), i3 4 (by decide), i2 4 (by decide), i1 4 (by decide), i0 4 (by decide)]; exact hv.2.2.2.1
  refine ⟨u6, v1, v2, v3, v4, v5, v6, ?_, c1, c2, by rw [y2]; exact c3, by rw [y3]; exact c4, by rw [y4]; exact c5, by rw [y5]; exact c6, b6, by rw [z6, z5, z4, z3, z2, z1, z0], j6, fun k k0 k1 => by rw [f6 k k0 k1, f5 k k0 k1, f4 k k0 k1, f3 k k0 k1, f2 k k0 k1, f1 k k0 k1, f0 k k0 k1], fun k k0 k1 => by rw [g6 k k0 k1, g5 k k0 k1, g4 k k0 k1, g3 k k0 k1, g2 k k0 k1, g1 k k0 k1, g0 k k0 k1], fun j hj => by rw [i6 j hj, i5 j hj, i4 j hj, i3 j hj, i2 j hj, i1 j hj, i0 j hj]⟩
  unfold f_Cod_writeHead
  rw [hr, bd_v, tk_v, hu0, show f_Wri_writeByte 255 (sb [10, 11] u0) = some w1 from a1, bd_v, tk_v, hu1, show f_Wri_writeByte 216 (sb [10, 11] u1) = some w2 from a2, bd_v, tk_v, hu2, x2, a3, bd_v, tk_v, hu3, x3, a4, bd_v, tk_v, hu4, x4, a5, bd_v, tk_v, hu5, x5, a6, bd_v, tk_v, hu6]
theorem sbmg {u w : gU} : ∀ k, k < 12 → sb [1, 2, 3, 4, 5, 6, 7, 8, 9, 10, 11, 12] (mg [1, 2, 3, 4, 5, 6, 7, 8, 9, 10, 11, 12] 0 u w) k = w k := by
  intro k hk
  have hc : k = 0 ∨ k = 1 ∨ k = 2 ∨ k = 3 ∨ k = 4 ∨ k = 5 ∨ k = 6 ∨ k = 7 ∨ k = 8 ∨ k = 9 ∨ k = 10 ∨ k = 11 := by omega
  rcases hc with rfl | rfl | rfl | rfl | rfl | rfl | rfl | rfl | rfl | rfl | rfl | rfl <;> simp only [tk_v, bd_v, bx_vl, bx_vr, s2s, s2k, s2j, s1s, s1k, mg_v0, mg_v1, sb_v, List.getD_cons_zero, List.getD_cons_succ, not_false_eq_true, Nat.reduceEqDiff, reduceCtorEq, Nat.reduceAdd]
theorem call_encode {x y : gU} (h : Inv x y) : ∃ (r : Int32) (v vm : gU), f_Grc_encode x = some (r, v) ∧ f_Mod_encode y = some (r, vm) ∧ Inv v vm := by
  have hI := Inv_0 (v := 0) h
  obtain ⟨W, H, M, N, z, hP, h2, h3, h4, h5, hz, e1, e2, hB⟩ := hI
  have hP' := hP
  obtain ⟨q1, q2, q3, q4, q5, q6, q7, q8⟩ := hP'
  have rr := (nb_ok q5 q6 q7 q8).2.2.2.2.2.2.2.2.1
  obtain ⟨y1, fo, fo1, fo2, fo3, fo4, fo5⟩ := forget_ok (st2 y 0 0 0)
  have hy1 : ModW W H M N (y1 0) := ModW_eq h3 (fun j a b => fo2 j (by omega))
  obtain ⟨u1, v1, v2, v3, v4, v5, v6, c0, c1, c2, c3, c4, c5, c6, c7, c8, c9, c10, c11, c12⟩ := head_ok hP (u := sb [1, 2, 3, 4, 5, 6, 7, 8, 9, 10, 11, 12] x) (v := y1) h2 hy1
  have sm := sbmg (u := x) (w := u1)
  generalize hX : sb [1, 2, 3, 4, 5, 6, 7, 8, 9, 10, 11, 12] (mg [1, 2, 3, 4, 5, 6, 7, 8, 9, 10, 11, 12] 0 x u1) = X at sm
  have hX1 : PicW W H M N (X 1) := by
    rw [sm 1 (by decide), c10 1 (by decide) (by decide)]
    exact h2
  have hX5 : X 1 5 = nI ((M + 2 * N) / (2 * N + 1) + 1) := by
    rw [hX1.2.2.2.2 5 (by omega) (by omega), ← rr]
    rfl
  obtain ⟨w2, r1, r2, r3, -⟩ := restart_ok (X 1 5) (sb [2, 3, 4, 5, 6, 7] X)
  have hy6 : st2 y 0 0 0 0 6 = nI ((M + 2 * N) / (2 * N + 1) + 1) := by
    rw [h3.2.2.2.2 5 (by omega) (by omega), ← rr]
    rfl
  rw [hX5] at r3
  rw [hy6] at fo3
  have hE : EN W H M N (42 * (8 * 0)) 0 0 (mg [2, 3, 4, 5, 6, 7] 0 X w2) (st2 (st2 (st2 (st2 v6 0 14 0) 0 15 0) 0 16 0) 0 20 1) := by
    refine ⟨?_, ?_, ?_, fun i j hi hc => by omega, ?_, ?_, ?_, ?_⟩
    · simp only [tk_v, bd_v, bx_vl, bx_vr, s2s, s2k, s2j, s1s, s1k, mg_v0, mg_v1, sb_v, List.getD_cons_zero, List.getD_cons_succ, not_false_eq_true, Nat.reduceEqDiff, reduceCtorEq]
      exact hX1
    · refine ModW_eq hy1 (fun j a b => ?_)
      rw [s2j (by omega), s2j (by omega), s2j (by omega), s2j (by omega), c12 j (by omega)]
    · refine CX_new (r := (M + 2 * N) / (2 * N + 1) + 1) (rg_lt q6) ?_ ?_ ?_ ?_
      · simp only [tk_v, bd_v, bx_vl, bx_vr, s2s, s2k, s2j, s1s, s1k, mg_v0, mg_v1, sb_v, List.getD_cons_zero, List.getD_cons_succ, not_false_eq_true, Nat.reduceEqDiff, reduceCtorEq]
        exact r2
      · intro q hq
        simp only [tk_v, bd_v, bx_vl, bx_vr, s2s, s2k, s2j, s1s, s1k, mg_v0, mg_v1, sb_v, List.getD_cons_zero, List.getD_cons_succ, not_false_eq_true, Nat.reduceEqDiff, reduceCtorEq]
        exact r3 q hq
      · rw [s2j (by decide), s2j (by decide), s2j (by decide), s2j (by decide), c12 12 (by decide), fo1]
      · rw [s2k (by decide), s2k (by decide), s2k (by decide), s2k (by decide), c11 3 (by decide) (by decide)]
        exact fo3
    · intro i j hi hj
      simp only [tk_v, bd_v, bx_vl, bx_vr, s2s, s2k, s2j, s1s, s1k, mg_v0, mg_v1, sb_v, List.getD_cons_zero, List.getD_cons_succ, not_false_eq_true, Nat.reduceEqDiff, reduceCtorEq]
      rw [sm 9 (by decide), c10 9 (by decide) (by decide), c11 1 (by decide) (by decide), fo5 1 (by decide) (by decide) (by decide)]
      obtain ⟨k1, -, t, ht, k2⟩ := h5 i j hi hj
      exact ⟨t, ht, k1.trans k2, k2⟩
    · refine ⟨6, 0, 0, 0, ?_, ?_, ?_, ?_, ?_, by omega, by omega, Or.inl ⟨rfl, ?_, rfl, ?_⟩⟩
      · simp only [tk_v, bd_v, bx_vl, bx_vr, s2s, s2k, s2j, s1s, s1k, mg_v0, mg_v1, sb_v, List.getD_cons_zero, List.getD_cons_succ, not_false_eq_true, Nat.reduceEqDiff, reduceCtorEq]
        exact c7.2.1
      · simp only [tk_v, bd_v, bx_vl, bx_vr, s2s, s2k, s2j, s1s, s1k, mg_v0, mg_v1, sb_v, List.getD_cons_zero, List.getD_cons_succ, not_false_eq_true, Nat.reduceEqDiff, reduceCtorEq]
        rfl
      · simp only [tk_v, bd_v, bx_vl, bx_vr, s2s, s2k, s2j, s1s, s1k, mg_v0, mg_v1, sb_v, List.getD_cons_zero, List.getD_cons_succ, not_false_eq_true, Nat.reduceEqDiff, reduceCtorEq]
        rfl
      · simp only [tk_v, bd_v, bx_vl, bx_vr, s2s, s2k, s2j, s1s, s1k, mg_v0, mg_v1, sb_v, List.getD_cons_zero, List.getD_cons_succ, not_false_eq_true, Nat.reduceEqDiff, reduceCtorEq]
        rw [sm 10 (by decide), c8]
        rfl
      · simp only [tk_v, bd_v, bx_vl, bx_vr, s2s, s2k, s2j, s1s, s1k, mg_v0, mg_v1, sb_v, List.getD_cons_zero, List.getD_cons_succ, not_false_eq_true, Nat.reduceEqDiff, reduceCtorEq]
        rw [sm 11 (by decide)]
        exact c7.2.2
      · simp only [tk_v, bd_v, bx_vl, bx_vr, s2s, s2k, s2j, s1s, s1k, mg_v0, mg_v1, sb_v, List.getD_cons_zero, List.getD_cons_succ, not_false_eq_true, Nat.reduceEqDiff, reduceCtorEq]
        rw [sm 10 (by decide)]
        exact c7.1
      · simp only [tk_v, bd_v, bx_vl, bx_vr, s2s, s2k, s2j, s1s, s1k, mg_v0, mg_v1, sb_v, List.getD_cons_zero, List.getD_cons_succ, not_false_eq_true, Nat.reduceEqDiff, reduceCtorEq]
        rw [if_neg]
        rw [show (6 - 1 : Nat) = 5 from rfl, c9]
        exact fun hh => absurd ((nI_eq (b := 255) (by omega) (by omega)).mp hh) (by omega)
    · simp only [tk_v, bd_v, bx_vl, bx_vr, s2s, s2k, s2j, s1s, s1k, mg_v0, mg_v1, sb_v, List.getD_cons_zero, List.getD_cons_succ, not_false_eq_true, Nat.reduceEqDiff, reduceCtorEq]
    · simp only [tk_v, bd_v, bx_vl, bx_vr, s2s, s2k, s2j, s1s, s1k, mg_v0, mg_v1, sb_v, List.getD_cons_zero, List.getD_cons_succ, not_false_eq_true, Nat.reduceEqDiff, reduceCtorEq]
  obtain ⟨u3, v7, k1, k2, k3⟩ := rowsE_ok hP H 0 20 2000 _ _ (by omega) (by omega) (by omega) hE
  obtain ⟨l1, l2, l3, l4, l5, l6, l7, l8⟩ := k3
  have hw : WR (42 * (8 * H)) (sb [11, 12] (mg [1, 2, 3, 4, 5, 6, 7, 8, 9, 10, 11, 12] 0 (mg [1, 2, 3, 4, 5, 6, 7, 8, 9, 10, 11, 12] 0 x u1) u3)) v7 := by
    refine WR_eq l6 ?_ ?_ rfl rfl rfl rfl
    · simp only [tk_v, bd_v, bx_vl, bx_vr, s2s, s2k, s2j, s1s, s1k, mg_v0, mg_v1, sb_v, List.getD_cons_zero, List.getD_cons_succ, not_false_eq_true, Nat.reduceEqDiff, reduceCtorEq, Nat.reduceAdd]
    · simp only [tk_v, bd_v, bx_vl, bx_vr, s2s, s2k, s2j, s1s, s1k, mg_v0, mg_v1, sb_v, List.getD_cons_zero, List.getD_cons_succ, not_false_eq_true, Nat.reduceEqDiff, reduceCtorEq, Nat.reduceAdd]
  obtain ⟨s, w5, v8, hs, m1, m2, m3, m4⟩ := wend_ok (by omega) hw
  refine ⟨nI s, mg [11, 12] 0 (mg [1, 2, 3, 4, 5, 6, 7, 8, 9, 10, 11, 12] 0 (mg [1, 2, 3, 4, 5, 6, 7, 8, 9, 10, 11, 12] 0 x u1) u3) w5, v8, ?_, ?_, W, H, M, N, s, hP, ?_, ?_, ?_, ?_, hs, ?_, m3.2.1, ?_⟩
  · unfold f_Grc_encode f_Pas_overAll_C
    rw [c0, bd_v, tk_v, hX, r1, bd_v, tk_v, show L_Pas_overAll_C_16 20 0 (mg [2, 3, 4, 5, 6, 7] 0 X w2) = some u3 from k1, bd_v, tk_v, m1, bd_v, tk_v]
    simp only [tk_v, bd_v, bx_vl, bx_vr, s2s, s2k, s2j, s1s, s1k, mg_v0, mg_v1, sb_v, List.getD_cons_zero, List.getD_cons_succ, not_false_eq_true, Nat.reduceEqDiff, reduceCtorEq, Nat.reduceAdd]
    rw [m3.1]
  · unfold f_Mod_encode f_Mod_walk
    rw [tk_v, fo, bd_v, tk_v, tk_v, c1, bd_v, tk_v, c2, bd_v, tk_v, c3, bd_v, tk_v, c4, bd_v, tk_v, c5, bd_v, tk_v, c6, bd_v, tk_v, tk_v, tk_v, tk_v, tk_v, show L_Mod_walk_2 2000 0 _ = some v7 from k2, bd_v, tk_v]
    exact m2
  · simp only [tk_v, bd_v, bx_vl, bx_vr, s2s, s2k, s2j, s1s, s1k, mg_v0, mg_v1, sb_v, List.getD_cons_zero, List.getD_cons_succ, not_false_eq_true, Nat.reduceEqDiff, reduceCtorEq, Nat.reduceAdd]
    exact l1
  · exact ModW_eq l2 (fun j a b => m4.2 j (by omega) (by omega) (by omega))
  · refine CX_eq l3 ?_ (fun q hq => ?_) (m4.2 12 (by decide) (by decide) (by decide)) (m4.1 3 (by decide) (by decide))
    · simp only [tk_v, bd_v, bx_vl, bx_vr, s2s, s2k, s2j, s1s, s1k, mg_v0, mg_v1, sb_v, List.getD_cons_zero, List.getD_cons_succ, not_false_eq_true, Nat.reduceEqDiff, reduceCtorEq, Nat.reduceAdd]
    · simp only [tk_v, bd_v, bx_vl, bx_vr, s2s, s2k, s2j, s1s, s1k, mg_v0, mg_v1, sb_v, List.getD_cons_zero, List.getD_cons_succ, not_false_eq_true, Nat.reduceEqDiff, reduceCtorEq, Nat.reduceAdd, and_self]
  · intro i j hi hj
    simp only [tk_v, bd_v, bx_vl, bx_vr, s2s, s2k, s2j, s1s, s1k, mg_v0, mg_v1, sb_v, List.getD_cons_zero, List.getD_cons_succ, not_false_eq_true, Nat.reduceEqDiff, reduceCtorEq, Nat.reduceAdd]
    rw [m4.1 1 (by decide) (by decide), m4.1 2 (by decide) (by decide)]
    obtain ⟨t, ht, t1, t2⟩ := l5 i j hi hj
    obtain ⟨t', ht', t1', t2'⟩ := l4 i j hi (Or.inl hj)
    exact ⟨t1.trans t2.symm, t1'.trans t2'.symm, t, ht, t2⟩
  · simp only [tk_v, bd_v, bx_vl, bx_vr, s2s, s2k, s2j, s1s, s1k, mg_v0, mg_v1, sb_v, List.getD_cons_zero, List.getD_cons_succ, not_false_eq_true, Nat.reduceEqDiff, reduceCtorEq, Nat.reduceAdd]
    exact m3.1
  · simp only [tk_v, bd_v, bx_vl, bx_vr, s2s, s2k, s2j, s1s, s1k, mg_v0, mg_v1, sb_v, List.getD_cons_zero, List.getD_cons_succ, not_false_eq_true, Nat.reduceEqDiff, reduceCtorEq, Nat.reduceAdd]
    exact m3.2.2
