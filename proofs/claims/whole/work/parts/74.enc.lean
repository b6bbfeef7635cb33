/-! a sample coded -/
def SmW (W H M : Nat) (s s' : Nat → Int32) : Prop := ∀ i j, i < W → j < H → ∃ t : Nat, t ≤ M ∧ s (8 * j + i) = nI t ∧ s' (8 * j + i) = nI t
def EN (W H M N T x y : Nat) (u v : gU) : Prop := PicW W H M N (u 1) ∧ ModW W H M N (v 0) ∧ CX (sb [2, 3, 4, 5, 6, 7] u) v ∧ RbW W M x y (u 8) (v 2) ∧ SmW W H M (u 9) (v 1) ∧ WR T (sb [10, 11] u) v ∧ v 0 16 = 0 ∧ v 0 20 = 1
theorem WR_eq {T : Nat} {u v u' v' : gU} (h : WR T u v) (e0 : u' 0 = u 0) (e1 : u' 1 = u 1) (f1 : v' 0 13 = v 0 13) (f2 : v' 0 14 = v 0 14) (f3 : v' 0 15 = v 0 15) (f4 : v' 4 = v 4) : WR T u' v' := by
  obtain ⟨s, g, b, f, h⟩ := h
  refine ⟨s, g, b, f, ?_⟩
  rw [e0, e1, f1, f2, f3, f4]
  exact h
theorem RbW_st {W M x y r : Nat} {p q : Nat → Int32} {p' q' : Nat → Int32} (hW : W ≤ 8) (hx : x < W) (hr : r ≤ M) (h : RbW W M x y p q) (e1 : p' (8 * y + x) = nI r) (e2 : q' (8 * y + x) = nI r) (e3 : ∀ i, ¬ i = 8 * y + x → p' i = p i) (e4 : ∀ i, ¬ i = 8 * y + x → q' i = q i) : RbW W M (x + 1) y p' q' := by
  intro i j hi hc
  by_cases hij : 8 * j + i = 8 * y + x
  · rw [hij]
    exact ⟨r, hr, e1, e2⟩
  · rw [e3 _ hij, e4 _ hij]
    refine h i j hi ?_
    rcases hc with hc | ⟨rfl, hc⟩
    · exact Or.inl hc
    · exact Or.inr ⟨rfl, by omega⟩
theorem reg_en {W H M N T x y a b c d : Nat} (hP : PN W H M N) {u v : gU} (h : EN W H M N T x y u v) (hx : x < W) (hy : y < H) (hT : T + 42 ≤ 2990) (ha : u 0 0 = nI a) (hb : u 0 1 = nI b) (hc : u 0 2 = nI c) (hd : u 0 3 = nI d) (A : f_Mod_before (nI x) (nI y) v = some (nI a)) (B : f_Mod_above (nI x) (nI y) v = some (nI b)) (C : f_Mod_corner (nI x) (nI y) v = some (nI c)) (D : f_Mod_beyond (nI x) (nI y) v = some (nI d)) : ∃ u' v' : gU, f_Pas_overRegular_C (nI (8 * y + x)) u = some u' ∧ f_Mod_regular (nI x) (nI y) v = some v' ∧ EN W H M N (T + 42) (x + 1) y u' v' := by
  obtain ⟨h1, h2, h3, h4, h5, h6, h7, h8⟩ := h
  have hP' := hP
  obtain ⟨q1, q2, q3, q4, q5, q6, q7, q8⟩ := hP'
  obtain ⟨Q, k, f, sg, tb, hQ, hk, hf, hsg, htb, E1, E2⟩ := reg_pre_C (p := nI (8 * y + x)) hP ha hb hc hd h1 h2 h3 A B C D
  rw [E1, E2]
  obtain ⟨s, hs, s1, s2⟩ := h5 x y hx hy
  obtain ⟨l, q, el, eq, l1, l2, l3, l4, l5⟩ := nb_nat hP
  obtain ⟨e, r, hr, e1, e2, -, T1, T2⟩ := err_ok (u := st2 (st2 u 0 4 sg) 0 5 (nI f)) (v := v) hP hsg (x := x) (y := y) (by omega) (by omega) hf hs (by simp only [tk_v, bd_v, bx_vl, bx_vr, s2s, s2k, s2j, s1s, s1k, mg_v0, mg_v1, sb_v, List.getD_cons_zero, List.getD_cons_succ, not_false_eq_true, Nat.reduceEqDiff, reduceCtorEq]) (by simp only [tk_v, bd_v, bx_vl, bx_vr, s2s, s2k, s2j, s1s, s1k, mg_v0, mg_v1, sb_v, List.getD_cons_zero, List.getD_cons_succ, not_false_eq_true, Nat.reduceEqDiff, reduceCtorEq]) (by simp only [tk_v, bd_v, bx_vl, bx_vr, s2s, s2k, s2j, s1s, s1k, mg_v0, mg_v1, sb_v, List.getD_cons_zero, List.getD_cons_succ, not_false_eq_true, Nat.reduceEqDiff, reduceCtorEq]; exact h1) h2 (by simp only [tk_v, bd_v, bx_vl, bx_vr, s2s, s2k, s2j, s1s, s1k, mg_v0, mg_v1, sb_v, List.getD_cons_zero, List.getD_cons_succ, not_false_eq_true, Nat.reduceEqDiff, reduceCtorEq]; exact s1) s2
  obtain ⟨kk, hkk, ek, -⟩ := e_tab e1 e2
  obtain ⟨bb, hbb, eb⟩ : ∃ bb : Nat, bb < 2 ∧ tb = nI bb := by
    rcases htb with rfl | rfl
    · exact ⟨0, by omega, rfl⟩
    · exact ⟨1, by omega, rfl⟩
  obtain ⟨F1, F2, F3, F4⟩ := fold_tb kk hkk bb hbb
  rw [← ek, ← eb] at F1 F2 F3 F4
  generalize hm0 : (f_Fol_foldRegular e tb).getD 0 = m0 at F1 F2 F3 F4
  obtain ⟨m, hm, em⟩ := nI_of (x := m0) (by rw [i_lt]; simp; omega)
  have hwr : WR T (sb [10, 11] (st2 (st2 (st2 u 0 4 sg) 0 5 (nI f)) 8 (8 * y + x) (nI r))) (st2 v 2 (8 * y + x) (nI r)) := by
    refine WR_eq h6 ?_ ?_ ?_ ?_ ?_ ?_ <;> simp only [tk_v, bd_v, bx_vl, bx_vr, s2s, s2k, s2j, s1s, s1k, mg_v0, mg_v1, sb_v, List.getD_cons_zero, List.getD_cons_succ, not_false_eq_true, Nat.reduceEqDiff, reduceCtorEq]
  obtain ⟨w4, v4, G1, G2, G3, G4⟩ := num_ok (m := m) (k := k) (l := l) (q := q) hm hk l2 l4 (by omega) (by simp only [tk_v, bd_v, bx_vl, bx_vr, s2s, s2k, s2j, s1s, s1k, mg_v0, mg_v1, sb_v, List.getD_cons_zero, List.getD_cons_succ, not_false_eq_true, Nat.reduceEqDiff, reduceCtorEq]; rw [h2.2.2.2.2 6 (by omega) (by omega), eq]) (by omega) hwr
  -- the class
  have K1 : f_Cod_carryRegular (nI (8 * y + x)) (nI k) tb (st2 (st2 u 0 4 sg) 0 5 (nI f)) = some (e, mg [10, 11] 0 (st2 (st2 (st2 u 0 4 sg) 0 5 (nI f)) 8 (8 * y + x) (nI r)) w4) := by
    unfold f_Cod_carryRegular
    rw [T1, bd_v, tk_v, F1, bd_v, em]
    rw [show (e, st2 (st2 (st2 u 0 4 sg) 0 5 (nI f)) 8 (8 * y + x) (nI r)).2 1 7 = nI l by simp only [tk_v, bd_v, bx_vl, bx_vr, s2s, s2k, s2j, s1s, s1k, mg_v0, mg_v1, sb_v, List.getD_cons_zero, List.getD_cons_succ, not_false_eq_true, Nat.reduceEqDiff, reduceCtorEq]; rw [h1.2.2.2.2 7 (by omega) (by omega), el], show (e, st2 (st2 (st2 u 0 4 sg) 0 5 (nI f)) 8 (8 * y + x) (nI r)).2 1 6 = nI q by simp only [tk_v, bd_v, bx_vl, bx_vr, s2s, s2k, s2j, s1s, s1k, mg_v0, mg_v1, sb_v, List.getD_cons_zero, List.getD_cons_succ, not_false_eq_true, Nat.reduceEqDiff, reduceCtorEq]; rw [h1.2.2.2.2 6 (by omega) (by omega), eq], G1, bd_v, tk_v]
  have hv4 : ∀ j, ¬ j = 13 → ¬ j = 14 → ¬ j = 15 → v4 0 j = v 0 j := fun j a1 a2 a3 => by rw [G4.2 j a1 a2 a3, s2k (by decide)]
  have hC4 : CX (sb [2, 3, 4, 5, 6, 7] (mg [10, 11] 0 (st2 (st2 (st2 u 0 4 sg) 0 5 (nI f)) 8 (8 * y + x) (nI r)) w4)) v4 := by
    refine CX_eq h3 ?_ (fun q hq => ?_) (hv4 12 (by decide) (by decide) (by decide)) (by rw [G4.1 3 (by decide) (by decide), s2k (by decide)])
    · simp only [tk_v, bd_v, bx_vl, bx_vr, s2s, s2k, s2j, s1s, s1k, mg_v0, mg_v1, sb_v, List.getD_cons_zero, List.getD_cons_succ, not_false_eq_true, Nat.reduceEqDiff, reduceCtorEq]
    · simp only [tk_v, bd_v, bx_vl, bx_vr, s2s, s2k, s2j, s1s, s1k, mg_v0, mg_v1, sb_v, List.getD_cons_zero, List.getD_cons_succ, not_false_eq_true, Nat.reduceEqDiff, reduceCtorEq, and_self]
  obtain ⟨w3, v', L1, L2, L3, L4, L5, L6⟩ := learn_ok (q := Q) (e := e) (s := nbI (nI M) (nI N) 4) (by omega) hC4 (by omega) (by omega) (by rw [hv4 5 (by decide) (by decide) (by decide)]; exact h2.2.2.2.2 4 (by omega) (by omega))
  refine ⟨mg [2, 3, 4, 5, 6, 7] 0 (mg [10, 11] 0 (st2 (st2 (st2 u 0 4 sg) 0 5 (nI f)) 8 (8 * y + x) (nI r)) w4) w3, v', ?_, ?_, ?_⟩
  · unfold J_Pas_overRegular_C_94
    rw [K1, bd_v, tk_v]
    rw [show (e, mg [10, 11] 0 (st2 (st2 (st2 u 0 4 sg) 0 5 (nI f)) 8 (8 * y + x) (nI r)) w4).2 1 4 = nbI (nI M) (nI N) 4 by simp only [tk_v, bd_v, bx_vl, bx_vr, s2s, s2k, s2j, s1s, s1k, mg_v0, mg_v1, sb_v, List.getD_cons_zero, List.getD_cons_succ, not_false_eq_true, Nat.reduceEqDiff, reduceCtorEq]; exact h1.2.2.2.2 4 (by omega) (by omega), L1, bd_v, tk_v]
  · unfold J_Mod_regular_216 J_Mod_regular_319 J_Mod_regular_341 J_Mod_regular_350
    rw [bq_v h7, T2, bd_v, tk_v]
    have h78 : st2 v 2 (8 * y + x) (nI r) 0 8 = nI l := by
      simp only [tk_v, bd_v, bx_vl, bx_vr, s2s, s2k, s2j, s1s, s1k, mg_v0, mg_v1, sb_v, List.getD_cons_zero, List.getD_cons_succ, not_false_eq_true, Nat.reduceEqDiff, reduceCtorEq]
      rw [h2.2.2.2.2 7 (by omega) (by omega), el]
    have fin : ∀ z : Int32, z = m0 → (bd (f_Mod_write z (nI k) (st2 v 2 (8 * y + x) (nI r) 0 8) (st2 v 2 (8 * y + x) (nI r))) fun w1 => tk w1 fun u2 => bd (f_Mod_learn (nI (5 * Q)) e u2) fun w1 => tk w1 fun u2 => some u2) = some v' := by
      intro z hz
      rw [hz, em, h78, G2, bd_v, tk_v, L2, bd_v, tk_v]
    by_cases g1 : tb = 0
    · rw [bq_v g1]
      rw [if_pos g1] at F4
      by_cases g2 : e < 0
      · rw [bq_v g2]
        rw [if_pos g2] at F4
        exact fin _ F4.symm
      · rw [bq_w g2]
        rw [if_neg g2] at F4
        exact fin _ F4.symm
    · rw [bq_w g1]
      rw [if_neg g1] at F4
      by_cases g2 : -e - 1 < 0
      · rw [bq_v g2]
        rw [if_pos g2] at F4
        exact fin _ F4.symm
      · rw [bq_w g2]
        rw [if_neg g2] at F4
        exact fin _ F4.symm
  · refine ⟨?_, ?_, ?_, ?_, ?_, ?_, ?_, ?_⟩
    · simp only [tk_v, bd_v, bx_vl, bx_vr, s2s, s2k, s2j, s1s, s1k, mg_v0, mg_v1, sb_v, List.getD_cons_zero, List.getD_cons_succ, not_false_eq_true, Nat.reduceEqDiff, reduceCtorEq]
      exact h1
    · rw [L6 0 (by decide)]
      exact ModW_eq h2 (fun j a1 a2 => hv4 j (by omega) (by omega) (by omega))
    · refine CX_eq L3 ?_ (fun q hq => ?_) rfl rfl
      · simp only [tk_v, bd_v, bx_vl, bx_vr, s2s, s2k, s2j, s1s, s1k, mg_v0, mg_v1, sb_v, List.getD_cons_zero, List.getD_cons_succ, not_false_eq_true, Nat.reduceEqDiff, reduceCtorEq]
      · simp only [tk_v, bd_v, bx_vl, bx_vr, s2s, s2k, s2j, s1s, s1k, mg_v0, mg_v1, sb_v, List.getD_cons_zero, List.getD_cons_succ, not_false_eq_true, Nat.reduceEqDiff, reduceCtorEq, and_self]
    · refine RbW_st q2 hx hr h4 ?_ ?_ ?_ ?_
      · simp only [tk_v, bd_v, bx_vl, bx_vr, s2s, s2k, s2j, s1s, s1k, mg_v0, mg_v1, sb_v, List.getD_cons_zero, List.getD_cons_succ, not_false_eq_true, Nat.reduceEqDiff, reduceCtorEq]
      · rw [L6 2 (by decide), G4.1 2 (by decide) (by decide)]
        simp only [tk_v, bd_v, bx_vl, bx_vr, s2s, s2k, s2j, s1s, s1k, mg_v0, mg_v1, sb_v, List.getD_cons_zero, List.getD_cons_succ, not_false_eq_true, Nat.reduceEqDiff, reduceCtorEq]
      · intro i hi
        simp only [tk_v, bd_v, bx_vl, bx_vr, s2s, s2k, s2j, s1s, s1k, mg_v0, mg_v1, sb_v, List.getD_cons_zero, List.getD_cons_succ, not_false_eq_true, Nat.reduceEqDiff, reduceCtorEq, s2j hi]
      · intro i hi
        rw [L6 2 (by decide), G4.1 2 (by decide) (by decide)]
        simp only [tk_v, bd_v, bx_vl, bx_vr, s2s, s2k, s2j, s1s, s1k, mg_v0, mg_v1, sb_v, List.getD_cons_zero, List.getD_cons_succ, not_false_eq_true, Nat.reduceEqDiff, reduceCtorEq, s2j hi]
    · rw [L6 1 (by decide), G4.1 1 (by decide) (by decide)]
      simp only [tk_v, bd_v, bx_vl, bx_vr, s2s, s2k, s2j, s1s, s1k, mg_v0, mg_v1, sb_v, List.getD_cons_zero, List.getD_cons_succ, not_false_eq_true, Nat.reduceEqDiff, reduceCtorEq]
      exact h5
    · refine WR_eq (WR_le G3 (by omega)) ?_ ?_ ?_ ?_ ?_ ?_
      · simp only [tk_v, bd_v, bx_vl, bx_vr, s2s, s2k, s2j, s1s, s1k, mg_v0, mg_v1, sb_v, List.getD_cons_zero, List.getD_cons_succ, not_false_eq_true, Nat.reduceEqDiff, reduceCtorEq]
      · simp only [tk_v, bd_v, bx_vl, bx_vr, s2s, s2k, s2j, s1s, s1k, mg_v0, mg_v1, sb_v, List.getD_cons_zero, List.getD_cons_succ, not_false_eq_true, Nat.reduceEqDiff, reduceCtorEq]
      · rw [L6 0 (by decide)]
      · rw [L6 0 (by decide)]
      · rw [L6 0 (by decide)]
      · rw [L6 4 (by decide)]
    · rw [L6 0 (by decide), hv4 16 (by decide) (by decide) (by decide)]
      exact h7
    · rw [L6 0 (by decide), hv4 20 (by decide) (by decide) (by decide)]
      exact h8
