/-! a run's end, read -/
theorem unfE_ok {m t : Nat} (hm : m ≤ 40000) (ht : t ≤ 1) {fb : Int32} (hfb : fb = 0 ∨ fb = 1) : ∃ e : Int32, f_Fol_unfoldEnd (nI m) (nI t) fb = some e ∧ (∀ (x y f sg q n : Int32) (v : gU), (tk ((nI m + nI t) - (nI m + nI t) / 2 * 2) fun x6 => tk (((nI m + nI t) + x6) / 2) fun x7 => bq (x6 = 1) (J_Mod_endRun_199 x y (nI t) f sg q n fb x7 (nI m) 1 v) (J_Mod_endRun_199 x y (nI t) f sg q n fb x7 (nI m) 0 v)) = J_Mod_endRun_212 x y (nI t) f sg q n (nI m) e v) ∧ (-128 ≤ e.toInt → e.toInt ≤ 128 → f_Fol_foldEnd e (nI t) fb = some (nI m) ∧ m ≤ 300) := by
  have h1 : nI (m + t) - nI (m + t) / 2 * 2 = nI ((m + t) % 2) := pk_rem (d := 2) (by omega) (by omega) (by omega)
  have h2 : nI (m + t) &&& 1 = nI ((m + t) % 2) := pk_andN (by omega) 1 (by decide)
  have h3 : (nI (m + t) + nI ((m + t) % 2)) / 2 = nI ((m + t + (m + t) % 2) / 2) := by
    rw [nI_add]
    exact pk_div (d := 2) (by omega) (by omega) (by omega)
  have z0 : (0 : Int32).toInt = 0 := by decide
  obtain ⟨g, hg⟩ : ∃ g, g = (m + t + (m + t) % 2) / 2 := ⟨_, rfl⟩
  have i1 := nI_toInt (n := g) (by omega)
  have i2 := i_neg (a := nI g) (by omega)
  have fin : ∀ (e : Int32) (s : Nat), s = (m + t) % 2 → abI e = nI g → flI e fb = nI s → (e.toInt = g ∨ e.toInt = -(g : Int)) → (-128 ≤ e.toInt → e.toInt ≤ 128 → f_Fol_foldEnd e (nI t) fb = some (nI m) ∧ m ≤ 300) := by
    intro e s hs ea ef ei e1 e2
    obtain ⟨kk, hkk, ek, eki⟩ := e_tab e1 e2
    obtain ⟨bb, hbb, eb⟩ : ∃ bb : Nat, bb < 2 ∧ fb = nI bb := by
      rcases hfb with rfl | rfl
      · exact ⟨0, by omega, rfl⟩
      · exact ⟨1, by omega, rfl⟩
    obtain ⟨F1, -, -⟩ := fend_tb kk hkk t (by omega) bb hbb (fun ht1 hk1 => by omega)
    rw [← ek, ← eb, ea, ef, show (2 : Int32) * nI g = nI (2 * g) from pk_mul 2 g, pk_sub (by omega), pk_sub (by omega)] at F1
    refine ⟨?_, by omega⟩
    rw [F1]
    congr 2
    omega
  have hab1 : abI (nI g) = nI g := by
    unfold abI
    rw [if_pos (by rw [i_le, z0]; omega)]
  have hab2 : abI (-nI g) = nI g := by
    unfold abI
    by_cases g0 : g = 0
    · rw [if_pos (by rw [i_le, z0]; omega), i_eq]
      omega
    · rw [if_neg (by rw [i_le, z0]; omega), i_eq, i_sub (by omega) (by omega), i2, z0]
      omega
  unfold f_Fol_unfoldEnd J_Fol_unfoldEnd_25 J_Mod_endRun_199
  rw [tk_v, tk_v, nI_add, h1, h2, h3, ← hg]
  simp only [tk_v]
  rw [h3, ← hg]
  rcases (by omega : (m + t) % 2 = 0 ∨ (m + t) % 2 = 1) with gs | gs
  · rw [gs]
    rw [bq_w (show ¬ nI 0 = (1 : Int32) by decide)]
    simp only [bq_w (show ¬ nI 0 = (1 : Int32) by decide)]
    rcases hfb with rfl | rfl
    · rw [bq_v rfl]
      refine ⟨_, rfl, fun x y f sg q n v => by rw [bq_v rfl], fin _ 0 gs.symm hab2 ?_ (Or.inr (by omega))⟩
      unfold flI
      by_cases g0 : -nI g = 0
      · rw [if_pos g0]
        rfl
      · rw [if_neg g0]
        rw [i_eq, z0] at g0
        rw [if_neg (by rw [i_le, z0]; omega), if_pos rfl]
        rfl
    · rw [bq_w (by decide)]
      refine ⟨_, rfl, fun x y f sg q n v => by rw [bq_w (by decide)], fin _ 0 gs.symm hab1 ?_ (Or.inl (by omega))⟩
      unfold flI
      by_cases g0 : nI g = 0
      · rw [if_pos g0]
        rfl
      · rw [if_neg g0, if_pos (by rw [i_le, z0]; omega), if_neg (by decide)]
        rfl
  · rw [gs]
    rw [bq_v (show nI 1 = (1 : Int32) by decide)]
    simp only [bq_v (show nI 1 = (1 : Int32) by decide)]
    rcases hfb with rfl | rfl
    · rw [bq_w (by decide)]
      refine ⟨_, rfl, fun x y f sg q n v => by rw [bq_w (by decide)], fin _ 1 gs.symm hab1 ?_ (Or.inl (by omega))⟩
      unfold flI
      rw [if_neg (by rw [i_eq, z0]; omega), if_pos (by rw [i_le, z0]; omega), if_pos rfl]
      rfl
    · rw [bq_v rfl]
      refine ⟨_, rfl, fun x y f sg q n v => by rw [bq_v rfl], fin _ 1 gs.symm hab2 ?_ (Or.inr (by omega))⟩
      unfold flI
      rw [if_neg (by rw [i_eq, z0]; omega), if_neg (by rw [i_le, z0]; omega), if_neg (by decide)]
      rfl
theorem l301_any {t : Nat} (ht : t ≤ 1) {u v : gU} (h : CX u v) {v1 : gU} (h3 : v1 3 = v 3) (h12 : v1 0 12 = v 0 12) (e w : Int32) : ∃ v' : gU, J_Mod_endRun_301 (nI t) (nI (5 * (365 + t))) (u 4 (365 + t)) e w v1 = some v' ∧ FG v1 v' ∧ v' 0 20 = v1 0 20 := by
  obtain ⟨c1, c2, c3, c4, c5, c6, c7, c8, c9, c10, c11⟩ := h.2.2.2 (365 + t) (by omega)
  obtain ⟨v', a1, a2⟩ := lend_any (v := v1) (q := 365 + t) (e := e) (w := w) (t := nI t) (N := u 4 (365 + t)) (by omega) (by rw [h12, ← h.1]; exact h.2.1) (by rw [h3, c4])
  exact ⟨v', a1, ⟨fun k hk => a2.1 k (by omega) (by omega), a2.2.1 13 (by decide)⟩, a2.2.1 20 (by decide)⟩
theorem end_de {W H M N x y a b : Nat} (hP : PN W H M N) {u v : gU} (h : DK W H M N u v) (hR : RB W M x y u v) (hx : x < W) (hy : y < H) (ha1 : a ≤ M) (hb1 : b ≤ M) (ha : u 0 0 = nI a) (hb : u 0 1 = nI b) (A : f_Mod_before (nI x) (nI y) v = some (nI a)) (B : f_Mod_above (nI x) (nI y) v = some (nI b)) {j : Nat} (hj : j ≤ 15) (J1 : f_Ctx_j (sb [2, 3, 4, 5, 6, 7] u) = some (nI j)) : OC (f_Pas_overEnd_R (nI (8 * y + x)) u) (f_Mod_endRun (nI x) (nI y) (nI j) v) (fun u' v' => DK W H M N u' v' ∧ RB W M (x + 1) y u' v' ∧ FG v v') (fun v' => BD v v') := by
  have h' := h
  obtain ⟨h1, h2, h3, h4, h5, h6, h7⟩ := h'
  have hP' := hP
  obtain ⟨q1, q2, q3, q4, q5, q6, q7, q8⟩ := hP'
  obtain ⟨t, k, f, sg, fb, ht, hk, hf, hsg, hfb, htf, E1, E2⟩ := end_pre_R (p := nI (8 * y + x)) (j := nI j) hP ha1 hb1 ha hb h1 h2 h3 A B
  rw [E1, E2]
  obtain ⟨l, q, el, eq, l1, l2, l3, l4, l5⟩ := nb_nat hP
  have hlim : nI l - nI j - 1 = nI (l - j - 1) := by
    rw [pk_sub (by omega)]
    exact pk_sub (b := 1) (by omega)
  have n16 : ¬ v 0 16 = 0 := by rw [h5]; decide
  have v08 : v 0 8 = nI l := by rw [h2.2.2.2.2 7 (by omega) (by omega), el]
  have v07 : v 0 7 = nI q := by rw [h2.2.2.2.2 6 (by omega) (by omega), eq]
  have u17 : st2 (st2 u 0 5 (nI f)) 0 4 sg 1 7 = nI l := by simp only [tk_v, bd_v, bx_vl, bx_vr, s2s, s2k, s2j, s1s, s1k, mg_v0, mg_v1, sb_v, List.getD_cons_zero, List.getD_cons_succ, not_false_eq_true, Nat.reduceEqDiff, reduceCtorEq]; rw [h1.2.2.2.2 7 (by omega) (by omega), el]
  have u16 : st2 (st2 u 0 5 (nI f)) 0 4 sg 1 6 = nI q := by simp only [tk_v, bd_v, bx_vl, bx_vr, s2s, s2k, s2j, s1s, s1k, mg_v0, mg_v1, sb_v, List.getD_cons_zero, List.getD_cons_succ, not_false_eq_true, Nat.reduceEqDiff, reduceCtorEq]; rw [h1.2.2.2.2 6 (by omega) (by omega), eq]
  have hRD : RD (sb [9, 10] (st2 (st2 u 0 5 (nI f)) 0 4 sg)) v := by
    refine RD_eq h4 ?_ ?_ rfl rfl rfl rfl rfl <;> simp only [tk_v, bd_v, bx_vl, bx_vr, s2s, s2k, s2j, s1s, s1k, mg_v0, mg_v1, sb_v, List.getD_cons_zero, List.getD_cons_succ, not_false_eq_true, Nat.reduceEqDiff, reduceCtorEq]
  have JJ : f_Ctx_j (sb [2, 3, 4, 5, 6, 7] (st2 (st2 u 0 5 (nI f)) 0 4 sg)) = some (nI j) := by
    have : f_Ctx_j (sb [2, 3, 4, 5, 6, 7] (st2 (st2 u 0 5 (nI f)) 0 4 sg)) = f_Ctx_j (sb [2, 3, 4, 5, 6, 7] u) := by
      unfold f_Ctx_j
      simp only [tk_v, bd_v, bx_vl, bx_vr, s2s, s2k, s2j, s1s, s1k, mg_v0, mg_v1, sb_v, List.getD_cons_zero, List.getD_cons_succ, not_false_eq_true, Nat.reduceEqDiff, reduceCtorEq]
    rw [this, J1]
  unfold J_Pas_overEnd_R_106 f_Rdg_carryEnd J_Mod_endRun_138
  rw [limE_R]
  unfold f_Pas_limitOfEnd_C
  rw [JJ, bd_v, bd_v, tk_v, bq_w n16, v08, u17, u16, hlim]
  rcases rnum_ok (k := k) (l := l - j - 1) hk l4 (by omega) (by omega) hRD h6 v07 with ⟨⟨m', w1⟩, ⟨m'', v1⟩, a1, a2, ⟨m, hm, a3, a4⟩, a5, a6⟩ | ⟨w1, ⟨r, v1⟩, a1, a2, a3⟩
  · dsimp only at a3 a4 a5 a6
    subst a3
    subst a4
    obtain ⟨e, F1, F2, F3⟩ := unfE_ok hm ht hfb
    rw [a1, bd_v, bx_vr, tk_v, F1, bd_v, a2, bd_v, tk_v, F2]
    have hu1 : PicW W H M N (mg [9, 10] 0 (st2 (st2 u 0 5 (nI f)) 0 4 sg) w1 1) := by simp only [tk_v, bd_v, bx_vl, bx_vr, s2s, s2k, s2j, s1s, s1k, mg_v0, mg_v1, sb_v, List.getD_cons_zero, List.getD_cons_succ, not_false_eq_true, Nat.reduceEqDiff, reduceCtorEq]; exact h1
    have hv1 : ModW W H M N (v1 0) := ModW_eq h2 (fun j j1 j2 => a6.2 j (by omega) (by omega) (by omega))
    have hC1 : CX (sb [2, 3, 4, 5, 6, 7] u) v1 := CX_eq h3 rfl (fun q _ => ⟨rfl, rfl, rfl, rfl, rfl⟩) (a6.2 12 (by decide) (by decide) (by decide)) (a6.1 3 (by decide))
    rcases reb_ok (x := x) (y := y) (f := f) (sg := sg) (e := e) hP (by omega) (by omega) (u := mg [9, 10] 0 (st2 (st2 u 0 5 (nI f)) 0 4 sg) w1) (v := v1) (by simp only [tk_v, bd_v, bx_vl, bx_vr, s2s, s2k, s2j, s1s, s1k, mg_v0, mg_v1, sb_v, List.getD_cons_zero, List.getD_cons_succ, not_false_eq_true, Nat.reduceEqDiff, reduceCtorEq]) (by simp only [tk_v, bd_v, bx_vl, bx_vr, s2s, s2k, s2j, s1s, s1k, mg_v0, mg_v1, sb_v, List.getD_cons_zero, List.getD_cons_succ, not_false_eq_true, Nat.reduceEqDiff, reduceCtorEq]) hu1 hv1 with ⟨r, hr, e1, e2, T1, T2⟩ | ⟨v2, T1, T2, T3, T4, T5⟩
    · obtain ⟨F4, F5⟩ := F3 e1 e2
      have hC2 : CX (sb [2, 3, 4, 5, 6, 7] (st2 (mg [9, 10] 0 (st2 (st2 u 0 5 (nI f)) 0 4 sg) w1) 8 (8 * y + x) (nI r))) (st2 (st2 v1 2 (8 * y + x) (nI r)) 1 (8 * y + x) (nI r)) := by
        refine CX_eq hC1 ?_ (fun q hq => ?_) (by rw [s2k (by decide), s2k (by decide)]) (by rw [s2k (by decide), s2k (by decide)])
        · simp only [tk_v, bd_v, bx_vl, bx_vr, s2s, s2k, s2j, s1s, s1k, mg_v0, mg_v1, sb_v, List.getD_cons_zero, List.getD_cons_succ, not_false_eq_true, Nat.reduceEqDiff, reduceCtorEq]
        · simp only [tk_v, bd_v, bx_vl, bx_vr, s2s, s2k, s2j, s1s, s1k, mg_v0, mg_v1, sb_v, List.getD_cons_zero, List.getD_cons_succ, not_false_eq_true, Nat.reduceEqDiff, reduceCtorEq, and_self]
      have hmi := nI_toInt (n := m) (by omega)
      obtain ⟨w5, w5', v', L1, L2, L3, L4, L5, L6, L7⟩ := lend_ok (t := t) (e := e) (w := nI m) ht hC2 (by omega) (by omega)
      obtain ⟨w5'', o1, o2, o3⟩ := low_ok w5
      rw [o1] at L2
      obtain rfl : w5'' = w5' := Option.some.inj L2
      obtain ⟨w6, p1, p2, p3⟩ := low_ok (sb [2, 3, 4, 5, 6, 7] (mg [2, 3, 4, 5, 6, 7] 0 (st2 (mg [9, 10] 0 (st2 (st2 u 0 5 (nI f)) 0 4 sg) w1) 8 (8 * y + x) (nI r)) w5))
      refine Or.inl ⟨mg [2, 3, 4, 5, 6, 7] 0 (mg [2, 3, 4, 5, 6, 7] 0 (st2 (mg [9, 10] 0 (st2 (st2 u 0 5 (nI f)) 0 4 sg) w1) 8 (8 * y + x) (nI r)) w5) w6, v', ?_, ?_, ⟨?_, ?_, ?_, ?_, ?_, ?_, ?_⟩, ?_, ⟨fun k hk => ?_, ?_⟩⟩
      · rw [T1, bd_v, bx_vr, tk_v, bd_v, bx_vr, tk_v, F4, bd_v, L1, bd_v, tk_v, p1, bd_v, tk_v]
      · unfold J_Mod_endRun_212
        rw [T2, bd_v, tk_v]
        rw [show sb [2, 3, 4, 5, 6, 7] (st2 (mg [9, 10] 0 (st2 (st2 u 0 5 (nI f)) 0 4 sg) w1) 8 (8 * y + x) (nI r)) 4 (365 + t) = u 6 (365 + t) by simp only [tk_v, bd_v, bx_vl, bx_vr, s2s, s2k, s2j, s1s, s1k, mg_v0, mg_v1, sb_v, List.getD_cons_zero, List.getD_cons_succ, not_false_eq_true, Nat.reduceEqDiff, reduceCtorEq]] at L3
        exact L3
      · simp only [tk_v, bd_v, bx_vl, bx_vr, s2s, s2k, s2j, s1s, s1k, mg_v0, mg_v1, sb_v, List.getD_cons_zero, List.getD_cons_succ, not_false_eq_true, Nat.reduceEqDiff, reduceCtorEq]
        exact h1
      · refine ModW_eq hv1 (fun j a1 a2 => ?_)
        rw [L7 j (by omega), s2k (by decide), s2k (by decide)]
      · refine CX_eq L4 ?_ (fun q hq => ?_) rfl rfl
        · simp only [tk_v, bd_v, bx_vl, bx_vr, s2s, s2k, s2j, s1s, s1k, mg_v0, mg_v1, sb_v, List.getD_cons_zero, List.getD_cons_succ, not_false_eq_true, Nat.reduceEqDiff, reduceCtorEq]
          rw [p2, o2]
          simp only [tk_v, bd_v, bx_vl, bx_vr, s2s, s2k, s2j, s1s, s1k, mg_v0, mg_v1, sb_v, List.getD_cons_zero, List.getD_cons_succ, not_false_eq_true, Nat.reduceEqDiff, reduceCtorEq]
        · simp only [tk_v, bd_v, bx_vl, bx_vr, s2s, s2k, s2j, s1s, s1k, mg_v0, mg_v1, sb_v, List.getD_cons_zero, List.getD_cons_succ, not_false_eq_true, Nat.reduceEqDiff, reduceCtorEq]
          rw [p3 1 (by decide), p3 2 (by decide), p3 3 (by decide), p3 4 (by decide), p3 5 (by decide), o3 1 (by decide), o3 2 (by decide), o3 3 (by decide), o3 4 (by decide), o3 5 (by decide)]
          simp only [tk_v, bd_v, bx_vl, bx_vr, s2s, s2k, s2j, s1s, s1k, mg_v0, mg_v1, sb_v, List.getD_cons_zero, List.getD_cons_succ, not_false_eq_true, Nat.reduceEqDiff, reduceCtorEq, and_self]
      · refine RD_eq a5 ?_ ?_ ?_ ?_ ?_ ?_ ?_
        · simp only [tk_v, bd_v, bx_vl, bx_vr, s2s, s2k, s2j, s1s, s1k, mg_v0, mg_v1, sb_v, List.getD_cons_zero, List.getD_cons_succ, not_false_eq_true, Nat.reduceEqDiff, reduceCtorEq]
        · simp only [tk_v, bd_v, bx_vl, bx_vr, s2s, s2k, s2j, s1s, s1k, mg_v0, mg_v1, sb_v, List.getD_cons_zero, List.getD_cons_succ, not_false_eq_true, Nat.reduceEqDiff, reduceCtorEq]
        · rw [L7 13 (by decide), s2k (by decide), s2k (by decide)]
        · rw [L7 17 (by decide), s2k (by decide), s2k (by decide)]
        · rw [L7 18 (by decide), s2k (by decide), s2k (by decide)]
        · rw [L7 19 (by decide), s2k (by decide), s2k (by decide)]
        · rw [L6 4 (by decide) (by decide), s2k (by decide), s2k (by decide)]
      · rw [L7 16 (by decide), s2k (by decide), s2k (by decide), a6.2 16 (by decide) (by decide) (by decide), h5]
      · rw [L7 20 (by decide), s2k (by decide), s2k (by decide), a6.2 20 (by decide) (by decide) (by decide), h6]
      · rw [L7 0 (by decide), s2k (by decide), s2k (by decide), a6.2 0 (by decide) (by decide) (by decide), h7]
      · refine RB_st (v := v1) q2 hx hr ⟨?_, ?_⟩ ?_ ?_ ?_ (u := mg [9, 10] 0 (st2 (st2 u 0 5 (nI f)) 0 4 sg) w1)
        · rw [a6.1 2 (by decide)]
          simp only [tk_v, bd_v, bx_vl, bx_vr, s2s, s2k, s2j, s1s, s1k, mg_v0, mg_v1, sb_v, List.getD_cons_zero, List.getD_cons_succ, not_false_eq_true, Nat.reduceEqDiff, reduceCtorEq]
          exact hR.1
        · rw [a6.1 1 (by decide)]
          simp only [tk_v, bd_v, bx_vl, bx_vr, s2s, s2k, s2j, s1s, s1k, mg_v0, mg_v1, sb_v, List.getD_cons_zero, List.getD_cons_succ, not_false_eq_true, Nat.reduceEqDiff, reduceCtorEq]
          exact hR.2
        · simp only [tk_v, bd_v, bx_vl, bx_vr, s2s, s2k, s2j, s1s, s1k, mg_v0, mg_v1, sb_v, List.getD_cons_zero, List.getD_cons_succ, not_false_eq_true, Nat.reduceEqDiff, reduceCtorEq]
        · rw [L6 2 (by decide) (by decide), s2k (by decide)]
        · rw [L6 1 (by decide) (by decide), s2u, s2u, s2k (by decide)]
      · rw [L6 k (by omega) (by omega), s2k (by omega), s2k (by omega), a6.1 k (by omega)]
      · rw [L7 13 (by decide), s2k (by decide), s2k (by decide), a6.2 13 (by decide) (by decide) (by decide)]
    · obtain ⟨v3, b1, b2, b3⟩ := l301_any ht hC1 (v1 := v2) (T4 3 (by omega)) (T5 12 (by decide)) e (nI m)
      refine Or.inr ⟨mg [9, 10] 0 (st2 (st2 u 0 5 (nI f)) 0 4 sg) w1, v3, ?_, ?_, ⟨fun k hk => ?_, ?_⟩, ?_⟩
      · rw [T1, bd_v, bx_vl, bd_v, bx_vl]
      · unfold J_Mod_endRun_212
        rw [T2, bd_v, tk_v]
        exact b1
      · rw [b2.1 k (by omega), T4 k (by omega), a6.1 k (by omega)]
      · rw [b2.2, T5 13 (by decide), a6.2 13 (by decide) (by decide) (by decide)]
      · rw [b3, T3]
  · dsimp only at a3
    rw [a1, bd_v, bx_vl, bd_v, bx_vl, a2, bd_v, tk_v]
    have key : ∃ e : Int32, (tk ((r + nI t) - (r + nI t) / 2 * 2) fun x6 => tk (((r + nI t) + x6) / 2) fun x7 => bq (x6 = 1) (J_Mod_endRun_199 (nI x) (nI y) (nI t) (nI f) sg (nI (5 * (365 + t))) (u 6 (365 + t)) fb x7 r 1 v1) (J_Mod_endRun_199 (nI x) (nI y) (nI t) (nI f) sg (nI (5 * (365 + t))) (u 6 (365 + t)) fb x7 r 0 v1)) = J_Mod_endRun_212 (nI x) (nI y) (nI t) (nI f) sg (nI (5 * (365 + t))) (u 6 (365 + t)) r e v1 := by
      unfold J_Mod_endRun_199
      rw [tk_v, tk_v]
      by_cases g1 : ((r + nI t) - (r + nI t) / 2 * 2) = 1
      · rw [bq_v g1]
        by_cases g2 : 1 = fb
        · exact ⟨_, bq_v g2⟩
        · exact ⟨_, bq_w g2⟩
      · rw [bq_w g1]
        by_cases g2 : 0 = fb
        · exact ⟨_, bq_v g2⟩
        · exact ⟨_, bq_w g2⟩
    obtain ⟨e, he⟩ := key
    obtain ⟨v2, c1, c2, c3, c4⟩ := set_any (x := x) (y := y) (by omega) (by omega) (nI f) sg e v1
    obtain ⟨v3, b1, b2, b3⟩ := l301_any ht h3 (v1 := v2) (by rw [c2 3 (by omega), a3.1 3 (by decide)]) (by rw [c3 12 (by decide), a3.2.1 12 (by decide) (by decide) (by decide) (by decide)]) e r
    refine Or.inr ⟨_, v3, rfl, he.trans ?_, ⟨fun k hk => ?_, ?_⟩, ?_⟩
    · unfold J_Mod_endRun_212
      rw [c1, bd_v, tk_v]
      exact b1
    · rw [b2.1 k (by omega), c2 k (by omega), a3.1 k (by omega)]
    · rw [b2.2, c3 13 (by decide), a3.2.1 13 (by decide) (by decide) (by decide) (by decide)]
    · rw [b3, c4 a3.2.2]
