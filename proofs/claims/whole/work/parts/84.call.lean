/-! the call decode, put together -/
theorem sb13 (x : gU) : ∀ k, k < 11 → sb [13, 14, 15, 16, 17, 18, 19, 20, 21, 22, 23, 11, 12] x k = x (13 + k) := by
  intro k hk
  have hc : k = 0 ∨ k = 1 ∨ k = 2 ∨ k = 3 ∨ k = 4 ∨ k = 5 ∨ k = 6 ∨ k = 7 ∨ k = 8 ∨ k = 9 ∨ k = 10 := by omega
  rcases hc with rfl | rfl | rfl | rfl | rfl | rfl | rfl | rfl | rfl | rfl | rfl <;> simp only [tk_v, bd_v, bx_vl, bx_vr, s2s, s2k, s2j, s1s, s1k, mg_v0, mg_v1, sb_v, List.getD_cons_zero, List.getD_cons_succ, not_false_eq_true, Nat.reduceEqDiff, reduceCtorEq, Nat.reduceAdd]
theorem mg13 (x w : gU) : ∀ k, k < 11 → mg [13, 14, 15, 16, 17, 18, 19, 20, 21, 22, 23, 11, 12] 0 x w (13 + k) = w k := by
  intro k hk
  have hc : k = 0 ∨ k = 1 ∨ k = 2 ∨ k = 3 ∨ k = 4 ∨ k = 5 ∨ k = 6 ∨ k = 7 ∨ k = 8 ∨ k = 9 ∨ k = 10 := by omega
  rcases hc with rfl | rfl | rfl | rfl | rfl | rfl | rfl | rfl | rfl | rfl | rfl <;> simp only [tk_v, bd_v, bx_vl, bx_vr, s2s, s2k, s2j, s1s, s1k, mg_v0, mg_v1, sb_v, List.getD_cons_zero, List.getD_cons_succ, not_false_eq_true, Nat.reduceEqDiff, reduceCtorEq, Nat.reduceAdd]
theorem mg13b (x w : gU) : mg [13, 14, 15, 16, 17, 18, 19, 20, 21, 22, 23, 11, 12] 0 x w 11 = w 11 ∧ mg [13, 14, 15, 16, 17, 18, 19, 20, 21, 22, 23, 11, 12] 0 x w 12 = w 12 := by
  constructor <;> simp only [tk_v, bd_v, bx_vl, bx_vr, s2s, s2k, s2j, s1s, s1k, mg_v0, mg_v1, sb_v, List.getD_cons_zero, List.getD_cons_succ, not_false_eq_true, Nat.reduceEqDiff, reduceCtorEq, Nat.reduceAdd]
theorem mg13c (x w : gU) {k : Nat} (h : k ≤ 10) : mg [13, 14, 15, 16, 17, 18, 19, 20, 21, 22, 23, 11, 12] 0 x w k = x k := by
  simp only [mg_v1, mg_v0]
  rw [s1k (by omega), s1k (by omega), s1k (by omega), s1k (by omega), s1k (by omega), s1k (by omega), s1k (by omega), s1k (by omega), s1k (by omega), s1k (by omega), s1k (by omega), s1k (by omega), s1k (by omega)]
theorem sb11 (x : gU) : ∀ k, k < 11 → sb [13, 14, 15, 16, 17, 18, 19, 20, 21, 22, 23] x k = x (13 + k) := by
  intro k hk
  have hc : k = 0 ∨ k = 1 ∨ k = 2 ∨ k = 3 ∨ k = 4 ∨ k = 5 ∨ k = 6 ∨ k = 7 ∨ k = 8 ∨ k = 9 ∨ k = 10 := by omega
  rcases hc with rfl | rfl | rfl | rfl | rfl | rfl | rfl | rfl | rfl | rfl | rfl <;> simp only [tk_v, bd_v, bx_vl, bx_vr, s2s, s2k, s2j, s1s, s1k, mg_v0, mg_v1, sb_v, List.getD_cons_zero, List.getD_cons_succ, not_false_eq_true, Nat.reduceEqDiff, reduceCtorEq, Nat.reduceAdd]
theorem mg11 (x w : gU) : ∀ k, k < 11 → mg [13, 14, 15, 16, 17, 18, 19, 20, 21, 22, 23] 0 x w (13 + k) = w k := by
  intro k hk
  have hc : k = 0 ∨ k = 1 ∨ k = 2 ∨ k = 3 ∨ k = 4 ∨ k = 5 ∨ k = 6 ∨ k = 7 ∨ k = 8 ∨ k = 9 ∨ k = 10 := by omega
  rcases hc with rfl | rfl | rfl | rfl | rfl | rfl | rfl | rfl | rfl | rfl | rfl <;> simp only [tk_v, bd_v, bx_vl, bx_vr, s2s, s2k, s2j, s1s, s1k, mg_v0, mg_v1, sb_v, List.getD_cons_zero, List.getD_cons_succ, not_false_eq_true, Nat.reduceEqDiff, reduceCtorEq, Nat.reduceAdd]
theorem mg11c (x w : gU) {k : Nat} (h : k ≤ 12) : mg [13, 14, 15, 16, 17, 18, 19, 20, 21, 22, 23] 0 x w k = x k := by
  simp only [mg_v1, mg_v0]
  rw [s1k (by omega), s1k (by omega), s1k (by omega), s1k (by omega), s1k (by omega), s1k (by omega), s1k (by omega), s1k (by omega), s1k (by omega), s1k (by omega), s1k (by omega)]
theorem sb23 (x : gU) : ∀ k, k < 23 → sb [1, 2, 3, 4, 5, 6, 7, 8, 9, 10, 11, 12, 13, 14, 15, 16, 17, 18, 19, 20, 21, 22, 23] x k = x (k + 1) := by
  intro k hk
  have hc : k = 0 ∨ k = 1 ∨ k = 2 ∨ k = 3 ∨ k = 4 ∨ k = 5 ∨ k = 6 ∨ k = 7 ∨ k = 8 ∨ k = 9 ∨ k = 10 ∨ k = 11 ∨ k = 12 ∨ k = 13 ∨ k = 14 ∨ k = 15 ∨ k = 16 ∨ k = 17 ∨ k = 18 ∨ k = 19 ∨ k = 20 ∨ k = 21 ∨ k = 22 := by omega
  rcases hc with rfl | rfl | rfl | rfl | rfl | rfl | rfl | rfl | rfl | rfl | rfl | rfl | rfl | rfl | rfl | rfl | rfl | rfl | rfl | rfl | rfl | rfl | rfl <;> simp only [tk_v, bd_v, bx_vl, bx_vr, s2s, s2k, s2j, s1s, s1k, mg_v0, mg_v1, sb_v, List.getD_cons_zero, List.getD_cons_succ, not_false_eq_true, Nat.reduceEqDiff, reduceCtorEq, Nat.reduceAdd]
theorem mg23 (x w : gU) : ∀ k, k < 23 → mg [1, 2, 3, 4, 5, 6, 7, 8, 9, 10, 11, 12, 13, 14, 15, 16, 17, 18, 19, 20, 21, 22, 23] 0 x w (k + 1) = w k := by
  intro k hk
  have hc : k = 0 ∨ k = 1 ∨ k = 2 ∨ k = 3 ∨ k = 4 ∨ k = 5 ∨ k = 6 ∨ k = 7 ∨ k = 8 ∨ k = 9 ∨ k = 10 ∨ k = 11 ∨ k = 12 ∨ k = 13 ∨ k = 14 ∨ k = 15 ∨ k = 16 ∨ k = 17 ∨ k = 18 ∨ k = 19 ∨ k = 20 ∨ k = 21 ∨ k = 22 := by omega
  rcases hc with rfl | rfl | rfl | rfl | rfl | rfl | rfl | rfl | rfl | rfl | rfl | rfl | rfl | rfl | rfl | rfl | rfl | rfl | rfl | rfl | rfl | rfl | rfl <;> simp only [tk_v, bd_v, bx_vl, bx_vr, s2s, s2k, s2j, s1s, s1k, mg_v0, mg_v1, sb_v, List.getD_cons_zero, List.getD_cons_succ, not_false_eq_true, Nat.reduceEqDiff, reduceCtorEq, Nat.reduceAdd]
theorem Inv_x {x x' y : gU} {W H M N z : Nat} (h : Inv1 W H M N z x y) (e : ∀ k, 1 ≤ k → k ≤ 12 → x' k = x k) : Inv1 W H M N z x' y := by
  obtain ⟨hP, g1, g2, g3, g4, g5, g6, g7, g8⟩ := h
  refine ⟨hP, by rw [e 2 (by omega) (by omega)]; exact g1, g2, CX_eq g3 ?_ (fun q hq => ?_) rfl rfl, by rw [e 9 (by omega) (by omega), e 10 (by omega) (by omega)]; exact g4, g5, by rw [e 11 (by omega) (by omega)]; exact g6, g7, by rw [e 12 (by omega) (by omega)]; exact g8⟩
  · simp only [tk_v, bd_v, bx_vl, bx_vr, s2s, s2k, s2j, s1s, s1k, mg_v0, mg_v1, sb_v, List.getD_cons_zero, List.getD_cons_succ, not_false_eq_true, Nat.reduceEqDiff, reduceCtorEq]
    rw [e 3 (by omega) (by omega)]
  · simp only [tk_v, bd_v, bx_vl, bx_vr, s2s, s2k, s2j, s1s, s1k, mg_v0, mg_v1, sb_v, List.getD_cons_zero, List.getD_cons_succ, not_false_eq_true, Nat.reduceEqDiff, reduceCtorEq]
    rw [e 4 (by omega) (by omega), e 5 (by omega) (by omega), e 6 (by omega) (by omega), e 7 (by omega) (by omega), e 8 (by omega) (by omega)]
    exact ⟨rfl, rfl, rfl, rfl, rfl⟩
def mhd (u1 : gU) : Option (Int32 × gU) := bq ((u1 0 13) < 8) (J_Mod_decode_72  u1) (bq ((u1 4 (tc 0)) = 255) (bq ((u1 4 (tc 1)) = 216) (bd (f_Mod_fits (u1 4 (tc 2)) (u1 4 (tc 3)) (u1 4 (tc 4)) (u1 4 (tc 5))) fun x2 => bq (x2 = 0) (J_Mod_decode_72  u1) (J_Mod_decode_73 1 u1)) (J_Mod_decode_72  u1)) (J_Mod_decode_72  u1))
theorem head_de {z : Nat} {X y0 : gU} (hz : z ≤ 512) (e1 : X 11 0 = nI z) (e2 : y0 0 13 = nI z) (hB : BytW z (X 12) (y0 4)) : (∃ u : gU, f_Rdg_readHead X = some (.inl u) ∧ u 11 = X 11 ∧ u 12 = X 12 ∧ mhd y0 = J_Mod_decode_72 y0) ∨ (∃ (W H M N : Nat) (u : gU), PN W H M N ∧ 8 ≤ z ∧ f_Rdg_readHead X = some (.inr u) ∧ PicW W H M N (u 1) ∧ u 11 = X 11 ∧ u 12 = X 12 ∧ u 9 0 = nI (z - 2) ∧ u 9 1 = nI 6 ∧ u 9 2 = nI 0 ∧ BytW z (u 10) (y0 4) ∧ mhd y0 = J_Mod_decode_73 1 y0 ∧ y0 4 2 = nI W ∧ y0 4 3 = nI H ∧ y0 4 4 = nI M ∧ y0 4 5 = nI N) := by
  have c0 : tc (0 : Int32) = 0 := tc_n (n := 0) (by omega)
  have c1 : tc (1 : Int32) = 1 := tc_n (n := 1) (by omega)
  have c2 : tc (2 : Int32) = 2 := tc_n (n := 2) (by omega)
  have c3 : tc (3 : Int32) = 3 := tc_n (n := 3) (by omega)
  have c4 : tc (4 : Int32) = 4 := tc_n (n := 4) (by omega)
  have c5 : tc (5 : Int32) = 5 := tc_n (n := 5) (by omega)
  unfold mhd f_Rdg_readHead f_Rea_open
  rw [e1, e2, c0, c1, c2, c3, c4, c5]
  by_cases h8 : 8 ≤ z
  · have hz2 : nI z - 2 = nI (z - 2) := pk_sub (b := 2) (by omega)
    rw [bq_v (show (8 : Int32) ≤ nI z from nI_le (a := 8) h8 (by omega)), bq_w (show ¬ nI z < (8 : Int32) from nI_nlt (b := 8) h8 (by omega)), tc_n (show z < 2 ^ 31 by omega), gd_v ⟨nI_pos (by omega), hz, hz⟩, hz2]
    simp only [tk_v, bd_v, bx_vr]
    have F : ∃ u4 : gU, mg [9, 10, 12] 0 X (st2 (st2 (st2 (st1 (sb [9, 10, 12] X) 1 (va_cpy (sb [9, 10, 12] X 2) (sb [9, 10, 12] X 1) 0 0 z)) 0 0 (nI (z - 2))) 0 1 6) 0 2 0) = u4 ∧ u4 11 = X 11 ∧ u4 12 = X 12 ∧ u4 9 0 = nI (z - 2) ∧ u4 9 1 = nI 6 ∧ u4 9 2 = nI 0 ∧ (∀ k, k < z → u4 10 k = X 12 k) := by
      refine ⟨_, rfl, ?_, ?_, ?_, ?_, ?_, fun k hk => ?_⟩
      · simp only [tk_v, bd_v, bx_vl, bx_vr, s2s, s2k, s2j, s1s, s1k, mg_v0, mg_v1, sb_v, List.getD_cons_zero, List.getD_cons_succ, not_false_eq_true, Nat.reduceEqDiff, reduceCtorEq, Nat.reduceAdd]
      · simp only [tk_v, bd_v, bx_vl, bx_vr, s2s, s2k, s2j, s1s, s1k, mg_v0, mg_v1, sb_v, List.getD_cons_zero, List.getD_cons_succ, not_false_eq_true, Nat.reduceEqDiff, reduceCtorEq, Nat.reduceAdd]
      · simp only [tk_v, bd_v, bx_vl, bx_vr, s2s, s2k, s2j, s1s, s1k, mg_v0, mg_v1, sb_v, List.getD_cons_zero, List.getD_cons_succ, not_false_eq_true, Nat.reduceEqDiff, reduceCtorEq, Nat.reduceAdd]
      · simp only [tk_v, bd_v, bx_vl, bx_vr, s2s, s2k, s2j, s1s, s1k, mg_v0, mg_v1, sb_v, List.getD_cons_zero, List.getD_cons_succ, not_false_eq_true, Nat.reduceEqDiff, reduceCtorEq, Nat.reduceAdd]
        rfl
      · simp only [tk_v, bd_v, bx_vl, bx_vr, s2s, s2k, s2j, s1s, s1k, mg_v0, mg_v1, sb_v, List.getD_cons_zero, List.getD_cons_succ, not_false_eq_true, Nat.reduceEqDiff, reduceCtorEq, Nat.reduceAdd]
        rfl
      · simp only [tk_v, bd_v, bx_vl, bx_vr, s2s, s2k, s2j, s1s, s1k, mg_v0, mg_v1, sb_v, List.getD_cons_zero, List.getD_cons_succ, not_false_eq_true, Nat.reduceEqDiff, reduceCtorEq, Nat.reduceAdd, cpy_v hk]
    obtain ⟨u4, eu, f1, f2, f3, f4, f5, f6⟩ := F
    rw [eu]
    obtain ⟨t0, ht0, a0, b0⟩ := hB 0 (by omega)
    obtain ⟨t1, ht1, a1, b1⟩ := hB 1 (by omega)
    obtain ⟨t2, ht2, a2, b2⟩ := hB 2 (by omega)
    obtain ⟨t3, ht3, a3, b3⟩ := hB 3 (by omega)
    obtain ⟨t4, ht4, a4, b4⟩ := hB 4 (by omega)
    obtain ⟨t5, ht5, a5, b5⟩ := hB 5 (by omega)
    rw [f6 0 (by omega), f6 1 (by omega), f6 2 (by omega), f6 3 (by omega), f6 4 (by omega), f6 5 (by omega), a0, a1, a2, a3, a4, a5, b0, b1, b2, b3, b4, b5]
    by_cases g0 : nI t0 = 255
    · rw [bq_v g0, bq_v g0]
      by_cases g1 : nI t1 = 216
      · rw [bq_v g1, bq_v g1]
        rcases fits_c (nI t2) (nI t3) (nI t4) (nI t5) with ⟨k1, k2⟩ | ⟨W, H, M, N, hP, eW, eH, eM, eN, k1, k2⟩
        · rw [k1, k2, bd_v, bd_v, bq_v rfl, bq_v rfl]
          exact Or.inl ⟨u4, rfl, f1, f2, rfl⟩
        · have hP' := hP
          obtain ⟨q1, q2, q3, q4, q5, q6, q7, q8⟩ := hP'
          rw [k1, k2, bd_v, bd_v, bq_w (by decide), bq_w (by decide), eW, eH, eM, eN]
          obtain ⟨w1, e1', p0, p1, p2, p3, p4, p5, p6⟩ := become_ok q5 q6 q7 q8 (nI W) (nI H) (sb [1] u4)
          rw [e1', bd_v]
          refine Or.inr ⟨W, H, M, N, mg [1] 0 u4 w1, hP, h8, rfl, ?_, ?_, ?_, ?_, ?_, ?_, ?_, rfl, rfl, rfl, rfl, rfl⟩
          · simp only [tk_v, bd_v, bx_vl, bx_vr, s2s, s2k, s2j, s1s, s1k, mg_v0, mg_v1, sb_v, List.getD_cons_zero, List.getD_cons_succ, not_false_eq_true, Nat.reduceEqDiff, reduceCtorEq]
            exact ⟨p0, p1, p2, p3, p4⟩
          · simp only [tk_v, bd_v, bx_vl, bx_vr, s2s, s2k, s2j, s1s, s1k, mg_v0, mg_v1, sb_v, List.getD_cons_zero, List.getD_cons_succ, not_false_eq_true, Nat.reduceEqDiff, reduceCtorEq]
            exact f1
          · simp only [tk_v, bd_v, bx_vl, bx_vr, s2s, s2k, s2j, s1s, s1k, mg_v0, mg_v1, sb_v, List.getD_cons_zero, List.getD_cons_succ, not_false_eq_true, Nat.reduceEqDiff, reduceCtorEq]
            exact f2
          · simp only [tk_v, bd_v, bx_vl, bx_vr, s2s, s2k, s2j, s1s, s1k, mg_v0, mg_v1, sb_v, List.getD_cons_zero, List.getD_cons_succ, not_false_eq_true, Nat.reduceEqDiff, reduceCtorEq]
            exact f3
          · simp only [tk_v, bd_v, bx_vl, bx_vr, s2s, s2k, s2j, s1s, s1k, mg_v0, mg_v1, sb_v, List.getD_cons_zero, List.getD_cons_succ, not_false_eq_true, Nat.reduceEqDiff, reduceCtorEq]
            exact f4
          · simp only [tk_v, bd_v, bx_vl, bx_vr, s2s, s2k, s2j, s1s, s1k, mg_v0, mg_v1, sb_v, List.getD_cons_zero, List.getD_cons_succ, not_false_eq_true, Nat.reduceEqDiff, reduceCtorEq]
            exact f5
          · simp only [tk_v, bd_v, bx_vl, bx_vr, s2s, s2k, s2j, s1s, s1k, mg_v0, mg_v1, sb_v, List.getD_cons_zero, List.getD_cons_succ, not_false_eq_true, Nat.reduceEqDiff, reduceCtorEq]
            intro i hi
            rw [f6 i hi]
            exact hB i hi
      · rw [bq_w g1, bq_w g1]
        exact Or.inl ⟨u4, rfl, f1, f2, rfl⟩
    · rw [bq_w g0, bq_w g0]
      exact Or.inl ⟨u4, rfl, f1, f2, rfl⟩
  · rw [bq_w (show ¬ (8 : Int32) ≤ nI z from nI_ge (b := 8) (by omega) (by omega)), bq_v (show nI z < (8 : Int32) from nI_lt (b := 8) (by omega) (by omega)), bd_v, bx_vl]
    refine Or.inl ⟨_, rfl, ?_, ?_, rfl⟩
    · simp only [tk_v, bd_v, bx_vl, bx_vr, s2s, s2k, s2j, s1s, s1k, mg_v0, mg_v1, sb_v, List.getD_cons_zero, List.getD_cons_succ, not_false_eq_true, Nat.reduceEqDiff, reduceCtorEq, Nat.reduceAdd]
    · simp only [tk_v, bd_v, bx_vl, bx_vr, s2s, s2k, s2j, s1s, s1k, mg_v0, mg_v1, sb_v, List.getD_cons_zero, List.getD_cons_succ, not_false_eq_true, Nat.reduceEqDiff, reduceCtorEq, Nat.reduceAdd]
theorem call_decode {x y : gU} (h : Inv x y) : (∃ (r : Int32) (v vm : gU), f_Grc_decode x = some (.inr (r, v)) ∧ f_Mod_decode y = some (r, vm) ∧ vm 0 0 = 0 ∧ Inv v vm) ∨ (∃ (r : Int32) (v vm : gU), f_Grc_decode x = some (.inl v) ∧ f_Mod_decode y = some (r, vm) ∧ vm 0 0 = 1 ∧ Inv v vm) := by
  have hI := Inv_0 (v := 0) h
  have hD : f_Mod_decode y = mhd (st2 y 0 0 0) := by
    unfold f_Mod_decode mhd
    rw [tk_v]
  rw [hD]
  have y00 : st2 y 0 0 0 0 0 = 0 := s2s
  generalize st2 y 0 0 0 = y0 at hI y00 ⊢
  obtain ⟨W0, H0, M0, N0, z, hI⟩ := hI
  have hI' := hI
  obtain ⟨hP0, i1, i2, i3, i4, hz, e1, e2, hB⟩ := hI'
  have s11 : sb [13, 14, 15, 16, 17, 18, 19, 20, 21, 22, 23, 11, 12] x 11 = x 11 := by simp only [tk_v, bd_v, bx_vl, bx_vr, s2s, s2k, s2j, s1s, s1k, mg_v0, mg_v1, sb_v, List.getD_cons_zero, List.getD_cons_succ, not_false_eq_true, Nat.reduceEqDiff, reduceCtorEq, Nat.reduceAdd]
  have s12 : sb [13, 14, 15, 16, 17, 18, 19, 20, 21, 22, 23, 11, 12] x 12 = x 12 := by simp only [tk_v, bd_v, bx_vl, bx_vr, s2s, s2k, s2j, s1s, s1k, mg_v0, mg_v1, sb_v, List.getD_cons_zero, List.getD_cons_succ, not_false_eq_true, Nat.reduceEqDiff, reduceCtorEq, Nat.reduceAdd]
  have hh := head_de (z := z) (X := sb [13, 14, 15, 16, 17, 18, 19, 20, 21, 22, 23, 11, 12] x) (y0 := y0) hz (by rw [s11]; exact e1) e2 (by rw [s12]; exact hB)
  rw [s11, s12] at hh
  rcases hh with ⟨w, d1, d2, d3, d4⟩ | ⟨W, H, M, N, w, hP, h8, d1, d2, d3, d4, d5, d6, d7, d8, d9, d10, d11, d12, d13⟩
  · -- no head
    refine Or.inr ⟨0, mg [13, 14, 15, 16, 17, 18, 19, 20, 21, 22, 23, 11, 12] 0 x w, st2 y0 0 0 1, ?_, ?_, s2s, ?_⟩
    · unfold f_Grc_decode
      rw [d1, bd_v, bx_vl]
    · rw [d4]
      unfold J_Mod_decode_72 J_Mod_decode_73
      rw [bq_v rfl, tk_v]
    · refine Inv_0 ⟨W0, H0, M0, N0, z, Inv_x hI (fun k k1 k2 => ?_)⟩
      rcases (by omega : k ≤ 10 ∨ k = 11 ∨ k = 12) with hk | rfl | rfl
      · exact mg13c x w hk
      · rw [(mg13b x w).1, d2]
      · rw [(mg13b x w).2, d3]
  have hP' := hP
  obtain ⟨q1, q2, q3, q4, q5, q6, q7, q8⟩ := hP'
  have rr := (nb_ok q5 q6 q7 q8).2.2.2.2.2.2.2.2.1
  -- the reference before the walk
  obtain ⟨y1, ke, ke1, ke2, ke3⟩ := keep_2 64 0 2000 y0 (by omega) (by omega)
  have y1_0 : y1 0 = y0 0 := ke3 0 (by decide) (by decide) (by decide)
  have y1_4 : y1 4 = y0 4 := ke3 4 (by decide) (by decide) (by decide)
  have c2 : tc (2 : Int32) = 2 := tc_n (n := 2) (by omega)
  have c3 : tc (3 : Int32) = 3 := tc_n (n := 3) (by omega)
  have c4 : tc (4 : Int32) = 4 := tc_n (n := 4) (by omega)
  have c5 : tc (5 : Int32) = 5 := tc_n (n := 5) (by omega)
  obtain ⟨y2, pr, pr1, pr2, pr3⟩ := prepare_ok q5 q6 q7 q8 (st2 (st2 (st2 (st2 y1 0 1 (nI W)) 0 2 (nI H)) 0 3 (nI M)) 0 4 (nI N)) (by simp only [tk_v, bd_v, bx_vl, bx_vr, s2s, s2k, s2j, s1s, s1k, mg_v0, mg_v1, sb_v, List.getD_cons_zero, List.getD_cons_succ, not_false_eq_true, Nat.reduceEqDiff, reduceCtorEq]) (by simp only [tk_v, bd_v, bx_vl, bx_vr, s2s, s2k, s2j, s1s, s1k, mg_v0, mg_v1, sb_v, List.getD_cons_zero, List.getD_cons_succ, not_false_eq_true, Nat.reduceEqDiff, reduceCtorEq])
  obtain ⟨y3, fo, fo1, fo2, fo3, fo4, fo5⟩ := forget_ok y2
  obtain ⟨y4, de, de1⟩ := d168 (y0 0 1) (y0 0 2) (y0 0 3) (y0 0 4) (y0 0 12) 64 0 2000 y3 (by omega) (by omega)
  have hM0 : J_Mod_decode_73 1 y0 = L_Mod_decode_168 1 (nI W0) (nI H0) (nI M0) (nI N0) (y0 0 12) (nI 64) y4 := by
    unfold J_Mod_decode_73 f_Mod_keep
    rw [bq_w (by decide), show L_Mod_keep_2 2000 0 y0 = some y1 from ke, bd_v]
    simp only [tk_v, c2, c3, c4, c5]
    simp only [s2k, not_false_eq_true, Nat.reduceEqDiff, reduceCtorEq]
    rw [y1_4, y1_0, d10, d11, d12, d13]
    rw [pr, bd_v, fo, bd_v, ← i2.1, ← i2.2.1, ← i2.2.2.1, ← i2.2.2.2.1]
    exact de
  rw [d9, hM0]
  have fr4 : ∀ k, 4 ≤ k → y4 k = y1 k := fun k hk => by rw [de1 k (by omega), fo5 k (by omega) (by omega) (by omega), pr3 k (by omega), s2k (by omega), s2k (by omega), s2k (by omega), s2k (by omega)]
  have m0 : ∀ j, ¬ j = 12 → y4 0 j = y2 0 j := fun j hj => by rw [de1 0 (by decide), fo2 j hj]
  have hMW : ModW W H M N (y4 0) := by
    refine ⟨?_, ?_, ?_, ?_, fun k k1 k2 => ?_⟩
    · rw [m0 1 (by decide), pr2 1 (by omega)]
      simp only [tk_v, bd_v, bx_vl, bx_vr, s2s, s2k, s2j, s1s, s1k, mg_v0, mg_v1, sb_v, List.getD_cons_zero, List.getD_cons_succ, not_false_eq_true, Nat.reduceEqDiff, reduceCtorEq]
    · rw [m0 2 (by decide), pr2 2 (by omega)]
      simp only [tk_v, bd_v, bx_vl, bx_vr, s2s, s2k, s2j, s1s, s1k, mg_v0, mg_v1, sb_v, List.getD_cons_zero, List.getD_cons_succ, not_false_eq_true, Nat.reduceEqDiff, reduceCtorEq]
    · rw [m0 3 (by decide), pr2 3 (by omega)]
      simp only [tk_v, bd_v, bx_vl, bx_vr, s2s, s2k, s2j, s1s, s1k, mg_v0, mg_v1, sb_v, List.getD_cons_zero, List.getD_cons_succ, not_false_eq_true, Nat.reduceEqDiff, reduceCtorEq]
    · rw [m0 4 (by decide), pr2 4 (by omega)]
      simp only [tk_v, bd_v, bx_vl, bx_vr, s2s, s2k, s2j, s1s, s1k, mg_v0, mg_v1, sb_v, List.getD_cons_zero, List.getD_cons_succ, not_false_eq_true, Nat.reduceEqDiff, reduceCtorEq]
    · rw [m0 (k + 1) (by omega), pr1 k k1 k2]
  have y413 : y4 0 13 = nI z := by
    rw [m0 13 (by decide), pr2 13 (by omega), s2j (by decide), s2j (by decide), s2j (by decide), s2j (by decide), y1_0, e2]
  have y400 : y4 0 0 = 0 := by
    rw [m0 0 (by decide), pr2 0 (by omega), s2j (by decide), s2j (by decide), s2j (by decide), s2j (by decide), y1_0, y00]
  have y44 : y4 4 = y0 4 := by rw [fr4 4 (by omega), y1_4]
  -- the class before the walk
  have sm : ∀ k, k < 11 → sb [13, 14, 15, 16, 17, 18, 19, 20, 21, 22, 23] (mg [13, 14, 15, 16, 17, 18, 19, 20, 21, 22, 23, 11, 12] 0 x w) k = w k := fun k hk => by rw [sb11 _ k hk, mg13 x w k hk]
  generalize hX : sb [13, 14, 15, 16, 17, 18, 19, 20, 21, 22, 23] (mg [13, 14, 15, 16, 17, 18, 19, 20, 21, 22, 23, 11, 12] 0 x w) = X at sm
  have hX1 : PicW W H M N (X 1) := by
    rw [sm 1 (by decide)]
    exact d2
  have hX5 : X 1 5 = nI ((M + 2 * N) / (2 * N + 1) + 1) := by
    rw [hX1.2.2.2.2 5 (by omega) (by omega), ← rr]
    rfl
  obtain ⟨w2, r1, r2, r3, -⟩ := restart_ok (X 1 5) (sb [2, 3, 4, 5, 6, 7] X)
  have hy6 : y2 0 6 = nI ((M + 2 * N) / (2 * N + 1) + 1) := by
    rw [pr1 5 (by omega) (by omega), ← rr]
    rfl
  rw [hX5] at r3
  rw [hy6] at fo3
  have hDK : DK W H M N (mg [2, 3, 4, 5, 6, 7] 0 X w2) (st2 (st2 (st2 (st2 (st2 y4 0 16 1) 0 20 1) 0 17 6) 0 18 0) 0 19 0) := by
    refine ⟨?_, ?_, ?_, ?_, ?_, ?_, ?_⟩
    · simp only [tk_v, bd_v, bx_vl, bx_vr, s2s, s2k, s2j, s1s, s1k, mg_v0, mg_v1, sb_v, List.getD_cons_zero, List.getD_cons_succ, not_false_eq_true, Nat.reduceEqDiff, reduceCtorEq]
      exact hX1
    · refine ModW_eq hMW (fun j a b => ?_)
      rw [s2j (by omega), s2j (by omega), s2j (by omega), s2j (by omega), s2j (by omega)]
    · refine CX_new (r := (M + 2 * N) / (2 * N + 1) + 1) (rg_lt q6) ?_ ?_ ?_ ?_
      · simp only [tk_v, bd_v, bx_vl, bx_vr, s2s, s2k, s2j, s1s, s1k, mg_v0, mg_v1, sb_v, List.getD_cons_zero, List.getD_cons_succ, not_false_eq_true, Nat.reduceEqDiff, reduceCtorEq]
        exact r2
      · intro q hq
        simp only [tk_v, bd_v, bx_vl, bx_vr, s2s, s2k, s2j, s1s, s1k, mg_v0, mg_v1, sb_v, List.getD_cons_zero, List.getD_cons_succ, not_false_eq_true, Nat.reduceEqDiff, reduceCtorEq]
        exact r3 q hq
      · rw [s2j (by decide), s2j (by decide), s2j (by decide), s2j (by decide), s2j (by decide), de1 0 (by decide), fo1]
      · rw [s2k (by decide), s2k (by decide), s2k (by decide), s2k (by decide), s2k (by decide), de1 3 (by decide)]
        exact fo3
    · refine ⟨z, 6, 0, h8, hz, by omega, by omega, by omega, ?_, ?_, ?_, ?_, ?_, ?_, ?_, Or.inr ⟨rfl, rfl, ?_, ?_⟩⟩
      · simp only [tk_v, bd_v, bx_vl, bx_vr, s2s, s2k, s2j, s1s, s1k, mg_v0, mg_v1, sb_v, List.getD_cons_zero, List.getD_cons_succ, not_false_eq_true, Nat.reduceEqDiff, reduceCtorEq]
        exact y413
      · simp only [tk_v, bd_v, bx_vl, bx_vr, s2s, s2k, s2j, s1s, s1k, mg_v0, mg_v1, sb_v, List.getD_cons_zero, List.getD_cons_succ, not_false_eq_true, Nat.reduceEqDiff, reduceCtorEq]
        rw [sm 9 (by decide)]
        exact d5
      · simp only [tk_v, bd_v, bx_vl, bx_vr, s2s, s2k, s2j, s1s, s1k, mg_v0, mg_v1, sb_v, List.getD_cons_zero, List.getD_cons_succ, not_false_eq_true, Nat.reduceEqDiff, reduceCtorEq]
        rw [sm 9 (by decide)]
        exact d6
      · simp only [tk_v, bd_v, bx_vl, bx_vr, s2s, s2k, s2j, s1s, s1k, mg_v0, mg_v1, sb_v, List.getD_cons_zero, List.getD_cons_succ, not_false_eq_true, Nat.reduceEqDiff, reduceCtorEq]
        rfl
      · simp only [tk_v, bd_v, bx_vl, bx_vr, s2s, s2k, s2j, s1s, s1k, mg_v0, mg_v1, sb_v, List.getD_cons_zero, List.getD_cons_succ, not_false_eq_true, Nat.reduceEqDiff, reduceCtorEq]
        rw [sm 9 (by decide)]
        exact d7
      · simp only [tk_v, bd_v, bx_vl, bx_vr, s2s, s2k, s2j, s1s, s1k, mg_v0, mg_v1, sb_v, List.getD_cons_zero, List.getD_cons_succ, not_false_eq_true, Nat.reduceEqDiff, reduceCtorEq]
        rfl
      · simp only [tk_v, bd_v, bx_vl, bx_vr, s2s, s2k, s2j, s1s, s1k, mg_v0, mg_v1, sb_v, List.getD_cons_zero, List.getD_cons_succ, not_false_eq_true, Nat.reduceEqDiff, reduceCtorEq]
        rw [sm 10 (by decide), y44]
        exact d8
      · simp only [tk_v, bd_v, bx_vl, bx_vr, s2s, s2k, s2j, s1s, s1k, mg_v0, mg_v1, sb_v, List.getD_cons_zero, List.getD_cons_succ, not_false_eq_true, Nat.reduceEqDiff, reduceCtorEq]
      · simp only [tk_v, bd_v, bx_vl, bx_vr, s2s, s2k, s2j, s1s, s1k, mg_v0, mg_v1, sb_v, List.getD_cons_zero, List.getD_cons_succ, not_false_eq_true, Nat.reduceEqDiff, reduceCtorEq]
        rw [y44, d13]
        exact fun hh => absurd ((nI_eq (b := 255) (by omega) (by omega)).mp hh) (by omega)
    · simp only [tk_v, bd_v, bx_vl, bx_vr, s2s, s2k, s2j, s1s, s1k, mg_v0, mg_v1, sb_v, List.getD_cons_zero, List.getD_cons_succ, not_false_eq_true, Nat.reduceEqDiff, reduceCtorEq]
    · simp only [tk_v, bd_v, bx_vl, bx_vr, s2s, s2k, s2j, s1s, s1k, mg_v0, mg_v1, sb_v, List.getD_cons_zero, List.getD_cons_succ, not_false_eq_true, Nat.reduceEqDiff, reduceCtorEq]
    · simp only [tk_v, bd_v, bx_vl, bx_vr, s2s, s2k, s2j, s1s, s1k, mg_v0, mg_v1, sb_v, List.getD_cons_zero, List.getD_cons_succ, not_false_eq_true, Nat.reduceEqDiff, reduceCtorEq]
      exact y400
  have tail : ∀ v8 : gU, BD (st2 (st2 (st2 (st2 (st2 y4 0 16 1) 0 20 1) 0 17 6) 0 18 0) 0 19 0) v8 ∨ FG (st2 (st2 (st2 (st2 (st2 y4 0 16 1) 0 20 1) 0 17 6) 0 18 0) 0 19 0) v8 → ∃ vm : gU, J_Mod_decode_233 (nI W0) (nI H0) (nI M0) (nI N0) (y0 0 12) v8 = some (0, vm) ∧ vm 0 0 = 1 ∧ Inv1 W0 H0 M0 N0 z x vm := by
    intro v8 hv8
    have hG : FG (st2 (st2 (st2 (st2 (st2 y4 0 16 1) 0 20 1) 0 17 6) 0 18 0) 0 19 0) v8 := by
      rcases hv8 with hv8 | hv8
      · exact hv8.1
      · exact hv8
    have g4 : ∀ k, 4 ≤ k → v8 k = y1 k := fun k hk => by rw [hG.1 k hk, s2k (by omega), s2k (by omega), s2k (by omega), s2k (by omega), s2k (by omega), fr4 k hk]
    refine back_ok hI ?_ ?_ (fun j hj => ?_) (fun j hj => ?_)
    · rw [hG.2, e2]
      simp only [tk_v, bd_v, bx_vl, bx_vr, s2s, s2k, s2j, s1s, s1k, mg_v0, mg_v1, sb_v, List.getD_cons_zero, List.getD_cons_succ, not_false_eq_true, Nat.reduceEqDiff, reduceCtorEq]
      exact y413
    · rw [g4 4 (by omega), y1_4]
    · rw [g4 5 (by omega), g4 6 (by omega), (ke1 j hj).1, (ke1 j hj).2, if_pos (by omega), if_pos (by omega)]
      exact ⟨rfl, rfl⟩
    · rw [g4 7 (by omega), ke2 j hj]
  unfold L_Mod_decode_168 f_Mod_walk
  rw [bq_v (by decide)]
  simp only [tk_v]
  rcases rowsD_ok hP H 0 20 2000 _ _ (by omega) (by omega) (by omega) hDK ⟨fun i j hi hc => by omega, fun i j hi hc => by omega⟩ with ⟨u3, v7, k1, k2, k3, k4, k5⟩ | ⟨u3, v7, k1, k2, k3⟩
  · rw [show L_Mod_walk_2 2000 0 _ = some v7 from k2, bd_v]
    have n20 : ¬ v7 0 20 = 0 := by rw [k3.2.2.2.2.2.1]; decide
    rw [bq_w n20]
    have hRD : RD (sb [22, 23] (mg [13, 14, 15, 16, 17, 18, 19, 20, 21, 22, 23] 0 (mg [13, 14, 15, 16, 17, 18, 19, 20, 21, 22, 23, 11, 12] 0 x w) u3)) v7 := by
      refine RD_eq k3.2.2.2.1 ?_ ?_ rfl rfl rfl rfl rfl
      · simp only [tk_v, bd_v, bx_vl, bx_vr, s2s, s2k, s2j, s1s, s1k, mg_v0, mg_v1, sb_v, List.getD_cons_zero, List.getD_cons_succ, not_false_eq_true, Nat.reduceEqDiff, reduceCtorEq, Nat.reduceAdd]
      · simp only [tk_v, bd_v, bx_vl, bx_vr, s2s, s2k, s2j, s1s, s1k, mg_v0, mg_v1, sb_v, List.getD_cons_zero, List.getD_cons_succ, not_false_eq_true, Nat.reduceEqDiff, reduceCtorEq, Nat.reduceAdd]
    have C1 : f_Grc_decode x = (bd (f_Rea_readEnd (sb [22, 23] (mg [13, 14, 15, 16, 17, 18, 19, 20, 21, 22, 23] 0 (mg [13, 14, 15, 16, 17, 18, 19, 20, 21, 22, 23, 11, 12] 0 x w) u3))) fun w9 => bx w9 (fun v10 => some (.inl (mg [22, 23] 0 (mg [13, 14, 15, 16, 17, 18, 19, 20, 21, 22, 23] 0 (mg [13, 14, 15, 16, 17, 18, 19, 20, 21, 22, 23, 11, 12] 0 x w) u3) v10))) fun w11 => tk (mg [22, 23] 0 (mg [13, 14, 15, 16, 17, 18, 19, 20, 21, 22, 23] 0 (mg [13, 14, 15, 16, 17, 18, 19, 20, 21, 22, 23, 11, 12] 0 x w) u3) w11) fun u12 => bd (f_Cod_takeOver (sb [1, 2, 3, 4, 5, 6, 7, 8, 9, 10, 11, 12, 13, 14, 15, 16, 17, 18, 19, 20, 21, 22, 23] u12)) fun w13 => tk (mg [1, 2, 3, 4, 5, 6, 7, 8, 9, 10, 11, 12, 13, 14, 15, 16, 17, 18, 19, 20, 21, 22, 23] 0 u12 w13) fun u14 => some (.inr ((u14 2 0) * (u14 2 1), u14))) := by
      unfold f_Grc_decode f_Pas_overAll_R
      rw [d1, bd_v, bx_vr, tk_v, hX, r1, bd_v, tk_v, show L_Pas_overAll_R_16 20 0 (mg [2, 3, 4, 5, 6, 7] 0 X w2) = some (.inr u3) from k1, bd_v, bx_vr, tk_v]
    rw [C1]
    have low : ∀ (w9 : gU) (k : Nat), k ≤ 12 → mg [22, 23] 0 (mg [13, 14, 15, 16, 17, 18, 19, 20, 21, 22, 23] 0 (mg [13, 14, 15, 16, 17, 18, 19, 20, 21, 22, 23, 11, 12] 0 x w) u3) w9 k = mg [13, 14, 15, 16, 17, 18, 19, 20, 21, 22, 23, 11, 12] 0 x w k := by
      intro w9 k hk
      rw [mg_v1, mg_v1, mg_v0, s1k (by omega), s1k (by omega), mg11c _ _ hk]
    have low2 : ∀ (w9 : gU) (k : Nat), 1 ≤ k → k ≤ 12 → mg [22, 23] 0 (mg [13, 14, 15, 16, 17, 18, 19, 20, 21, 22, 23] 0 (mg [13, 14, 15, 16, 17, 18, 19, 20, 21, 22, 23, 11, 12] 0 x w) u3) w9 k = x k := by
      intro w9 k hk1 hk
      rw [low w9 k hk]
      rcases (by omega : k ≤ 10 ∨ k = 11 ∨ k = 12) with hk | rfl | rfl
      · exact mg13c x w hk
      · rw [(mg13b x w).1, d3]
      · rw [(mg13b x w).2, d4]
    rcases ends_ok hRD with ⟨w9, v9, g1, g2, g3⟩ | ⟨w9, v9, g1, g2, g3⟩
    · rw [g1, bd_v, bx_vr, tk_v, g2, bd_v, bq_w (show ¬ (1 : Int32) = 0 by decide)]
      have low3 : ∀ k, k < 9 → mg [22, 23] 0 (mg [13, 14, 15, 16, 17, 18, 19, 20, 21, 22, 23] 0 (mg [13, 14, 15, 16, 17, 18, 19, 20, 21, 22, 23, 11, 12] 0 x w) u3) w9 (13 + k) = u3 k := by
        intro k hk
        rw [mg_v1, mg_v1, mg_v0, s1k (by omega), s1k (by omega), mg11 _ _ k (by omega)]
      have l2 := low2 w9
      generalize mg [22, 23] 0 (mg [13, 14, 15, 16, 17, 18, 19, 20, 21, 22, 23] 0 (mg [13, 14, 15, 16, 17, 18, 19, 20, 21, 22, 23, 11, 12] 0 x w) u3) w9 = u12 at l2 low3
      have sX := sb23 u12
      generalize hXX : sb [1, 2, 3, 4, 5, 6, 7, 8, 9, 10, 11, 12, 13, 14, 15, 16, 17, 18, 19, 20, 21, 22, 23] u12 = XX at sX
      obtain ⟨w13, o1, o2, o3, o4, o5, o6, o7⟩ := take_ok hP (X := XX) (by rw [sX 13 (by decide), low3 1 (by decide)]; exact k3.1)
      have mX := mg23 u12 w13
      rw [o1, bd_v, tk_v]
      generalize mg [1, 2, 3, 4, 5, 6, 7, 8, 9, 10, 11, 12, 13, 14, 15, 16, 17, 18, 19, 20, 21, 22, 23] 0 u12 w13 = u14 at mX
      have hv9 : ModW W H M N (v9 0) := ModW_eq k3.2.1 (fun j j1 j2 => g3.2 j (by omega) (by omega) (by omega))
      refine Or.inl ⟨_, u14, v9, rfl, ?_, ?_, W, H, M, N, z, hP, ?_, hv9, ?_, ?_, hz, ?_, ?_, ?_⟩
      · rw [mX 1 (by decide), o2.1, o2.2.1]
        show some (v9 0 1 * v9 0 2, v9) = some (nI W * nI H, v9)
        rw [hv9.1, hv9.2.1]
      · rw [g3.2 0 (by decide) (by decide) (by decide)]
        exact k3.2.2.2.2.2.2
      · rw [mX 1 (by decide)]
        exact o2
      · refine CX_eq k3.2.2.1 ?_ (fun q hq => ?_) (g3.2 12 (by decide) (by decide) (by decide)) (g3.1 3 (by decide))
        · simp only [tk_v, bd_v, bx_vl, bx_vr, s2s, s2k, s2j, s1s, s1k, mg_v0, mg_v1, sb_v, List.getD_cons_zero, List.getD_cons_succ, not_false_eq_true, Nat.reduceEqDiff, reduceCtorEq]
          rw [mX 2 (by decide), o3, sX 14 (by decide), low3 2 (by decide)]
        · obtain ⟨t1, t2, t3, t4, t5⟩ := o4 q hq
          simp only [tk_v, bd_v, bx_vl, bx_vr, s2s, s2k, s2j, s1s, s1k, mg_v0, mg_v1, sb_v, List.getD_cons_zero, List.getD_cons_succ, not_false_eq_true, Nat.reduceEqDiff, reduceCtorEq]
          rw [mX 3 (by decide), mX 4 (by decide), mX 5 (by decide), mX 6 (by decide), mX 7 (by decide), t1, t2, t3, t4, t5, sX 15 (by decide), sX 16 (by decide), sX 17 (by decide), sX 18 (by decide), sX 19 (by decide), low3 3 (by decide), low3 4 (by decide), low3 5 (by decide), low3 6 (by decide), low3 7 (by decide)]
          exact ⟨rfl, rfl, rfl, rfl, rfl⟩
      · intro i j hi hj
        obtain ⟨t1, t2⟩ := o5 (8 * j + i) (by omega)
        rw [mX 9 (by decide), mX 8 (by decide), t1, t2, sX 20 (by decide), low3 8 (by decide), g3.1 1 (by decide), g3.1 2 (by decide)]
        obtain ⟨r, hr, a1, a2⟩ := k4.1 i j hi (Or.inl hj)
        obtain ⟨r', hr', a1', a2'⟩ := k4.2 i j hi (Or.inl hj)
        exact ⟨a1'.trans a2'.symm, a1.trans a2.symm, r', hr', a2'⟩
      · rw [mX 10 (by decide), o6, sX 10 (by decide), l2 11 (by omega) (by omega)]
        exact e1
      · rw [g3.2 13 (by decide) (by decide) (by decide), k5.2]
        simp only [tk_v, bd_v, bx_vl, bx_vr, s2s, s2k, s2j, s1s, s1k, mg_v0, mg_v1, sb_v, List.getD_cons_zero, List.getD_cons_succ, not_false_eq_true, Nat.reduceEqDiff, reduceCtorEq]
        exact y413
      · rw [mX 11 (by decide), o7, sX 11 (by decide), l2 12 (by omega) (by omega), g3.1 4 (by decide), k5.1 4 (by omega)]
        simp only [tk_v, bd_v, bx_vl, bx_vr, s2s, s2k, s2j, s1s, s1k, mg_v0, mg_v1, sb_v, List.getD_cons_zero, List.getD_cons_succ, not_false_eq_true, Nat.reduceEqDiff, reduceCtorEq]
        rw [y44]
        exact hB
    · rw [g1, bd_v, bx_vl, g2, bd_v, bq_v rfl]
      obtain ⟨vm, o1, o2, o3⟩ := tail v9 (Or.inr (FG_tr k5 (FR_G g3)))
      rw [o1]
      exact Or.inr ⟨0, _, vm, rfl, rfl, o2, W0, H0, M0, N0, z, Inv_x o3 (fun k h1 h2 => low2 w9 k h1 h2)⟩
  · rw [show L_Mod_walk_2 2000 0 _ = some v7 from k2, bd_v, bq_v k3.2]
    obtain ⟨vm, o1, o2, o3⟩ := tail v7 (Or.inl k3)
    rw [o1]
    refine Or.inr ⟨0, mg [13, 14, 15, 16, 17, 18, 19, 20, 21, 22, 23] 0 (mg [13, 14, 15, 16, 17, 18, 19, 20, 21, 22, 23, 11, 12] 0 x w) u3, vm, ?_, rfl, o2, W0, H0, M0, N0, z, Inv_x o3 (fun k h1 h2 => ?_)⟩
    · unfold f_Grc_decode f_Pas_overAll_R
      rw [d1, bd_v, bx_vr, tk_v, hX, r1, bd_v, tk_v, show L_Pas_overAll_R_16 20 0 (mg [2, 3, 4, 5, 6, 7] 0 X w2) = some (.inl u3) from k1, bd_v, bx_vl]
    · rw [mg11c _ _ h2]
      rcases (by omega : k ≤ 10 ∨ k = 11 ∨ k = 12) with hk | rfl | rfl
      · exact mg13c x w hk
      · rw [(mg13b x w).1, d3]
      · rw [(mg13b x w).2, d4]
