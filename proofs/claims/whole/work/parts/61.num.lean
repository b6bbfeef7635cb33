/-! the numbers of a picture -/
def mxI (a b : Int32) : Int32 := if a < b then b else a
def clI (m i j : Int32) : Int32 := if m < i then j else if j ≤ i then i else j
def f1I (m : Int32) : Int32 := (m + 128) / 256
def f2I (m : Int32) : Int32 := 256 / (m + 1)
def t1I (m n : Int32) : Int32 := if m < 128 then clI m (mxI 2 (3 / f2I m + 3 * n)) (n + 1) else clI m (f1I m + 2 + 3 * n) (n + 1)
def t2I (m n : Int32) : Int32 := if m < 128 then clI m (mxI 3 (7 / f2I m + 5 * n)) (t1I m n) else clI m (4 * f1I m + 3 + 5 * n) (t1I m n)
def t3I (m n : Int32) : Int32 := if m < 128 then clI m (mxI 4 (21 / f2I m + 7 * n)) (t2I m n) else clI m (17 * f1I m + 4 + 7 * n) (t2I m n)
def rgI (m n : Int32) : Int32 := (m + 2 * n) / (2 * n + 1) + 1
def qbI (m n : Int32) : Int32 := (f_Pic_leastPower 0 (rgI m n)).getD 0
def bpI (m : Int32) : Int32 := (f_Pic_leastPower 2 (m + 1)).getD 0
def nbI (m n : Int32) (k : Nat) : Int32 := match k with
  | 4 => 2 * n + 1
  | 5 => rgI m n
  | 6 => qbI m n
  | 7 => 2 * (bpI m + mxI 8 (bpI m))
  | 8 => t1I m n
  | 9 => t2I m n
  | 10 => t3I m n
  | _ => 0
def nbC (M N : Nat) : Bool := decide (f_Pic_leastPower 0 (rgI (nI M) (nI N)) = some (qbI (nI M) (nI N))) && decide (f_Mod_powerFor 0 (rgI (nI M) (nI N)) = some (qbI (nI M) (nI N))) && decide (f_Pic_leastPower 2 (nI M + 1) = some (bpI (nI M))) && decide (f_Mod_powerFor 2 (nI M + 1) = some (bpI (nI M))) && decide (¬ 2 * nI N + 1 = 0) && decide (¬ nI M + 1 = 0) && decide (nI M < 128 → ¬ f2I (nI M) = 0) && decide (2 * nI N + 1 = nI (2 * N + 1)) && decide (rgI (nI M) (nI N) = nI ((M + 2 * N) / (2 * N + 1) + 1)) && decide (1 ≤ (qbI (nI M) (nI N)).toInt) && decide ((qbI (nI M) (nI N)).toInt ≤ 8) && decide (20 ≤ (nbI (nI M) (nI N) 7).toInt) && decide ((nbI (nI M) (nI N) 7).toInt ≤ 32) && decide (1 ≤ (t1I (nI M) (nI N)).toInt) && decide (1 ≤ (t2I (nI M) (nI N)).toInt) && decide (1 ≤ (t3I (nI M) (nI N)).toInt)
theorem nb_all : ∀ M, M < 256 → ∀ N, N < 4 → 3 ≤ M → 2 * N ≤ M → nbC M N = true := by decide +kernel
def PN (W H M N : Nat) : Prop := 1 ≤ W ∧ W ≤ 8 ∧ 1 ≤ H ∧ H ≤ 8 ∧ 3 ≤ M ∧ M ≤ 255 ∧ N ≤ 3 ∧ 2 * N ≤ M
theorem nb_ok {M N : Nat} (h1 : 3 ≤ M) (h2 : M ≤ 255) (h3 : N ≤ 3) (h4 : 2 * N ≤ M) : f_Pic_leastPower 0 (rgI (nI M) (nI N)) = some (qbI (nI M) (nI N)) ∧ f_Mod_powerFor 0 (rgI (nI M) (nI N)) = some (qbI (nI M) (nI N)) ∧ f_Pic_leastPower 2 (nI M + 1) = some (bpI (nI M)) ∧ f_Mod_powerFor 2 (nI M + 1) = some (bpI (nI M)) ∧ ¬ 2 * nI N + 1 = 0 ∧ ¬ nI M + 1 = 0 ∧ (nI M < 128 → ¬ f2I (nI M) = 0) ∧ 2 * nI N + 1 = nI (2 * N + 1) ∧ rgI (nI M) (nI N) = nI ((M + 2 * N) / (2 * N + 1) + 1) ∧ 1 ≤ (qbI (nI M) (nI N)).toInt ∧ (qbI (nI M) (nI N)).toInt ≤ 8 ∧ 20 ≤ (nbI (nI M) (nI N) 7).toInt ∧ (nbI (nI M) (nI N) 7).toInt ≤ 32 ∧ 1 ≤ (t1I (nI M) (nI N)).toInt ∧ 1 ≤ (t2I (nI M) (nI N)).toInt ∧ 1 ≤ (t3I (nI M) (nI N)).toInt := by
  have h := nb_all M (by omega) N (by omega) h1 h4
  simpa only [nbC, Bool.and_eq_true, decide_eq_true_eq, and_assoc] using h
theorem clP (i j : Int32) (u : gU) : f_Pic_clamp i j u = some (clI (u 0 2) i j) := by
  unfold f_Pic_clamp clI bq
  split
  · rfl
  · split <;> rfl
theorem clM (i j : Int32) (u : gU) : f_Mod_clamp i j u = some (clI (u 0 3) i j) := by
  unfold f_Mod_clamp clI bq
  split
  · rfl
  · split <;> rfl
theorem grM (i j : Int32) : f_Mod_greater i j = some (mxI i j) := by
  unfold f_Mod_greater mxI bq
  by_cases h : i ≤ j
  · rw [if_pos h]
    by_cases h2 : i < j
    · rw [if_pos h2]
    · rw [if_neg h2]
      rw [i_le] at h
      rw [i_lt] at h2
      exact congrArg some (i_eq.mpr (by omega))
  · rw [if_neg h, if_neg (by rw [i_lt]; rw [i_le] at h; omega)]
theorem mxP (i j : Int32) : (if i < j then j else i) = mxI i j := rfl
theorem become_ok {M N : Nat} (h1 : 3 ≤ M) (h2 : M ≤ 255) (h3 : N ≤ 3) (h4 : 2 * N ≤ M) (w h : Int32) (u : gU) : ∃ u' : gU, f_Pic_become w h (nI M) (nI N) u = some u' ∧ u' 0 0 = w ∧ u' 0 1 = h ∧ u' 0 2 = nI M ∧ u' 0 3 = nI N ∧ (∀ k, 4 ≤ k → k < 11 → u' 0 k = nbI (nI M) (nI N) k) ∧ (∀ k, 11 ≤ k → u' 0 k = u 0 k) ∧ (∀ k, ¬ k = 0 → u' k = u k) := by
  obtain ⟨a1, a2, a3, a4, a5, a6, a7, -⟩ := nb_ok h1 h2 h3 h4
  have a1' := a1
  unfold rgI at a1'
  have hfin : ∀ (x4 x5 x6 x7 x8 x9 x10 : Int32), x4 = nbI (nI M) (nI N) 4 → x5 = nbI (nI M) (nI N) 5 → x6 = nbI (nI M) (nI N) 6 → x7 = nbI (nI M) (nI N) 7 → x8 = nbI (nI M) (nI N) 8 → x9 = nbI (nI M) (nI N) 9 → x10 = nbI (nI M) (nI N) 10 → ∃ u' : gU, some (st2 (st2 (st2 (st2 (st2 (st2 (st2 (st2 (st2 (st2 (st2 u 0 0 w) 0 1 h) 0 2 (nI M)) 0 3 (nI N)) 0 4 x4) 0 5 x5) 0 6 x6) 0 7 x7) 0 8 x8) 0 9 x9) 0 10 x10) = some u' ∧ u' 0 0 = w ∧ u' 0 1 = h ∧ u' 0 2 = nI M ∧ u' 0 3 = nI N ∧ (∀ k, 4 ≤ k → k < 11 → u' 0 k = nbI (nI M) (nI N) k) ∧ (∀ k, 11 ≤ k → u' 0 k = u 0 k) ∧ (∀ k, ¬ k = 0 → u' k = u k) := by
    intro x4 x5 x6 x7 x8 x9 x10 e4 e5 e6 e7 e8 e9 e10
    refine ⟨_, rfl, by simp only [tk_v, bd_v, bx_vl, bx_vr, s2s, s2k, s2j, s1s, s1k, mg_v0, mg_v1, sb_v, List.getD_cons_zero, List.getD_cons_succ, not_false_eq_true, Nat.reduceEqDiff, reduceCtorEq], by simp only [tk_v, bd_v, bx_vl, bx_vr, s2s, s2k, s2j, s1s, s1k, mg_v0, mg_v1, sb_v, List.getD_cons_zero, List.getD_cons_succ, not_false_eq_true, Nat.reduceEqDiff, reduceCtorEq], by simp only [tk_v, bd_v, bx_vl, bx_vr, s2s, s2k, s2j, s1s, s1k, mg_v0, mg_v1, sb_v, List.getD_cons_zero, List.getD_cons_succ, not_false_eq_true, Nat.reduceEqDiff, reduceCtorEq], by simp only [tk_v, bd_v, bx_vl, bx_vr, s2s, s2k, s2j, s1s, s1k, mg_v0, mg_v1, sb_v, List.getD_cons_zero, List.getD_cons_succ, not_false_eq_true, Nat.reduceEqDiff, reduceCtorEq], ?_, ?_, ?_⟩
    · intro k hk1 hk2
      have hc : k = 4 ∨ k = 5 ∨ k = 6 ∨ k = 7 ∨ k = 8 ∨ k = 9 ∨ k = 10 := by omega
      rcases hc with rfl | rfl | rfl | rfl | rfl | rfl | rfl <;> simp only [tk_v, bd_v, bx_vl, bx_vr, s2s, s2k, s2j, s1s, s1k, mg_v0, mg_v1, sb_v, List.getD_cons_zero, List.getD_cons_succ, not_false_eq_true, Nat.reduceEqDiff, reduceCtorEq] <;> assumption
    · intro k hk
      rw [s2j (by omega), s2j (by omega), s2j (by omega), s2j (by omega), s2j (by omega), s2j (by omega), s2j (by omega), s2j (by omega), s2j (by omega), s2j (by omega), s2j (by omega)]
    · intro k hk
      rw [s2k hk, s2k hk, s2k hk, s2k hk, s2k hk, s2k hk, s2k hk, s2k hk, s2k hk, s2k hk, s2k hk]
  unfold f_Pic_become
  by_cases hm : nI M < 128
  · have a8 : ¬ 256 / (nI M + 1) = 0 := a7 hm
    simp only [tk_v, bd_v, bx_vl, bx_vr, s2s, s2k, s2j, s1s, s1k, mg_v0, mg_v1, sb_v, List.getD_cons_zero, List.getD_cons_succ, not_false_eq_true, Nat.reduceEqDiff, reduceCtorEq, gd_v a5, a1', a3, bq_v hm, gd_v a6, f_Pic_becomeCoarse, clP, gd_v a8]
    exact hfin _ _ _ _ _ _ _ rfl rfl rfl rfl (by simp only [nbI, t1I, if_pos hm]; rfl) (by simp only [nbI, t2I, t1I, if_pos hm]; rfl) (by simp only [nbI, t3I, t2I, t1I, if_pos hm]; rfl)
  · simp only [tk_v, bd_v, bx_vl, bx_vr, s2s, s2k, s2j, s1s, s1k, mg_v0, mg_v1, sb_v, List.getD_cons_zero, List.getD_cons_succ, not_false_eq_true, Nat.reduceEqDiff, reduceCtorEq, gd_v a5, a1', a3, bq_w hm, f_Pic_becomeFine, clP]
    exact hfin _ _ _ _ _ _ _ rfl rfl rfl rfl (by simp only [nbI, t1I, if_neg hm]; rfl) (by simp only [nbI, t2I, t1I, if_neg hm]; rfl) (by simp only [nbI, t3I, t2I, t1I, if_neg hm]; rfl)

theorem prepare_ok {M N : Nat} (h1 : 3 ≤ M) (h2 : M ≤ 255) (h3 : N ≤ 3) (h4 : 2 * N ≤ M) (u : gU) (e3 : u 0 3 = nI M) (e4 : u 0 4 = nI N) : ∃ u' : gU, f_Mod_prepare u = some u' ∧ (∀ k, 4 ≤ k → k < 11 → u' 0 (k + 1) = nbI (nI M) (nI N) k) ∧ (∀ k, k < 5 ∨ 12 ≤ k → u' 0 k = u 0 k) ∧ (∀ k, ¬ k = 0 → u' k = u k) := by
  obtain ⟨a1, a2, a3, a4, a5, a6, a7, -⟩ := nb_ok h1 h2 h3 h4
  have a2' := a2
  unfold rgI at a2'
  have hfin : ∀ (x4 x5 x6 x7 x8 x9 x10 : Int32), x4 = nbI (nI M) (nI N) 4 → x5 = nbI (nI M) (nI N) 5 → x6 = nbI (nI M) (nI N) 6 → x7 = nbI (nI M) (nI N) 7 → x8 = nbI (nI M) (nI N) 8 → x9 = nbI (nI M) (nI N) 9 → x10 = nbI (nI M) (nI N) 10 → ∃ u' : gU, some (st2 (st2 (st2 (st2 (st2 (st2 (st2 u 0 5 x4) 0 6 x5) 0 7 x6) 0 8 x7) 0 9 x8) 0 10 x9) 0 11 x10) = some u' ∧ (∀ k, 4 ≤ k → k < 11 → u' 0 (k + 1) = nbI (nI M) (nI N) k) ∧ (∀ k, k < 5 ∨ 12 ≤ k → u' 0 k = u 0 k) ∧ (∀ k, ¬ k = 0 → u' k = u k) := by
    intro x4 x5 x6 x7 x8 x9 x10 e4 e5 e6 e7 e8 e9 e10
    refine ⟨_, rfl, ?_, ?_, ?_⟩
    · intro k hk1 hk2
      have hc : k = 4 ∨ k = 5 ∨ k = 6 ∨ k = 7 ∨ k = 8 ∨ k = 9 ∨ k = 10 := by omega
      rcases hc with rfl | rfl | rfl | rfl | rfl | rfl | rfl <;> simp only [tk_v, bd_v, bx_vl, bx_vr, s2s, s2k, s2j, s1s, s1k, mg_v0, mg_v1, sb_v, List.getD_cons_zero, List.getD_cons_succ, not_false_eq_true, Nat.reduceEqDiff, reduceCtorEq, Nat.reduceAdd] <;> assumption
    · intro k hk
      rw [s2j (by omega), s2j (by omega), s2j (by omega), s2j (by omega), s2j (by omega), s2j (by omega), s2j (by omega)]
    · intro k hk
      rw [s2k hk, s2k hk, s2k hk, s2k hk, s2k hk, s2k hk, s2k hk]
  unfold f_Mod_prepare
  by_cases hm : nI M < 128
  · have a8 : ¬ 256 / (nI M + 1) = 0 := a7 hm
    simp only [tk_v, bd_v, bx_vl, bx_vr, s2s, s2k, s2j, s1s, s1k, mg_v0, mg_v1, sb_v, List.getD_cons_zero, List.getD_cons_succ, not_false_eq_true, Nat.reduceEqDiff, reduceCtorEq, e3, e4, gd_v a5, a2', a4, bq_v hm, gd_v a6, clM, grM, gd_v a8]
    exact hfin _ _ _ _ _ _ _ rfl rfl rfl rfl (by simp only [nbI, t1I, if_pos hm]; rfl) (by simp only [nbI, t2I, t1I, if_pos hm]; rfl) (by simp only [nbI, t3I, t2I, t1I, if_pos hm]; rfl)
  · simp only [tk_v, bd_v, bx_vl, bx_vr, s2s, s2k, s2j, s1s, s1k, mg_v0, mg_v1, sb_v, List.getD_cons_zero, List.getD_cons_succ, not_false_eq_true, Nat.reduceEqDiff, reduceCtorEq, e3, e4, gd_v a5, a2', a4, bq_w hm, clM, grM]
    exact hfin _ _ _ _ _ _ _ rfl rfl rfl rfl (by simp only [nbI, t1I, if_neg hm]; rfl) (by simp only [nbI, t2I, t1I, if_neg hm]; rfl) (by simp only [nbI, t3I, t2I, t1I, if_neg hm]; rfl)
