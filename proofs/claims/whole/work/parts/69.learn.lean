/-! what is learnt -/
def UP (q : Nat) (u u' : gU) (A B C N M : Int32) : Prop := u' 0 = u 0 ∧ (∀ k, 6 ≤ k → u' k = u k) ∧ (∀ j, ¬ j = q → u' 1 j = u 1 j ∧ u' 2 j = u 2 j ∧ u' 3 j = u 3 j ∧ u' 4 j = u 4 j ∧ u' 5 j = u 5 j) ∧ u' 1 q = A ∧ u' 2 q = B ∧ u' 3 q = C ∧ u' 4 q = N ∧ u' 5 q = M
def VP (q : Nat) (v v' : gU) (A B C N M : Int32) : Prop := (∀ k, ¬ k = 3 → v' k = v k) ∧ (∀ i, i < 5 * q ∨ 5 * q + 5 ≤ i → v' 3 i = v 3 i) ∧ v' 3 (5 * q) = A ∧ v' 3 (5 * q + 1) = B ∧ v' 3 (5 * q + 2) = C ∧ v' 3 (5 * q + 3) = N ∧ v' 3 (5 * q + 4) = M
theorem CX_up {u v u' v' : gU} {q : Nat} {A B C N M : Int32} (h : CX u v) (hu : UP q u u' A B C N M) (hv : VP q v v' A B C N M) (n1 : 1 ≤ N.toInt) (n2 : N.toInt ≤ 64) (a1 : 0 ≤ A.toInt) (a2 : A.toInt ≤ 512 * N.toInt) (c1 : -128 ≤ C.toInt) (c2 : C.toInt ≤ 127) : CX u' v' := by
  obtain ⟨r0, r1, r2, hq⟩ := h
  obtain ⟨u0, -, u2, u3, u4, u5, u6, u7⟩ := hu
  obtain ⟨v0, v1, v2, v3, v4, v5, v6⟩ := hv
  refine ⟨by rw [u0, v0 0 (by decide)]; exact r0, by rw [u0]; exact r1, by rw [u0]; exact r2, fun j hj => ?_⟩
  by_cases hjq : j = q
  · subst hjq
    rw [u3, u4, u5, u6, u7, v2, v3, v4, v5, v6]
    exact ⟨rfl, rfl, rfl, rfl, rfl, n1, n2, a1, a2, c1, c2⟩
  · obtain ⟨w1, w2, w3, w4, w5⟩ := u2 j hjq
    rw [w1, w2, w3, w4, w5, v1 _ (by omega), v1 _ (by omega), v1 _ (by omega), v1 _ (by omega), v1 _ (by omega)]
    exact hq j hj
def abI (e : Int32) : Int32 := if 0 ≤ e then e else 0 - e
def lrN (n : Int32) : Int32 := (if n = 64 then 32 else n) + 1
def lrA (a e n : Int32) : Int32 := if n = 64 then (a + abI e) >>> (1 &&& 31) else a + abI e
def lrB0 (b e s n : Int32) : Int32 := if n = 64 then (b + e * s) >>> (1 &&& 31) else b + e * s
def lrB (b n : Int32) : Int32 := if -n < b then (if b ≤ 0 then b else (if 0 < b - n then 0 else b - n)) else (if b + n < 1 - n then 1 - n else b + n)
def lrC (b c n : Int32) : Int32 := if -n < b then (if b ≤ 0 then c else (if 127 < c + 1 then 127 else c + 1)) else (if c - 1 < -128 then -128 else c - 1)
theorem j66 {u : gU} {q : Nat} (hq : q < 367) {A B C N M : Int32} (hA : u 1 q = A) (hB : u 2 q = B) (hC : u 3 q = C) (hN : u 4 q = N) (hM : u 5 q = M) : ∃ u' : gU, J_Ctx_learnRegular_66 (nI q) u = some u' ∧ UP q u u' A (lrB B (N + 1)) (lrC B C (N + 1)) (N + 1) M := by
  unfold J_Ctx_learnRegular_66 f_Ctx_correctUp f_Ctx_correctDown
  simp only [gd_v (ix_n hq (by omega)), tc_n (show q < 2 ^ 31 by omega), tk_v, bd_v, bx_vl, bx_vr, s2s, s2k, s2j, s1s, s1k, mg_v0, mg_v1, sb_v, List.getD_cons_zero, List.getD_cons_succ, not_false_eq_true, Nat.reduceEqDiff, reduceCtorEq]
  rw [hB, hN]
  by_cases g1 : -(N + 1) < B
  · rw [bq_v g1]
    by_cases g2 : B ≤ 0
    · rw [bq_v g2]
      refine ⟨_, rfl, s2k (by decide), fun k hk => s2k (by omega), fun j hj => ?_, ?_, ?_, ?_, ?_, ?_⟩
      · simp only [tk_v, bd_v, bx_vl, bx_vr, s2s, s2k, s2j, s1s, s1k, mg_v0, mg_v1, sb_v, List.getD_cons_zero, List.getD_cons_succ, not_false_eq_true, Nat.reduceEqDiff, reduceCtorEq, s2j hj, and_self]
      · simp only [tk_v, bd_v, bx_vl, bx_vr, s2s, s2k, s2j, s1s, s1k, mg_v0, mg_v1, sb_v, List.getD_cons_zero, List.getD_cons_succ, not_false_eq_true, Nat.reduceEqDiff, reduceCtorEq, hA]
      · simp only [tk_v, bd_v, bx_vl, bx_vr, s2s, s2k, s2j, s1s, s1k, mg_v0, mg_v1, sb_v, List.getD_cons_zero, List.getD_cons_succ, not_false_eq_true, Nat.reduceEqDiff, reduceCtorEq, hB, lrB, if_pos g1, if_pos g2]
      · simp only [tk_v, bd_v, bx_vl, bx_vr, s2s, s2k, s2j, s1s, s1k, mg_v0, mg_v1, sb_v, List.getD_cons_zero, List.getD_cons_succ, not_false_eq_true, Nat.reduceEqDiff, reduceCtorEq, hC, lrC, if_pos g1, if_pos g2]
      · simp only [tk_v, bd_v, bx_vl, bx_vr, s2s, s2k, s2j, s1s, s1k, mg_v0, mg_v1, sb_v, List.getD_cons_zero, List.getD_cons_succ, not_false_eq_true, Nat.reduceEqDiff, reduceCtorEq]
      · simp only [tk_v, bd_v, bx_vl, bx_vr, s2s, s2k, s2j, s1s, s1k, mg_v0, mg_v1, sb_v, List.getD_cons_zero, List.getD_cons_succ, not_false_eq_true, Nat.reduceEqDiff, reduceCtorEq, hM]
    · rw [bq_w g2]
      refine ⟨_, rfl, by simp only [tk_v, bd_v, bx_vl, bx_vr, s2s, s2k, s2j, s1s, s1k, mg_v0, mg_v1, sb_v, List.getD_cons_zero, List.getD_cons_succ, not_false_eq_true, Nat.reduceEqDiff, reduceCtorEq], fun k hk => by rw [s2k (by omega), s2k (by omega), s2k (by omega)], fun j hj => ?_, ?_, ?_, ?_, ?_, ?_⟩
      · simp only [tk_v, bd_v, bx_vl, bx_vr, s2s, s2k, s2j, s1s, s1k, mg_v0, mg_v1, sb_v, List.getD_cons_zero, List.getD_cons_succ, not_false_eq_true, Nat.reduceEqDiff, reduceCtorEq, s2j hj, and_self]
      · simp only [tk_v, bd_v, bx_vl, bx_vr, s2s, s2k, s2j, s1s, s1k, mg_v0, mg_v1, sb_v, List.getD_cons_zero, List.getD_cons_succ, not_false_eq_true, Nat.reduceEqDiff, reduceCtorEq, hA]
      · simp only [tk_v, bd_v, bx_vl, bx_vr, s2s, s2k, s2j, s1s, s1k, mg_v0, mg_v1, sb_v, List.getD_cons_zero, List.getD_cons_succ, not_false_eq_true, Nat.reduceEqDiff, reduceCtorEq, hB, lrB, if_pos g1, if_neg g2]
      · simp only [tk_v, bd_v, bx_vl, bx_vr, s2s, s2k, s2j, s1s, s1k, mg_v0, mg_v1, sb_v, List.getD_cons_zero, List.getD_cons_succ, not_false_eq_true, Nat.reduceEqDiff, reduceCtorEq, hC, lrC, if_pos g1, if_neg g2]
      · simp only [tk_v, bd_v, bx_vl, bx_vr, s2s, s2k, s2j, s1s, s1k, mg_v0, mg_v1, sb_v, List.getD_cons_zero, List.getD_cons_succ, not_false_eq_true, Nat.reduceEqDiff, reduceCtorEq]
      · simp only [tk_v, bd_v, bx_vl, bx_vr, s2s, s2k, s2j, s1s, s1k, mg_v0, mg_v1, sb_v, List.getD_cons_zero, List.getD_cons_succ, not_false_eq_true, Nat.reduceEqDiff, reduceCtorEq, hM]
  · rw [bq_w g1]
    refine ⟨_, rfl, by simp only [tk_v, bd_v, bx_vl, bx_vr, s2s, s2k, s2j, s1s, s1k, mg_v0, mg_v1, sb_v, List.getD_cons_zero, List.getD_cons_succ, not_false_eq_true, Nat.reduceEqDiff, reduceCtorEq], fun k hk => by rw [s2k (by omega), s2k (by omega), s2k (by omega)], fun j hj => ?_, ?_, ?_, ?_, ?_, ?_⟩
    · simp only [tk_v, bd_v, bx_vl, bx_vr, s2s, s2k, s2j, s1s, s1k, mg_v0, mg_v1, sb_v, List.getD_cons_zero, List.getD_cons_succ, not_false_eq_true, Nat.reduceEqDiff, reduceCtorEq, s2j hj, and_self]
    · simp only [tk_v, bd_v, bx_vl, bx_vr, s2s, s2k, s2j, s1s, s1k, mg_v0, mg_v1, sb_v, List.getD_cons_zero, List.getD_cons_succ, not_false_eq_true, Nat.reduceEqDiff, reduceCtorEq, hA]
    · simp only [tk_v, bd_v, bx_vl, bx_vr, s2s, s2k, s2j, s1s, s1k, mg_v0, mg_v1, sb_v, List.getD_cons_zero, List.getD_cons_succ, not_false_eq_true, Nat.reduceEqDiff, reduceCtorEq, hB, lrB, if_neg g1]
    · simp only [tk_v, bd_v, bx_vl, bx_vr, s2s, s2k, s2j, s1s, s1k, mg_v0, mg_v1, sb_v, List.getD_cons_zero, List.getD_cons_succ, not_false_eq_true, Nat.reduceEqDiff, reduceCtorEq, hC, lrC, if_neg g1]
    · simp only [tk_v, bd_v, bx_vl, bx_vr, s2s, s2k, s2j, s1s, s1k, mg_v0, mg_v1, sb_v, List.getD_cons_zero, List.getD_cons_succ, not_false_eq_true, Nat.reduceEqDiff, reduceCtorEq]
    · simp only [tk_v, bd_v, bx_vl, bx_vr, s2s, s2k, s2j, s1s, s1k, mg_v0, mg_v1, sb_v, List.getD_cons_zero, List.getD_cons_succ, not_false_eq_true, Nat.reduceEqDiff, reduceCtorEq, hM]
theorem UP_tr {q : Nat} {u u1 u2 : gU} {A B C N M A' B' C' N' M' : Int32} (h1 : UP q u u1 A B C N M) (h2 : UP q u1 u2 A' B' C' N' M') : UP q u u2 A' B' C' N' M' := by
  obtain ⟨a0, a1, a2, -⟩ := h1
  obtain ⟨b0, b1, b2, b3⟩ := h2
  refine ⟨by rw [b0, a0], fun k hk => by rw [b1 k hk, a1 k hk], fun j hj => ?_, b3⟩
  obtain ⟨c1, c2, c3, c4, c5⟩ := a2 j hj
  obtain ⟨d1, d2, d3, d4, d5⟩ := b2 j hj
  exact ⟨by rw [d1, c1], by rw [d2, c2], by rw [d3, c3], by rw [d4, c4], by rw [d5, c5]⟩
theorem VP_tr {q : Nat} {u u1 u2 : gU} {A B C N M A' B' C' N' M' : Int32} (h1 : VP q u u1 A B C N M) (h2 : VP q u1 u2 A' B' C' N' M') : VP q u u2 A' B' C' N' M' := by
  obtain ⟨a0, a1, -⟩ := h1
  obtain ⟨b0, b1, b3⟩ := h2
  exact ⟨fun k hk => by rw [b0 k hk, a0 k hk], fun i hi => by rw [b1 i hi, a1 i hi], b3⟩
theorem sh64 : (64 : Int32) >>> (1 &&& 31) = 32 := by decide
theorem learnC {u : gU} {q : Nat} (hq : q < 367) {A B C N M e s : Int32} (hA : u 1 q = A) (hB : u 2 q = B) (hC : u 3 q = C) (hN : u 4 q = N) (hM : u 5 q = M) : ∃ u' : gU, f_Ctx_learnRegular (nI q) e s u = some u' ∧ UP q u u' (lrA A e N) (lrB (lrB0 B e s N) (lrN N)) (lrC (lrB0 B e s N) C (lrN N)) (lrN N) M := by
  unfold f_Ctx_learnRegular
  simp only [gd_v (ix_n hq (by omega)), tc_n (show q < 2 ^ 31 by omega), tk_v, bd_v, bx_vl, bx_vr, s2s, s2k, s2j, s1s, s1k, mg_v0, mg_v1, sb_v, List.getD_cons_zero, List.getD_cons_succ, not_false_eq_true, Nat.reduceEqDiff, reduceCtorEq]
  rw [hA, hB, hN, show (if 0 ≤ e then e else 0 - e) = abI e from rfl]
  by_cases g : N = 64
  · rw [bq_v g]
    subst g
    have T : UP q u (st2 (st2 (st2 (st2 (st2 u 2 q (B + e * s)) 1 q (A + abI e)) 1 q ((A + abI e) >>> (1 &&& 31))) 2 q ((B + e * s) >>> (1 &&& 31))) 4 q ((64 : Int32) >>> (1 &&& 31))) ((A + abI e) >>> (1 &&& 31)) ((B + e * s) >>> (1 &&& 31)) C ((64 : Int32) >>> (1 &&& 31)) M := by
      refine ⟨by simp only [tk_v, bd_v, bx_vl, bx_vr, s2s, s2k, s2j, s1s, s1k, mg_v0, mg_v1, sb_v, List.getD_cons_zero, List.getD_cons_succ, not_false_eq_true, Nat.reduceEqDiff, reduceCtorEq], fun k hk => by rw [s2k (by omega), s2k (by omega), s2k (by omega), s2k (by omega), s2k (by omega)], fun j hj => ?_, ?_, ?_, ?_, ?_, ?_⟩
      · simp only [tk_v, bd_v, bx_vl, bx_vr, s2s, s2k, s2j, s1s, s1k, mg_v0, mg_v1, sb_v, List.getD_cons_zero, List.getD_cons_succ, not_false_eq_true, Nat.reduceEqDiff, reduceCtorEq, s2j hj, and_self]
      · simp only [tk_v, bd_v, bx_vl, bx_vr, s2s, s2k, s2j, s1s, s1k, mg_v0, mg_v1, sb_v, List.getD_cons_zero, List.getD_cons_succ, not_false_eq_true, Nat.reduceEqDiff, reduceCtorEq]
      · simp only [tk_v, bd_v, bx_vl, bx_vr, s2s, s2k, s2j, s1s, s1k, mg_v0, mg_v1, sb_v, List.getD_cons_zero, List.getD_cons_succ, not_false_eq_true, Nat.reduceEqDiff, reduceCtorEq]
      · simp only [tk_v, bd_v, bx_vl, bx_vr, s2s, s2k, s2j, s1s, s1k, mg_v0, mg_v1, sb_v, List.getD_cons_zero, List.getD_cons_succ, not_false_eq_true, Nat.reduceEqDiff, reduceCtorEq, hC]
      · simp only [tk_v, bd_v, bx_vl, bx_vr, s2s, s2k, s2j, s1s, s1k, mg_v0, mg_v1, sb_v, List.getD_cons_zero, List.getD_cons_succ, not_false_eq_true, Nat.reduceEqDiff, reduceCtorEq]
      · simp only [tk_v, bd_v, bx_vl, bx_vr, s2s, s2k, s2j, s1s, s1k, mg_v0, mg_v1, sb_v, List.getD_cons_zero, List.getD_cons_succ, not_false_eq_true, Nat.reduceEqDiff, reduceCtorEq, hM]
    obtain ⟨u', e1, e2⟩ := j66 hq T.2.2.2.1 T.2.2.2.2.1 T.2.2.2.2.2.1 T.2.2.2.2.2.2.1 T.2.2.2.2.2.2.2
    refine ⟨u', e1, ?_⟩
    have e3 := UP_tr T e2
    rw [sh64] at e3
    exact e3
  · rw [bq_w g]
    have T : UP q u (st2 (st2 u 2 q (B + e * s)) 1 q (A + abI e)) (A + abI e) (B + e * s) C N M := by
      refine ⟨by simp only [tk_v, bd_v, bx_vl, bx_vr, s2s, s2k, s2j, s1s, s1k, mg_v0, mg_v1, sb_v, List.getD_cons_zero, List.getD_cons_succ, not_false_eq_true, Nat.reduceEqDiff, reduceCtorEq], fun k hk => by rw [s2k (by omega), s2k (by omega)], fun j hj => ?_, ?_, ?_, ?_, ?_, ?_⟩
      · simp only [tk_v, bd_v, bx_vl, bx_vr, s2s, s2k, s2j, s1s, s1k, mg_v0, mg_v1, sb_v, List.getD_cons_zero, List.getD_cons_succ, not_false_eq_true, Nat.reduceEqDiff, reduceCtorEq, s2j hj, and_self]
      · simp only [tk_v, bd_v, bx_vl, bx_vr, s2s, s2k, s2j, s1s, s1k, mg_v0, mg_v1, sb_v, List.getD_cons_zero, List.getD_cons_succ, not_false_eq_true, Nat.reduceEqDiff, reduceCtorEq]
      · simp only [tk_v, bd_v, bx_vl, bx_vr, s2s, s2k, s2j, s1s, s1k, mg_v0, mg_v1, sb_v, List.getD_cons_zero, List.getD_cons_succ, not_false_eq_true, Nat.reduceEqDiff, reduceCtorEq]
      · simp only [tk_v, bd_v, bx_vl, bx_vr, s2s, s2k, s2j, s1s, s1k, mg_v0, mg_v1, sb_v, List.getD_cons_zero, List.getD_cons_succ, not_false_eq_true, Nat.reduceEqDiff, reduceCtorEq, hC]
      · simp only [tk_v, bd_v, bx_vl, bx_vr, s2s, s2k, s2j, s1s, s1k, mg_v0, mg_v1, sb_v, List.getD_cons_zero, List.getD_cons_succ, not_false_eq_true, Nat.reduceEqDiff, reduceCtorEq, hN]
      · simp only [tk_v, bd_v, bx_vl, bx_vr, s2s, s2k, s2j, s1s, s1k, mg_v0, mg_v1, sb_v, List.getD_cons_zero, List.getD_cons_succ, not_false_eq_true, Nat.reduceEqDiff, reduceCtorEq, hM]
    obtain ⟨u', e1, e2⟩ := j66 hq T.2.2.2.1 T.2.2.2.2.1 T.2.2.2.2.2.1 T.2.2.2.2.2.2.1 T.2.2.2.2.2.2.2
    refine ⟨u', e1, ?_⟩
    have e3 := UP_tr T e2
    unfold lrA lrB0 lrN
    rw [if_neg g, if_neg g, if_neg g]
    exact e3
theorem lrB_m {b n : Int32} (h1 : 1 ≤ n.toInt) (h2 : n.toInt ≤ 64) : lrB b n = if -n < b then (if b ≤ 0 then b else (if b - n ≤ 0 then b - n else 0)) else (if -n < b + n then b + n else 1 - n) := by
  unfold lrB
  have e1 := i_neg (a := n) (by omega)
  have o1 : (1 : Int32).toInt = 1 := by decide
  have z0 : (0 : Int32).toInt = 0 := by decide
  have e2 := i_sub (a := 1) (b := n) (by omega) (by omega)
  by_cases g1 : -n < b
  · rw [if_pos g1, if_pos g1]
    by_cases g2 : b ≤ 0
    · rw [if_pos g2, if_pos g2]
    · rw [if_neg g2, if_neg g2]
      by_cases g3 : 0 < b - n
      · rw [if_pos g3, if_neg (by rw [i_le]; rw [i_lt] at g3; omega)]
      · rw [if_neg g3, if_pos (by rw [i_le]; rw [i_lt] at g3; omega)]
  · rw [if_neg g1, if_neg g1]
    by_cases g3 : b + n < 1 - n
    · rw [if_pos g3, if_neg (by rw [i_lt]; rw [i_lt] at g3; omega)]
    · rw [if_neg g3, if_pos (by rw [i_lt]; rw [i_lt] at g3; omega)]
theorem lrC_m {b c n : Int32} (h1 : -128 ≤ c.toInt) (h2 : c.toInt ≤ 127) : lrC b c n = (if -n < b then (if b ≤ 0 then c else (if 127 ≤ c then c else c + 1)) else (if c ≤ -128 then c else c - 1)) ∧ -128 ≤ (lrC b c n).toInt ∧ (lrC b c n).toInt ≤ 127 := by
  unfold lrC
  have o1 : (1 : Int32).toInt = 1 := by decide
  have o2 : (127 : Int32).toInt = 127 := by decide
  have o3 : (-128 : Int32).toInt = -128 := by decide
  have e1 := i_add (a := c) (b := 1) (by omega) (by omega)
  have e2 := i_sub (a := c) (b := 1) (by omega) (by omega)
  by_cases g1 : -n < b
  · rw [if_pos g1, if_pos g1]
    by_cases g2 : b ≤ 0
    · rw [if_pos g2, if_pos g2]
      exact ⟨rfl, h1, h2⟩
    · rw [if_neg g2, if_neg g2]
      by_cases g3 : 127 < c + 1
      · rw [if_pos g3]
        rw [i_lt] at g3
        rw [if_pos (by rw [i_le]; omega)]
        exact ⟨i_eq.mpr (by omega), by omega, by omega⟩
      · rw [if_neg g3]
        rw [i_lt] at g3
        rw [if_neg (by rw [i_le]; omega)]
        exact ⟨rfl, by omega, by omega⟩
  · rw [if_neg g1, if_neg g1]
    by_cases g3 : c - 1 < -128
    · rw [if_pos g3]
      rw [i_lt] at g3
      rw [if_pos (by rw [i_le]; omega)]
      exact ⟨i_eq.mpr (by omega), by omega, by omega⟩
    · rw [if_neg g3]
      rw [i_lt] at g3
      rw [if_neg (by rw [i_le]; omega)]
      exact ⟨rfl, by omega, by omega⟩

theorem j93 {v : gU} {q : Nat} (hq : q < 367) {A B C N M : Int32} (h1 : 0 ≤ N.toInt) (h2 : N.toInt ≤ 63) (h3 : -128 ≤ C.toInt) (h4 : C.toInt ≤ 127) (hA : v 3 (5 * q) = A) (hB : v 3 (5 * q + 1) = B) (hC : v 3 (5 * q + 2) = C) (hN : v 3 (5 * q + 3) = N) (hM : v 3 (5 * q + 4) = M) : ∃ v' : gU, J_Mod_learn_93 (nI (5 * q)) v = some v' ∧ VP q v v' A (lrB B (N + 1)) (lrC B C (N + 1)) (N + 1) M := by
  have o1 : (1 : Int32).toInt = 1 := by decide
  have e1 := i_add (a := N) (b := 1) (by omega) (by omega)
  have hB' := lrB_m (b := B) (n := N + 1) (by omega) (by omega)
  have hC' := (lrC_m (b := B) (n := N + 1) h3 h4).1
  have k1 : ¬ 5 * q + 3 = 5 * q + 1 := by omega
  have k2 : ¬ 5 * q + 3 = 5 * q + 2 := by omega
  have k3 : ¬ 5 * q + 1 = 5 * q + 3 := by omega
  have k4 : ¬ 5 * q + 2 = 5 * q + 3 := by omega
  have k5 : ¬ 5 * q + 1 = 5 * q + 2 := by omega
  have k6 : ¬ 5 * q + 2 = 5 * q + 1 := by omega
  have k7 : ¬ 5 * q = 5 * q + 1 := by omega
  have k8 : ¬ 5 * q = 5 * q + 2 := by omega
  have k9 : ¬ 5 * q = 5 * q + 3 := by omega
  have k10 : ¬ 5 * q + 4 = 5 * q + 1 := by omega
  have k11 : ¬ 5 * q + 4 = 5 * q + 2 := by omega
  have k12 : ¬ 5 * q + 4 = 5 * q + 3 := by omega
  have fin : ∀ b c : Int32, b = lrB B (N + 1) → c = lrC B C (N + 1) → VP q v (st2 (st2 (st2 v 3 (5 * q + 3) (N + 1)) 3 (5 * q + 1) b) 3 (5 * q + 2) c) A (lrB B (N + 1)) (lrC B C (N + 1)) (N + 1) M := by
    intro b c eb ec
    refine ⟨fun k hk => by rw [s2k hk, s2k hk, s2k hk], fun i hi => by rw [s2j (by omega), s2j (by omega), s2j (by omega)], ?_, ?_, ?_, ?_, ?_⟩
    · rw [s2j k8, s2j k7, s2j k9, hA]
    · rw [s2j k5, s2s, eb]
    · rw [s2s, ec]
    · rw [s2j k2, s2j k1, s2s]
    · rw [s2j k11, s2j k10, s2j k12, hM]
  have J : ∀ b c : Int32, J_Mod_learn_227 (nI (5 * q)) b c (st2 v 3 (5 * q + 3) (N + 1)) = some (st2 (st2 (st2 v 3 (5 * q + 3) (N + 1)) 3 (5 * q + 1) b) 3 (5 * q + 2) c) := by
    intro b c
    unfold J_Mod_learn_227
    rw [n1, n2, gd_v (ix_n (by omega) (by omega)), tk_v, gd_v (ix_n (by omega) (by omega)), tk_v, tc_n (n := 5 * q + 1) (by omega), tc_n (n := 5 * q + 2) (by omega)]
  unfold J_Mod_learn_93 J_Mod_learn_212 J_Mod_learn_163 J_Mod_learn_225 J_Mod_learn_180
  rw [n1, n2, n3, gd_v (ix_n (by omega) (by omega)), gd_v (ix_n (by omega) (by omega)), tk_v, gd_v (ix_n (by omega) (by omega)), tk_v, gd_v (ix_n (by omega) (by omega)), tk_v, gd_v (ix_n (by omega) (by omega)), tk_v, tc_n (n := 5 * q + 1) (by omega), tc_n (n := 5 * q + 2) (by omega), tc_n (n := 5 * q + 3) (by omega), s2s, s2j k3, s2j k4, hN, hB, hC]
  by_cases g1 : -(N + 1) < B
  · rw [bq_v g1]
    rw [if_pos g1] at hB' hC'
    by_cases g2 : B ≤ 0
    · rw [bq_v g2, J]
      rw [if_pos g2] at hB' hC'
      exact ⟨_, rfl, fin _ _ hB'.symm hC'.symm⟩
    · rw [bq_w g2, tk_v]
      rw [if_neg g2] at hB' hC'
      by_cases g3 : 127 ≤ C
      · rw [bq_v g3]
        rw [if_pos g3] at hC'
        by_cases g4 : B - (N + 1) ≤ 0
        · rw [bq_v g4, J]
          rw [if_pos g4] at hB'
          exact ⟨_, rfl, fin _ _ hB'.symm hC'.symm⟩
        · rw [bq_w g4, J]
          rw [if_neg g4] at hB'
          exact ⟨_, rfl, fin _ _ hB'.symm hC'.symm⟩
      · rw [bq_w g3]
        rw [if_neg g3] at hC'
        by_cases g4 : B - (N + 1) ≤ 0
        · rw [bq_v g4, J]
          rw [if_pos g4] at hB'
          exact ⟨_, rfl, fin _ _ hB'.symm hC'.symm⟩
        · rw [bq_w g4, J]
          rw [if_neg g4] at hB'
          exact ⟨_, rfl, fin _ _ hB'.symm hC'.symm⟩
  · rw [bq_w g1, tk_v]
    rw [if_neg g1] at hB' hC'
    by_cases g3 : C ≤ -128
    · rw [bq_v g3]
      rw [if_pos g3] at hC'
      by_cases g4 : -(N + 1) < B + (N + 1)
      · rw [bq_v g4, J]
        rw [if_pos g4] at hB'
        exact ⟨_, rfl, fin _ _ hB'.symm hC'.symm⟩
      · rw [bq_w g4, J]
        rw [if_neg g4] at hB'
        exact ⟨_, rfl, fin _ _ hB'.symm hC'.symm⟩
    · rw [bq_w g3]
      rw [if_neg g3] at hC'
      by_cases g4 : -(N + 1) < B + (N + 1)
      · rw [bq_v g4, J]
        rw [if_pos g4] at hB'
        exact ⟨_, rfl, fin _ _ hB'.symm hC'.symm⟩
      · rw [bq_w g4, J]
        rw [if_neg g4] at hB'
        exact ⟨_, rfl, fin _ _ hB'.symm hC'.symm⟩
theorem ab_m (e : Int32) : (if 0 ≤ e then e else -e) = abI e := by
  unfold abI
  split
  · rfl
  · exact (Int32.zero_sub e).symm
theorem j34 {v : gU} {q : Nat} (hq : q < 367) {A B C N M z : Int32} (h1 : 1 ≤ N.toInt) (h2 : N.toInt ≤ 64) (h3 : -128 ≤ C.toInt) (h4 : C.toInt ≤ 127) (hB : v 3 (5 * q + 1) = B) (hC : v 3 (5 * q + 2) = C) (hN : v 3 (5 * q + 3) = N) (hM : v 3 (5 * q + 4) = M) : ∃ v' : gU, J_Mod_learn_34 (nI (5 * q)) (nI (5 * q)) A z v = some v' ∧ VP q v v' (if N = 64 then (A + z) >>> (1 &&& 31) else A + z) (lrB (if N = 64 then B >>> (1 &&& 31) else B) (lrN N)) (lrC (if N = 64 then B >>> (1 &&& 31) else B) C (lrN N)) (lrN N) M := by
  have k1 : ¬ 5 * q + 3 = 5 * q + 1 := by omega
  have k2 : ¬ 5 * q + 3 = 5 * q := by omega
  have k3 : ¬ 5 * q + 1 = 5 * q + 3 := by omega
  have k4 : ¬ 5 * q + 2 = 5 * q + 3 := by omega
  have k5 : ¬ 5 * q + 1 = 5 * q := by omega
  have k6 : ¬ 5 * q + 2 = 5 * q + 1 := by omega
  have k7 : ¬ 5 * q = 5 * q + 1 := by omega
  have k8 : ¬ 5 * q + 2 = 5 * q := by omega
  have k9 : ¬ 5 * q = 5 * q + 3 := by omega
  have k10 : ¬ 5 * q + 4 = 5 * q + 1 := by omega
  have k11 : ¬ 5 * q + 4 = 5 * q := by omega
  have k12 : ¬ 5 * q + 4 = 5 * q + 3 := by omega
  unfold J_Mod_learn_34 f_Mod_half
  rw [n1, n3]
  simp only [gd_v (ix_n (show 5 * q < 1835 by omega) (by omega)), gd_v (ix_n (show 5 * q + 1 < 1835 by omega) (by omega)), gd_v (ix_n (show 5 * q + 3 < 1835 by omega) (by omega)), tc_n (show 5 * q < 2 ^ 31 by omega), tc_n (show 5 * q + 1 < 2 ^ 31 by omega), tc_n (show 5 * q + 3 < 2 ^ 31 by omega), tk_v, bd_v, s2s, s2j k2, s2j k5, s2j k1, s2j k3]
  rw [hN, hB]
  by_cases g : N = 64
  · rw [bq_v g]
    subst g
    rw [if_pos rfl, if_pos rfl]
    have T : VP q v (st2 (st2 (st2 (st2 v 3 (5 * q) (A + z)) 3 (5 * q) ((A + z) >>> (1 &&& 31))) 3 (5 * q + 1) (B >>> (1 &&& 31))) 3 (5 * q + 3) 32) ((A + z) >>> (1 &&& 31)) (B >>> (1 &&& 31)) C 32 M := by
      refine ⟨fun k hk => by rw [s2k hk, s2k hk, s2k hk, s2k hk], fun i hi => by rw [s2j (by omega), s2j (by omega), s2j (by omega), s2j (by omega)], ?_, ?_, ?_, ?_, ?_⟩
      · rw [s2j k9, s2j k7, s2s]
      · rw [s2j k3, s2s]
      · rw [s2j k4, s2j k6, s2j k8, s2j k8, hC]
      · rw [s2s]
      · rw [s2j k12, s2j k10, s2j k11, s2j k11, hM]
    obtain ⟨v', e1, e2⟩ := j93 hq (by decide) (by decide) h3 h4 T.2.2.1 T.2.2.2.1 T.2.2.2.2.1 T.2.2.2.2.2.1 T.2.2.2.2.2.2
    exact ⟨v', e1, VP_tr T e2⟩
  · rw [bq_w g, if_neg g, if_neg g]
    have T : VP q v (st2 v 3 (5 * q) (A + z)) (A + z) B C N M := by
      refine ⟨fun k hk => by rw [s2k hk], fun i hi => by rw [s2j (by omega)], ?_, ?_, ?_, ?_, ?_⟩
      · rw [s2s]
      · rw [s2j k5, hB]
      · rw [s2j k8, hC]
      · rw [s2j k2, hN]
      · rw [s2j k11, hM]
    have g' : ¬ N.toInt = 64 := fun hh => g (i_eq.mpr hh)
    obtain ⟨v', e1, e2⟩ := j93 hq (by omega) (by omega) h3 h4 T.2.2.1 T.2.2.2.1 T.2.2.2.2.1 T.2.2.2.2.2.1 T.2.2.2.2.2.2
    refine ⟨v', e1, ?_⟩
    unfold lrN
    rw [if_neg g]
    exact VP_tr T e2
theorem learnM {v : gU} {q : Nat} (hq : q < 367) {A B C N M e s : Int32} (h1 : 1 ≤ N.toInt) (h2 : N.toInt ≤ 64) (h3 : -128 ≤ C.toInt) (h4 : C.toInt ≤ 127) (hs : v 0 5 = s) (hA : v 3 (5 * q) = A) (hB : v 3 (5 * q + 1) = B) (hC : v 3 (5 * q + 2) = C) (hN : v 3 (5 * q + 3) = N) (hM : v 3 (5 * q + 4) = M) : ∃ v' : gU, f_Mod_learn (nI (5 * q)) e v = some v' ∧ VP q v v' (lrA A e N) (lrB (lrB0 B e s N) (lrN N)) (lrC (lrB0 B e s N) C (lrN N)) (lrN N) M := by
  have k5 : ¬ 5 * q = 5 * q + 1 := by omega
  have k6 : ¬ 5 * q + 2 = 5 * q + 1 := by omega
  have k7 : ¬ 5 * q + 3 = 5 * q + 1 := by omega
  have k8 : ¬ 5 * q + 4 = 5 * q + 1 := by omega
  have T : VP q v (st2 v 3 (5 * q + 1) (B + e * s)) A (B + e * s) C N M := by
    refine ⟨fun k hk => by rw [s2k hk], fun i hi => by rw [s2j (by omega)], ?_, ?_, ?_, ?_, ?_⟩
    · rw [s2j k5, hA]
    · rw [s2s]
    · rw [s2j k6, hC]
    · rw [s2j k7, hN]
    · rw [s2j k8, hM]
  obtain ⟨v', e1, e2⟩ := j34 (z := abI e) hq (A := A) h1 h2 h3 h4 T.2.2.2.1 T.2.2.2.2.1 T.2.2.2.2.2.1 T.2.2.2.2.2.2
  refine ⟨v', ?_, VP_tr T e2⟩
  unfold f_Mod_learn
  rw [n1, gd_v (ix_n (by omega) (by omega)), gd_v (ix_n (by omega) (by omega)), tk_v, gd_v (ix_n (by omega) (by omega)), tc_n (n := 5 * q + 1) (by omega), tc_n (n := 5 * q) (by omega), s2j k5, hA, hB, hs]
  have hab := ab_m e
  by_cases g : 0 ≤ e
  · rw [bq_v g]
    rw [if_pos g] at hab
    rw [← hab] at e1
    exact e1
  · rw [bq_w g]
    rw [if_neg g] at hab
    rw [← hab] at e1
    exact e1
theorem sh1 (a : Int32) (h : 0 ≤ a.toInt) : (a >>> (1 &&& 31)).toInt = a.toInt / 2 := by
  obtain ⟨n, hn, rfl⟩ := nI_of (x := a) (by rw [i_lt]; simp; omega)
  rw [show (1 : Int32) &&& 31 = nI 1 &&& 31 from rfl, shrN (by omega) hn, nI_toInt hn, nI_toInt (by omega)]
  omega
theorem learn_ok {u v : gU} {q : Nat} {e s : Int32} (hq : q < 367) (h : CX u v) (e1 : -256 ≤ e.toInt) (e2 : e.toInt ≤ 256) (hs : v 0 5 = s) : ∃ u' v' : gU, f_Ctx_learnRegular (nI q) e s u = some u' ∧ f_Mod_learn (nI (5 * q)) e v = some v' ∧ CX u' v' ∧ u' 0 = u 0 ∧ (∀ k, 6 ≤ k → u' k = u k) ∧ (∀ k, ¬ k = 3 → v' k = v k) := by
  obtain ⟨r0, r1, r2, hc⟩ := h
  obtain ⟨c1, c2, c3, c4, c5, c6, c7, c8, c9, c10, c11⟩ := hc q hq
  obtain ⟨u', f1, f2⟩ := learnC (u := u) (e := e) (s := s) hq rfl rfl rfl rfl rfl
  obtain ⟨v', g1, g2⟩ := learnM (e := e) hq c6 c7 c10 c11 hs c1.symm c2.symm c3.symm c4.symm c5.symm
  have hab : 0 ≤ (abI e).toInt ∧ (abI e).toInt ≤ 256 := by
    unfold abI
    have z0 : (0 : Int32).toInt = 0 := by decide
    have := i_sub (a := 0) (b := e) (by omega) (by omega)
    by_cases g : 0 ≤ e
    · rw [if_pos g]
      rw [i_le] at g
      omega
    · rw [if_neg g]
      rw [i_le] at g
      omega
  have hA : (u 1 q + abI e).toInt = (u 1 q).toInt + (abI e).toInt := i_add (by omega) (by omega)
  have hN : (lrN (u 4 q)).toInt = if (u 4 q).toInt = 64 then 33 else (u 4 q).toInt + 1 := by
    unfold lrN
    by_cases g : u 4 q = 64
    · rw [if_pos g, g, if_pos (by decide)]
      decide
    · have o1 : (1 : Int32).toInt = 1 := by decide
      have g' : ¬ (u 4 q).toInt = 64 := fun hh => g (i_eq.mpr hh)
      rw [if_neg g, if_neg g', i_add (by omega) (by omega), o1]
  have hA2 : (lrA (u 1 q) e (u 4 q)).toInt = if (u 4 q).toInt = 64 then ((u 1 q).toInt + (abI e).toInt) / 2 else (u 1 q).toInt + (abI e).toInt := by
    unfold lrA
    by_cases g : u 4 q = 64
    · rw [if_pos g, g, if_pos (by decide), sh1 _ (by omega), hA]
    · have g' : ¬ (u 4 q).toInt = 64 := fun hh => g (i_eq.mpr hh)
      rw [if_neg g, if_neg g', hA]
  have hCC := (lrC_m (b := lrB0 (u 2 q) e s (u 4 q)) (n := lrN (u 4 q)) c10 c11).2
  refine ⟨u', v', f1, g1, CX_up ⟨r0, r1, r2, hc⟩ f2 g2 ?_ ?_ ?_ ?_ hCC.1 hCC.2, f2.1, f2.2.1, g2.1⟩
  · rw [hN]
    split <;> omega
  · rw [hN]
    split <;> omega
  · rw [hA2]
    split <;> omega
  · rw [hA2, hN]
    split <;> omega
