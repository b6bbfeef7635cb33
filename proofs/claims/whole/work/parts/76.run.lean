/-! runs and the walk, coded -/
def EK (W H M N T : Nat) (u v : gU) : Prop := PicW W H M N (u 1) ∧ ModW W H M N (v 0) ∧ CX (sb [2, 3, 4, 5, 6, 7] u) v ∧ SmW W H M (u 9) (v 1) ∧ WR T (sb [10, 11] u) v ∧ v 0 16 = 0 ∧ v 0 20 = 1
theorem EN_k {W H M N T x y : Nat} {u v : gU} (h : EK W H M N T u v) (hR : RbW W M x y (u 8) (v 2)) : EN W H M N T x y u v := by
  obtain ⟨a, b, c, d, e, f, g⟩ := h
  exact ⟨a, b, c, hR, d, e, f, g⟩
theorem EK_n {W H M N T x y : Nat} {u v : gU} (h : EN W H M N T x y u v) : EK W H M N T u v ∧ RbW W M x y (u 8) (v 2) := by
  obtain ⟨a, b, c, hR, d, e, f, g⟩ := h
  exact ⟨⟨a, b, c, d, e, f, g⟩, hR⟩
theorem EK_le {W H M N T T' : Nat} {u v : gU} (h : EK W H M N T u v) (ht : T ≤ T') : EK W H M N T' u v := by
  obtain ⟨a, b, c, d, e, f, g⟩ := h
  exact ⟨a, b, c, d, WR_le e ht, f, g⟩
theorem EK_eq {W H M N T : Nat} {u v u' v' : gU} (h : EK W H M N T u v) (e : ∀ k, k < 12 → ¬ k = 0 → ¬ k = 8 → u' k = u k) (f : ∀ k, ¬ k = 2 → v' k = v k) : EK W H M N T u' v' := by
  obtain ⟨a, b, c, d, w, g1, g2⟩ := h
  refine ⟨by rw [e 1 (by decide) (by decide) (by decide)]; exact a, by rw [f 0 (by decide)]; exact b, ?_, by rw [e 9 (by decide) (by decide) (by decide), f 1 (by decide)]; exact d, ?_, by rw [f 0 (by decide)]; exact g1, by rw [f 0 (by decide)]; exact g2⟩
  · refine CX_eq c ?_ (fun q hq => ?_) (by rw [f 0 (by decide)]) (f 3 (by decide))
    · simp only [tk_v, bd_v, bx_vl, bx_vr, s2s, s2k, s2j, s1s, s1k, mg_v0, mg_v1, sb_v, List.getD_cons_zero, List.getD_cons_succ, not_false_eq_true, Nat.reduceEqDiff, reduceCtorEq]
      rw [e 2 (by decide) (by decide) (by decide)]
    · simp only [tk_v, bd_v, bx_vl, bx_vr, s2s, s2k, s2j, s1s, s1k, mg_v0, mg_v1, sb_v, List.getD_cons_zero, List.getD_cons_succ, not_false_eq_true, Nat.reduceEqDiff, reduceCtorEq]
      rw [e 3 (by decide) (by decide) (by decide), e 4 (by decide) (by decide) (by decide), e 5 (by decide) (by decide) (by decide), e 6 (by decide) (by decide) (by decide), e 7 (by decide) (by decide) (by decide)]
      exact ⟨rfl, rfl, rfl, rfl, rfl⟩
  · refine WR_eq w ?_ ?_ (by rw [f 0 (by decide)]) (by rw [f 0 (by decide)]) (by rw [f 0 (by decide)]) (f 4 (by decide))
    · simp only [tk_v, bd_v, bx_vl, bx_vr, s2s, s2k, s2j, s1s, s1k, mg_v0, mg_v1, sb_v, List.getD_cons_zero, List.getD_cons_succ, not_false_eq_true, Nat.reduceEqDiff, reduceCtorEq]
      rw [e 10 (by decide) (by decide) (by decide)]
    · simp only [tk_v, bd_v, bx_vl, bx_vr, s2s, s2k, s2j, s1s, s1k, mg_v0, mg_v1, sb_v, List.getD_cons_zero, List.getD_cons_succ, not_false_eq_true, Nat.reduceEqDiff, reduceCtorEq]
      rw [e 11 (by decide) (by decide) (by decide)]
theorem EK_wr {W H M N T T' : Nat} {u v v' w : gU} (h : EK W H M N T u v) (hw : WR T' w v') (f : FM v v') : EK W H M N T' (mg [10, 11] 0 u w) v' := by
  obtain ⟨a, b, c, d, -, g1, g2⟩ := h
  refine ⟨by simp only [tk_v, bd_v, bx_vl, bx_vr, s2s, s2k, s2j, s1s, s1k, mg_v0, mg_v1, sb_v, List.getD_cons_zero, List.getD_cons_succ, not_false_eq_true, Nat.reduceEqDiff, reduceCtorEq]; exact a, ModW_eq b (fun j j1 j2 => f.2 j (by omega) (by omega) (by omega)), ?_, by rw [f.1 1 (by decide) (by decide)]; simp only [tk_v, bd_v, bx_vl, bx_vr, s2s, s2k, s2j, s1s, s1k, mg_v0, mg_v1, sb_v, List.getD_cons_zero, List.getD_cons_succ, not_false_eq_true, Nat.reduceEqDiff, reduceCtorEq]; exact d, ?_, by rw [f.2 16 (by decide) (by decide) (by decide)]; exact g1, by rw [f.2 20 (by decide) (by decide) (by decide)]; exact g2⟩
  · refine CX_eq c ?_ (fun q hq => ?_) (f.2 12 (by decide) (by decide) (by decide)) (f.1 3 (by decide) (by decide))
    · simp only [tk_v, bd_v, bx_vl, bx_vr, s2s, s2k, s2j, s1s, s1k, mg_v0, mg_v1, sb_v, List.getD_cons_zero, List.getD_cons_succ, not_false_eq_true, Nat.reduceEqDiff, reduceCtorEq]
    · simp only [tk_v, bd_v, bx_vl, bx_vr, s2s, s2k, s2j, s1s, s1k, mg_v0, mg_v1, sb_v, List.getD_cons_zero, List.getD_cons_succ, not_false_eq_true, Nat.reduceEqDiff, reduceCtorEq, and_self]
  · refine WR_eq hw ?_ ?_ rfl rfl rfl rfl
    · simp only [tk_v, bd_v, bx_vl, bx_vr, s2s, s2k, s2j, s1s, s1k, mg_v0, mg_v1, sb_v, List.getD_cons_zero, List.getD_cons_succ, not_false_eq_true, Nat.reduceEqDiff, reduceCtorEq]
    · simp only [tk_v, bd_v, bx_vl, bx_vr, s2s, s2k, s2j, s1s, s1k, mg_v0, mg_v1, sb_v, List.getD_cons_zero, List.getD_cons_succ, not_false_eq_true, Nat.reduceEqDiff, reduceCtorEq]
theorem raise_ok {U v : gU} (h : CX U v) : ∃ (U' : gU) (z : Int32), f_Ctx_raiseRunIndex U = some U' ∧ (if 31 ≤ v 0 12 then (31 : Int32) else v 0 12 + 1) = z ∧ CX U' (st2 v 0 12 z) := by
  obtain ⟨a, b, c, d⟩ := h
  have e31 : (31 : Int32).toInt = 31 := by decide
  have e1 : (1 : Int32).toInt = 1 := by decide
  unfold f_Ctx_raiseRunIndex
  by_cases g : 31 ≤ U 0 0
  · have g2 := g
    rw [i_le, e31] at g2
    have g3 : U 0 0 = 31 := i_eq.mpr (by omega)
    refine ⟨U, 31, bq_v g, by rw [← a, if_pos g], ?_, b, c, ?_⟩
    · rw [s2s, g3]
    · rw [s2k (by decide)]
      exact d
  · have g2 := g
    rw [i_le, e31] at g2
    have g3 : (U 0 0 + 1).toInt = (U 0 0).toInt + 1 := by rw [i_add (by omega) (by omega), e1]
    refine ⟨_, U 0 0 + 1, by rw [bq_w g, tk_v], by rw [← a, if_neg g], ?_, ?_, ?_, ?_⟩
    · rw [s2s, s2s]
    · rw [s2s]
      omega
    · rw [s2s]
      omega
    · rw [s2k (by decide), s2k (by decide), s2k (by decide), s2k (by decide), s2k (by decide), s2k (by decide)]
      exact d
theorem cnt_ok {W H M N x y a : Nat} (hP : PN W H M N) (hx : x < W) (hy : y < H) (ha : a ≤ M) {u : gU} (hu : PicW W H M N (u 1)) (hu0 : u 0 0 = nI a) : ∀ (d i n f : Nat) (v : gU), x + i + d = W → d < n → d < f → ModW W H M N (v 0) → SmW W H M (u 9) (v 1) → ∃ (L : Nat) (v' : gU), i ≤ L ∧ x + L ≤ W ∧ L_Cod_carryRun_2 n (nI (8 * y + x)) (nI (W - x)) (nI i) u = L_Cod_carryRun_39 100 (nI (W - x)) (nI L) (nI L) u ∧ L_Mod_writeRun_10 f (nI x) (nI y) (nI a) (nI (x + i)) v = L_Mod_writeRun_65 2000 (nI y) (nI (x + L)) (nI L) v' ∧ (∀ k, ¬ k = 2 → v' k = v k) ∧ (∀ k, i ≤ k → k < L → v' 2 (8 * y + (x + k)) = nI a) ∧ (∀ k, k < 8 * y + (x + i) ∨ 8 * y + (x + L) ≤ k → v' 2 k = v 2 k) ∧ (x + L < W → ∃ s, s ≤ M ∧ u 9 (8 * y + (x + L)) = nI s ∧ nrI (nI N) (nI s - nI a) = 0) := by
  obtain ⟨q1, q2, q3, q4, q5, q6, q7, q8⟩ := hP
  have h59 : ∀ (L : Nat) (v : gU), J_Mod_writeRun_59 (nI x) (nI y) (nI (x + L)) v = L_Mod_writeRun_65 2000 (nI y) (nI (x + L)) (nI L) v := by
    intro L v
    unfold J_Mod_writeRun_59
    rw [pk_sub (by omega), tk_v, Nat.add_sub_cancel_left]
  intro d
  induction d with
  | zero =>
    intro i n f v hi hn hf hv hS
    obtain ⟨n, rfl⟩ : ∃ k, n = k + 1 := ⟨n - 1, by omega⟩
    obtain ⟨f, rfl⟩ : ∃ k, f = k + 1 := ⟨f - 1, by omega⟩
    refine ⟨i, v, Nat.le_refl _, by omega, ?_, ?_, fun _ _ => rfl, fun k k1 k2 => by omega, fun _ _ => rfl, fun h => by omega⟩
    · unfold L_Cod_carryRun_2
      rw [bq_v (nI_le (by omega) (by omega))]
    · unfold L_Mod_writeRun_10
      rw [hv.1, bq_v (nI_le (by omega) (by omega)), h59]
  | succ d ih =>
    intro i n f v hi hn hf hv hS
    obtain ⟨n, rfl⟩ : ∃ k, n = k + 1 := ⟨n - 1, by omega⟩
    obtain ⟨f, rfl⟩ : ∃ k, f = k + 1 := ⟨f - 1, by omega⟩
    obtain ⟨s, hs, s1, s2⟩ := hS (x + i) y (by omega) hy
    have C1 : L_Cod_carryRun_2 (n + 1) (nI (8 * y + x)) (nI (W - x)) (nI i) u = bq (nrI (nI N) (nI s - nI a) = 0) (L_Cod_carryRun_39 100 (nI (W - x)) (nI i) (nI i) u) (L_Cod_carryRun_2 n (nI (8 * y + x)) (nI (W - x)) (nI (i + 1)) u) := by
      conv => lhs; unfold L_Cod_carryRun_2
      rw [bq_w (nI_ge (by omega) (by omega)), nI_add, gd_v (ix_n (by omega) (by omega)), tc_n (by omega), Nat.add_assoc, s1, hu0, nrP, bd_v, tk_v, ← nI_succ, show sb [1] u 0 3 = nI N from hu.2.2.2.1]
    have C2 : L_Mod_writeRun_10 (f + 1) (nI x) (nI y) (nI a) (nI (x + i)) v = bq (nrI (nI N) (nI s - nI a) = 0) (L_Mod_writeRun_65 2000 (nI y) (nI (x + i)) (nI i) v) (L_Mod_writeRun_10 f (nI x) (nI y) (nI a) (nI (x + (i + 1))) (st2 v 2 (8 * y + (x + i)) (nI a))) := by
      conv => lhs; unfold L_Mod_writeRun_10
      rw [hv.1, bq_w (nI_ge (by omega) (by omega)), pl_m, gd_v (ix_n (by omega) (by omega)), tc_n (by omega), s2, nrM, bd_v, gd_v (ix_n (by omega) (by omega)), tk_v, tk_v, ← nI_succ, hv.2.2.2.1, h59]
      rfl
    rw [C1, C2]
    by_cases g : nrI (nI N) (nI s - nI a) = 0
    · rw [bq_v g, bq_v g]
      exact ⟨i, v, Nat.le_refl _, by omega, rfl, rfl, fun _ _ => rfl, fun k k1 k2 => by omega, fun _ _ => rfl, fun h => ⟨s, hs, s1, g⟩⟩
    · rw [bq_w g, bq_w g]
      obtain ⟨L, v', e1, e2, e3, e4, e5, e6, e7, e8⟩ := ih (i + 1) n f (st2 v 2 (8 * y + (x + i)) (nI a)) (by omega) (by omega) (by omega) (by rw [s2k (by decide)]; exact hv) (by rw [s2k (by decide)]; exact hS)
      refine ⟨L, v', by omega, e2, e3, e4, fun k hk => by rw [e5 k hk, s2k hk], fun k k1 k2 => ?_, fun k hk => ?_, e8⟩
      · by_cases hki : k = i
        · subst hki
          rw [e7 _ (Or.inl (by omega)), s2s]
        · exact e6 k (by omega) k2
      · rw [e7 k (by omega), s2j (by omega)]
theorem jof_v (a : Int32) (u v : gU) : f_Mod_jOf a u = f_Mod_jOf a v := by
  unfold f_Mod_jOf
  rfl
theorem jc_v (u w : gU) : f_Ctx_j (sb [2, 3, 4, 5, 6, 7] (mg [10, 11] 0 u w)) = f_Ctx_j (sb [2, 3, 4, 5, 6, 7] u) := by
  unfold f_Ctx_j
  simp only [tk_v, bd_v, bx_vl, bx_vr, s2s, s2k, s2j, s1s, s1k, mg_v0, mg_v1, sb_v, List.getD_cons_zero, List.getD_cons_succ, not_false_eq_true, Nat.reduceEqDiff, reduceCtorEq]
theorem EK_rs {W H M N T : Nat} {u v U : gU} {z : Int32} (h : EK W H M N T u v) (hC : CX U (st2 v 0 12 z)) : EK W H M N T (mg [2, 3, 4, 5, 6, 7] 0 u U) (st2 v 0 12 z) := by
  obtain ⟨a, b, c, d, w, g1, g2⟩ := h
  refine ⟨by simp only [tk_v, bd_v, bx_vl, bx_vr, s2s, s2k, s2j, s1s, s1k, mg_v0, mg_v1, sb_v, List.getD_cons_zero, List.getD_cons_succ, not_false_eq_true, Nat.reduceEqDiff, reduceCtorEq]; exact a, ModW_eq b (fun j j1 j2 => s2j (by omega)), ?_, by rw [s2k (by decide)]; simp only [tk_v, bd_v, bx_vl, bx_vr, s2s, s2k, s2j, s1s, s1k, mg_v0, mg_v1, sb_v, List.getD_cons_zero, List.getD_cons_succ, not_false_eq_true, Nat.reduceEqDiff, reduceCtorEq]; exact d, ?_, by rw [s2j (by decide)]; exact g1, by rw [s2j (by decide)]; exact g2⟩
  · refine CX_eq hC ?_ (fun q hq => ?_) rfl rfl
    · simp only [tk_v, bd_v, bx_vl, bx_vr, s2s, s2k, s2j, s1s, s1k, mg_v0, mg_v1, sb_v, List.getD_cons_zero, List.getD_cons_succ, not_false_eq_true, Nat.reduceEqDiff, reduceCtorEq]
    · simp only [tk_v, bd_v, bx_vl, bx_vr, s2s, s2k, s2j, s1s, s1k, mg_v0, mg_v1, sb_v, List.getD_cons_zero, List.getD_cons_succ, not_false_eq_true, Nat.reduceEqDiff, reduceCtorEq, and_self]
  · refine WR_eq w ?_ ?_ (s2j (by decide)) (s2j (by decide)) (s2j (by decide)) (s2k (by decide))
    · simp only [tk_v, bd_v, bx_vl, bx_vr, s2s, s2k, s2j, s1s, s1k, mg_v0, mg_v1, sb_v, List.getD_cons_zero, List.getD_cons_succ, not_false_eq_true, Nat.reduceEqDiff, reduceCtorEq]
    · simp only [tk_v, bd_v, bx_vl, bx_vr, s2s, s2k, s2j, s1s, s1k, mg_v0, mg_v1, sb_v, List.getD_cons_zero, List.getD_cons_succ, not_false_eq_true, Nat.reduceEqDiff, reduceCtorEq]
theorem sh_1 {j : Nat} (hj : j ≤ 15) : (1 : Int32) <<< (nI j &&& 31) = nI (2 ^ j) := by
  have hp : 2 ^ j ≤ 2 ^ 15 := Nat.pow_le_pow_right (by omega) hj
  have := shlN (n := 1) (i := j) (by omega) (by omega)
  rw [Nat.one_mul] at this
  exact this
theorem bits_ok {W H M N x y L : Nat} (hP : PN W H M N) (hx : x < W) (hL : x + L ≤ W) : ∀ (b r n f T : Nat) (u v : gU), r < b → r < n → r < f → r ≤ L → T + r + 16 ≤ 3000 → EK W H M N T u v → ∃ (u' v' : gU), L_Cod_carryRun_39 n (nI (W - x)) (nI L) (nI r) u = some (nI L, u') ∧ u' 0 = u 0 ∧ u' 8 = u 8 ∧ u' 9 = u 9 ∧ v' 2 = v 2 ∧ ((x + L = W ∧ L_Mod_writeRun_65 f (nI y) (nI (x + L)) (nI r) v = some (nI (x + L), v') ∧ EK W H M N (T + r) u' v') ∨ (x + L < W ∧ ∃ j : Nat, j ≤ 15 ∧ f_Mod_jOf (v' 0 12) v' = some (nI j) ∧ L_Mod_writeRun_65 f (nI y) (nI (x + L)) (nI r) v = (bd (f_Mod_endRun (nI (x + L)) (nI y) (nI j) v') fun w8 => tk (w8) fun u9 => some (nI (x + L) + 1, u9)) ∧ EK W H M N (T + r + 1 + j) u' v')) := by
  have hP' := hP
  obtain ⟨q1, q2, q3, q4, q5, q6, q7, q8⟩ := hP'
  intro b
  induction b with
  | zero =>
    intro r n f T u v hb hn hf hr hT h
    omega
  | succ b ih =>
    intro r n f T u v hb hn hf hr hT h
    obtain ⟨n, rfl⟩ : ∃ k, n = k + 1 := ⟨n - 1, by omega⟩
    obtain ⟨f, rfl⟩ : ∃ k, f = k + 1 := ⟨f - 1, by omega⟩
    have h' := h
    obtain ⟨h1, h2, h3, h4, h5, h6, h7⟩ := h'
    obtain ⟨j, hj, J1, J2⟩ := j_ok (U := sb [2, 3, 4, 5, 6, 7] u) (v := v) h3.1 h3.2.1 h3.2.2.1
    have hsh := sh_1 hj
    have hp : 2 ^ j ≤ 2 ^ 15 := Nat.pow_le_pow_right (by omega) hj
    have hp1 : 1 ≤ 2 ^ j := Nat.one_le_two_pow
    by_cases g : r < 2 ^ j
    · by_cases hl : x + L = W
      · by_cases r0 : r = 0
        · subst r0
          refine ⟨u, v, ?_, rfl, rfl, rfl, rfl, Or.inl ⟨hl, ?_, EK_le h (by omega)⟩⟩
          · unfold L_Cod_carryRun_39
            rw [J1, bd_v, hsh, bq_v (nI_lt g (by omega)), bq_v (nI_le (by omega) (by omega)), bq_v (by decide)]
          · unfold L_Mod_writeRun_65
            rw [J2, bd_v, hsh, bq_v (nI_lt g (by omega)), h2.1, hl, bq_v rfl, bq_v (by decide)]
        · obtain ⟨w, v1, g1, g2, g3, g4⟩ := one_ok (β := 1) (by omega) (by omega) h5
          have hn0 : ¬ nI r ≤ 0 := nI_nle (by omega) (by omega)
          refine ⟨mg [10, 11] 0 u w, v1, ?_, by simp only [tk_v, bd_v, bx_vl, bx_vr, s2s, s2k, s2j, s1s, s1k, mg_v0, mg_v1, sb_v, List.getD_cons_zero, List.getD_cons_succ, not_false_eq_true, Nat.reduceEqDiff, reduceCtorEq], by simp only [tk_v, bd_v, bx_vl, bx_vr, s2s, s2k, s2j, s1s, s1k, mg_v0, mg_v1, sb_v, List.getD_cons_zero, List.getD_cons_succ, not_false_eq_true, Nat.reduceEqDiff, reduceCtorEq], by simp only [tk_v, bd_v, bx_vl, bx_vr, s2s, s2k, s2j, s1s, s1k, mg_v0, mg_v1, sb_v, List.getD_cons_zero, List.getD_cons_succ, not_false_eq_true, Nat.reduceEqDiff, reduceCtorEq], g4.1 2 (by decide) (by decide), Or.inl ⟨hl, ?_, EK_le (EK_wr h g3 g4) (by omega)⟩⟩
          · unfold L_Cod_carryRun_39
            rw [J1, bd_v, hsh, bq_v (nI_lt g (by omega)), bq_v (nI_le (by omega) (by omega)), bq_w hn0, show f_Wri_writeBits 1 1 (sb [10, 11] u) = some w from g1, bd_v, tk_v]
          · unfold L_Mod_writeRun_65
            rw [J2, bd_v, hsh, bq_v (nI_lt g (by omega)), h2.1, hl, bq_v rfl, bq_w hn0, show f_Mod_put 1 v = some v1 from g2, bd_v, tk_v]
      · obtain ⟨w, v1, g1, g2, g3, g4⟩ := one_ok (β := 0) (by omega) (by omega) h5
        have k1 := EK_wr h g3 g4
        obtain ⟨w2, v2, m1, m2, m3, m4⟩ := many_ok (nI r) (nI r) j 100 2000 (T + 1) (sb [10, 11] (mg [10, 11] 0 u w)) v1 (by omega) (by omega) (by omega) k1.2.2.2.2.1 (fun _ _ => rfl)
        have k2 := EK_wr k1 m3 m4
        have hv1 : v1 0 12 = v 0 12 := g4.2 12 (by decide) (by decide) (by decide)
        have hv2 : v2 0 12 = v 0 12 := by rw [m4.2 12 (by decide) (by decide) (by decide), hv1]
        have JJ : ∀ q : gU, f_Mod_jOf (v 0 12) q = some (nI j) := fun q => (jof_v _ _ _).trans J2
        refine ⟨mg [10, 11] 0 (mg [10, 11] 0 u w) w2, v2, ?_, by simp only [tk_v, bd_v, bx_vl, bx_vr, s2s, s2k, s2j, s1s, s1k, mg_v0, mg_v1, sb_v, List.getD_cons_zero, List.getD_cons_succ, not_false_eq_true, Nat.reduceEqDiff, reduceCtorEq], by simp only [tk_v, bd_v, bx_vl, bx_vr, s2s, s2k, s2j, s1s, s1k, mg_v0, mg_v1, sb_v, List.getD_cons_zero, List.getD_cons_succ, not_false_eq_true, Nat.reduceEqDiff, reduceCtorEq], by simp only [tk_v, bd_v, bx_vl, bx_vr, s2s, s2k, s2j, s1s, s1k, mg_v0, mg_v1, sb_v, List.getD_cons_zero, List.getD_cons_succ, not_false_eq_true, Nat.reduceEqDiff, reduceCtorEq], by rw [m4.1 2 (by decide) (by decide), g4.1 2 (by decide) (by decide)], Or.inr ⟨by omega, j, hj, by rw [hv2]; exact JJ _, ?_, EK_le k2 (by omega)⟩⟩
        · unfold L_Cod_carryRun_39
          rw [J1, bd_v, hsh, bq_v (nI_lt g (by omega)), bq_w (nI_ge (by omega) (by omega)), show f_Wri_writeBits 0 1 (sb [10, 11] u) = some w from g1, bd_v, tk_v, jc_v, J1, bd_v]
          unfold f_Wri_writeBits
          rw [tk_v, m1, bd_v, tk_v]
        · have hne : ¬ nI (x + L) = nI W := fun hh => hl ((nI_eq (by omega) (by omega)).mp hh)
          unfold L_Mod_writeRun_65
          rw [J2, bd_v, hsh, bq_v (nI_lt g (by omega)), h2.1, bq_w hne, show f_Mod_put 0 v = some v1 from g2, bd_v, tk_v, hv1, JJ, bd_v]
          unfold f_Mod_putMany
          rw [tk_v, m2, bd_v, tk_v, hv2, JJ, bd_v]
    · obtain ⟨w, v1, g1, g2, g3, g4⟩ := one_ok (β := 1) (by omega) (by omega) h5
      have k1 := EK_wr h g3 g4
      obtain ⟨U', z, R1, R2, R3⟩ := raise_ok k1.2.2.1
      have k2 := EK_rs k1 R3
      have hv1 : v1 0 12 = v 0 12 := g4.2 12 (by decide) (by decide) (by decide)
      have JJ : ∀ q : gU, f_Mod_jOf (v 0 12) q = some (nI j) := fun q => (jof_v _ _ _).trans J2
      obtain ⟨u', v', a1, a2, a3, a9, a4, a5⟩ := ih (r - 2 ^ j) n f (T + 1) _ _ (by omega) (by omega) (by omega) (by omega) (by omega) k2
      have C1 : L_Cod_carryRun_39 (n + 1) (nI (W - x)) (nI L) (nI r) u = some (nI L, u') := by
        unfold L_Cod_carryRun_39
        rw [J1, bd_v, hsh, bq_w (nI_nlt (by omega) (by omega)), show f_Wri_writeBits 1 1 (sb [10, 11] u) = some w from g1, bd_v, tk_v, jc_v, J1, bd_v, hsh, tk_v, pk_sub (by omega), R1, bd_v, tk_v]
        exact a1
      have C2 : L_Mod_writeRun_65 (f + 1) (nI y) (nI (x + L)) (nI r) v = L_Mod_writeRun_65 f (nI y) (nI (x + L)) (nI (r - 2 ^ j)) (st2 v1 0 12 z) := by
        conv => lhs; unfold L_Mod_writeRun_65
        unfold J_Mod_writeRun_121
        rw [J2, bd_v, hsh, bq_w (nI_nlt (by omega) (by omega)), show f_Mod_put 1 v = some v1 from g2, bd_v, tk_v, hv1, JJ, bd_v, hsh, tk_v, pk_sub (by omega)]
        rw [hv1] at R2
        by_cases g31 : 31 ≤ v 0 12
        · rw [if_pos g31] at R2
          rw [bq_v g31, tk_v, R2]
        · rw [if_neg g31] at R2
          rw [bq_w g31, tk_v, R2]
      refine ⟨u', v', C1, by rw [a2]; simp only [tk_v, bd_v, bx_vl, bx_vr, s2s, s2k, s2j, s1s, s1k, mg_v0, mg_v1, sb_v, List.getD_cons_zero, List.getD_cons_succ, not_false_eq_true, Nat.reduceEqDiff, reduceCtorEq], by rw [a3]; simp only [tk_v, bd_v, bx_vl, bx_vr, s2s, s2k, s2j, s1s, s1k, mg_v0, mg_v1, sb_v, List.getD_cons_zero, List.getD_cons_succ, not_false_eq_true, Nat.reduceEqDiff, reduceCtorEq], by rw [a9]; simp only [tk_v, bd_v, bx_vl, bx_vr, s2s, s2k, s2j, s1s, s1k, mg_v0, mg_v1, sb_v, List.getD_cons_zero, List.getD_cons_succ, not_false_eq_true, Nat.reduceEqDiff, reduceCtorEq], by rw [a4, s2k (by decide)]; exact g4.1 2 (by decide) (by decide), ?_⟩
      rw [C2]
      rcases a5 with ⟨b1, b2, b3⟩ | ⟨b1, jj, b2, b3, b4, b5⟩
      · exact Or.inl ⟨b1, b2, EK_le b3 (by omega)⟩
      · exact Or.inr ⟨b1, jj, b2, b3, b4, EK_le b5 (by omega)⟩
theorem lk_k {u : gU} {a b c d : Int32} {k : Nat} (h : ¬ k = 0) : lkS u a b c d k = u k := by
  unfold lkS
  rw [s2k h, s2k h, s2k h, s2k h]
theorem lk_0 {u : gU} {a b c d : Int32} : lkS u a b c d 0 0 = a ∧ lkS u a b c d 0 1 = b ∧ lkS u a b c d 0 2 = c ∧ lkS u a b c d 0 3 = d := by
  unfold lkS
  simp only [tk_v, bd_v, bx_vl, bx_vr, s2s, s2k, s2j, s1s, s1k, mg_v0, mg_v1, sb_v, List.getD_cons_zero, List.getD_cons_succ, not_false_eq_true, Nat.reduceEqDiff, reduceCtorEq, and_self]
theorem bef_at {x y a : Nat} {v : gU} (hx : x + 1 < 8) (hy : y < 8) (h : v 2 (8 * y + x) = nI a) : f_Mod_before (nI (x + 1)) (nI y) v = some (nI a) := by
  unfold f_Mod_before f_Mod_value
  rw [bq_w (nI_nle (by omega) (by omega)), nI_pred, bq_v (nI_pos' (by omega)), pl_m, gd_v (ix_n (by omega) (by omega)), tc_n (by omega), h]
  rfl
theorem runJ_ok {W H M N T y a : Nat} (hP : PN W H M N) (hy : y < H) (ha : a ≤ M) {v : gU} {k16 : Int32 → gU → Option gU} : ∀ (r x b n : Nat) (u : gU), x < W → x + r ≤ W → W < n + x + 1 → b ≤ M → EK W H M N T u v → RbW W M x y (u 8) (v 2) → u 0 0 = nI a → u 0 1 = nI b → f_Mod_before (nI x) (nI y) v = some (nI a) → f_Mod_above (nI x) (nI y) v = some (nI b) → (∀ k, k < r → v 2 (8 * y + (x + k)) = nI a) → ∃ (u' : gU), EK W H M N T u' v ∧ RbW W M (x + r) y (u' 8) (v 2) ∧ ((x + r = W ∧ J_Pas_overAll_C_91 k16 (L_Pas_overAll_C_34 k16 n) (nI y) 1 (nI r) (nI x) (nI (8 * y + x)) u = k16 (nI (y + 1)) u') ∨ (x + r < W ∧ ∃ b' m : Nat, b' ≤ M ∧ W < m + (x + r) + 1 ∧ u' 0 0 = nI a ∧ u' 0 1 = nI b' ∧ u' 9 = u 9 ∧ f_Mod_before (nI (x + r)) (nI y) v = some (nI a) ∧ f_Mod_above (nI (x + r)) (nI y) v = some (nI b') ∧ J_Pas_overAll_C_91 k16 (L_Pas_overAll_C_34 k16 n) (nI y) 1 (nI r) (nI x) (nI (8 * y + x)) u = (bd (f_Pas_overEnd_C (nI (8 * y + (x + r))) u') fun w1 => tk (w1) fun u2 => L_Pas_overAll_C_34 k16 m (nI y) 0 (nI 0) (nI (x + r + 1)) u2))) := by
  have hP' := hP
  obtain ⟨q1, q2, q3, q4, q5, q6, q7, q8⟩ := hP'
  intro r
  induction r with
  | zero =>
    intro x b n u hx hxr hn hb hE hR ua ub A B hv
    refine ⟨u, hE, hR, Or.inr ⟨by omega, b, n, hb, by omega, ua, ub, rfl, A, B, ?_⟩⟩
    unfold J_Pas_overAll_C_91
    rw [bq_w (by decide), bq_v (by decide), ← nI_succ]
    rfl
  | succ r ih =>
    intro x b n u hx hxr hn hb hE hR ua ub A B hv
    obtain ⟨n, rfl⟩ : ∃ k, n = k + 1 := ⟨n - 1, by omega⟩
    have hvx := hv 0 (by omega)
    rw [Nat.add_zero] at hvx
    have hE1 : EK W H M N T (st2 u 8 (8 * y + x) (nI a)) v := EK_eq hE (fun k _ k0 k8 => s2k k8) (fun _ _ => rfl)
    have hR1 : RbW W M (x + 1) y (st2 u 8 (8 * y + x) (nI a) 8) (v 2) := RbW_st q2 hx ha hR s2s hvx (fun i hi => s2j hi) (fun _ _ => rfl)
    have C1 : J_Pas_overAll_C_91 k16 (L_Pas_overAll_C_34 k16 (n + 1)) (nI y) 1 (nI (r + 1)) (nI x) (nI (8 * y + x)) u = L_Pas_overAll_C_34 k16 (n + 1) (nI y) 1 (nI r) (nI (x + 1)) (st2 u 8 (8 * y + x) (nI a)) := by
      unfold J_Pas_overAll_C_91
      rw [bq_w (by decide), bq_w (nI_nle (by omega) (by omega)), tk_v, gd_v (ix_n (by omega) (by omega)), tk_v, tk_v, tc_n (by omega), ua, pk_m1, ← nI_succ]
    rw [C1]
    by_cases hl : x + 1 = W
    · obtain rfl : r = 0 := by omega
      refine ⟨st2 u 8 (8 * y + x) (nI a), hE1, hR1, Or.inl ⟨hl, ?_⟩⟩
      unfold L_Pas_overAll_C_34
      rw [hE1.1.1, bq_v (nI_le (by omega) (by omega)), tk_v, ← nI_succ]
    · obtain ⟨a', b', c', d', h1, h2, h3, h4, K1, A1, B1, -, -⟩ := look_ok (H := H) (N := N) q2 (x := x + 1) (by omega) (by omega) hE1.1.1 hE1.2.1.1 hR1
      have hA2 := bef_at (by omega) (by omega) hvx
      rw [A1] at hA2
      have ea : nI a' = nI a := Option.some.inj hA2
      rw [ea] at K1 A1
      obtain ⟨u', b1, b2, b3⟩ := ih (x + 1) b' n (lkS (st2 u 8 (8 * y + x) (nI a)) (nI a) (nI b') (nI c') (nI d')) (by omega) (by omega) (by omega) h2 (EK_eq hE1 (fun k _ k0 k8 => lk_k k0) (fun _ _ => rfl)) (by rw [lk_k (by decide)]; exact hR1) lk_0.1 lk_0.2.1 A1 B1 (fun k hk => by rw [← hv (k + 1) (by omega)]; congr 1; omega)
      have C2 : L_Pas_overAll_C_34 k16 (n + 1) (nI y) 1 (nI r) (nI (x + 1)) (st2 u 8 (8 * y + x) (nI a)) = J_Pas_overAll_C_91 k16 (L_Pas_overAll_C_34 k16 n) (nI y) 1 (nI r) (nI (x + 1)) (nI (8 * y + (x + 1))) (lkS (st2 u 8 (8 * y + x) (nI a)) (nI a) (nI b') (nI c') (nI d')) := by
        conv => lhs; unfold L_Pas_overAll_C_34
        rw [hE1.1.1, bq_w (nI_ge (by omega) (by omega)), f_Pic_place, bd_v, pl_c, K1, bd_v, tk_v, bq_w (by decide)]
      rw [C2]
      have e1 : x + 1 + r = x + (r + 1) := by omega
      rw [e1] at b2 b3
      refine ⟨u', b1, b2, ?_⟩
      rcases b3 with b3 | ⟨c1, bb, m, c2, c3, c4, c5, c6, c7⟩
      · exact Or.inl b3
      · refine Or.inr ⟨c1, bb, m, c2, by omega, c4, c5, ?_, c7⟩
        rw [c6, lk_k (by decide), s2k (by decide)]
theorem ba_eq {x y : Nat} {v v' : gU} (hx : x < 8) (hy : y < 8) (h : ∀ k, k < 8 * y + x → v' 2 k = v 2 k) : f_Mod_before (nI x) (nI y) v' = f_Mod_before (nI x) (nI y) v ∧ f_Mod_above (nI x) (nI y) v' = f_Mod_above (nI x) (nI y) v := by
  have up : ∀ i, i ≤ x → f_Mod_above (nI i) (nI y) v' = f_Mod_above (nI i) (nI y) v := by
    intro i hi
    unfold f_Mod_above
    rcases Nat.eq_zero_or_pos y with h0 | h0
    · subst h0
      rw [nm1, (ron_m1 (nI i) v v').2, (ron_m1 (nI i) v v).2]
    · obtain ⟨y', rfl⟩ : ∃ y', y = y' + 1 := ⟨y - 1, by omega⟩
      unfold f_Mod_value
      rw [nI_pred, pl_m, tc_n (by omega), h _ (by omega)]
  refine ⟨?_, up x (Nat.le_refl _)⟩
  unfold f_Mod_before
  rw [show f_Mod_above 0 (nI y) v' = f_Mod_above 0 (nI y) v from up 0 (by omega)]
  rcases Nat.eq_zero_or_pos x with h0 | h0
  · subst h0
    rw [bq_v (by decide), bq_v (by decide)]
  · obtain ⟨x', rfl⟩ : ∃ x', x = x' + 1 := ⟨x - 1, by omega⟩
    unfold f_Mod_value
    rw [nI_pred, pl_m, tc_n (by omega), h _ (by omega)]
theorem RbW_nx {W M y : Nat} {p q : Nat → Int32} (h : RbW W M W y p q) : RbW W M 0 (y + 1) p q := by
  intro i j hi hc
  refine h i j hi ?_
  omega
theorem rowE_ok {W H M N y : Nat} (hP : PN W H M N) (hy : y < H) {k16 k2 : Int32 → gU → Option gU} : ∀ (d x n f : Nat) (l3 : Int32) (u v : gU), W < x + d → x ≤ W → W < n + x → W < f + x → EN W H M N (42 * (8 * y + x)) x y u v → ∃ u' v' : gU, L_Pas_overAll_C_34 k16 n (nI y) 0 l3 (nI x) u = k16 (nI (y + 1)) u' ∧ L_Mod_walk_19 k2 f (nI y) (nI x) v = k2 (nI (y + 1)) v' ∧ EN W H M N (42 * (8 * (y + 1))) 0 (y + 1) u' v' := by
  have hP' := hP
  obtain ⟨q1, q2, q3, q4, q5, q6, q7, q8⟩ := hP'
  intro d
  induction d with
  | zero =>
    intro x n f l3 u v hd hx hn hf h
    omega
  | succ d ih =>
    intro x n f l3 u v hd hx hn hf h
    obtain ⟨n, rfl⟩ : ∃ k, n = k + 1 := ⟨n - 1, by omega⟩
    obtain ⟨f, rfl⟩ : ∃ k, f = k + 1 := ⟨f - 1, by omega⟩
    obtain ⟨hK, hR⟩ := EK_n h
    have hK' := hK
    obtain ⟨h1, h2, h3, h4, h5, h6, h7⟩ := hK'
    by_cases hl : x = W
    · subst hl
      refine ⟨u, v, ?_, ?_, EN_k (EK_le hK (by omega)) (RbW_nx hR)⟩
      · unfold L_Pas_overAll_C_34
        rw [h1.1, bq_v (nI_le (by omega) (by omega)), tk_v, ← nI_succ]
      · unfold L_Mod_walk_19
        rw [h2.1, bq_v (nI_le (by omega) (by omega)), tk_v, ← nI_succ]
    · obtain ⟨a, b, c, d', a1, b1, c1, d1, K1, A, B, C, D⟩ := look_ok (H := H) (N := N) q2 (x := x) (by omega) (by omega) h1.1 h2.1 hR
      have hEl : EN W H M N (42 * (8 * y + x)) x y (lkS u (nI a) (nI b) (nI c) (nI d')) v := EN_k (EK_eq hK (fun k _ k0 k8 => lk_k k0) (fun _ _ => rfl)) (by rw [lk_k (by decide)]; exact hR)
      have h20 : ¬ v 0 20 = 0 := by rw [h7]; decide
      have X1 : L_Pas_overAll_C_34 k16 (n + 1) (nI y) 0 l3 (nI x) u = bq (nrI (nI N) (nI b - nI d') = 0) (J_Pas_overAll_C_91 k16 (L_Pas_overAll_C_34 k16 n) (nI y) 0 l3 (nI x) (nI (8 * y + x)) (lkS u (nI a) (nI b) (nI c) (nI d'))) (bq (nrI (nI N) (nI c - nI b) = 0) (J_Pas_overAll_C_91 k16 (L_Pas_overAll_C_34 k16 n) (nI y) 0 l3 (nI x) (nI (8 * y + x)) (lkS u (nI a) (nI b) (nI c) (nI d'))) (bq (nrI (nI N) (nI a - nI c) = 0) (J_Pas_overAll_C_91 k16 (L_Pas_overAll_C_34 k16 n) (nI y) 0 l3 (nI x) (nI (8 * y + x)) (lkS u (nI a) (nI b) (nI c) (nI d'))) (bd (f_Cod_carryRun (nI (8 * y + x)) (nI (W - x)) (lkS u (nI a) (nI b) (nI c) (nI d'))) fun w6 => tk (w6.2) fun u7 => J_Pas_overAll_C_91 k16 (L_Pas_overAll_C_34 k16 n) (nI y) 1 w6.1 (nI x) (nI (8 * y + x)) u7))) := by
        conv => lhs; unfold L_Pas_overAll_C_34
        unfold f_Pas_isEven_C
        rw [h1.1, bq_w (nI_ge (by omega) (by omega)), f_Pic_place, bd_v, pl_c, K1, bd_v, tk_v, bq_v rfl]
        rw [lk_0.1, lk_0.2.1, lk_0.2.2.1, lk_0.2.2.2, lk_k (by decide), h1.1, show nI W - nI x = nI (W - x) from pk_sub (by omega)]
        simp only [nrP, bd_v]
        rw [show sb [1] (lkS u (nI a) (nI b) (nI c) (nI d')) 0 3 = nI N by rw [sb_v]; simp only [List.getD_cons_zero]; rw [lk_k (by decide)]; exact h1.2.2.2.1]
        by_cases g1 : nrI (nI N) (nI b - nI d') = 0
        · rw [bq_v g1, bq_v g1, bd_v, bq_v rfl]
        · rw [bq_w g1, bq_w g1]
          by_cases g2 : nrI (nI N) (nI c - nI b) = 0
          · rw [bq_v g2, bq_v g2, bd_v, bq_v rfl]
          · rw [bq_w g2, bq_w g2]
            by_cases g3 : nrI (nI N) (nI a - nI c) = 0
            · rw [bq_v g3, bq_v g3, bd_v, bq_v rfl]
            · rw [bq_w g3, bq_w g3, bd_v, bq_w (by decide)]
      have X2 : L_Mod_walk_19 k2 (f + 1) (nI y) (nI x) v = bq (nrI (nI N) (nI b - nI d') = 0) (J_Mod_walk_96 k2 (L_Mod_walk_19 k2 f) (nI y) (nI x) 0 v) (bq (nrI (nI N) (nI c - nI b) = 0) (J_Mod_walk_96 k2 (L_Mod_walk_19 k2 f) (nI y) (nI x) 0 v) (bq (nrI (nI N) (nI a - nI c) = 0) (J_Mod_walk_96 k2 (L_Mod_walk_19 k2 f) (nI y) (nI x) 0 v) (J_Mod_walk_96 k2 (L_Mod_walk_19 k2 f) (nI y) (nI x) 1 v))) := by
        conv => lhs; unfold L_Mod_walk_19
        unfold J_Mod_walk_95
        rw [h2.1, bq_w (nI_ge (by omega) (by omega)), bq_w h20, A, B, C, D]
        simp only [nrM, bd_v]
        rw [h2.2.2.2.1]
      have reg : ∃ u' v' : gU, J_Pas_overAll_C_91 k16 (L_Pas_overAll_C_34 k16 n) (nI y) 0 l3 (nI x) (nI (8 * y + x)) (lkS u (nI a) (nI b) (nI c) (nI d')) = k16 (nI (y + 1)) u' ∧ J_Mod_walk_96 k2 (L_Mod_walk_19 k2 f) (nI y) (nI x) 0 v = k2 (nI (y + 1)) v' ∧ EN W H M N (42 * (8 * (y + 1))) 0 (y + 1) u' v' := by
        obtain ⟨u1, v1, r1, r2, r3⟩ := reg_en hP hEl (by omega) hy (by omega) lk_0.1 lk_0.2.1 lk_0.2.2.1 lk_0.2.2.2 A B C D
        rw [show 42 * (8 * y + x) + 42 = 42 * (8 * y + (x + 1)) by omega] at r3
        obtain ⟨u2, v2, s1, s2, s3⟩ := ih (x + 1) n f l3 u1 v1 (by omega) (by omega) (by omega) (by omega) r3
        refine ⟨u2, v2, ?_, ?_, s3⟩
        · unfold J_Pas_overAll_C_91
          rw [bq_v rfl, r1, bd_v, tk_v, tk_v, ← nI_succ]
          exact s1
        · unfold J_Mod_walk_96
          rw [bq_v rfl, r2, bd_v, tk_v, tk_v, ← nI_succ]
          exact s2
      rw [X1, X2]
      by_cases g1 : nrI (nI N) (nI b - nI d') = 0
      · rw [bq_v g1, bq_v g1]
        exact reg
      rw [bq_w g1, bq_w g1]
      by_cases g2 : nrI (nI N) (nI c - nI b) = 0
      · rw [bq_v g2, bq_v g2]
        exact reg
      rw [bq_w g2, bq_w g2]
      by_cases g3 : nrI (nI N) (nI a - nI c) = 0
      · rw [bq_v g3, bq_v g3]
        exact reg
      rw [bq_w g3, bq_w g3]
      obtain ⟨hKl, hRl⟩ := EK_n hEl
      obtain ⟨L, v1, -, L2, L3, L4, L5, L6, L7, L8⟩ := cnt_ok hP (x := x) (by omega) hy a1 hKl.1 lk_0.1 (W - x) 0 100 2000 v (by omega) (by omega) (by omega) h2 hKl.2.2.2.1
      have hK1 : EK W H M N (42 * (8 * y + x)) (lkS u (nI a) (nI b) (nI c) (nI d')) v1 := EK_eq hKl (fun _ _ _ _ => rfl) L5
      obtain ⟨u2, v2, M1, M2, M3, M9, M4, M5⟩ := bits_ok (y := y) hP (x := x) (L := L) (by omega) L2 100 L 100 2000 _ _ _ (by omega) (by omega) (by omega) (by omega) (by omega) hK1
      have hR2 : RbW W M x y (u2 8) (v2 2) := by
        rw [M3, M4]
        intro i j hi hc
        rw [L7 _ (Or.inl (by omega))]
        exact hRl i j hi hc
      have hv2 : ∀ k, k < L → v2 2 (8 * y + (x + k)) = nI a := fun k hk => by rw [M4]; exact L6 k (by omega) hk
      have e0 : f_Cod_carryRun (nI (8 * y + x)) (nI (W - x)) (lkS u (nI a) (nI b) (nI c) (nI d')) = some (nI L, u2) := by
        unfold f_Cod_carryRun
        exact L3.trans M1
      have e1 : f_Mod_writeRun (nI x) (nI y) v = L_Mod_writeRun_65 2000 (nI y) (nI (x + L)) (nI L) v1 := by
        unfold f_Mod_writeRun
        rw [A, bd_v]
        exact L4
      obtain ⟨A2, B2⟩ := ba_eq (x := x) (y := y) (v := v) (v' := v2) (by omega) (by omega) (fun k hk => by rw [M4]; exact L7 k (Or.inl (by omega)))
      rw [A] at A2
      rw [B] at B2
      have ua : u2 0 0 = nI a := by rw [M2]; exact lk_0.1
      have ub : u2 0 1 = nI b := by rw [M2]; exact lk_0.2.1
      rcases M5 with ⟨p1, p2, p3⟩ | ⟨p1, j, p2, p3, p4, p5⟩
      · obtain ⟨u3, t1, t2, t3⟩ := runJ_ok (k16 := k16) hP hy a1 L x b n u2 (by omega) L2 (by omega) b1 p3 hR2 ua ub A2 B2 hv2
        rcases t3 with ⟨t3, t4⟩ | ⟨t3, -⟩
        · rw [p1] at t2
          refine ⟨u3, v2, ?_, ?_, EN_k (EK_le t1 (by omega)) (RbW_nx t2)⟩
          · rw [e0, bd_v, tk_v]
            exact t4
          · unfold J_Mod_walk_96
            rw [bq_w (by decide), bq_v h6, e1, p2, bd_v, tk_v]
            obtain ⟨f, rfl⟩ : ∃ k, f = k + 1 := ⟨f - 1, by omega⟩
            show L_Mod_walk_19 k2 (f + 1) (nI y) (nI (x + L)) v2 = _
            unfold L_Mod_walk_19
            rw [t1.2.1.1, bq_v (nI_le (by omega) (by omega)), tk_v, ← nI_succ]
        · omega
      · obtain ⟨u3, t1, t2, t3⟩ := runJ_ok (k16 := k16) hP hy a1 L x b n u2 (by omega) L2 (by omega) b1 p5 hR2 ua ub A2 B2 hv2
        rcases t3 with ⟨t3, -⟩ | ⟨t3, bb, m, o1, o2, o3, o4, o5, o6, o7, o8⟩
        · omega
        · obtain ⟨s, hs, s1, s2⟩ := L8 p1
          obtain ⟨j', u4, v4, j1, j2, j3, j4, j5⟩ := end_en hP (EN_k t1 t2) t3 hy (by omega) a1 o1 hs (by rw [o5, M9]; exact s1) s2 o3 o4 o6 o7
          obtain rfl : j' = j := by
            rw [p3] at j2
            exact ((nI_eq (by omega) (by omega)).mp (Option.some.inj j2)).symm
          obtain ⟨hK4, hR4⟩ := EK_n j5
          obtain ⟨u5, v5, z1, z2, z3⟩ := ih (x + L + 1) m f (nI 0) u4 v4 (by omega) (by omega) (by omega) (by omega) (EN_k (EK_le hK4 (by omega)) hR4)
          refine ⟨u5, v5, ?_, ?_, z3⟩
          · rw [e0, bd_v, tk_v]
            refine o8.trans ?_
            rw [j3, bd_v, tk_v]
            exact z1
          · unfold J_Mod_walk_96
            rw [bq_w (by decide), bq_v h6, e1, p4, j4, bd_v, tk_v, bd_v, tk_v, ← nI_succ]
            exact z2
theorem rowsE_ok {W H M N : Nat} (hP : PN W H M N) : ∀ (d y n f : Nat) (u v : gU), y + d = H → d < n → d < f → EN W H M N (42 * (8 * y)) 0 y u v → ∃ u' v' : gU, L_Pas_overAll_C_16 n (nI y) u = some u' ∧ L_Mod_walk_2 f (nI y) v = some v' ∧ EN W H M N (42 * (8 * H)) 0 H u' v' := by
  have hP' := hP
  obtain ⟨q1, q2, q3, q4, q5, q6, q7, q8⟩ := hP'
  intro d
  induction d with
  | zero =>
    intro y n f u v hd hn hf h
    obtain ⟨n, rfl⟩ : ∃ k, n = k + 1 := ⟨n - 1, by omega⟩
    obtain ⟨f, rfl⟩ : ∃ k, f = k + 1 := ⟨f - 1, by omega⟩
    obtain rfl : y = H := by omega
    refine ⟨u, v, ?_, ?_, h⟩
    · unfold L_Pas_overAll_C_16
      rw [h.1.2.1, bq_v (nI_le (by omega) (by omega))]
    · unfold L_Mod_walk_2
      rw [h.2.1.2.1, bq_v (nI_le (by omega) (by omega))]
  | succ d ih =>
    intro y n f u v hd hn hf h
    obtain ⟨n, rfl⟩ : ∃ k, n = k + 1 := ⟨n - 1, by omega⟩
    obtain ⟨f, rfl⟩ : ∃ k, f = k + 1 := ⟨f - 1, by omega⟩
    obtain ⟨u1, v1, e1, e2, e3⟩ := rowE_ok hP (y := y) (by omega) (k16 := L_Pas_overAll_C_16 n) (k2 := L_Mod_walk_2 f) 9 0 20 2000 0 u v (by omega) (by omega) (by omega) (by omega) h
    obtain ⟨u', v', a1, a2, a3⟩ := ih (y + 1) n f u1 v1 (by omega) (by omega) (by omega) e3
    have h20 : ¬ v 0 20 = 0 := by rw [h.2.2.2.2.2.2.2]; decide
    refine ⟨u', v', ?_, ?_, a3⟩
    · unfold L_Pas_overAll_C_16
      rw [h.1.2.1, bq_w (nI_ge (by omega) (by omega))]
      exact e1.trans a1
    · unfold L_Mod_walk_2
      rw [h.2.1.2.1, bq_w (nI_ge (by omega) (by omega)), bq_w h20]
      exact e2.trans a2
