/-! runs and the walk, read -/
theorem s2e {u : gU} {k j : Nat} {x : Int32} (h : u k j = x) : st2 u k j x = u := by
  funext i q
  by_cases hi : i = k
  · subst hi
    by_cases hq : q = j
    · subst hq
      rw [s2s, h]
    · rw [s2j hq]
  · rw [s2k hi]
theorem f178 {y a : Nat} (hy : y < 8) {k13 : Int32 → Int32 → Int32 → Int32 → gU → Option (Int32 × gU)} {l5 : Int32} : ∀ (d i p f : Nat) (v : gU), d < f → i + d ≤ 2000 → p + d ≤ 8 → v 0 20 = 1 → ∃ v' : gU, L_Mod_readRun_178 k13 f (nI y) (nI a) (nI p) l5 (nI (i + d)) (nI i) v = k13 (nI y) (nI a) (nI (p + d)) l5 v' ∧ (∀ k, ¬ k = 1 → ¬ k = 2 → v' k = v k) ∧ (∀ k, k < d → v' 2 (8 * y + (p + k)) = nI a ∧ v' 1 (8 * y + (p + k)) = nI a) ∧ (∀ k, k < 8 * y + p ∨ 8 * y + (p + d) ≤ k → v' 2 k = v 2 k ∧ v' 1 k = v 1 k) := by
  intro d
  induction d with
  | zero =>
    intro i p f v hf hi hp h20
    obtain ⟨f, rfl⟩ : ∃ k, f = k + 1 := ⟨f - 1, by omega⟩
    refine ⟨v, ?_, fun _ _ _ => rfl, fun k hk => by omega, fun _ _ => ⟨rfl, rfl⟩⟩
    unfold L_Mod_readRun_178
    rw [bq_v (nI_le (by omega) (by omega))]
    rfl
  | succ d ih =>
    intro i p f v hf hi hp h20
    obtain ⟨f, rfl⟩ : ∃ k, f = k + 1 := ⟨f - 1, by omega⟩
    have h21 : ¬ v 0 20 = 0 := by rw [h20]; decide
    obtain ⟨v', a1, a2, a3, a4⟩ := ih (i + 1) (p + 1) f (st2 (st2 v 2 (8 * y + p) (nI a)) 1 (8 * y + p) (nI a)) (by omega) (by omega) (by omega) (by rw [s2k (by decide), s2k (by decide)]; exact h20)
    refine ⟨v', ?_, fun k k1 k2 => by rw [a2 k k1 k2, s2k k1, s2k k2], fun k hk => ?_, fun k hk => ?_⟩
    · unfold L_Mod_readRun_178
      rw [bq_w (nI_ge (by omega) (by omega)), bq_w h21, pl_m, gd_v (ix_n (by omega) (by omega)), tk_v, gd_v (ix_n (by omega) (by omega)), tk_v, tk_v, tk_v, tc_n (by omega), ← nI_succ, ← nI_succ, show i + (d + 1) = i + 1 + d by omega, show p + (d + 1) = p + 1 + d by omega]
      exact a1
    · by_cases hk0 : k = 0
      · subst hk0
        obtain ⟨b1, b2⟩ := a4 (8 * y + (p + 0)) (Or.inl (by omega))
        rw [b1, b2, Nat.add_zero]
        exact ⟨by rw [s2k (by decide), s2s], by rw [s2s]⟩
      · have := a3 (k - 1) (by omega)
        rw [show p + 1 + (k - 1) = p + k by omega] at this
        exact this
    · obtain ⟨b1, b2⟩ := a4 k (by omega)
      rw [b1, b2, s2k (by decide), s2j (by omega), s2j (by omega)]
      exact ⟨rfl, by rw [s2k (by decide)]⟩
theorem DK_eq {W H M N : Nat} {u v u' v' : gU} (h : DK W H M N u v) (e : ∀ k, k < 11 → ¬ k = 0 → ¬ k = 8 → u' k = u k) (f : ∀ k, ¬ k = 1 → ¬ k = 2 → v' k = v k) : DK W H M N u' v' := by
  obtain ⟨a, b, c, d, g1, g2, g3⟩ := h
  refine ⟨by rw [e 1 (by decide) (by decide) (by decide)]; exact a, by rw [f 0 (by decide) (by decide)]; exact b, ?_, ?_, by rw [f 0 (by decide) (by decide)]; exact g1, by rw [f 0 (by decide) (by decide)]; exact g2, by rw [f 0 (by decide) (by decide)]; exact g3⟩
  · refine CX_eq c ?_ (fun q hq => ?_) (by rw [f 0 (by decide) (by decide)]) (f 3 (by decide) (by decide))
    · simp only [tk_v, bd_v, bx_vl, bx_vr, s2s, s2k, s2j, s1s, s1k, mg_v0, mg_v1, sb_v, List.getD_cons_zero, List.getD_cons_succ, not_false_eq_true, Nat.reduceEqDiff, reduceCtorEq]
      rw [e 2 (by decide) (by decide) (by decide)]
    · simp only [tk_v, bd_v, bx_vl, bx_vr, s2s, s2k, s2j, s1s, s1k, mg_v0, mg_v1, sb_v, List.getD_cons_zero, List.getD_cons_succ, not_false_eq_true, Nat.reduceEqDiff, reduceCtorEq]
      rw [e 3 (by decide) (by decide) (by decide), e 4 (by decide) (by decide) (by decide), e 5 (by decide) (by decide) (by decide), e 6 (by decide) (by decide) (by decide), e 7 (by decide) (by decide) (by decide)]
      exact ⟨rfl, rfl, rfl, rfl, rfl⟩
  · refine RD_eq d ?_ ?_ (by rw [f 0 (by decide) (by decide)]) (by rw [f 0 (by decide) (by decide)]) (by rw [f 0 (by decide) (by decide)]) (by rw [f 0 (by decide) (by decide)]) (f 4 (by decide) (by decide))
    · simp only [tk_v, bd_v, bx_vl, bx_vr, s2s, s2k, s2j, s1s, s1k, mg_v0, mg_v1, sb_v, List.getD_cons_zero, List.getD_cons_succ, not_false_eq_true, Nat.reduceEqDiff, reduceCtorEq]
      rw [e 9 (by decide) (by decide) (by decide)]
    · simp only [tk_v, bd_v, bx_vl, bx_vr, s2s, s2k, s2j, s1s, s1k, mg_v0, mg_v1, sb_v, List.getD_cons_zero, List.getD_cons_succ, not_false_eq_true, Nat.reduceEqDiff, reduceCtorEq]
      rw [e 10 (by decide) (by decide) (by decide)]
theorem DK_rd {W H M N : Nat} {u v v' w : gU} (h : DK W H M N u v) (hw : RD w v') (f : FR v v') : DK W H M N (mg [9, 10] 0 u w) v' := by
  obtain ⟨a, b, c, d, g1, g2, g3⟩ := h
  refine ⟨by simp only [tk_v, bd_v, bx_vl, bx_vr, s2s, s2k, s2j, s1s, s1k, mg_v0, mg_v1, sb_v, List.getD_cons_zero, List.getD_cons_succ, not_false_eq_true, Nat.reduceEqDiff, reduceCtorEq]; exact a, ModW_eq b (fun j j1 j2 => f.2 j (by omega) (by omega) (by omega)), ?_, ?_, by rw [f.2 16 (by decide) (by decide) (by decide)]; exact g1, by rw [f.2 20 (by decide) (by decide) (by decide)]; exact g2, by rw [f.2 0 (by decide) (by decide) (by decide)]; exact g3⟩
  · refine CX_eq c ?_ (fun q hq => ?_) (f.2 12 (by decide) (by decide) (by decide)) (f.1 3 (by decide))
    · simp only [tk_v, bd_v, bx_vl, bx_vr, s2s, s2k, s2j, s1s, s1k, mg_v0, mg_v1, sb_v, List.getD_cons_zero, List.getD_cons_succ, not_false_eq_true, Nat.reduceEqDiff, reduceCtorEq]
    · simp only [tk_v, bd_v, bx_vl, bx_vr, s2s, s2k, s2j, s1s, s1k, mg_v0, mg_v1, sb_v, List.getD_cons_zero, List.getD_cons_succ, not_false_eq_true, Nat.reduceEqDiff, reduceCtorEq, and_self]
  · refine RD_eq hw ?_ ?_ rfl rfl rfl rfl rfl
    · simp only [tk_v, bd_v, bx_vl, bx_vr, s2s, s2k, s2j, s1s, s1k, mg_v0, mg_v1, sb_v, List.getD_cons_zero, List.getD_cons_succ, not_false_eq_true, Nat.reduceEqDiff, reduceCtorEq]
    · simp only [tk_v, bd_v, bx_vl, bx_vr, s2s, s2k, s2j, s1s, s1k, mg_v0, mg_v1, sb_v, List.getD_cons_zero, List.getD_cons_succ, not_false_eq_true, Nat.reduceEqDiff, reduceCtorEq]
theorem DK_rs {W H M N : Nat} {u v U : gU} {z : Int32} (h : DK W H M N u v) (hC : CX U (st2 v 0 12 z)) : DK W H M N (mg [2, 3, 4, 5, 6, 7] 0 u U) (st2 v 0 12 z) := by
  obtain ⟨a, b, c, d, g1, g2, g3⟩ := h
  refine ⟨by simp only [tk_v, bd_v, bx_vl, bx_vr, s2s, s2k, s2j, s1s, s1k, mg_v0, mg_v1, sb_v, List.getD_cons_zero, List.getD_cons_succ, not_false_eq_true, Nat.reduceEqDiff, reduceCtorEq]; exact a, ModW_eq b (fun j j1 j2 => s2j (by omega)), ?_, ?_, by rw [s2j (by decide)]; exact g1, by rw [s2j (by decide)]; exact g2, by rw [s2j (by decide)]; exact g3⟩
  · refine CX_eq hC ?_ (fun q hq => ?_) rfl rfl
    · simp only [tk_v, bd_v, bx_vl, bx_vr, s2s, s2k, s2j, s1s, s1k, mg_v0, mg_v1, sb_v, List.getD_cons_zero, List.getD_cons_succ, not_false_eq_true, Nat.reduceEqDiff, reduceCtorEq]
    · simp only [tk_v, bd_v, bx_vl, bx_vr, s2s, s2k, s2j, s1s, s1k, mg_v0, mg_v1, sb_v, List.getD_cons_zero, List.getD_cons_succ, not_false_eq_true, Nat.reduceEqDiff, reduceCtorEq, and_self]
  · refine RD_eq d ?_ ?_ (s2j (by decide)) (s2j (by decide)) (s2j (by decide)) (s2j (by decide)) (s2k (by decide))
    · simp only [tk_v, bd_v, bx_vl, bx_vr, s2s, s2k, s2j, s1s, s1k, mg_v0, mg_v1, sb_v, List.getD_cons_zero, List.getD_cons_succ, not_false_eq_true, Nat.reduceEqDiff, reduceCtorEq]
    · simp only [tk_v, bd_v, bx_vl, bx_vr, s2s, s2k, s2j, s1s, s1k, mg_v0, mg_v1, sb_v, List.getD_cons_zero, List.getD_cons_succ, not_false_eq_true, Nat.reduceEqDiff, reduceCtorEq]
theorem jr_v (u w : gU) : f_Ctx_j (sb [2, 3, 4, 5, 6, 7] (mg [9, 10] 0 u w)) = f_Ctx_j (sb [2, 3, 4, 5, 6, 7] u) := by
  unfold f_Ctx_j
  simp only [tk_v, bd_v, bx_vl, bx_vr, s2s, s2k, s2j, s1s, s1k, mg_v0, mg_v1, sb_v, List.getD_cons_zero, List.getD_cons_succ, not_false_eq_true, Nat.reduceEqDiff, reduceCtorEq]
theorem b171 {f : Nat} (hf : 1 ≤ f) (l2 l3 l4 l6 : Int32) (v : gU) : J_Mod_readRun_171 (L_Mod_readRun_13 f) l2 l3 l4 0 l6 v = some (v 0 1, st2 v 0 20 0) := by
  obtain ⟨f, rfl⟩ : ∃ k, f = k + 1 := ⟨f - 1, by omega⟩
  have h13 : L_Mod_readRun_13 (f + 1) l2 l3 l4 0 (st2 v 0 20 0) = some (v 0 1, st2 v 0 20 0) := by
    unfold L_Mod_readRun_13 J_Mod_readRun_230
    rw [bq_v s2s, bq_v rfl, bq_v s2s, s2j (by decide)]
  have h178 : ∀ n : Nat, L_Mod_readRun_178 (L_Mod_readRun_13 (f + 1)) (n + 1) l2 l3 l4 0 l6 0 (st2 v 0 20 0) = some (v 0 1, st2 v 0 20 0) := by
    intro n
    unfold L_Mod_readRun_178
    by_cases g : l6 ≤ 0
    · rw [bq_v g, h13]
    · rw [bq_w g, bq_v s2s, h13]
  unfold J_Mod_readRun_171 J_Mod_readRun_172
  rw [gd_v (Or.inl rfl), tk_v]
  exact h178 1999
theorem BD_s {v v1 : gU} (h : FG v v1) : BD v (st2 v1 0 20 0) := ⟨⟨fun k hk => by rw [s2k (by omega), h.1 k hk], by rw [s2j (by decide), h.2]⟩, s2s⟩
theorem rrun_ok {W H M N x y a : Nat} (hP : PN W H M N) (hx : x < W) (hy : y < H) : ∀ (b i n f : Nat) (u v : gU), W - (x + i) < b → W - (x + i) + 1 < n → W - (x + i) + 1 < f → x + i ≤ W → DK W H M N u v → (∃ (L : Nat) (u' v' : gU), i ≤ L ∧ x + L ≤ W ∧ L_Rdg_carryRun_2 n (nI (W - x)) (nI i) u = some (.inr (nI L, u')) ∧ DK W H M N u' v' ∧ FG v v' ∧ u' 0 = u 0 ∧ u' 8 = u 8 ∧ (∀ k, i ≤ k → k < L → v' 2 (8 * y + (x + k)) = nI a ∧ v' 1 (8 * y + (x + k)) = nI a) ∧ (∀ k, k < 8 * y + (x + i) → v' 2 k = v 2 k ∧ v' 1 k = v 1 k) ∧ ((x + L = W ∧ L_Mod_readRun_13 f (nI y) (nI a) (nI (x + i)) 1 v = some (nI W, v')) ∨ (x + L < W ∧ L_Mod_readRun_13 f (nI y) (nI a) (nI (x + i)) 1 v = (bd (f_Mod_jOf (v' 0 12) v') fun x1 => bd (f_Mod_endRun (nI (x + L)) (nI y) x1 v') fun w2 => tk (w2) fun u3 => some (nI (x + L) + 1, u3))))) ∨ (∃ (u' : gU) (r : Int32) (v' : gU), L_Rdg_carryRun_2 n (nI (W - x)) (nI i) u = some (.inl u') ∧ L_Mod_readRun_13 f (nI y) (nI a) (nI (x + i)) 1 v = some (r, v') ∧ BD v v') := by
  have hP' := hP
  obtain ⟨q1, q2, q3, q4, q5, q6, q7, q8⟩ := hP'
  intro b
  induction b with
  | zero =>
    intro i n f u v hb hn hf hxi h
    omega
  | succ b ih =>
    intro i n f u v hb hn hf hxi h
    obtain ⟨n, rfl⟩ : ∃ k, n = k + 1 := ⟨n - 1, by omega⟩
    obtain ⟨f, rfl⟩ : ∃ k, f = k + 1 := ⟨f - 1, by omega⟩
    have h' := h
    obtain ⟨h1, h2, h3, h4, h5, h6, h7⟩ := h'
    have h21 : ¬ v 0 20 = 0 := by rw [h6]; decide
    have n10 : ¬ (1 : Int32) = 0 := by decide
    by_cases hl : x + i = W
    · refine Or.inl ⟨i, u, v, Nat.le_refl _, by omega, ?_, h, FG_rf v, rfl, rfl, fun k k1 k2 => by omega, fun _ _ => ⟨rfl, rfl⟩, Or.inl ⟨hl, ?_⟩⟩
      · unfold L_Rdg_carryRun_2
        rw [bq_v (nI_le (by omega) (by omega))]
      · unfold L_Mod_readRun_13 J_Mod_readRun_230
        rw [bq_w h21, bq_w n10, h2.1, bq_v (nI_le (by omega) (by omega)), bq_w n10]
    · obtain ⟨j, hj, J1, J2⟩ := j_ok (U := sb [2, 3, 4, 5, 6, 7] u) (v := v) h3.1 h3.2.1 h3.2.2.1
      have JJ : ∀ q : gU, f_Mod_jOf (v 0 12) q = some (nI j) := fun q => (jof_v _ _ _).trans J2
      have hsh := sh_1 hj
      have hp : 2 ^ j ≤ 2 ^ 15 := Nat.pow_le_pow_right (by omega) hj
      have hp1 : 1 ≤ 2 ^ j := Nat.one_le_two_pow
      have hle : ¬ nI (W - x) ≤ nI i := nI_ge (by omega) (by omega)
      have hle2 : ¬ nI W ≤ nI (x + i) := nI_ge (by omega) (by omega)
      have hsub : nI (W - x) - nI i = nI (W - x - i) := pk_sub (by omega)
      have hsub2 : nI W - nI (x + i) = nI (W - x - i) := by
        rw [pk_sub (by omega)]
        congr 1
        omega
      rcases get_ok h4 with ⟨⟨r, w⟩, ⟨r', v1⟩, a1, a2, a3, ⟨β, hβ, a4⟩, a5, a6⟩ | ⟨w, ⟨r', v1⟩, a1, a2, a3, a4⟩
      · dsimp only at a3 a4 a5 a6
        subst a3
        subst a4
        have k1 := DK_rd h a5 a6
        have v12 : v1 0 12 = v 0 12 := a6.2 12 (by decide) (by decide) (by decide)
        have v01 : v1 0 1 = nI W := k1.2.1.1
        have v20 : v1 0 20 = 1 := k1.2.2.2.2.2.1
        rcases (by omega : β = 0 ∨ β = 1) with rfl | rfl
        · -- the run is broken
          have C1 : L_Rdg_carryRun_2 (n + 1) (nI (W - x)) (nI i) u = (bd (f_Rdg_readRest (nI j) (nI (W - x - i)) (mg [9, 10] 0 u w)) fun w9 => bx w9 (fun v10 => some (.inl (v10))) fun w11 => tk (w11.2) fun u12 => some (.inr (nI i + w11.1, u12))) := by
            conv => lhs; unfold L_Rdg_carryRun_2
            rw [bq_w hle, J1, bd_v, a1, bd_v, bx_vr, tk_v, bq_v nI_0, hsub]
          have C2 : L_Mod_readRun_13 (f + 1) (nI y) (nI a) (nI (x + i)) 1 v = (bd (f_Mod_getMany (nI j) v1) fun w2 => tk (w2.2) fun u3 => bq ((u3 0 20) = 0) (J_Mod_readRun_171 (L_Mod_readRun_13 f) (nI y) (nI a) (nI (x + i)) 0 w2.1 u3) (bq (((u3 0 1) - nI (x + i)) ≤ w2.1) (J_Mod_readRun_171 (L_Mod_readRun_13 f) (nI y) (nI a) (nI (x + i)) 0 w2.1 u3) (J_Mod_readRun_172 (L_Mod_readRun_13 f) (nI y) (nI a) (nI (x + i)) 0 w2.1 1 u3))) := by
            have C0 : L_Mod_readRun_13 (f + 1) (nI y) (nI a) (nI (x + i)) 1 v = J_Mod_readRun_59 (L_Mod_readRun_13 f) (nI y) (nI a) (nI (x + i)) (nI (2 ^ j)) 0 v1 := by
              conv => lhs; unfold L_Mod_readRun_13
              rw [bq_w h21, bq_w n10, h2.1, bq_w hle2, J2, bd_v, tk_v, a2, bd_v, tk_v, hsh]
              exact bq_w (show ¬ nI 0 = (1 : Int32) by decide)
            rw [C0]
            unfold J_Mod_readRun_59
            rw [bq_v rfl, v12, JJ, bd_v]
          rw [C1, C2]
          unfold f_Rdg_readRest f_Rea_readBits f_Mod_getMany
          have hRD1 : RD (sb [9, 10] (mg [9, 10] 0 u w)) v1 := k1.2.2.2.1
          rcases gmany_ok j hj j 0 100 2000 0 (sb [9, 10] (mg [9, 10] 0 u w)) v1 (by omega) (by omega) (by omega) (by simp) hRD1 v20 with ⟨⟨r, w2⟩, ⟨r', v2⟩, b1, b2, ⟨m, hm, b3, b4⟩, b5, b6⟩ | ⟨w2, ⟨r', v2⟩, b1, b2, b3⟩
          · dsimp only at b3 b4 b5 b6
            subst b3
            subst b4
            have k2 := DK_rd k1 b5 b6
            have w20 : v2 0 20 = 1 := k2.2.2.2.2.2.1
            have w21 : ¬ v2 0 20 = 0 := by rw [w20]; decide
            rw [show L_Rea_readBits_4 100 (nI j) 0 0 (sb [9, 10] (mg [9, 10] 0 u w)) = some (.inr (nI m, w2)) from b1, show L_Mod_getMany_4 2000 (nI j) 0 0 v1 = some (nI m, v2) from b2]
            have D1 : (bd (bd (some (Sum.inr (nI m, w2) : gU ⊕ (Int32 × gU))) fun w1 => bx w1 (fun v2 => some (.inl (mg [9, 10] 0 (mg [9, 10] 0 u w) v2))) fun w3 => tk (mg [9, 10] 0 (mg [9, 10] 0 u w) w3.2) fun u4 => bq (w3.1 < nI (W - x - i)) (some (.inr (w3.1, u4))) (some (.inl u4))) fun w9 => bx w9 (fun v10 => some (.inl (v10))) fun w11 => tk (w11.2) fun u12 => some (.inr (nI i + w11.1, u12))) = (bd (bq (nI m < nI (W - x - i)) (some (.inr (nI m, mg [9, 10] 0 (mg [9, 10] 0 u w) w2))) (some (.inl (mg [9, 10] 0 (mg [9, 10] 0 u w) w2)))) fun w9 => bx w9 (fun v10 => some (.inl (v10))) fun w11 => tk (w11.2) fun u12 => some (.inr (nI i + w11.1, u12)) : Option (gU ⊕ (Int32 × gU))) := by
              rw [bd_v, bx_vr, tk_v]
            have D2 : (bd (some (nI m, v2)) fun w2 => tk (w2.2) fun u3 => bq ((u3 0 20) = 0) (J_Mod_readRun_171 (L_Mod_readRun_13 f) (nI y) (nI a) (nI (x + i)) 0 w2.1 u3) (bq (((u3 0 1) - nI (x + i)) ≤ w2.1) (J_Mod_readRun_171 (L_Mod_readRun_13 f) (nI y) (nI a) (nI (x + i)) 0 w2.1 u3) (J_Mod_readRun_172 (L_Mod_readRun_13 f) (nI y) (nI a) (nI (x + i)) 0 w2.1 1 u3))) = bq (nI (W - x - i) ≤ nI m) (J_Mod_readRun_171 (L_Mod_readRun_13 f) (nI y) (nI a) (nI (x + i)) 0 (nI m) v2) (J_Mod_readRun_172 (L_Mod_readRun_13 f) (nI y) (nI a) (nI (x + i)) 0 (nI m) 1 v2) := by
              rw [bd_v, tk_v]
              refine (bq_w w21).trans ?_
              show bq (v2 0 1 - nI (x + i) ≤ nI m) (J_Mod_readRun_171 (L_Mod_readRun_13 f) (nI y) (nI a) (nI (x + i)) 0 (nI m) v2) (J_Mod_readRun_172 (L_Mod_readRun_13 f) (nI y) (nI a) (nI (x + i)) 0 (nI m) 1 v2) = _
              rw [k2.2.1.1, hsub2]
            rw [D1, D2]
            by_cases hmm : m < W - x - i
            · obtain ⟨v3, c1, c2, c3, c4⟩ := f178 (y := y) (a := a) (k13 := L_Mod_readRun_13 f) (l5 := 0) (by omega) m 0 (x + i) 2000 v2 (by omega) (by omega) (by omega) w20
              have k3 : DK W H M N (mg [9, 10] 0 (mg [9, 10] 0 u w) w2) v3 := DK_eq k2 (fun _ _ _ _ => rfl) c2
              have x21 : ¬ v3 0 20 = 0 := by rw [k3.2.2.2.2.2.1]; decide
              refine Or.inl ⟨i + m, mg [9, 10] 0 (mg [9, 10] 0 u w) w2, v3, by omega, by omega, ?_, k3, ⟨fun k hk => by rw [c2 k (by omega) (by omega), b6.1 k (by omega), a6.1 k (by omega)], by rw [c2 0 (by decide) (by decide), b6.2 13 (by decide) (by decide) (by decide), a6.2 13 (by decide) (by decide) (by decide)]⟩, by simp only [tk_v, bd_v, bx_vl, bx_vr, s2s, s2k, s2j, s1s, s1k, mg_v0, mg_v1, sb_v, List.getD_cons_zero, List.getD_cons_succ, not_false_eq_true, Nat.reduceEqDiff, reduceCtorEq], by simp only [tk_v, bd_v, bx_vl, bx_vr, s2s, s2k, s2j, s1s, s1k, mg_v0, mg_v1, sb_v, List.getD_cons_zero, List.getD_cons_succ, not_false_eq_true, Nat.reduceEqDiff, reduceCtorEq], fun k k1 k2 => ?_, fun k hk => ?_, Or.inr ⟨by omega, ?_⟩⟩
              · rw [bq_v (nI_lt hmm (by omega)), bd_v, bx_vr, tk_v, nI_add]
              · have := c3 (k - i) (by omega)
                rw [show x + i + (k - i) = x + k by omega] at this
                exact this
              · obtain ⟨d1, d2⟩ := c4 k (Or.inl (by omega))
                rw [d1, d2, b6.1 2 (by decide), b6.1 1 (by decide), a6.1 2 (by decide), a6.1 1 (by decide)]
                exact ⟨rfl, rfl⟩
              · rw [bq_w (nI_ge hmm (by omega))]
                unfold J_Mod_readRun_172
                rw [gd_v (Or.inr rfl), tk_v, s2e w20]
                refine Eq.trans (b := L_Mod_readRun_13 f (nI y) (nI a) (nI (x + i + m)) 0 v3) ?_ ?_
                · rw [Nat.zero_add] at c1
                  exact c1
                · obtain ⟨f, rfl⟩ : ∃ k, f = k + 1 := ⟨f - 1, by omega⟩
                  unfold L_Mod_readRun_13 J_Mod_readRun_230
                  rw [bq_w x21, bq_v rfl, bq_v rfl, bq_w x21, Nat.add_assoc]
            · refine Or.inr ⟨mg [9, 10] 0 (mg [9, 10] 0 u w) w2, v2 0 1, st2 v2 0 20 0, ?_, ?_, BD_s (FG_tr (FR_G a6) (FR_G b6))⟩
              · rw [bq_w (nI_nlt (by omega) (by omega)), bd_v, bx_vl]
              · rw [bq_v (nI_le (by omega) (by omega))]
                exact b171 (by omega) _ _ _ _ _
          · dsimp only at b3
            rw [show L_Rea_readBits_4 100 (nI j) 0 0 (sb [9, 10] (mg [9, 10] 0 u w)) = some (.inl w2) from b1, show L_Mod_getMany_4 2000 (nI j) 0 0 v1 = some (r', v2) from b2, bd_v, bx_vl, bd_v, bx_vl, bd_v, tk_v, bq_v b3.2.2]
            exact Or.inr ⟨_, v2 0 1, st2 v2 0 20 0, rfl, b171 (by omega) _ _ _ _ _, BD_s (FG_tr (FR_G a6) (FB_D b3).1)⟩
        · -- the run goes on
          have h1n : ¬ nI 1 = 0 := by decide
          have C0 : L_Mod_readRun_13 (f + 1) (nI y) (nI a) (nI (x + i)) 1 v = J_Mod_readRun_59 (L_Mod_readRun_13 f) (nI y) (nI a) (nI (x + i)) (nI (2 ^ j)) 1 v1 := by
            conv => lhs; unfold L_Mod_readRun_13
            rw [bq_w h21, bq_w n10, h2.1, bq_w hle2, J2, bd_v, tk_v, a2, bd_v, tk_v, hsh]
            exact bq_v (show nI 1 = (1 : Int32) from rfl)
          by_cases hlt : W - x - i < 2 ^ j
          · obtain ⟨v3, c1, c2, c3, c4⟩ := f178 (y := y) (a := a) (k13 := L_Mod_readRun_13 f) (l5 := 1) (by omega) (W - x - i) 0 (x + i) 2000 v1 (by omega) (by omega) (by omega) v20
            rw [Nat.zero_add, show x + i + (W - x - i) = W by omega] at c1
            have k3 : DK W H M N (mg [9, 10] 0 u w) v3 := DK_eq k1 (fun _ _ _ _ => rfl) c2
            have x21 : ¬ v3 0 20 = 0 := by rw [k3.2.2.2.2.2.1]; decide
            refine Or.inl ⟨W - x, mg [9, 10] 0 u w, v3, by omega, by omega, ?_, k3, ⟨fun k hk => by rw [c2 k (by omega) (by omega), a6.1 k (by omega)], by rw [c2 0 (by decide) (by decide), a6.2 13 (by decide) (by decide) (by decide)]⟩, by simp only [tk_v, bd_v, bx_vl, bx_vr, s2s, s2k, s2j, s1s, s1k, mg_v0, mg_v1, sb_v, List.getD_cons_zero, List.getD_cons_succ, not_false_eq_true, Nat.reduceEqDiff, reduceCtorEq], by simp only [tk_v, bd_v, bx_vl, bx_vr, s2s, s2k, s2j, s1s, s1k, mg_v0, mg_v1, sb_v, List.getD_cons_zero, List.getD_cons_succ, not_false_eq_true, Nat.reduceEqDiff, reduceCtorEq], fun k k1 k2 => ?_, fun k hk => ?_, Or.inl ⟨by omega, ?_⟩⟩
            · unfold L_Rdg_carryRun_2
              rw [bq_w hle, J1, bd_v, a1, bd_v, bx_vr, tk_v, bq_w h1n, hsub, hsh, bq_v (nI_lt hlt (by omega))]
              obtain ⟨n, rfl⟩ : ∃ k, n = k + 1 := ⟨n - 1, by omega⟩
              unfold L_Rdg_carryRun_2
              rw [bq_v (nI_le (by omega) (by omega))]
            · have := c3 (k - i) (by omega)
              rw [show x + i + (k - i) = x + k by omega] at this
              exact this
            · obtain ⟨d1, d2⟩ := c4 k (Or.inl (by omega))
              rw [d1, d2, a6.1 2 (by decide), a6.1 1 (by decide)]
              exact ⟨rfl, rfl⟩
            · rw [C0]
              unfold J_Mod_readRun_59 J_Mod_readRun_97 J_Mod_readRun_101 J_Mod_readRun_128
              rw [bq_w n10, v01, hsub2, bq_v (nI_lt hlt (by omega)), tk_v, s2e rfl, v01, hsub2, bq_v (nI_lt hlt (by omega))]
              refine Eq.trans c1 ?_
              obtain ⟨f, rfl⟩ : ∃ k, f = k + 1 := ⟨f - 1, by omega⟩
              unfold L_Mod_readRun_13 J_Mod_readRun_230
              rw [bq_w x21, bq_w n10, k3.2.1.1, bq_v (nI_le (by omega) (by omega)), bq_w n10]
          · obtain ⟨U', z, R1, R2, R3⟩ := raise_ok k1.2.2.1
            have k2 := DK_rs k1 R3
            obtain ⟨v3, c1, c2, c3, c4⟩ := f178 (y := y) (a := a) (k13 := L_Mod_readRun_13 f) (l5 := 1) (by omega) (2 ^ j) 0 (x + i) 2000 (st2 v1 0 12 z) (by omega) (by omega) (by omega) k2.2.2.2.2.2.1
            rw [Nat.zero_add] at c1
            have k3 : DK W H M N (mg [2, 3, 4, 5, 6, 7] 0 (mg [9, 10] 0 u w) U') v3 := DK_eq k2 (fun _ _ _ _ => rfl) c2
            have C1 : L_Rdg_carryRun_2 (n + 1) (nI (W - x)) (nI i) u = L_Rdg_carryRun_2 n (nI (W - x)) (nI (i + 2 ^ j)) (mg [2, 3, 4, 5, 6, 7] 0 (mg [9, 10] 0 u w) U') := by
              conv => lhs; unfold L_Rdg_carryRun_2
              rw [bq_w hle, J1, bd_v, a1, bd_v, bx_vr, tk_v, bq_w h1n, hsub, hsh, bq_w (nI_nlt (by omega) (by omega)), tk_v, R1, bd_v, tk_v, nI_add]
            have C2 : L_Mod_readRun_13 (f + 1) (nI y) (nI a) (nI (x + i)) 1 v = L_Mod_readRun_13 f (nI y) (nI a) (nI (x + (i + 2 ^ j))) 1 v3 := by
              have c101 : J_Mod_readRun_101 (L_Mod_readRun_13 f) (nI y) (nI a) (nI (x + i)) 1 (nI (2 ^ j)) z v1 = L_Mod_readRun_13 f (nI y) (nI a) (nI (x + (i + 2 ^ j))) 1 v3 := by
                unfold J_Mod_readRun_101 J_Mod_readRun_128
                rw [tk_v, s2j (by decide), v01, hsub2, bq_w (nI_nlt (by omega) (by omega)), ← Nat.add_assoc]
                exact c1
              rw [C0]
              unfold J_Mod_readRun_59 J_Mod_readRun_97
              rw [bq_w n10, v01, hsub2, bq_w (nI_nlt (by omega) (by omega))]
              by_cases g31 : 31 ≤ v1 0 12
              · rw [bq_v g31]
                rw [if_pos g31] at R2
                have hz : v1 0 12 = z := by
                  rw [← R2, i_eq]
                  have e31 : (31 : Int32).toInt = 31 := by decide
                  rw [i_le, e31] at g31
                  have := k1.2.2.1
                  have u1 := this.1
                  have u2 := this.2.2.1
                  rw [u1] at u2
                  omega
                rw [hz]
                exact c101
              · rw [bq_w g31]
                rw [if_neg g31] at R2
                rw [R2]
                exact c101
            rw [C1, C2]
            have hG : FG v v3 := ⟨fun k hk => by rw [c2 k (by omega) (by omega), s2k (by omega), a6.1 k (by omega)], by rw [c2 0 (by decide) (by decide), s2j (by decide), a6.2 13 (by decide) (by decide) (by decide)]⟩
            rcases ih (i + 2 ^ j) n f _ v3 (by omega) (by omega) (by omega) (by omega) k3 with ⟨L, u', v', d1, d2, d3, d4, d5, d6, d7, d8, d9, d10⟩ | ⟨u', r, v', d1, d2, d3⟩
            · refine Or.inl ⟨L, u', v', by omega, d2, d3, d4, FG_tr hG d5, by rw [d6]; simp only [tk_v, bd_v, bx_vl, bx_vr, s2s, s2k, s2j, s1s, s1k, mg_v0, mg_v1, sb_v, List.getD_cons_zero, List.getD_cons_succ, not_false_eq_true, Nat.reduceEqDiff, reduceCtorEq], by rw [d7]; simp only [tk_v, bd_v, bx_vl, bx_vr, s2s, s2k, s2j, s1s, s1k, mg_v0, mg_v1, sb_v, List.getD_cons_zero, List.getD_cons_succ, not_false_eq_true, Nat.reduceEqDiff, reduceCtorEq], fun k k1 k2 => ?_, fun k hk => ?_, d10⟩
              · by_cases hk2 : i + 2 ^ j ≤ k
                · exact d8 k hk2 k2
                · obtain ⟨g1, g2⟩ := d9 (8 * y + (x + k)) (by omega)
                  rw [g1, g2]
                  have := c3 (k - i) (by omega)
                  rw [show x + i + (k - i) = x + k by omega] at this
                  exact this
              · obtain ⟨g1, g2⟩ := d9 k (by omega)
                obtain ⟨g3, g4⟩ := c4 k (Or.inl (by omega))
                rw [g1, g2, g3, g4, s2k (by decide), s2k (by decide), a6.1 2 (by decide), a6.1 1 (by decide)]
                exact ⟨rfl, rfl⟩
            · exact Or.inr ⟨u', r, v', d1, d2, FG_B hG d3⟩
      · dsimp only at a3 a4
        subst a3
        refine Or.inr ⟨mg [9, 10] 0 u w, v1 0 1, st2 v1 0 20 0, ?_, ?_, BD_s (FB_D a4).1⟩
        · unfold L_Rdg_carryRun_2
          rw [bq_w hle, J1, bd_v, a1, bd_v, bx_vl]
        · have C0 : L_Mod_readRun_13 (f + 1) (nI y) (nI a) (nI (x + i)) 1 v = J_Mod_readRun_59 (L_Mod_readRun_13 f) (nI y) (nI a) (nI (x + i)) (nI (2 ^ j)) 0 v1 := by
            conv => lhs; unfold L_Mod_readRun_13
            rw [bq_w h21, bq_w n10, h2.1, bq_w hle2, J2, bd_v, tk_v, a2, bd_v, tk_v, hsh]
            exact bq_w (show ¬ (0 : Int32) = 1 by decide)
          rw [C0]
          unfold J_Mod_readRun_59 f_Mod_getMany
          rw [bq_v rfl, a4.2.1 12 (by decide) (by decide) (by decide) (by decide), JJ, bd_v, gm_bad (by omega) _ _ _ a4.2.2, bd_v, tk_v, bq_v a4.2.2]
          exact b171 (by omega) _ _ _ _ _
