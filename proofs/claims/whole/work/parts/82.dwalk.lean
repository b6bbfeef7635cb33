/-! the walk, read -/
theorem runJ_de {W H M N y a : Nat} (hP : PN W H M N) (hy : y < H) (ha : a ≤ M) {v : gU} {k16 : Int32 → gU → Option (gU ⊕ gU)} : ∀ (r x b n : Nat) (u : gU), x < W → x + r ≤ W → W < n + x + 1 → b ≤ M → DK W H M N u v → RB W M x y u v → u 0 0 = nI a → u 0 1 = nI b → f_Mod_before (nI x) (nI y) v = some (nI a) → f_Mod_above (nI x) (nI y) v = some (nI b) → (∀ k, k < r → v 2 (8 * y + (x + k)) = nI a ∧ v 1 (8 * y + (x + k)) = nI a) → ∃ (u' : gU), DK W H M N u' v ∧ RB W M (x + r) y u' v ∧ ((x + r = W ∧ J_Pas_overAll_R_91 k16 (L_Pas_overAll_R_34 k16 n) (nI y) 1 (nI r) (nI x) (nI (8 * y + x)) u = k16 (nI (y + 1)) u') ∨ (x + r < W ∧ ∃ b' m : Nat, b' ≤ M ∧ W < m + (x + r) + 1 ∧ u' 0 0 = nI a ∧ u' 0 1 = nI b' ∧ f_Mod_before (nI (x + r)) (nI y) v = some (nI a) ∧ f_Mod_above (nI (x + r)) (nI y) v = some (nI b') ∧ J_Pas_overAll_R_91 k16 (L_Pas_overAll_R_34 k16 n) (nI y) 1 (nI r) (nI x) (nI (8 * y + x)) u = (bd (f_Pas_overEnd_R (nI (8 * y + (x + r))) u') fun w1 => bx w1 (fun v2 => some (.inl (v2))) fun w3 => tk (w3) fun u4 => L_Pas_overAll_R_34 k16 m (nI y) 0 (nI 0) (nI (x + r + 1)) u4))) := by
  have hP' := hP
  obtain ⟨q1, q2, q3, q4, q5, q6, q7, q8⟩ := hP'
  intro r
  induction r with
  | zero =>
    intro x b n u hx hxr hn hb hE hR ua ub A B hv
    refine ⟨u, hE, hR, Or.inr ⟨by omega, b, n, hb, by omega, ua, ub, A, B, ?_⟩⟩
    unfold J_Pas_overAll_R_91
    rw [bq_w (by decide), bq_v (by decide), ← nI_succ]
    rfl
  | succ r ih =>
    intro x b n u hx hxr hn hb hE hR ua ub A B hv
    obtain ⟨n, rfl⟩ : ∃ k, n = k + 1 := ⟨n - 1, by omega⟩
    obtain ⟨hvx, hvy⟩ := hv 0 (by omega)
    rw [Nat.add_zero] at hvx hvy
    have hE1 : DK W H M N (st2 u 8 (8 * y + x) (nI a)) v := DK_eq hE (fun k _ k0 k8 => s2k k8) (fun _ _ _ => rfl)
    have hR1 : RB W M (x + 1) y (st2 u 8 (8 * y + x) (nI a)) v := RB_st q2 hx ha hR rfl (by rw [s2e hvx]) (by rw [s2e hvy])
    have C1 : J_Pas_overAll_R_91 k16 (L_Pas_overAll_R_34 k16 (n + 1)) (nI y) 1 (nI (r + 1)) (nI x) (nI (8 * y + x)) u = L_Pas_overAll_R_34 k16 (n + 1) (nI y) 1 (nI r) (nI (x + 1)) (st2 u 8 (8 * y + x) (nI a)) := by
      unfold J_Pas_overAll_R_91
      rw [bq_w (by decide), bq_w (nI_nle (by omega) (by omega)), tk_v, gd_v (ix_n (by omega) (by omega)), tk_v, tk_v, tc_n (by omega), ua, pk_m1, ← nI_succ]
    rw [C1]
    by_cases hl : x + 1 = W
    · obtain rfl : r = 0 := by omega
      refine ⟨st2 u 8 (8 * y + x) (nI a), hE1, hR1, Or.inl ⟨hl, ?_⟩⟩
      unfold L_Pas_overAll_R_34
      rw [hE1.1.1, bq_v (nI_le (by omega) (by omega)), tk_v, ← nI_succ]
    · obtain ⟨a', b', c', d', h1, h2, h3, h4, K1, A1, B1, -, -⟩ := look_ok (H := H) (N := N) q2 (x := x + 1) (by omega) (by omega) hE1.1.1 hE1.2.1.1 hR1.1
      have hA2 := bef_at (by omega) (by omega) hvx
      rw [A1] at hA2
      have ea : nI a' = nI a := Option.some.inj hA2
      rw [ea] at K1 A1
      obtain ⟨u', b1, b2, b3⟩ := ih (x + 1) b' n (lkS (st2 u 8 (8 * y + x) (nI a)) (nI a) (nI b') (nI c') (nI d')) (by omega) (by omega) (by omega) h2 (DK_eq hE1 (fun k _ k0 k8 => lk_k k0) (fun _ _ _ => rfl)) (by unfold RB; rw [lk_k (by decide)]; exact hR1) lk_0.1 lk_0.2.1 A1 B1 (fun k hk => by rw [show x + 1 + k = x + (k + 1) by omega]; exact hv (k + 1) (by omega))
      have C2 : L_Pas_overAll_R_34 k16 (n + 1) (nI y) 1 (nI r) (nI (x + 1)) (st2 u 8 (8 * y + x) (nI a)) = J_Pas_overAll_R_91 k16 (L_Pas_overAll_R_34 k16 n) (nI y) 1 (nI r) (nI (x + 1)) (nI (8 * y + (x + 1))) (lkS (st2 u 8 (8 * y + x) (nI a)) (nI a) (nI b') (nI c') (nI d')) := by
        conv => lhs; unfold L_Pas_overAll_R_34
        rw [hE1.1.1, bq_w (nI_ge (by omega) (by omega)), f_Pic_place, bd_v, pl_c, look_R, K1, bd_v, tk_v, bq_w (by decide)]
      rw [C2]
      have e1 : x + 1 + r = x + (r + 1) := by omega
      rw [e1] at b2 b3
      exact ⟨u', b1, b2, b3⟩
theorem w19_bad {k2 : Int32 → gU → Option gU} {f : Nat} (hf : 1 ≤ f) (y : Nat) (l2 : Int32) {v : gU} (h : v 0 20 = 0) : L_Mod_walk_19 k2 f (nI y) l2 v = k2 (nI (y + 1)) v := by
  obtain ⟨f, rfl⟩ : ∃ k, f = k + 1 := ⟨f - 1, by omega⟩
  unfold L_Mod_walk_19
  rw [tk_v, ← nI_succ]
  by_cases g : v 0 1 ≤ l2
  · rw [bq_v g]
  · rw [bq_w g, bq_v h]
theorem RB_nx {W M y : Nat} {u v : gU} (h : RB W M W y u v) : RB W M 0 (y + 1) u v := ⟨RbW_nx h.1, RbW_nx h.2⟩
theorem rowD_ok {W H M N y : Nat} (hP : PN W H M N) (hy : y < H) {k16 : Int32 → gU → Option (gU ⊕ gU)} {k2 : Int32 → gU → Option gU} : ∀ (d x n f : Nat) (l3 : Int32) (u v : gU), W < x + d → x ≤ W → W < n + x → W < f + x → DK W H M N u v → RB W M x y u v → (∃ u' v' : gU, L_Pas_overAll_R_34 k16 n (nI y) 0 l3 (nI x) u = k16 (nI (y + 1)) u' ∧ L_Mod_walk_19 k2 f (nI y) (nI x) v = k2 (nI (y + 1)) v' ∧ DK W H M N u' v' ∧ RB W M 0 (y + 1) u' v' ∧ FG v v') ∨ (∃ u' v' : gU, L_Pas_overAll_R_34 k16 n (nI y) 0 l3 (nI x) u = some (.inl u') ∧ L_Mod_walk_19 k2 f (nI y) (nI x) v = k2 (nI (y + 1)) v' ∧ BD v v') := by
  have hP' := hP
  obtain ⟨q1, q2, q3, q4, q5, q6, q7, q8⟩ := hP'
  intro d
  induction d with
  | zero =>
    intro x n f l3 u v hd hx hn hf h hR
    omega
  | succ d ih =>
    intro x n f l3 u v hd hx hn hf hK hR
    obtain ⟨n, rfl⟩ : ∃ k, n = k + 1 := ⟨n - 1, by omega⟩
    obtain ⟨f, rfl⟩ : ∃ k, f = k + 1 := ⟨f - 1, by omega⟩
    have hK' := hK
    obtain ⟨h1, h2, h3, h4, h5, h6, h7⟩ := hK'
    by_cases hl : x = W
    · subst hl
      refine Or.inl ⟨u, v, ?_, ?_, hK, RB_nx hR, FG_rf v⟩
      · unfold L_Pas_overAll_R_34
        rw [h1.1, bq_v (nI_le (by omega) (by omega)), tk_v, ← nI_succ]
      · unfold L_Mod_walk_19
        rw [h2.1, bq_v (nI_le (by omega) (by omega)), tk_v, ← nI_succ]
    · obtain ⟨a, b, c, d', a1, b1, c1, d1, K1, A, B, C, D⟩ := look_ok (H := H) (N := N) q2 (x := x) (by omega) (by omega) h1.1 h2.1 hR.1
      have hKl : DK W H M N (lkS u (nI a) (nI b) (nI c) (nI d')) v := DK_eq hK (fun k _ k0 k8 => lk_k k0) (fun _ _ _ => rfl)
      have hRl : RB W M x y (lkS u (nI a) (nI b) (nI c) (nI d')) v := by
        unfold RB
        rw [lk_k (by decide)]
        exact hR
      have h20 : ¬ v 0 20 = 0 := by rw [h6]; decide
      have h16 : ¬ v 0 16 = 0 := by rw [h5]; decide
      have X1 : L_Pas_overAll_R_34 k16 (n + 1) (nI y) 0 l3 (nI x) u = bq (nrI (nI N) (nI b - nI d') = 0) (J_Pas_overAll_R_91 k16 (L_Pas_overAll_R_34 k16 n) (nI y) 0 l3 (nI x) (nI (8 * y + x)) (lkS u (nI a) (nI b) (nI c) (nI d'))) (bq (nrI (nI N) (nI c - nI b) = 0) (J_Pas_overAll_R_91 k16 (L_Pas_overAll_R_34 k16 n) (nI y) 0 l3 (nI x) (nI (8 * y + x)) (lkS u (nI a) (nI b) (nI c) (nI d'))) (bq (nrI (nI N) (nI a - nI c) = 0) (J_Pas_overAll_R_91 k16 (L_Pas_overAll_R_34 k16 n) (nI y) 0 l3 (nI x) (nI (8 * y + x)) (lkS u (nI a) (nI b) (nI c) (nI d'))) (bd (f_Rdg_carryRun (nI (8 * y + x)) (nI (W - x)) (lkS u (nI a) (nI b) (nI c) (nI d'))) fun w6 => bx w6 (fun v7 => some (.inl (v7))) fun w8 => tk (w8.2) fun u9 => J_Pas_overAll_R_91 k16 (L_Pas_overAll_R_34 k16 n) (nI y) 1 w8.1 (nI x) (nI (8 * y + x)) u9))) := by
        conv => lhs; unfold L_Pas_overAll_R_34
        rw [look_R, h1.1, bq_w (nI_ge (by omega) (by omega)), f_Pic_place, bd_v, pl_c, K1, bd_v, tk_v, bq_v rfl, even_R]
        unfold f_Pas_isEven_C
        rw [lk_0.1, lk_0.2.1, lk_0.2.2.1, lk_0.2.2.2, lk_k (by decide), h1.1, show nI W - nI x = nI (W - x) from pk_sub (by omega)]
        simp only [nrP, bd_v]
        rw [show sb [1] (lkS u (nI a) (nI b) (nI c) (nI d')) 0 3 = nI N by rw [sb_v]; simp only [List.getD_cons_zero]; rw [lk_k (by decide)]; exact h1.2.2.2.1]
        by_cases g1 : nrI (nI N) (nI b - nI d') = 0
        · rw [bq_v g1, bq_v g1, bd_v, bq_v rfl]
        · rw [bq_w g1, bq_w g1]
          by_cases g2 : nrI (nI N) (nI c - nI b) = 0
          · rw [bq_v g2, bq_v g2, bd_v, bq_v rfl]
          · rw [bq_w g2, bq_w g2]
            by_cases g3 : nrI (nI N) (nI a - nI c) = 0
            · rw [bq_v g3, bq_v g3, bd_v, bq_v rfl]
            · rw [bq_w g3, bq_w g3, bd_v, bq_w (by decide)]
      have X2 : L_Mod_walk_19 k2 (f + 1) (nI y) (nI x) v = bq (nrI (nI N) (nI b - nI d') = 0) (J_Mod_walk_96 k2 (L_Mod_walk_19 k2 f) (nI y) (nI x) 0 v) (bq (nrI (nI N) (nI c - nI b) = 0) (J_Mod_walk_96 k2 (L_Mod_walk_19 k2 f) (nI y) (nI x) 0 v) (bq (nrI (nI N) (nI a - nI c) = 0) (J_Mod_walk_96 k2 (L_Mod_walk_19 k2 f) (nI y) (nI x) 0 v) (J_Mod_walk_96 k2 (L_Mod_walk_19 k2 f) (nI y) (nI x) 1 v))) := by
        conv => lhs; unfold L_Mod_walk_19
        unfold J_Mod_walk_95
        rw [h2.1, bq_w (nI_ge (by omega) (by omega)), bq_w h20, A, B, C, D]
        simp only [nrM, bd_v]
        rw [h2.2.2.2.1]
      have reg : (∃ u' v' : gU, J_Pas_overAll_R_91 k16 (L_Pas_overAll_R_34 k16 n) (nI y) 0 l3 (nI x) (nI (8 * y + x)) (lkS u (nI a) (nI b) (nI c) (nI d')) = k16 (nI (y + 1)) u' ∧ J_Mod_walk_96 k2 (L_Mod_walk_19 k2 f) (nI y) (nI x) 0 v = k2 (nI (y + 1)) v' ∧ DK W H M N u' v' ∧ RB W M 0 (y + 1) u' v' ∧ FG v v') ∨ (∃ u' v' : gU, J_Pas_overAll_R_91 k16 (L_Pas_overAll_R_34 k16 n) (nI y) 0 l3 (nI x) (nI (8 * y + x)) (lkS u (nI a) (nI b) (nI c) (nI d')) = some (.inl u') ∧ J_Mod_walk_96 k2 (L_Mod_walk_19 k2 f) (nI y) (nI x) 0 v = k2 (nI (y + 1)) v' ∧ BD v v') := by
        unfold J_Pas_overAll_R_91 J_Mod_walk_96
        rw [bq_v rfl, bq_v rfl]
        rcases reg_de hP hKl hRl (by omega) hy lk_0.1 lk_0.2.1 lk_0.2.2.1 lk_0.2.2.2 A B C D with ⟨u1, v1, r1, r2, r3, r4, r5⟩ | ⟨u1, v1, r1, r2, r3⟩
        · rw [r1, bd_v, bx_vr, tk_v, tk_v, r2, bd_v, tk_v, tk_v, ← nI_succ]
          rcases ih (x + 1) n f l3 u1 v1 (by omega) (by omega) (by omega) (by omega) r3 r4 with ⟨u2, v2, s1, s2, s3, s4, s5⟩ | ⟨u2, v2, s1, s2, s3⟩
          · exact Or.inl ⟨u2, v2, s1, s2, s3, s4, FG_tr r5 s5⟩
          · exact Or.inr ⟨u2, v2, s1, s2, FG_B r5 s3⟩
        · rw [r1, bd_v, bx_vl, r2, bd_v, tk_v, tk_v]
          exact Or.inr ⟨u1, v1, rfl, w19_bad (by omega) _ _ r3.2, r3⟩
      rw [X1, X2]
      by_cases g1 : nrI (nI N) (nI b - nI d') = 0
      · rw [bq_v g1, bq_v g1]
        exact reg
      rw [bq_w g1, bq_w g1]
      by_cases g2 : nrI (nI N) (nI c - nI b) = 0
      · rw [bq_v g2, bq_v g2]
        exact reg
      rw [bq_w g2, bq_w g2]
      by_cases g3 : nrI (nI N) (nI a - nI c) = 0
      · rw [bq_v g3, bq_v g3]
        exact reg
      rw [bq_w g3, bq_w g3]
      unfold J_Mod_walk_96 f_Mod_readRun f_Rdg_carryRun
      rw [bq_w (by decide), bq_w h16, A, bd_v]
      rcases rrun_ok (y := y) (a := a) hP (x := x) (by omega) hy 100 0 100 2000 (lkS u (nI a) (nI b) (nI c) (nI d')) v (by omega) (by omega) (by omega) (by omega) hKl with ⟨L, u2, v2, -, L2, L3, L4, L5, L6, L7, L8, L9, L10⟩ | ⟨u2, r, v2, L1, L2, L3⟩
      · rw [show L_Rdg_carryRun_2 100 (nI (W - x)) 0 (lkS u (nI a) (nI b) (nI c) (nI d')) = some (.inr (nI L, u2)) from L3, bd_v, bx_vr, tk_v]
        obtain ⟨A2, B2⟩ := ba_eq (x := x) (y := y) (v := v) (v' := v2) (by omega) (by omega) (fun k hk => (L9 k (by omega)).1)
        rw [A] at A2
        rw [B] at B2
        have ua : u2 0 0 = nI a := by rw [L6]; exact lk_0.1
        have ub : u2 0 1 = nI b := by rw [L6]; exact lk_0.2.1
        have hR2 : RB W M x y u2 v2 := by
          constructor
          · intro i j hi hc
            rw [L7, (L9 _ (by omega)).1]
            exact hRl.1 i j hi hc
          · intro i j hi hc
            rw [L7, (L9 _ (by omega)).2]
            exact hRl.2 i j hi hc
        obtain ⟨u3, t1, t2, t3⟩ := runJ_de (k16 := k16) hP hy a1 L x b n u2 (by omega) L2 (by omega) b1 L4 hR2 ua ub A2 B2 (fun k hk => L8 k (by omega) hk)
        rcases L10 with ⟨p1, p2⟩ | ⟨p1, p2⟩
        · rcases t3 with ⟨t3, t4⟩ | ⟨t3, -⟩
          · rw [p1] at t2
            refine Or.inl ⟨u3, v2, t4, ?_, t1, RB_nx t2, L5⟩
            rw [show L_Mod_readRun_13 2000 (nI y) (nI a) (nI x) 1 v = some (nI W, v2) from p2, bd_v, tk_v]
            obtain ⟨f, rfl⟩ : ∃ k, f = k + 1 := ⟨f - 1, by omega⟩
            show L_Mod_walk_19 k2 (f + 1) (nI y) (nI W) v2 = _
            unfold L_Mod_walk_19
            rw [t1.2.1.1, bq_v (nI_le (by omega) (by omega)), tk_v, ← nI_succ]
          · omega
        · rcases t3 with ⟨t3, -⟩ | ⟨t3, bb, m, o1, o2, o3, o4, o6, o7, o8⟩
          · omega
          · obtain ⟨j, hj, J1, J2⟩ := j_ok (U := sb [2, 3, 4, 5, 6, 7] u3) (v := v2) t1.2.2.1.1 t1.2.2.1.2.1 t1.2.2.1.2.2.1
            rw [show L_Mod_readRun_13 2000 (nI y) (nI a) (nI x) 1 v = _ from p2, o8, J2, bd_v]
            rcases end_de hP t1 t2 t3 hy a1 o1 o3 o4 o6 o7 hj J1 with ⟨u4, v4, r1, r2, r3, r4, r5⟩ | ⟨u4, v4, r1, r2, r3⟩
            · rw [r1, bd_v, bx_vr, tk_v, r2, bd_v, tk_v, bd_v, tk_v, ← nI_succ]
              rcases ih (x + L + 1) m f (nI 0) u4 v4 (by omega) (by omega) (by omega) (by omega) r3 r4 with ⟨u5, v5, s1, s2, s3, s4, s5⟩ | ⟨u5, v5, s1, s2, s3⟩
              · exact Or.inl ⟨u5, v5, s1, s2, s3, s4, FG_tr L5 (FG_tr r5 s5)⟩
              · exact Or.inr ⟨u5, v5, s1, s2, FG_B L5 (FG_B r5 s3)⟩
            · rw [r1, bd_v, bx_vl, r2, bd_v, tk_v, bd_v, tk_v]
              exact Or.inr ⟨u4, v4, rfl, w19_bad (by omega) _ _ r3.2, FG_B L5 r3⟩
      · rw [show L_Rdg_carryRun_2 100 (nI (W - x)) 0 (lkS u (nI a) (nI b) (nI c) (nI d')) = some (.inl u2) from L1, bd_v, bx_vl, show L_Mod_readRun_13 2000 (nI y) (nI a) (nI x) 1 v = some (r, v2) from L2, bd_v, tk_v]
        exact Or.inr ⟨u2, v2, rfl, w19_bad (by omega) _ _ L3.2, L3⟩
theorem rowsD_ok {W H M N : Nat} (hP : PN W H M N) : ∀ (d y n f : Nat) (u v : gU), y + d = H → d < n → d < f → DK W H M N u v → RB W M 0 y u v → OC (L_Pas_overAll_R_16 n (nI y) u) (L_Mod_walk_2 f (nI y) v) (fun u' v' => DK W H M N u' v' ∧ RB W M 0 H u' v' ∧ FG v v') (fun v' => BD v v') := by
  have hP' := hP
  obtain ⟨q1, q2, q3, q4, q5, q6, q7, q8⟩ := hP'
  intro d
  induction d with
  | zero =>
    intro y n f u v hd hn hf h hR
    obtain ⟨n, rfl⟩ : ∃ k, n = k + 1 := ⟨n - 1, by omega⟩
    obtain ⟨f, rfl⟩ : ∃ k, f = k + 1 := ⟨f - 1, by omega⟩
    obtain rfl : y = H := by omega
    refine Or.inl ⟨u, v, ?_, ?_, h, hR, FG_rf v⟩
    · unfold L_Pas_overAll_R_16
      rw [h.1.2.1, bq_v (nI_le (by omega) (by omega))]
    · unfold L_Mod_walk_2
      rw [h.2.1.2.1, bq_v (nI_le (by omega) (by omega))]
  | succ d ih =>
    intro y n f u v hd hn hf h hR
    obtain ⟨n, rfl⟩ : ∃ k, n = k + 1 := ⟨n - 1, by omega⟩
    obtain ⟨f, rfl⟩ : ∃ k, f = k + 1 := ⟨f - 1, by omega⟩
    have h20 : ¬ v 0 20 = 0 := by rw [h.2.2.2.2.2.1]; decide
    have C1 : L_Pas_overAll_R_16 (n + 1) (nI y) u = L_Pas_overAll_R_34 (L_Pas_overAll_R_16 n) 20 (nI y) 0 0 (nI 0) u := by
      conv => lhs; unfold L_Pas_overAll_R_16
      rw [h.1.2.1, bq_w (nI_ge (by omega) (by omega))]
      rfl
    have C2 : L_Mod_walk_2 (f + 1) (nI y) v = L_Mod_walk_19 (L_Mod_walk_2 f) 2000 (nI y) (nI 0) v := by
      conv => lhs; unfold L_Mod_walk_2
      rw [h.2.1.2.1, bq_w (nI_ge (by omega) (by omega)), bq_w h20]
      rfl
    rw [C1, C2]
    rcases rowD_ok hP (y := y) (by omega) (k16 := L_Pas_overAll_R_16 n) (k2 := L_Mod_walk_2 f) 9 0 20 2000 0 u v (by omega) (by omega) (by omega) (by omega) h hR with ⟨u1, v1, e1, e2, e3, e4, e5⟩ | ⟨u1, v1, e1, e2, e3⟩
    · rw [e1, e2]
      rcases ih (y + 1) n f u1 v1 (by omega) (by omega) (by omega) e3 e4 with ⟨u', v', a1, a2, a3, a4, a5⟩ | ⟨u', v', a1, a2, a3⟩
      · exact Or.inl ⟨u', v', a1, a2, a3, a4, FG_tr e5 a5⟩
      · exact Or.inr ⟨u', v', a1, a2, FG_B e5 a3⟩
    · rw [e1, e2]
      refine Or.inr ⟨u1, v1, rfl, ?_, e3⟩
      obtain ⟨f, rfl⟩ : ∃ k, f = k + 1 := ⟨f - 1, by omega⟩
      unfold L_Mod_walk_2
      by_cases g : v1 0 2 ≤ nI (y + 1)
      · rw [bq_v g]
      · rw [bq_w g, bq_v e3.2]
