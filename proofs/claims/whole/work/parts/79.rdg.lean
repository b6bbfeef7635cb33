/-! a sample read -/
def DK (W H M N : Nat) (u v : gU) : Prop := PicW W H M N (u 1) ∧ ModW W H M N (v 0) ∧ CX (sb [2, 3, 4, 5, 6, 7] u) v ∧ RD (sb [9, 10] u) v ∧ v 0 16 = 1 ∧ v 0 20 = 1 ∧ v 0 0 = 0
def RB (W M x y : Nat) (u v : gU) : Prop := RbW W M x y (u 8) (v 2) ∧ RbW W M x y (u 8) (v 1)
theorem s2u {u : gU} {k j : Nat} {x : Int32} : st2 u k j x k = upd (u k) j x := by simp [st2]
def FG (v v' : gU) : Prop := (∀ k, 4 ≤ k → v' k = v k) ∧ v' 0 13 = v 0 13
def BD (v v' : gU) : Prop := FG v v' ∧ v' 0 20 = 0
theorem FG_rf (v : gU) : FG v v := ⟨fun _ _ => rfl, rfl⟩
theorem FG_tr {v v1 v2 : gU} (h1 : FG v v1) (h2 : FG v1 v2) : FG v v2 := ⟨fun k a => by rw [h2.1 k a, h1.1 k a], by rw [h2.2, h1.2]⟩
theorem FG_B {v v1 v2 : gU} (h1 : FG v v1) (h2 : BD v1 v2) : BD v v2 := ⟨FG_tr h1 h2.1, h2.2⟩
theorem FR_G {v v1 : gU} (h : FR v v1) : FG v v1 := ⟨fun k a => h.1 k (by omega), h.2 13 (by decide) (by decide) (by decide)⟩
theorem FB_D {v v1 : gU} (h : FB v v1) : BD v v1 := ⟨⟨fun k a => h.1 k (by omega), h.2.1 13 (by decide) (by decide) (by decide) (by decide)⟩, h.2.2⟩
def unI (m n r st z : Int32) : Int32 := if -n ≤ z then (if z ≤ m + n then z else z - r * st) else z + r * st
theorem unP (z : Int32) (u : gU) : f_Pic_unreduced z u = some (unI (u 0 2) (u 0 3) (u 0 5) (u 0 4) z) := by
  unfold f_Pic_unreduced unI
  by_cases g : -(u 0 3) ≤ z
  · rw [bq_v g, if_pos g]
    by_cases g2 : z ≤ u 0 2 + u 0 3
    · rw [bq_v g2, if_pos g2]
    · rw [bq_w g2, if_neg g2]
  · rw [bq_w g, if_neg g]
def hvI (v : gU) (f sg e : Int32) : Int32 := hlI (v 0 3) (unI (v 0 3) (v 0 4) (v 0 6) (v 0 5) (f + sg * e * v 0 5))
theorem s30_v {x y : Nat} (hx : x < 8) (hy : y < 8) (f sg e : Int32) (v : gU) : J_Mod_settle_30 (nI x) (nI y) f sg e v = some (st2 (st2 v 2 (8 * y + x) (hvI v f sg e)) 1 (8 * y + x) (hvI v f sg e)) := by
  have h100 : ∀ s : Int32, J_Mod_settle_100 (nI x) (nI y) s v = some (st2 (st2 v 2 (8 * y + x) (hlI (v 0 3) s)) 1 (8 * y + x) (hlI (v 0 3) s)) := by
    intro s
    unfold J_Mod_settle_100
    rw [hlM, bd_v, pl_m, gd_v (ix_n (by omega) (by omega)), tk_v, hlM, bd_v, gd_v (ix_n (by omega) (by omega)), tk_v, tc_n (by omega), s2k (by decide)]
  unfold J_Mod_settle_30 hvI unI
  rw [tk_v]
  by_cases g : -(v 0 4) ≤ f + sg * e * v 0 5
  · rw [bq_v g, if_pos g]
    by_cases g2 : f + sg * e * v 0 5 ≤ v 0 3 + v 0 4
    · rw [bq_v g2, if_pos g2, h100]
    · rw [bq_w g2, if_neg g2, h100]
  · rw [bq_w g, if_neg g, h100]
theorem set_any {x y : Nat} (hx : x < 8) (hy : y < 8) (f sg e : Int32) (v : gU) : ∃ v' : gU, f_Mod_settle (nI x) (nI y) f sg e v = some v' ∧ (∀ k, 3 ≤ k → v' k = v k) ∧ (∀ j, ¬ j = 20 → v' 0 j = v 0 j) ∧ (v 0 20 = 0 → v' 0 20 = 0) := by
  have h30 : ∃ v' : gU, J_Mod_settle_30 (nI x) (nI y) f sg e v = some v' ∧ (∀ k, 3 ≤ k → v' k = v k) ∧ (∀ j, ¬ j = 20 → v' 0 j = v 0 j) ∧ (v 0 20 = 0 → v' 0 20 = 0) := by
    refine ⟨_, s30_v hx hy f sg e v, fun k hk => ?_, fun j hj => ?_, fun h => ?_⟩
    · rw [s2k (by omega), s2k (by omega)]
    · rw [s2k (by decide), s2k (by decide)]
    · rw [s2k (by decide), s2k (by decide)]
      exact h
  have h25 : ∃ v' : gU, J_Mod_settle_25 (nI x) (nI y) f sg e v = some v' ∧ (∀ k, 3 ≤ k → v' k = v k) ∧ (∀ j, ¬ j = 20 → v' 0 j = v 0 j) ∧ (v 0 20 = 0 → v' 0 20 = 0) := by
    refine ⟨_, (s30_v hx hy f sg e (st2 v 0 20 0)), fun k hk => ?_, fun j hj => ?_, fun h => ?_⟩
    · rw [s2k (by omega), s2k (by omega), s2k (by omega)]
    · rw [s2k (by decide), s2k (by decide), s2j hj]
    · rw [s2k (by decide), s2k (by decide), s2s]
  unfold f_Mod_settle
  by_cases g : e < -(v 0 6 / 2)
  · rw [bq_v g]
    exact h25
  · rw [bq_w g]
    by_cases g2 : e < (v 0 6 + 1) / 2
    · rw [bq_v g2]
      exact h30
    · rw [bq_w g2]
      exact h25
theorem reb_ok {W H M N x y f : Nat} (hP : PN W H M N) {u v : gU} {sg e : Int32} (hx : x < 8) (hy : y < 8) (u4 : u 0 4 = sg) (u5 : u 0 5 = nI f) (hu : PicW W H M N (u 1)) (hv : ModW W H M N (v 0)) : (∃ r : Nat, r ≤ M ∧ -128 ≤ e.toInt ∧ e.toInt ≤ 128 ∧ f_Rdg_rebuild (nI (8 * y + x)) e u = some (.inr (st2 u 8 (8 * y + x) (nI r))) ∧ f_Mod_settle (nI x) (nI y) (nI f) sg e v = some (st2 (st2 v 2 (8 * y + x) (nI r)) 1 (8 * y + x) (nI r))) ∨ (∃ v' : gU, f_Rdg_rebuild (nI (8 * y + x)) e u = some (.inl u) ∧ f_Mod_settle (nI x) (nI y) (nI f) sg e v = some v' ∧ v' 0 20 = 0 ∧ (∀ k, 3 ≤ k → v' k = v k) ∧ (∀ j, ¬ j = 20 → v' 0 j = v 0 j)) := by
  obtain ⟨q1, q2, q3, q4, q5, q6, q7, q8⟩ := hP
  obtain ⟨p0, p1, p2, p3, p4⟩ := hu
  obtain ⟨m0, m1, m2, m3, m4⟩ := hv
  obtain ⟨-, -, -, -, a5, -, -, a8, a9, -⟩ := nb_ok q5 q6 q7 q8
  have st1' : u 1 4 = nbI (nI M) (nI N) 4 := p4 4 (by omega) (by omega)
  have st2' : v 0 5 = nbI (nI M) (nI N) 4 := m4 4 (by omega) (by omega)
  have rg1 : u 1 5 = nI ((M + 2 * N) / (2 * N + 1) + 1) := by rw [p4 5 (by omega) (by omega), ← a9]; rfl
  have rg2 : v 0 6 = nI ((M + 2 * N) / (2 * N + 1) + 1) := by rw [m4 5 (by omega) (by omega), ← a9]; rfl
  have hR : (M + 2 * N) / (2 * N + 1) ≤ 255 := by
    have : (M + 2 * N) / (2 * N + 1) ≤ M := by
      rw [Nat.div_le_iff_le_mul_add_pred (by omega)]
      have : M ≤ (2 * N + 1) * M := Nat.le_mul_of_pos_left M (by omega)
      omega
    omega
  generalize (M + 2 * N) / (2 * N + 1) = R at rg1 rg2 hR
  have d1 : nI (R + 1) / 2 = nI ((R + 1) / 2) := pk_div (d := 2) (by omega) (by omega) (by omega)
  have d2 : (nI (R + 1) + 1) / 2 = nI ((R + 2) / 2) := by
    rw [n1]
    exact pk_div (d := 2) (by omega) (by omega) (by omega)
  have i1 := nI_toInt (n := (R + 1) / 2) (by omega)
  have i2 := nI_toInt (n := (R + 2) / 2) (by omega)
  have i3 := i_neg (a := nI ((R + 1) / 2)) (by omega)
  have hbad : ∃ v' : gU, J_Mod_settle_25 (nI x) (nI y) (nI f) sg e v = some v' ∧ v' 0 20 = 0 ∧ (∀ k, 3 ≤ k → v' k = v k) ∧ (∀ j, ¬ j = 20 → v' 0 j = v 0 j) := by
    refine ⟨_, (s30_v hx hy (nI f) sg e (st2 v 0 20 0)), ?_, fun k hk => ?_, fun j hj => ?_⟩
    · rw [s2k (by decide), s2k (by decide), s2s]
    · rw [s2k (by omega), s2k (by omega), s2k (by omega)]
    · rw [s2k (by decide), s2k (by decide), s2j hj]
  unfold f_Rdg_rebuild f_Pic_isReduced f_Mod_settle
  rw [show sb [1] u 0 5 = u 1 5 from rfl, rg1, rg2, d1, d2]
  by_cases g : e < -nI ((R + 1) / 2)
  · rw [bq_v g, bq_v g, bd_v, bq_v rfl]
    obtain ⟨v', b1, b2, b3, b4⟩ := hbad
    exact Or.inr ⟨v', rfl, b1, b2, b3, b4⟩
  · rw [bq_w g, bq_w g]
    by_cases g2 : nI ((R + 2) / 2) ≤ e
    · have g3 : ¬ e < nI ((R + 2) / 2) := by
        rw [i_lt]
        rw [i_le] at g2
        omega
      rw [bq_v g2, bd_v, bq_v rfl, bq_w g3]
      obtain ⟨v', b1, b2, b3, b4⟩ := hbad
      exact Or.inr ⟨v', rfl, b1, b2, b3, b4⟩
    · have g3 : e < nI ((R + 2) / 2) := by
        rw [i_lt]
        rw [i_le] at g2
        omega
      rw [bq_w g2, bd_v, bq_w (by decide), bq_v g3]
      obtain ⟨r, hr, er⟩ := hl_rg M q6 (unI (nI M) (nI N) (nI (R + 1)) (nbI (nI M) (nI N) 4) (nI f + sg * e * nbI (nI M) (nI N) 4))
      rw [i_lt] at g g3
      refine Or.inl ⟨r, hr, by omega, by omega, ?_, ?_⟩
      · rw [unP, bd_v, hlP M q6 _ _ (show sb [1] u 0 2 = nI M from p2), bd_v, gd_v (ix_n (by omega) (by omega)), tk_v, tc_n (by omega)]
        rw [show sb [1] u 0 2 = nI M from p2, show sb [1] u 0 3 = nI N from p3, show sb [1] u 0 5 = nI (R + 1) from rg1, show sb [1] u 0 4 = nbI (nI M) (nI N) 4 from st1', st1', u4, u5, er]
      · rw [s30_v hx hy]
        unfold hvI
        rw [m2, m3, rg2, st2', er]
theorem ng2 {h : Nat} (hh : h < 100000) : (-(nI (2 * h))) / 2 = -(nI h) := by
  have e1 := nI_toInt (n := 2 * h) (by omega)
  have e2 := nI_toInt (n := h) (by omega)
  have e3 := i_neg (a := nI (2 * h)) (by omega)
  have e4 := i_neg (a := nI h) (by omega)
  have e5 : (2 : Int32).toInt = 2 := by decide
  have e6 : ((2 * h : Nat) : Int) = 2 * (h : Int) := by omega
  rw [i_eq, Int32.toInt_div, e3, e4, e1, e2, e5, e6, Int.neg_tdiv, Int.mul_tdiv_cancel_left _ (by decide), i_bm _ (by omega) (by omega)]
theorem unf_ok {m : Nat} (hm : m ≤ 40000) {tb : Int32} (htb : tb = 0 ∨ tb = 1) : ∃ e : Int32, f_Fol_unfoldRegular (nI m) tb = some e ∧ ∀ (x y q sg f : Int32) (v : gU), bq ((nI m - nI m / 2 * 2) = 0) (J_Mod_regular_258 x y q sg f tb (nI m / 2) v) (J_Mod_regular_258 x y q sg f tb ((-(nI m + 1)) / 2) v) = J_Mod_regular_275 x y q sg f e v := by
  have h1 : nI m - nI m / 2 * 2 = nI (m % 2) := pk_rem (d := 2) (by omega) (by omega) (by omega)
  have h2 : nI m &&& 1 = nI (m % 2) := pk_andN (by omega) 1 (by decide)
  have h3 : nI m / 2 = nI (m / 2) := pk_div (d := 2) (by omega) (by omega) (by omega)
  have i1 := nI_toInt (n := m / 2) (by omega)
  have i2 := i_neg (a := nI (m / 2)) (by omega)
  have o1 : (1 : Int32).toInt = 1 := by decide
  unfold f_Fol_unfoldRegular J_Fol_unfoldRegular_12 J_Mod_regular_258
  rw [h1, h2, h3]
  rcases (by omega : m % 2 = 0 ∨ m % 2 = 1) with g | g
  · rw [g]
    rw [bq_w (show ¬ nI 0 = (1 : Int32) by decide)]
    simp only [bq_v (show nI 0 = (0 : Int32) from nI_0)]
    rcases htb with rfl | rfl
    · rw [bq_v trivial]
      exact ⟨_, rfl, fun x y q sg f v => by rw [bq_v rfl]⟩
    · rw [bq_v trivial]
      exact ⟨_, rfl, fun x y q sg f v => by rw [bq_w (by decide)]⟩
  · rw [g]
    rw [bq_v (show nI 1 = (1 : Int32) by decide)]
    simp only [bq_w (show ¬ nI 1 = (0 : Int32) by decide)]
    have hm1 : -(nI m + 1) / 2 = -(nI (m / 2 + 1)) := by
      rw [← nI_succ, show m + 1 = 2 * (m / 2 + 1) by omega]
      exact ng2 (by omega)
    have i3 := nI_toInt (n := m / 2 + 1) (by omega)
    have i4 := i_neg (a := nI (m / 2 + 1)) (by omega)
    rw [hm1]
    rcases htb with rfl | rfl
    · rw [bq_v rfl, bq_w (by decide)]
      refine ⟨_, rfl, fun x y q sg f v => ?_⟩
      rw [bq_v rfl]
      congr 1
      rw [i_eq, i_sub (by omega) (by omega), i4, i2]
      omega
    · rw [bq_w (by decide), bq_w (by decide)]
      refine ⟨_, rfl, fun x y q sg f v => ?_⟩
      rw [bq_w (by decide)]
      congr 1
      have i5 := i_neg (a := -nI (m / 2 + 1)) (by omega)
      rw [i_eq, i_sub (by omega) (by omega), i5, i4]
      omega
theorem l350_any {Q : Nat} (hQ : Q < 367) {u v : gU} (h : CX u v) {v1 : gU} (h3 : v1 3 = v 3) (e : Int32) : ∃ v' : gU, J_Mod_regular_350 (nI (5 * Q)) e v1 = some v' ∧ (∀ k, ¬ k = 3 → v' k = v1 k) := by
  obtain ⟨c1, c2, c3, c4, c5, c6, c7, c8, c9, c10, c11⟩ := h.2.2.2 Q hQ
  obtain ⟨v', a1, a2⟩ := learnM (v := v1) (q := Q) (e := e) (N := u 4 Q) (C := u 3 Q) hQ c6 c7 c10 c11 rfl rfl rfl (by rw [h3, c3]) (by rw [h3, c4]) rfl
  refine ⟨v', ?_, a2.1⟩
  unfold J_Mod_regular_350
  rw [a1, bd_v, tk_v]
theorem l275_any {x y Q : Nat} (hx : x < 8) (hy : y < 8) (hQ : Q < 367) {u v : gU} (h : CX u v) {v1 : gU} (h3 : v1 3 = v 3) (hb : v1 0 20 = 0) (sg f e : Int32) : ∃ v' : gU, J_Mod_regular_275 (nI x) (nI y) (nI (5 * Q)) sg f e v1 = some v' ∧ BD v1 v' := by
  obtain ⟨v2, a1, a2, a3, a4⟩ := set_any hx hy f sg e v1
  obtain ⟨v', b1, b2⟩ := l350_any hQ h (v1 := v2) (by rw [a2 3 (by omega), h3]) e
  refine ⟨v', ?_, ⟨fun k hk => by rw [b2 k (by omega), a2 k (by omega)], by rw [b2 0 (by decide), a3 13 (by decide)]⟩, by rw [b2 0 (by decide), a4 hb]⟩
  unfold J_Mod_regular_275
  rw [a1, bd_v, tk_v, b1]
theorem RB_st {W M x y r : Nat} {u v u' v' : gU} (hW : W ≤ 8) (hx : x < W) (hr : r ≤ M) (h : RB W M x y u v) (e1 : u' 8 = st2 u 8 (8 * y + x) (nI r) 8) (e2 : v' 2 = st2 v 2 (8 * y + x) (nI r) 2) (e3 : v' 1 = st2 v 1 (8 * y + x) (nI r) 1) : RB W M (x + 1) y u' v' := by
  constructor
  · rw [e1, e2]
    exact RbW_st hW hx hr h.1 s2s s2s (fun i hi => s2j hi) (fun i hi => s2j hi)
  · rw [e1, e3]
    exact RbW_st hW hx hr h.2 s2s s2s (fun i hi => s2j hi) (fun i hi => s2j hi)
theorem reg_de {W H M N x y a b c d : Nat} (hP : PN W H M N) {u v : gU} (h : DK W H M N u v) (hR : RB W M x y u v) (hx : x < W) (hy : y < H) (ha : u 0 0 = nI a) (hb : u 0 1 = nI b) (hc : u 0 2 = nI c) (hd : u 0 3 = nI d) (A : f_Mod_before (nI x) (nI y) v = some (nI a)) (B : f_Mod_above (nI x) (nI y) v = some (nI b)) (C : f_Mod_corner (nI x) (nI y) v = some (nI c)) (D : f_Mod_beyond (nI x) (nI y) v = some (nI d)) : OC (f_Pas_overRegular_R (nI (8 * y + x)) u) (f_Mod_regular (nI x) (nI y) v) (fun u' v' => DK W H M N u' v' ∧ RB W M (x + 1) y u' v' ∧ FG v v') (fun v' => BD v v') := by
  have h' := h
  obtain ⟨h1, h2, h3, h4, h5, h6, h7⟩ := h'
  have hP' := hP
  obtain ⟨q1, q2, q3, q4, q5, q6, q7, q8⟩ := hP'
  obtain ⟨Q, k, f, sg, tb, hQ, hk, hf, hsg, htb, E1, E2⟩ := reg_pre_R (p := nI (8 * y + x)) hP ha hb hc hd h1 h2 h3 A B C D
  rw [E1, E2]
  obtain ⟨l, q, el, eq, l1, l2, l3, l4, l5⟩ := nb_nat hP
  have n16 : ¬ v 0 16 = 0 := by rw [h5]; decide
  have v08 : v 0 8 = nI l := by rw [h2.2.2.2.2 7 (by omega) (by omega), el]
  have v07 : v 0 7 = nI q := by rw [h2.2.2.2.2 6 (by omega) (by omega), eq]
  have u17 : st2 (st2 u 0 4 sg) 0 5 (nI f) 1 7 = nI l := by simp only [tk_v, bd_v, bx_vl, bx_vr, s2s, s2k, s2j, s1s, s1k, mg_v0, mg_v1, sb_v, List.getD_cons_zero, List.getD_cons_succ, not_false_eq_true, Nat.reduceEqDiff, reduceCtorEq]; rw [h1.2.2.2.2 7 (by omega) (by omega), el]
  have u16 : st2 (st2 u 0 4 sg) 0 5 (nI f) 1 6 = nI q := by simp only [tk_v, bd_v, bx_vl, bx_vr, s2s, s2k, s2j, s1s, s1k, mg_v0, mg_v1, sb_v, List.getD_cons_zero, List.getD_cons_succ, not_false_eq_true, Nat.reduceEqDiff, reduceCtorEq]; rw [h1.2.2.2.2 6 (by omega) (by omega), eq]
  have hRD : RD (sb [9, 10] (st2 (st2 u 0 4 sg) 0 5 (nI f))) v := by
    refine RD_eq h4 ?_ ?_ rfl rfl rfl rfl rfl <;> simp only [tk_v, bd_v, bx_vl, bx_vr, s2s, s2k, s2j, s1s, s1k, mg_v0, mg_v1, sb_v, List.getD_cons_zero, List.getD_cons_succ, not_false_eq_true, Nat.reduceEqDiff, reduceCtorEq]
  unfold J_Pas_overRegular_R_94 f_Rdg_carryRegular J_Mod_regular_216
  rw [bq_w n16, v08, u17, u16]
  rcases rnum_ok (k := k) hk l4 l2 (by omega) hRD h6 v07 with ⟨⟨m', w1⟩, ⟨m'', v1⟩, a1, a2, ⟨m, hm, a3, a4⟩, a5, a6⟩ | ⟨w1, ⟨r, v1⟩, a1, a2, a3⟩
  · dsimp only at a3 a4 a5 a6
    subst a3
    subst a4
    obtain ⟨e, F1, F2⟩ := unf_ok hm htb
    rw [a1, bd_v, bx_vr, tk_v, F1, bd_v, a2, bd_v, tk_v, F2]
    have hu1 : PicW W H M N (mg [9, 10] 0 (st2 (st2 u 0 4 sg) 0 5 (nI f)) w1 1) := by simp only [tk_v, bd_v, bx_vl, bx_vr, s2s, s2k, s2j, s1s, s1k, mg_v0, mg_v1, sb_v, List.getD_cons_zero, List.getD_cons_succ, not_false_eq_true, Nat.reduceEqDiff, reduceCtorEq]; exact h1
    have hv1 : ModW W H M N (v1 0) := ModW_eq h2 (fun j j1 j2 => a6.2 j (by omega) (by omega) (by omega))
    have hC1 : CX (sb [2, 3, 4, 5, 6, 7] u) v1 := CX_eq h3 rfl (fun q _ => ⟨rfl, rfl, rfl, rfl, rfl⟩) (a6.2 12 (by decide) (by decide) (by decide)) (a6.1 3 (by decide))
    rcases reb_ok (x := x) (y := y) (f := f) (sg := sg) (e := e) hP (by omega) (by omega) (u := mg [9, 10] 0 (st2 (st2 u 0 4 sg) 0 5 (nI f)) w1) (v := v1) (by simp only [tk_v, bd_v, bx_vl, bx_vr, s2s, s2k, s2j, s1s, s1k, mg_v0, mg_v1, sb_v, List.getD_cons_zero, List.getD_cons_succ, not_false_eq_true, Nat.reduceEqDiff, reduceCtorEq]) (by simp only [tk_v, bd_v, bx_vl, bx_vr, s2s, s2k, s2j, s1s, s1k, mg_v0, mg_v1, sb_v, List.getD_cons_zero, List.getD_cons_succ, not_false_eq_true, Nat.reduceEqDiff, reduceCtorEq]) hu1 hv1 with ⟨r, hr, e1, e2, T1, T2⟩ | ⟨v2, T1, T2, T3, T4, T5⟩
    · have hC2 : CX (sb [2, 3, 4, 5, 6, 7] (st2 (mg [9, 10] 0 (st2 (st2 u 0 4 sg) 0 5 (nI f)) w1) 8 (8 * y + x) (nI r))) (st2 (st2 v1 2 (8 * y + x) (nI r)) 1 (8 * y + x) (nI r)) := by
        refine CX_eq hC1 ?_ (fun q hq => ?_) (by rw [s2k (by decide), s2k (by decide)]) (by rw [s2k (by decide), s2k (by decide)])
        · simp only [tk_v, bd_v, bx_vl, bx_vr, s2s, s2k, s2j, s1s, s1k, mg_v0, mg_v1, sb_v, List.getD_cons_zero, List.getD_cons_succ, not_false_eq_true, Nat.reduceEqDiff, reduceCtorEq]
        · simp only [tk_v, bd_v, bx_vl, bx_vr, s2s, s2k, s2j, s1s, s1k, mg_v0, mg_v1, sb_v, List.getD_cons_zero, List.getD_cons_succ, not_false_eq_true, Nat.reduceEqDiff, reduceCtorEq, and_self]
      obtain ⟨w3, v', L1, L2, L3, L4, L5, L6⟩ := learn_ok (q := Q) (e := e) (s := nbI (nI M) (nI N) 4) (by omega) hC2 (by omega) (by omega) (by rw [s2k (by decide), s2k (by decide)]; exact hv1.2.2.2.2 4 (by omega) (by omega))
      refine Or.inl ⟨mg [2, 3, 4, 5, 6, 7] 0 (st2 (mg [9, 10] 0 (st2 (st2 u 0 4 sg) 0 5 (nI f)) w1) 8 (8 * y + x) (nI r)) w3, v', ?_, ?_, ⟨?_, ?_, ?_, ?_, ?_, ?_, ?_⟩, ?_, ⟨fun k hk => ?_, ?_⟩⟩
      · rw [T1, bd_v, bx_vr, tk_v, bd_v, bx_vr, tk_v]
        rw [show (e, st2 (mg [9, 10] 0 (st2 (st2 u 0 4 sg) 0 5 (nI f)) w1) 8 (8 * y + x) (nI r)).2 1 4 = nbI (nI M) (nI N) 4 by simp only [tk_v, bd_v, bx_vl, bx_vr, s2s, s2k, s2j, s1s, s1k, mg_v0, mg_v1, sb_v, List.getD_cons_zero, List.getD_cons_succ, not_false_eq_true, Nat.reduceEqDiff, reduceCtorEq]; exact h1.2.2.2.2 4 (by omega) (by omega), L1, bd_v, tk_v]
      · unfold J_Mod_regular_275 J_Mod_regular_350
        rw [T2, bd_v, tk_v, L2, bd_v, tk_v]
      · simp only [tk_v, bd_v, bx_vl, bx_vr, s2s, s2k, s2j, s1s, s1k, mg_v0, mg_v1, sb_v, List.getD_cons_zero, List.getD_cons_succ, not_false_eq_true, Nat.reduceEqDiff, reduceCtorEq]
        exact h1
      · rw [L6 0 (by decide), s2k (by decide), s2k (by decide)]
        exact hv1
      · refine CX_eq L3 ?_ (fun q hq => ?_) rfl rfl
        · simp only [tk_v, bd_v, bx_vl, bx_vr, s2s, s2k, s2j, s1s, s1k, mg_v0, mg_v1, sb_v, List.getD_cons_zero, List.getD_cons_succ, not_false_eq_true, Nat.reduceEqDiff, reduceCtorEq]
        · simp only [tk_v, bd_v, bx_vl, bx_vr, s2s, s2k, s2j, s1s, s1k, mg_v0, mg_v1, sb_v, List.getD_cons_zero, List.getD_cons_succ, not_false_eq_true, Nat.reduceEqDiff, reduceCtorEq, and_self]
      · refine RD_eq a5 ?_ ?_ ?_ ?_ ?_ ?_ ?_
        · simp only [tk_v, bd_v, bx_vl, bx_vr, s2s, s2k, s2j, s1s, s1k, mg_v0, mg_v1, sb_v, List.getD_cons_zero, List.getD_cons_succ, not_false_eq_true, Nat.reduceEqDiff, reduceCtorEq]
        · simp only [tk_v, bd_v, bx_vl, bx_vr, s2s, s2k, s2j, s1s, s1k, mg_v0, mg_v1, sb_v, List.getD_cons_zero, List.getD_cons_succ, not_false_eq_true, Nat.reduceEqDiff, reduceCtorEq]
        · rw [L6 0 (by decide), s2k (by decide), s2k (by decide)]
        · rw [L6 0 (by decide), s2k (by decide), s2k (by decide)]
        · rw [L6 0 (by decide), s2k (by decide), s2k (by decide)]
        · rw [L6 0 (by decide), s2k (by decide), s2k (by decide)]
        · rw [L6 4 (by decide), s2k (by decide), s2k (by decide)]
      · rw [L6 0 (by decide), s2k (by decide), s2k (by decide), a6.2 16 (by decide) (by decide) (by decide), h5]
      · rw [L6 0 (by decide), s2k (by decide), s2k (by decide), a6.2 20 (by decide) (by decide) (by decide), h6]
      · rw [L6 0 (by decide), s2k (by decide), s2k (by decide), a6.2 0 (by decide) (by decide) (by decide), h7]
      · refine RB_st (v := v1) q2 hx hr ⟨?_, ?_⟩ ?_ ?_ ?_ (u := mg [9, 10] 0 (st2 (st2 u 0 4 sg) 0 5 (nI f)) w1)
        · rw [a6.1 2 (by decide)]
          simp only [tk_v, bd_v, bx_vl, bx_vr, s2s, s2k, s2j, s1s, s1k, mg_v0, mg_v1, sb_v, List.getD_cons_zero, List.getD_cons_succ, not_false_eq_true, Nat.reduceEqDiff, reduceCtorEq]
          exact hR.1
        · rw [a6.1 1 (by decide)]
          simp only [tk_v, bd_v, bx_vl, bx_vr, s2s, s2k, s2j, s1s, s1k, mg_v0, mg_v1, sb_v, List.getD_cons_zero, List.getD_cons_succ, not_false_eq_true, Nat.reduceEqDiff, reduceCtorEq]
          exact hR.2
        · simp only [tk_v, bd_v, bx_vl, bx_vr, s2s, s2k, s2j, s1s, s1k, mg_v0, mg_v1, sb_v, List.getD_cons_zero, List.getD_cons_succ, not_false_eq_true, Nat.reduceEqDiff, reduceCtorEq]
        · rw [L6 2 (by decide), s2k (by decide)]
        · rw [L6 1 (by decide), s2u, s2u, s2k (by decide)]
      · rw [L6 k (by omega), s2k (by omega), s2k (by omega), a6.1 k (by omega)]
      · rw [L6 0 (by decide), s2k (by decide), s2k (by decide), a6.2 13 (by decide) (by decide) (by decide)]
    · obtain ⟨v3, b1, b2⟩ := l350_any (Q := Q) (by omega) hC1 (v1 := v2) (T4 3 (by omega)) e
      refine Or.inr ⟨mg [9, 10] 0 (st2 (st2 u 0 4 sg) 0 5 (nI f)) w1, v3, ?_, ?_, ⟨fun k hk => ?_, ?_⟩, ?_⟩
      · rw [T1, bd_v, bx_vl, bd_v, bx_vl]
      · unfold J_Mod_regular_275
        rw [T2, bd_v, tk_v, b1]
      · rw [b2 k (by omega), T4 k (by omega), a6.1 k (by omega)]
      · rw [b2 0 (by decide), T5 13 (by decide), a6.2 13 (by decide) (by decide) (by decide)]
      · rw [b2 0 (by decide), T3]
  · dsimp only at a3
    rw [a1, bd_v, bx_vl, bd_v, bx_vl, a2, bd_v, tk_v]
    have key : ∃ e : Int32, bq ((r - r / 2 * 2) = 0) (J_Mod_regular_258 (nI x) (nI y) (nI (5 * Q)) sg (nI f) tb (r / 2) v1) (J_Mod_regular_258 (nI x) (nI y) (nI (5 * Q)) sg (nI f) tb ((-(r + 1)) / 2) v1) = J_Mod_regular_275 (nI x) (nI y) (nI (5 * Q)) sg (nI f) e v1 := by
      unfold J_Mod_regular_258
      by_cases g1 : (r - r / 2 * 2) = 0
      · rw [bq_v g1]
        by_cases g2 : tb = 0
        · exact ⟨_, bq_v g2⟩
        · exact ⟨_, bq_w g2⟩
      · rw [bq_w g1]
        by_cases g2 : tb = 0
        · exact ⟨_, bq_v g2⟩
        · exact ⟨_, bq_w g2⟩
    obtain ⟨e, he⟩ := key
    obtain ⟨v', b1, b2⟩ := l275_any (x := x) (y := y) (Q := Q) (by omega) (by omega) (by omega) h3 (v1 := v1) (a3.1 3 (by decide)) a3.2.2 sg (nI f) e
    exact Or.inr ⟨_, v', rfl, he.trans b1, FG_B (FB_D a3).1 b2⟩
