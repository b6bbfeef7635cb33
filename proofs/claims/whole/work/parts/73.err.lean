/-! the error of a sample, and what is written of it -/
def nbD (M N : Nat) : Bool := decide ((qbI (nI M) (nI N)).toInt + 18 ≤ (nbI (nI M) (nI N) 7).toInt)
theorem nb_dall : ∀ M, M < 256 → ∀ N, N < 4 → 3 ≤ M → 2 * N ≤ M → nbD M N = true := by decide +kernel
theorem nb_nat {W H M N : Nat} (h : PN W H M N) : ∃ l q : Nat, nbI (nI M) (nI N) 7 = nI l ∧ nbI (nI M) (nI N) 6 = nI q ∧ 20 ≤ l ∧ l ≤ 32 ∧ 1 ≤ q ∧ q ≤ 8 ∧ q + 18 ≤ l := by
  obtain ⟨q1, q2, q3, q4, q5, q6, q7, q8⟩ := h
  obtain ⟨-, -, -, -, -, -, -, -, -, a1, a2, a3, a4, -⟩ := nb_ok q5 q6 q7 q8
  have a5 := nb_dall M (by omega) N (by omega) q5 q8
  simp only [nbD, decide_eq_true_eq] at a5
  obtain ⟨l, hl, el⟩ := nI_of (x := nbI (nI M) (nI N) 7) (by rw [i_lt]; simp; omega)
  obtain ⟨q, hq, eq⟩ := nI_of (x := qbI (nI M) (nI N)) (by rw [i_lt]; simp; omega)
  rw [el] at a3 a4 a5
  rw [eq] at a1 a2 a5
  rw [nI_toInt hl] at a3 a4 a5
  rw [nI_toInt hq] at a1 a2 a5
  exact ⟨l, q, el, eq, by omega, by omega, by omega, by omega, by omega⟩
def dvI (n st z : Int32) : Int32 := if z ≤ 0 then -((n - z) / st) else (z + n) / st
def rdI (r e : Int32) : Int32 := if (if 0 ≤ e then e else e + r) < (r + 1) / 2 then (if 0 ≤ e then e else e + r) else (if 0 ≤ e then e else e + r) - r
theorem dvP (z : Int32) (u : gU) (h : ¬ u 0 4 = 0) : f_Pic_divided z u = some (dvI (u 0 3) (u 0 4) z) := by
  unfold f_Pic_divided dvI
  by_cases g : z ≤ 0
  · rw [bq_v g, gd_v h, if_pos g]
  · rw [bq_w g, gd_v h, if_neg g]
theorem dvM (z : Int32) (v : gU) (h : ¬ v 0 5 = 0) : f_Mod_divided z v = some (dvI (v 0 4) (v 0 5) z) := by
  unfold f_Mod_divided dvI
  by_cases g : z ≤ 0
  · rw [bq_v g, gd_v h, if_pos g]
  · rw [bq_w g, gd_v h, if_neg g]
theorem rdP (e : Int32) (u : gU) : f_Pic_reduced e u = some (rdI (u 0 5) e) := by
  unfold f_Pic_reduced J_Pic_reduced_14 rdI
  by_cases g : 0 ≤ e
  · rw [bq_v g, if_pos g]
    by_cases g2 : e < (u 0 5 + 1) / 2
    · rw [bq_v g2, if_pos g2]
    · rw [bq_w g2, if_neg g2]
  · rw [bq_w g, if_neg g]
    by_cases g2 : e + u 0 5 < (u 0 5 + 1) / 2
    · rw [bq_v g2, if_pos g2]
    · rw [bq_w g2, if_neg g2]
theorem rdM (e : Int32) (v : gU) : f_Mod_reduced e v = some (rdI (v 0 6) e) := by
  unfold f_Mod_reduced J_Mod_reduced_14 rdI
  by_cases g : 0 ≤ e
  · rw [bq_v g, if_pos g]
    by_cases g2 : e < (v 0 6 + 1) / 2
    · rw [bq_v g2, if_pos g2]
    · rw [bq_w g2, if_neg g2]
  · rw [bq_w g, if_neg g]
    by_cases g2 : e + v 0 6 < (v 0 6 + 1) / 2
    · rw [bq_v g2, if_pos g2]
    · rw [bq_w g2, if_neg g2]
theorem dv_rg {M N : Nat} (h2 : M ≤ 255) (h3 : N ≤ 3) (z : Int32) (z1 : -(M : Int) ≤ z.toInt) (z2 : z.toInt ≤ M) : ∃ d : Int, (dvI (nI N) (nI (2 * N + 1)) z).toInt = d ∧ -((M + 2 * N) / (2 * N + 1) : Nat) ≤ d ∧ d ≤ ((M + 2 * N) / (2 * N + 1) : Nat) ∧ (d = 0 → -(N : Int) ≤ z.toInt ∧ z.toInt ≤ N) := by
  have hN := nI_toInt (n := N) (by omega)
  have z0 : (0 : Int32).toInt = 0 := by decide
  unfold dvI
  by_cases g : z ≤ 0
  · rw [if_pos g]
    rw [i_le, z0] at g
    have e1 : (nI N - z).toInt = N - z.toInt := by rw [i_sub (by omega) (by omega), hN]
    obtain ⟨k, hk, ek⟩ := nI_of (x := nI N - z) (by rw [i_lt, e1, z0]; omega)
    have hki := nI_toInt hk
    rw [← ek, e1] at hki
    rw [ek, pk_div hk (by omega) (by omega)]
    have hle : k / (2 * N + 1) ≤ (M + 2 * N) / (2 * N + 1) := Nat.div_le_div_right (by omega)
    have hkd : k / (2 * N + 1) ≤ k := Nat.div_le_self _ _
    have hd := nI_toInt (n := k / (2 * N + 1)) (by omega)
    have hz : k / (2 * N + 1) = 0 → k < 2 * N + 1 := fun h00 => (Nat.div_eq_zero_iff_lt (by omega)).mp h00
    generalize k / (2 * N + 1) = kd at hle hkd hd hz
    generalize (M + 2 * N) / (2 * N + 1) = rd at hle
    refine ⟨-(kd : Int), by rw [i_neg (by omega), hd], by omega, by omega, fun h0 => ?_⟩
    have := hz (by omega)
    omega
  · rw [if_neg g]
    rw [i_le, z0] at g
    have e1 : (z + nI N).toInt = z.toInt + N := by rw [i_add (by omega) (by omega), hN]
    obtain ⟨k, hk, ek⟩ := nI_of (x := z + nI N) (by rw [i_lt, e1, z0]; omega)
    have hki := nI_toInt hk
    rw [← ek, e1] at hki
    rw [ek, pk_div hk (by omega) (by omega)]
    have hle : k / (2 * N + 1) ≤ (M + 2 * N) / (2 * N + 1) := Nat.div_le_div_right (by omega)
    have hkd : k / (2 * N + 1) ≤ k := Nat.div_le_self _ _
    have hd := nI_toInt (n := k / (2 * N + 1)) (by omega)
    have hz : k / (2 * N + 1) = 0 → k < 2 * N + 1 := fun h00 => (Nat.div_eq_zero_iff_lt (by omega)).mp h00
    generalize k / (2 * N + 1) = kd at hle hkd hd hz
    generalize (M + 2 * N) / (2 * N + 1) = rd at hle
    refine ⟨(kd : Int), hd, by omega, by omega, fun h0 => ?_⟩
    have := hz (by omega)
    omega
theorem rd_rg {R : Nat} (h1 : R ≤ 255) (e : Int32) (e1 : -(R : Int) ≤ e.toInt) (e2 : e.toInt ≤ R) : -128 ≤ (rdI (nI (R + 1)) e).toInt ∧ (rdI (nI (R + 1)) e).toInt ≤ 128 ∧ ((rdI (nI (R + 1)) e).toInt = 0 → e.toInt = 0) := by
  have z0 : (0 : Int32).toInt = 0 := by decide
  have hR := nI_toInt (n := R + 1) (by omega)
  have hh : (nI (R + 1) + 1) / 2 = nI ((R + 2) / 2) := by
    rw [n1]
    exact pk_div (d := 2) (by omega) (by omega) (by omega)
  have hh2 := nI_toInt (n := (R + 2) / 2) (by omega)
  unfold rdI
  rw [hh]
  by_cases g : 0 ≤ e
  · rw [if_pos g]
    rw [i_le, z0] at g
    by_cases g2 : e < nI ((R + 2) / 2)
    · rw [if_pos g2]
      rw [i_lt, hh2] at g2
      omega
    · rw [if_neg g2]
      rw [i_lt, hh2] at g2
      rw [i_sub (by omega) (by omega), hR]
      omega
  · rw [if_neg g]
    rw [i_le, z0] at g
    have ea : (e + nI (R + 1)).toInt = e.toInt + (R + 1 : Nat) := by rw [i_add (by omega) (by omega), hR]
    by_cases g2 : e + nI (R + 1) < nI ((R + 2) / 2)
    · rw [if_pos g2]
      rw [i_lt, hh2, ea] at g2
      rw [ea]
      omega
    · rw [if_neg g2]
      rw [i_lt, hh2, ea] at g2
      rw [i_sub (by omega) (by omega), hR, ea]
      omega
theorem sgn_rg {sg : Int32} (h : sg = 1 ∨ sg = -1) {M s f : Nat} (hM : M ≤ 255) (hs : s ≤ M) (hf : f ≤ M) : (sg * (nI s - nI f)).toInt = sg.toInt * ((s : Int) - f) ∧ (sg.toInt = 1 ∨ sg.toInt = -1) := by
  have e1 := pk_sub_toInt (a := s) (b := f) (by omega) (by omega)
  rcases h with rfl | rfl
  · have o : (1 : Int32).toInt = 1 := by decide
    exact ⟨by rw [i_mulk 1 o (by omega) (by omega), e1, o], Or.inl o⟩
  · have o : (-1 : Int32).toInt = -1 := by decide
    exact ⟨by rw [i_mulk (-1) o (by omega) (by omega), e1, o], Or.inr o⟩
theorem err_ok {W H M N x y f s : Nat} (hP : PN W H M N) {u v : gU} {sg : Int32} (hsg : sg = 1 ∨ sg = -1) (hx : x < 8) (hy : y < 8) (hf : f ≤ M) (hs : s ≤ M) (u4 : u 0 4 = sg) (u5 : u 0 5 = nI f) (hu : PicW W H M N (u 1)) (hv : ModW W H M N (v 0)) (us : u 9 (8 * y + x) = nI s) (vs : v 1 (8 * y + x) = nI s) : ∃ (e : Int32) (r : Nat), r ≤ M ∧ -128 ≤ e.toInt ∧ e.toInt ≤ 128 ∧ (e.toInt = 0 → -(N : Int) ≤ (s : Int) - f ∧ (s : Int) - f ≤ N) ∧ f_Cod_takeError (nI (8 * y + x)) u = some (e, st2 u 8 (8 * y + x) (nI r)) ∧ f_Mod_errorOf (nI x) (nI y) (nI f) sg v = some (e, st2 v 2 (8 * y + x) (nI r)) := by
  obtain ⟨q1, q2, q3, q4, q5, q6, q7, q8⟩ := hP
  obtain ⟨p0, p1, p2, p3, p4⟩ := hu
  obtain ⟨m0, m1, m2, m3, m4⟩ := hv
  obtain ⟨-, -, -, -, a5, -, -, a8, a9, -⟩ := nb_ok q5 q6 q7 q8
  have st1' : u 1 4 = nI (2 * N + 1) := by rw [p4 4 (by omega) (by omega), ← a8]; rfl
  have st2' : v 0 5 = nI (2 * N + 1) := by rw [m4 4 (by omega) (by omega), ← a8]; rfl
  have rg1 : u 1 5 = nI ((M + 2 * N) / (2 * N + 1) + 1) := by rw [p4 5 (by omega) (by omega), ← a9]; rfl
  have rg2 : v 0 6 = nI ((M + 2 * N) / (2 * N + 1) + 1) := by rw [m4 5 (by omega) (by omega), ← a9]; rfl
  have hne : ¬ nI (2 * N + 1) = 0 := nI_ne0 (by omega) (by omega)
  obtain ⟨z1, z2⟩ := sgn_rg hsg (M := M) q6 hs hf
  have z3 : -(M : Int) ≤ (sg * (nI s - nI f)).toInt ∧ (sg * (nI s - nI f)).toInt ≤ M := by
    rw [z1]
    rcases z2 with h | h <;> rw [h] <;> omega
  obtain ⟨d, d1, d2, d3, d4⟩ := dv_rg (M := M) (N := N) q6 q7 (sg * (nI s - nI f)) z3.1 z3.2
  have hR : (M + 2 * N) / (2 * N + 1) ≤ 255 := by
    have := rg_lt (M := M) (N := N) q6
    have : (M + 2 * N) / (2 * N + 1) ≤ M := by
      rw [Nat.div_le_iff_le_mul_add_pred (by omega)]
      have : M ≤ (2 * N + 1) * M := Nat.le_mul_of_pos_left M (by omega)
      omega
    omega
  obtain ⟨r1, r2, r3⟩ := rd_rg hR (dvI (nI N) (nI (2 * N + 1)) (sg * (nI s - nI f))) (by omega) (by omega)
  obtain ⟨r, hr, er⟩ := hl_rg M q6 (nI f + sg * dvI (nI N) (nI (2 * N + 1)) (sg * (nI s - nI f)) * nI (2 * N + 1))
  refine ⟨rdI (nI ((M + 2 * N) / (2 * N + 1) + 1)) (dvI (nI N) (nI (2 * N + 1)) (sg * (nI s - nI f))), r, hr, r1, r2, fun h0 => ?_, ?_, ?_⟩
  · have := d4 (by rw [← d1]; exact r3 h0)
    rw [z1] at this
    rcases z2 with h | h <;> rw [h] at this <;> omega
  · unfold f_Cod_takeError
    rw [gd_v (ix_n (by omega) (by omega)), tc_n (by omega), us, u4, u5, dvP _ _ (by rw [show sb [1] u 0 4 = u 1 4 from rfl, st1']; exact hne), bd_v, hlP M q6 _ _ (show sb [1] u 0 2 = nI M from p2), bd_v, gd_v (ix_n (by omega) (by omega)), tk_v, rdP, bd_v]
    rw [show sb [1] u 0 3 = nI N from p3, show sb [1] u 0 4 = nI (2 * N + 1) from st1', st1', er, show sb [1] (st2 u 8 (8 * y + x) (nI r)) 0 5 = nI ((M + 2 * N) / (2 * N + 1) + 1) by simp only [tk_v, bd_v, bx_vl, bx_vr, s2s, s2k, s2j, s1s, s1k, mg_v0, mg_v1, sb_v, List.getD_cons_zero, List.getD_cons_succ, not_false_eq_true, Nat.reduceEqDiff, reduceCtorEq]; exact rg1]
  · unfold f_Mod_errorOf
    rw [pl_m, gd_v (ix_n (by omega) (by omega)), tc_n (by omega), vs, dvM _ _ (by rw [st2']; exact hne), bd_v, hlM, bd_v, gd_v (ix_n (by omega) (by omega)), tk_v, rdM, bd_v, m3, st2', m2, er, s2k (by decide), rg2]
theorem fold_tb : ∀ k, k < 257 → ∀ b, b < 2 → f_Fol_foldRegular (nI k - 128) (nI b) = some ((f_Fol_foldRegular (nI k - 128) (nI b)).getD 0) ∧ 0 ≤ ((f_Fol_foldRegular (nI k - 128) (nI b)).getD 0).toInt ∧ ((f_Fol_foldRegular (nI k - 128) (nI b)).getD 0).toInt ≤ 300 ∧ (f_Fol_foldRegular (nI k - 128) (nI b)).getD 0 = (if (if nI b = 0 then nI k - 128 else -(nI k - 128) - 1) < 0 then (-2) * (if nI b = 0 then nI k - 128 else -(nI k - 128) - 1) - 1 else 2 * (if nI b = 0 then nI k - 128 else -(nI k - 128) - 1)) := by decide +kernel
def flI (e fb : Int32) : Int32 := if e = 0 then 0 else if 0 ≤ e then (if fb = 0 then 1 else 0) else (if fb = 0 then 0 else 1)
def fendC (k t b : Nat) : Bool := decide (f_Fol_foldEnd (nI k - 128) (nI t) (nI b) = some (2 * abI (nI k - 128) - nI t - flI (nI k - 128) (nI b))) && (decide (t = 1 ∧ k = 128) || (decide (0 ≤ (2 * abI (nI k - 128) - nI t - flI (nI k - 128) (nI b)).toInt) && decide ((2 * abI (nI k - 128) - nI t - flI (nI k - 128) (nI b)).toInt ≤ 300)))
theorem fend_all : ∀ k, k < 257 → ∀ t, t < 2 → ∀ b, b < 2 → fendC k t b = true := by decide +kernel
theorem fend_tb (k : Nat) (hk : k < 257) (t : Nat) (ht : t < 2) (b : Nat) (hb : b < 2) (h : t = 1 → ¬ k = 128) : f_Fol_foldEnd (nI k - 128) (nI t) (nI b) = some (2 * abI (nI k - 128) - nI t - flI (nI k - 128) (nI b)) ∧ 0 ≤ (2 * abI (nI k - 128) - nI t - flI (nI k - 128) (nI b)).toInt ∧ (2 * abI (nI k - 128) - nI t - flI (nI k - 128) (nI b)).toInt ≤ 300 := by
  have := fend_all k hk t ht b hb
  simp only [fendC, Bool.and_eq_true, Bool.or_eq_true, decide_eq_true_eq] at this
  obtain ⟨a, b | b⟩ := this
  · exact absurd b.2 (h b.1)
  · exact ⟨a, b.1, b.2⟩
theorem e_tab {e : Int32} (h1 : -128 ≤ e.toInt) (h2 : e.toInt ≤ 128) : ∃ k : Nat, k < 257 ∧ e = nI k - 128 ∧ e.toInt = (k : Int) - 128 := by
  have hk := nI_toInt (n := (e.toInt + 128).toNat) (by omega)
  have o : (128 : Int32).toInt = 128 := by decide
  refine ⟨(e.toInt + 128).toNat, by omega, ?_, by omega⟩
  rw [i_eq, i_sub (by omega) (by omega)]
  omega
