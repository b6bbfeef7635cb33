/-! the call decode -/
theorem keep_40 : ∀ (d i fuel : Nat) (u : gU), i + d = 1835 → d < fuel → ∃ u' : gU, L_Mod_keep_40 fuel (nI i) u = some u' ∧ (∀ j, j < 1835 → u' 7 j = if i ≤ j then u 3 j else u 7 j) ∧ (∀ k, ¬ k = 7 → u' k = u k) := by
  intro d
  induction d with
  | zero =>
    intro i fuel u hi hf
    obtain ⟨f, rfl⟩ : ∃ f, fuel = f + 1 := ⟨fuel - 1, by omega⟩
    obtain rfl : i = 1835 := by omega
    refine ⟨u, ?_, fun j hj => ?_, fun k _ => rfl⟩
    · unfold L_Mod_keep_40
      rw [bq_v (by decide)]
    · rw [if_neg (by omega)]
  | succ d ih =>
    intro i fuel u hi hf
    obtain ⟨f, rfl⟩ : ∃ f, fuel = f + 1 := ⟨fuel - 1, by omega⟩
    obtain ⟨u', e, h1, h2⟩ := ih (i + 1) f (st2 u 7 i (u 3 i)) (by omega) (by omega)
    refine ⟨u', ?_, fun j hj => ?_, fun k hk => by rw [h2 k hk, s2k hk]⟩
    · unfold L_Mod_keep_40
      rw [bq_w (show ¬ (1835 : Int32) ≤ nI i from nI_ge (b := 1835) (by omega) (by omega)), gd_v (ix_n (by omega) (by omega)), gd_v (ix_n (by omega) (by omega)), tk_v, tk_v, tc_n (by omega), ← nI_succ]
      exact e
    · rw [h1 j hj, s2k (by decide)]
      by_cases hji : j = i
      · subst hji
        rw [if_neg (by omega), if_pos (by omega), s2s]
      · rw [s2j hji]
        by_cases hc : i ≤ j
        · rw [if_pos hc, if_pos (by omega)]
        · rw [if_neg hc, if_neg (by omega)]
theorem keep_2 : ∀ (d i fuel : Nat) (u : gU), i + d = 64 → d < fuel → ∃ u' : gU, L_Mod_keep_2 fuel (nI i) u = some u' ∧ (∀ j, j < 64 → u' 5 j = (if i ≤ j then u 1 j else u 5 j) ∧ u' 6 j = (if i ≤ j then u 2 j else u 6 j)) ∧ (∀ j, j < 1835 → u' 7 j = u 3 j) ∧ (∀ k, ¬ k = 5 → ¬ k = 6 → ¬ k = 7 → u' k = u k) := by
  intro d
  induction d with
  | zero =>
    intro i fuel u hi hf
    obtain ⟨f, rfl⟩ : ∃ f, fuel = f + 1 := ⟨fuel - 1, by omega⟩
    obtain rfl : i = 64 := by omega
    obtain ⟨u', e, h1, h2⟩ := keep_40 1835 0 2000 u (by omega) (by omega)
    refine ⟨u', ?_, fun j hj => ?_, fun j hj => by rw [h1 j hj, if_pos (by omega)], fun k k5 k6 k7 => h2 k k7⟩
    · unfold L_Mod_keep_2
      rw [bq_v (by decide)]
      exact e
    · rw [if_neg (by omega), if_neg (by omega), h2 5 (by decide), h2 6 (by decide)]
      exact ⟨rfl, rfl⟩
  | succ d ih =>
    intro i fuel u hi hf
    obtain ⟨f, rfl⟩ : ∃ f, fuel = f + 1 := ⟨fuel - 1, by omega⟩
    obtain ⟨u', e, h1, h2, h3⟩ := ih (i + 1) f (st2 (st2 u 5 i (u 1 i)) 6 i (u 2 i)) (by omega) (by omega)
    refine ⟨u', ?_, fun j hj => ?_, fun j hj => by rw [h2 j hj, s2k (by decide), s2k (by decide)], fun k k5 k6 k7 => by rw [h3 k k5 k6 k7, s2k k6, s2k k5]⟩
    · unfold L_Mod_keep_2
      simp only [gd_v (ix_n (show i < 64 by omega) (by omega)), tc_n (show i < 2 ^ 31 by omega)]
      rw [bq_w (show ¬ (64 : Int32) ≤ nI i from nI_ge (b := 64) (by omega) (by omega)), tk_v, tk_v, tk_v, s2k (by decide), ← nI_succ]
      exact e
    · obtain ⟨g1, g2⟩ := h1 j hj
      rw [g1, g2]
      by_cases hji : j = i
      · subst hji
        rw [if_neg (by omega), if_pos (by omega), if_neg (by omega), if_pos (by omega), s2s, s2k (by decide), s2s]
        exact ⟨rfl, rfl⟩
      · by_cases hc : i ≤ j
        · rw [if_pos hc, if_pos (by omega), if_pos (by omega), if_pos hc, s2k (by decide), s2k (by decide), s2k (by decide), s2k (by decide)]
          exact ⟨rfl, rfl⟩
        · rw [if_neg hc, if_neg (by omega), if_neg (by omega), if_neg hc, s2k (by decide), s2j hji, s2j hji, s2k (by decide)]
          exact ⟨rfl, rfl⟩
theorem pb_78 : ∀ (d i fuel : Nat) (u : gU), i + d = 1835 → d < fuel → ∃ u' : gU, L_Mod_putBack_78 fuel (nI i) u = some u' ∧ (∀ j, j < 1835 → u' 3 j = if i ≤ j then u 7 j else u 3 j) ∧ (∀ k, ¬ k = 3 → u' k = u k) := by
  intro d
  induction d with
  | zero =>
    intro i fuel u hi hf
    obtain ⟨f, rfl⟩ : ∃ f, fuel = f + 1 := ⟨fuel - 1, by omega⟩
    obtain rfl : i = 1835 := by omega
    refine ⟨u, ?_, fun j hj => ?_, fun k _ => rfl⟩
    · unfold L_Mod_putBack_78
      rw [bq_v (by decide)]
    · rw [if_neg (by omega)]
  | succ d ih =>
    intro i fuel u hi hf
    obtain ⟨f, rfl⟩ : ∃ f, fuel = f + 1 := ⟨fuel - 1, by omega⟩
    obtain ⟨u', e, h1, h2⟩ := ih (i + 1) f (st2 u 3 i (u 7 i)) (by omega) (by omega)
    refine ⟨u', ?_, fun j hj => ?_, fun k hk => by rw [h2 k hk, s2k hk]⟩
    · unfold L_Mod_putBack_78
      rw [bq_w (show ¬ (1835 : Int32) ≤ nI i from nI_ge (b := 1835) (by omega) (by omega)), gd_v (ix_n (by omega) (by omega)), gd_v (ix_n (by omega) (by omega)), tk_v, tk_v, tc_n (by omega), ← nI_succ]
      exact e
    · rw [h1 j hj, s2k (by decide)]
      by_cases hji : j = i
      · subst hji
        rw [if_neg (by omega), if_pos (by omega), s2s]
      · rw [s2j hji]
        by_cases hc : i ≤ j
        · rw [if_pos hc, if_pos (by omega)]
        · rw [if_neg hc, if_neg (by omega)]
theorem pb_34 : ∀ (d i fuel : Nat) (u : gU), i + d = 64 → d < fuel → ∃ u' : gU, L_Mod_putBack_34 fuel (nI i) u = some u' ∧ (∀ j, j < 64 → u' 1 j = (if i ≤ j then u 5 j else u 1 j) ∧ u' 2 j = (if i ≤ j then u 6 j else u 2 j)) ∧ (∀ j, j < 1835 → u' 3 j = u 7 j) ∧ (∀ k, ¬ k = 1 → ¬ k = 2 → ¬ k = 3 → u' k = u k) := by
  intro d
  induction d with
  | zero =>
    intro i fuel u hi hf
    obtain ⟨f, rfl⟩ : ∃ f, fuel = f + 1 := ⟨fuel - 1, by omega⟩
    obtain rfl : i = 64 := by omega
    obtain ⟨u', e, h1, h2⟩ := pb_78 1835 0 2000 u (by omega) (by omega)
    refine ⟨u', ?_, fun j hj => ?_, fun j hj => by rw [h1 j hj, if_pos (by omega)], fun k k5 k6 k7 => h2 k k7⟩
    · unfold L_Mod_putBack_34
      rw [bq_v (by decide)]
      exact e
    · rw [if_neg (by omega), if_neg (by omega), h2 1 (by decide), h2 2 (by decide)]
      exact ⟨rfl, rfl⟩
  | succ d ih =>
    intro i fuel u hi hf
    obtain ⟨f, rfl⟩ : ∃ f, fuel = f + 1 := ⟨fuel - 1, by omega⟩
    obtain ⟨u', e, h1, h2, h3⟩ := ih (i + 1) f (st2 (st2 u 1 i (u 5 i)) 2 i (u 6 i)) (by omega) (by omega)
    refine ⟨u', ?_, fun j hj => ?_, fun j hj => by rw [h2 j hj, s2k (by decide), s2k (by decide)], fun k k5 k6 k7 => by rw [h3 k k5 k6 k7, s2k k6, s2k k5]⟩
    · unfold L_Mod_putBack_34
      simp only [gd_v (ix_n (show i < 64 by omega) (by omega)), tc_n (show i < 2 ^ 31 by omega)]
      rw [bq_w (show ¬ (64 : Int32) ≤ nI i from nI_ge (b := 64) (by omega) (by omega)), tk_v, tk_v, tk_v, s2k (by decide), ← nI_succ]
      exact e
    · obtain ⟨g1, g2⟩ := h1 j hj
      rw [g1, g2]
      by_cases hji : j = i
      · subst hji
        rw [if_neg (by omega), if_pos (by omega), if_neg (by omega), if_pos (by omega), s2s, s2k (by decide), s2s]
        exact ⟨rfl, rfl⟩
      · by_cases hc : i ≤ j
        · rw [if_pos hc, if_pos (by omega), if_pos (by omega), if_pos hc, s2k (by decide), s2k (by decide), s2k (by decide), s2k (by decide)]
          exact ⟨rfl, rfl⟩
        · rw [if_neg hc, if_neg (by omega), if_neg (by omega), if_neg hc, s2k (by decide), s2j hji, s2j hji, s2k (by decide)]
          exact ⟨rfl, rfl⟩
theorem CX_q {u v v' : gU} (h : CX u v) (f0 : v' 0 12 = v 0 12) (f1 : ∀ j, j < 1835 → v' 3 j = v 3 j) : CX u v' := by
  obtain ⟨a, b, c, d⟩ := h
  refine ⟨by rw [f0, a], b, c, fun q hq => ?_⟩
  rw [f1 _ (by omega), f1 _ (by omega), f1 _ (by omega), f1 _ (by omega), f1 _ (by omega)]
  exact d q hq
theorem back_ok {W H M N z : Nat} {x y0 v : gU} (h : Inv1 W H M N z x y0) (h13 : v 0 13 = y0 0 13) (h4 : v 4 = y0 4) (h5 : ∀ j, j < 64 → v 5 j = y0 1 j ∧ v 6 j = y0 2 j) (h7 : ∀ j, j < 1835 → v 7 j = y0 3 j) : ∃ vm : gU, J_Mod_decode_233 (nI W) (nI H) (nI M) (nI N) (y0 0 12) v = some (0, vm) ∧ vm 0 0 = 1 ∧ Inv1 W H M N z x vm := by
  obtain ⟨hP, g1, g2, g3, g4, g5, g6, g7, g8⟩ := h
  have hP' := hP
  obtain ⟨q1, q2, q3, q4, q5, q6, q7, q8⟩ := hP'
  obtain ⟨w, a1, a2, a3, a4⟩ := prepare_ok q5 q6 q7 q8 (st2 (st2 (st2 (st2 v 0 1 (nI W)) 0 2 (nI H)) 0 3 (nI M)) 0 4 (nI N)) (by simp only [tk_v, bd_v, bx_vl, bx_vr, s2s, s2k, s2j, s1s, s1k, mg_v0, mg_v1, sb_v, List.getD_cons_zero, List.getD_cons_succ, not_false_eq_true, Nat.reduceEqDiff, reduceCtorEq]) (by simp only [tk_v, bd_v, bx_vl, bx_vr, s2s, s2k, s2j, s1s, s1k, mg_v0, mg_v1, sb_v, List.getD_cons_zero, List.getD_cons_succ, not_false_eq_true, Nat.reduceEqDiff, reduceCtorEq])
  obtain ⟨v1, b1, b2, b3, b4⟩ := pb_34 64 0 2000 (st2 w 0 12 (y0 0 12)) (by omega) (by omega)
  refine ⟨st2 v1 0 0 1, ?_, s2s, hP, g1, ⟨?_, ?_, ?_, ?_, fun k k1 k2 => ?_⟩, CX_q g3 ?_ ?_, fun i j hi hj => ?_, g5, g6, ?_, ?_⟩
  · unfold J_Mod_decode_233 f_Mod_putBack
    rw [tk_v, tk_v, tk_v, tk_v, a1, bd_v, tk_v, tk_v, show L_Mod_putBack_34 2000 0 (st2 w 0 12 (y0 0 12)) = some v1 from b1, bd_v, tk_v, tk_v]
  · rw [s2j (by decide), b4 0 (by decide) (by decide) (by decide), s2j (by decide), a3 1 (by omega)]
    simp only [tk_v, bd_v, bx_vl, bx_vr, s2s, s2k, s2j, s1s, s1k, mg_v0, mg_v1, sb_v, List.getD_cons_zero, List.getD_cons_succ, not_false_eq_true, Nat.reduceEqDiff, reduceCtorEq]
  · rw [s2j (by decide), b4 0 (by decide) (by decide) (by decide), s2j (by decide), a3 2 (by omega)]
    simp only [tk_v, bd_v, bx_vl, bx_vr, s2s, s2k, s2j, s1s, s1k, mg_v0, mg_v1, sb_v, List.getD_cons_zero, List.getD_cons_succ, not_false_eq_true, Nat.reduceEqDiff, reduceCtorEq]
  · rw [s2j (by decide), b4 0 (by decide) (by decide) (by decide), s2j (by decide), a3 3 (by omega)]
    simp only [tk_v, bd_v, bx_vl, bx_vr, s2s, s2k, s2j, s1s, s1k, mg_v0, mg_v1, sb_v, List.getD_cons_zero, List.getD_cons_succ, not_false_eq_true, Nat.reduceEqDiff, reduceCtorEq]
  · rw [s2j (by decide), b4 0 (by decide) (by decide) (by decide), s2j (by decide), a3 4 (by omega)]
    simp only [tk_v, bd_v, bx_vl, bx_vr, s2s, s2k, s2j, s1s, s1k, mg_v0, mg_v1, sb_v, List.getD_cons_zero, List.getD_cons_succ, not_false_eq_true, Nat.reduceEqDiff, reduceCtorEq]
  · rw [s2j (by omega), b4 0 (by decide) (by decide) (by decide), s2j (by omega), a2 k k1 k2]
  · rw [s2j (by decide), b4 0 (by decide) (by decide) (by decide), s2s]
  · intro j hj
    rw [s2k (by decide), b3 j hj, s2k (by decide), a4 7 (by decide), s2k (by decide), s2k (by decide), s2k (by decide), s2k (by decide)]
    exact h7 j hj
  · obtain ⟨o1, o2⟩ := b2 (8 * j + i) (by omega)
    rw [if_pos (by omega), s2k (by decide), a4 5 (by decide), s2k (by decide), s2k (by decide), s2k (by decide), s2k (by decide), (h5 _ (by omega)).1] at o1
    rw [if_pos (by omega), s2k (by decide), a4 6 (by decide), s2k (by decide), s2k (by decide), s2k (by decide), s2k (by decide), (h5 _ (by omega)).2] at o2
    rw [s2k (by decide), s2k (by decide), o1, o2]
    exact g4 i j hi hj
  · rw [s2j (by decide), b4 0 (by decide) (by decide) (by decide), s2j (by decide), a3 13 (by omega), s2j (by decide), s2j (by decide), s2j (by decide), s2j (by decide), h13]
    exact g7
  · rw [s2k (by decide), b4 4 (by decide) (by decide) (by decide), s2k (by decide), a4 4 (by decide), s2k (by decide), s2k (by decide), s2k (by decide), s2k (by decide), h4]
    exact g8
theorem d168 (l2 l3 l4 l5 l6 : Int32) : ∀ (d i fuel : Nat) (u : gU), i + d = 64 → d < fuel → ∃ u' : gU, L_Mod_decode_168 fuel l2 l3 l4 l5 l6 (nI i) u = L_Mod_decode_168 1 l2 l3 l4 l5 l6 (nI 64) u' ∧ (∀ k, ¬ k = 1 → u' k = u k) := by
  intro d
  induction d with
  | zero =>
    intro i fuel u hi hf
    obtain ⟨f, rfl⟩ : ∃ f, fuel = f + 1 := ⟨fuel - 1, by omega⟩
    obtain rfl : i = 64 := by omega
    refine ⟨u, ?_, fun k _ => rfl⟩
    unfold L_Mod_decode_168
    rw [bq_v (by decide), bq_v (by decide)]
  | succ d ih =>
    intro i fuel u hi hf
    obtain ⟨f, rfl⟩ : ∃ f, fuel = f + 1 := ⟨fuel - 1, by omega⟩
    obtain ⟨u', e, h1⟩ := ih (i + 1) f (st2 u 1 i 0) (by omega) (by omega)
    refine ⟨u', ?_, fun k hk => by rw [h1 k hk, s2k hk]⟩
    rw [← e]
    conv => lhs; unfold L_Mod_decode_168
    rw [bq_w (show ¬ (64 : Int32) ≤ nI i from nI_ge (b := 64) (by omega) (by omega)), gd_v (ix_n (by omega) (by omega)), tk_v, tk_v, tc_n (by omega), ← nI_succ]
def mk0 (b : Nat) : Int32 := ((1 : Int32) <<< (nI b &&& 31)) - 1
def beC (b t : Nat) : Bool := if ((nI t >>> (nI b &&& 31)) &&& 1) = 1 then decide (¬ (nI t &&& mk0 (b + 1)) = 0) else decide ((nI t &&& mk0 (b + 1)) = 0 ↔ (nI t &&& mk0 b) = 0)
theorem be_all : ∀ b, b < 8 → ∀ t, t < 256 → beC b t = true := by decide +kernel
theorem ew_ok {t : Nat} (ht : t < 256) : ∀ (b f : Nat) (v : gU), b < f → b ≤ 7 → v 0 19 = nI b → v 0 18 = nI t → ((nI t &&& mk0 b) = 0 ∧ ∃ v' : gU, L_Mod_endsWell_0 f v = L_Mod_endsWell_0 1 v' ∧ FR v v' ∧ v' 0 17 = v 0 17 ∧ v' 0 18 = v 0 18 ∧ v' 0 19 = nI 0) ∨ (¬ (nI t &&& mk0 b) = 0 ∧ ∃ v' : gU, L_Mod_endsWell_0 f v = some (0, v') ∧ FR v v') := by
  intro b
  induction b with
  | zero =>
    intro f v hf hb h19 h18
    obtain ⟨f, rfl⟩ : ∃ k, f = k + 1 := ⟨f - 1, by omega⟩
    refine Or.inl ⟨?_, v, ?_, FR_rf v, rfl, rfl, h19⟩
    · rw [show mk0 0 = 0 by decide]
      exact Int32.and_zero
    · unfold L_Mod_endsWell_0
      rw [h19, bq_v (show nI 0 ≤ (0 : Int32) by decide), bq_v (show nI 0 ≤ (0 : Int32) by decide)]
  | succ b ih =>
    intro f v hf hb h19 h18
    obtain ⟨f, rfl⟩ : ∃ k, f = k + 1 := ⟨f - 1, by omega⟩
    have hg : f_Mod_get v = some ((nI t >>> (nI b &&& 31)) &&& 1, st2 v 0 19 (nI b)) := by
      unfold f_Mod_get J_Mod_get_99
      rw [h19, bq_w (nI_ne0 (by omega) (by omega)), tk_v, nI_pred, s2s, s2j (by decide), h18]
    have hF : FR v (st2 v 0 19 (nI b)) := ⟨fun k hk => s2k hk, fun j j1 j2 j3 => s2j j3⟩
    have hbe := be_all b (by omega) t ht
    unfold beC at hbe
    have C1 : L_Mod_endsWell_0 (f + 1) v = bq (((nI t >>> (nI b &&& 31)) &&& 1) = 1) (some (0, st2 v 0 19 (nI b))) (L_Mod_endsWell_0 f (st2 v 0 19 (nI b))) := by
      conv => lhs; unfold L_Mod_endsWell_0
      rw [h19, bq_w (nI_nle (by omega) (by omega)), hg, bd_v, tk_v]
    rw [C1]
    by_cases g : ((nI t >>> (nI b &&& 31)) &&& 1) = 1
    · rw [if_pos g] at hbe
      rw [bq_v g]
      exact Or.inr ⟨of_decide_eq_true hbe, _, rfl, hF⟩
    · rw [if_neg g] at hbe
      have hbe := of_decide_eq_true hbe
      rw [bq_w g]
      rcases ih f (st2 v 0 19 (nI b)) (by omega) (by omega) s2s (by rw [s2j (by decide)]; exact h18) with ⟨a1, v', a2, a3, a4, a5, a6⟩ | ⟨a1, v', a2, a3⟩
      · exact Or.inl ⟨hbe.mpr a1, v', a2, FR_tr hF a3, by rw [a4, s2j (by decide)], by rw [a5, s2j (by decide)], a6⟩
      · exact Or.inr ⟨fun hh => a1 (hbe.mp hh), v', a2, FR_tr hF a3⟩
theorem ends_ok {u v : gU} (h : RD u v) : (∃ u' v' : gU, f_Rea_readEnd u = some (.inr u') ∧ f_Mod_endsWell v = some (1, v') ∧ FR v v') ∨ (∃ u' v' : gU, f_Rea_readEnd u = some (.inl u') ∧ f_Mod_endsWell v = some (0, v') ∧ FR v v') := by
  obtain ⟨z, p, b, z1, z2, p1, p2, b1, e1, e2, e3, e4, e5, e6, hB, hn⟩ := h
  have hp1 : nI p - 1 = nI (p - 1) := pk_sub (b := 1) (by omega)
  have hz2 : nI z - 2 = nI (z - 2) := pk_sub (b := 2) (by omega)
  obtain ⟨t, ht, t1, t2⟩ := hB (p - 1) (by omega)
  have fin : ∀ (U V : gU) (p' : Nat), p' ≤ z → U 0 0 = nI (z - 2) → U 0 1 = nI p' → U 1 = u 1 → V 0 13 = nI z → V 0 17 = nI p' → V 4 = v 4 → (∃ U' : gU, J_Rea_readEnd_82 U = some (.inr U') ∧ J_Mod_endsWell_64 V = some (1, V)) ∨ (∃ U' : gU, J_Rea_readEnd_82 U = some (.inl U') ∧ J_Mod_endsWell_64 V = some (0, V)) := by
    intro U V p' hp' g1 g2 g3 g4 g5 g6
    have c2 : nI (z - 2) + 1 = nI (z - 1) := by
      rw [← nI_succ]
      congr 1
      omega
    unfold J_Rea_readEnd_82 J_Mod_endsWell_64 J_Rea_readEnd_125
    rw [g1, g2, g3, g4, g5, g6, hz2]
    by_cases k1 : p' = z - 2
    · subst k1
      obtain ⟨r, hr, r1, r2⟩ := hB (z - 2) (by omega)
      obtain ⟨r', hr', r1', r2'⟩ := hB (z - 1) (by omega)
      rw [bq_v rfl, bq_v rfl, gd_v (ix_n (by omega) (by omega)), gd_v (ix_n (by omega) (by omega)), tc_n (by omega), r1, r2, c2, gd_v (ix_n (by omega) (by omega)), gd_v (ix_n (by omega) (by omega)), tc_n (by omega), r1', r2']
      by_cases k2 : nI r = 255
      · rw [bq_v k2, bq_v k2]
        by_cases k3 : nI r' = 217
        · rw [bq_v k3, bq_v k3]
          exact Or.inl ⟨_, rfl, rfl⟩
        · rw [bq_w k3, bq_w k3]
          exact Or.inr ⟨_, rfl, rfl⟩
      · rw [bq_w k2, bq_w k2]
        exact Or.inr ⟨_, rfl, rfl⟩
    · have hne : ¬ nI p' = nI (z - 2) := fun hh => k1 ((nI_eq (by omega) (by omega)).mp hh)
      rw [bq_w hne, bq_w hne]
      exact Or.inr ⟨_, rfl, rfl⟩
  -- the reference's bits
  have key : ((nI t &&& mk0 b) = 0 ∧ ∃ v' : gU, f_Mod_endsWell v = L_Mod_endsWell_0 1 v' ∧ FR v v' ∧ v' 0 17 = nI p ∧ v' 0 18 = v 0 18 ∧ v' 0 19 = nI 0) ∨ (¬ (nI t &&& mk0 b) = 0 ∧ ∃ v' : gU, f_Mod_endsWell v = some (0, v') ∧ FR v v') := by
    unfold f_Mod_endsWell
    by_cases b0 : b = 0
    · subst b0
      refine Or.inl ⟨?_, v, ?_, FR_rf v, e4, rfl, e6⟩
      · rw [show mk0 0 = 0 by decide]
        exact Int32.and_zero
      · unfold L_Mod_endsWell_0
        rw [e6, bq_v (show nI 0 ≤ (0 : Int32) by decide), bq_v (show nI 0 ≤ (0 : Int32) by decide)]
    · have hn1 : v 0 18 = nI t := by
        rcases hn with hn | ⟨-, hn, -⟩
        · rw [hn, t2]
        · exact absurd hn b0
      rcases ew_ok ht b 2000 v (by omega) b1 e6 hn1 with ⟨a1, v', a2, a3, a4, a5, a6⟩ | ⟨a1, v', a2, a3⟩
      · exact Or.inl ⟨a1, v', a2, a3, by rw [a4, e4], a5, a6⟩
      · exact Or.inr ⟨a1, v', a2, a3⟩
  have e255 : (u 1 (p - 1) = 255) ↔ (v 0 18 = 255) := by
    rcases hn with hn | ⟨hn1, -, hn2, hn3⟩
    · rw [hn, t1, t2]
    · subst hn1
      rw [show (6 - 1 : Nat) = 5 from rfl] at t1 t2 ⊢
      rw [hn2, t1, ← t2]
      exact ⟨fun hh => absurd hh hn3, fun hh => absurd hh (by decide)⟩
  have C1 : f_Rea_readEnd u = bq ((nI t &&& mk0 b) = 0) (bq (u 1 (p - 1) = 255) (bq (u 1 p = 0) (J_Rea_readEnd_82 (st2 u 0 1 (nI (p + 1)))) (some (.inl u))) (J_Rea_readEnd_82 u)) (some (.inl u)) := by
    unfold f_Rea_readEnd mk0
    rw [e3, e5, hp1, gd_v (ix_n (show p - 1 < 512 by omega) (by omega)), tk_v, tc_n (show p - 1 < 2 ^ 31 by omega), gd_v (ix_n (show p - 1 < 512 by omega) (by omega)), gd_v (ix_n (show p < 512 by omega) (by omega)), tk_v, tc_n (show p < 2 ^ 31 by omega), t1, ← nI_succ]
  rw [C1]
  rcases key with ⟨k1, v', k2, k3, k4, k5, k6⟩ | ⟨k1, v', k2, k3⟩
  · rw [bq_v k1, k2]
    have v13 : v' 0 13 = nI z := by rw [k3.2 13 (by decide) (by decide) (by decide), e1]
    have v4' : v' 4 = v 4 := k3.1 4 (by decide)
    obtain ⟨r, hr, r1, r2⟩ := hB p (by omega)
    have C2 : L_Mod_endsWell_0 1 v' = bq (v' 0 18 = 255) (bq (nI (z - 2) ≤ nI p) (some (0, v')) (bq (v 4 p = 0) (J_Mod_endsWell_64 (st2 v' 0 17 (nI (p + 1)))) (some (0, v')))) (J_Mod_endsWell_64 v') := by
      unfold L_Mod_endsWell_0
      rw [k6, bq_v (show nI 0 ≤ (0 : Int32) by decide), v13, k4, hz2, gd_v (ix_n (by omega) (by omega)), tc_n (by omega), tk_v, v4', ← nI_succ]
    rw [C2, k5]
    by_cases g : u 1 (p - 1) = 255
    · rw [bq_v g, bq_v (e255.mp g), r1, r2]
      by_cases gz : z - 2 ≤ p
      · rw [bq_v (nI_le gz (by omega))]
        refine Or.inr ?_
        by_cases g0 : nI r = 0
        · rw [bq_v g0]
          have hne : ¬ nI (p + 1) = nI (z - 2) := fun hh => absurd ((nI_eq (by omega) (by omega)).mp hh) (by omega)
          refine ⟨st2 u 0 1 (nI (p + 1)), v', ?_, rfl, k3⟩
          unfold J_Rea_readEnd_82
          rw [s2s, s2j (by decide), e2, bq_w hne]
          rfl
        · rw [bq_w g0]
          exact ⟨u, v', rfl, rfl, k3⟩
      · rw [bq_w (nI_ge (by omega) (by omega))]
        by_cases g0 : nI r = 0
        · rw [bq_v g0, bq_v g0]
          have hF : FR v (st2 v' 0 17 (nI (p + 1))) := FR_tr k3 ⟨fun k hk => s2k hk, fun j j1 j2 j3 => s2j j1⟩
          rcases fin (st2 u 0 1 (nI (p + 1))) (st2 v' 0 17 (nI (p + 1))) (p + 1) (by omega) (by rw [s2j (by decide)]; exact e2) s2s (by rw [s2k (by decide)]) (by rw [s2j (by decide)]; exact v13) s2s (by rw [s2k (by decide)]; exact v4') with ⟨U, a1, a2⟩ | ⟨U, a1, a2⟩
          · exact Or.inl ⟨U, _, a1, a2, hF⟩
          · exact Or.inr ⟨U, _, a1, a2, hF⟩
        · rw [bq_w g0, bq_w g0]
          exact Or.inr ⟨u, v', rfl, rfl, k3⟩
    · rw [bq_w g, bq_w (fun hh => g (e255.mpr hh))]
      rcases fin u v' p (by omega) e2 e3 rfl v13 k4 v4' with ⟨U, a1, a2⟩ | ⟨U, a1, a2⟩
      · exact Or.inl ⟨U, _, a1, a2, k3⟩
      · exact Or.inr ⟨U, _, a1, a2, k3⟩
  · rw [bq_w k1]
    exact Or.inr ⟨u, v', rfl, k2, k3⟩
theorem cpy_v {f g : Nat → Int32} {n k : Nat} (h : k < n) : va_cpy f g 0 0 n k = f k := by
  unfold va_cpy
  rw [if_pos ⟨by omega, by omega⟩, Nat.zero_add, Nat.sub_zero]
theorem tcl {n : Nat} (h : n < 2 ^ 31) : tc (nI n) = n := tc_n h
theorem take_ok {W H M N : Nat} (hP : PN W H M N) {X : gU} (hX : PicW W H M N (X 13)) : ∃ X' : gU, f_Cod_takeOver X = some X' ∧ PicW W H M N (X' 1) ∧ X' 2 0 = X 14 0 ∧ (∀ q, q < 367 → X' 3 q = X 15 q ∧ X' 4 q = X 16 q ∧ X' 5 q = X 17 q ∧ X' 6 q = X 18 q ∧ X' 7 q = X 19 q) ∧ (∀ j, j < 64 → X' 8 j = X 20 j ∧ X' 9 j = X 20 j) ∧ X' 10 = X 10 ∧ X' 11 = X 11 := by
  obtain ⟨q1, q2, q3, q4, q5, q6, q7, q8⟩ := hP
  obtain ⟨w1, e1, a0, a1, a2, a3, a4, a5, a6⟩ := become_ok q5 q6 q7 q8 (nI W) (nI H) (sb [1] X)
  unfold f_Cod_takeOver f_Ctx_takeOver
  rw [hX.1, hX.2.1, hX.2.2.1, hX.2.2.2.1, e1, bd_v]
  simp only [tk_v, bd_v]
  have c367 : tc (367 : Int32) = 367 := tc_n (n := 367) (by omega)
  have c64 : tc (64 : Int32) = 64 := tc_n (n := 64) (by omega)
  rw [c367, c64]
  refine ⟨_, rfl, ⟨?_, ?_, ?_, ?_, fun k k1 k2 => ?_⟩, ?_, fun q hq => ⟨?_, ?_, ?_, ?_, ?_⟩, fun j hj => ⟨?_, ?_⟩, ?_, ?_⟩
  · simp only [tk_v, bd_v, bx_vl, bx_vr, s2s, s2k, s2j, s1s, s1k, mg_v0, mg_v1, sb_v, List.getD_cons_zero, List.getD_cons_succ, not_false_eq_true, Nat.reduceEqDiff, reduceCtorEq, Nat.reduceAdd]
    exact a0
  · simp only [tk_v, bd_v, bx_vl, bx_vr, s2s, s2k, s2j, s1s, s1k, mg_v0, mg_v1, sb_v, List.getD_cons_zero, List.getD_cons_succ, not_false_eq_true, Nat.reduceEqDiff, reduceCtorEq, Nat.reduceAdd]
    exact a1
  · simp only [tk_v, bd_v, bx_vl, bx_vr, s2s, s2k, s2j, s1s, s1k, mg_v0, mg_v1, sb_v, List.getD_cons_zero, List.getD_cons_succ, not_false_eq_true, Nat.reduceEqDiff, reduceCtorEq, Nat.reduceAdd]
    exact a2
  · simp only [tk_v, bd_v, bx_vl, bx_vr, s2s, s2k, s2j, s1s, s1k, mg_v0, mg_v1, sb_v, List.getD_cons_zero, List.getD_cons_succ, not_false_eq_true, Nat.reduceEqDiff, reduceCtorEq, Nat.reduceAdd]
    exact a3
  · simp only [tk_v, bd_v, bx_vl, bx_vr, s2s, s2k, s2j, s1s, s1k, mg_v0, mg_v1, sb_v, List.getD_cons_zero, List.getD_cons_succ, not_false_eq_true, Nat.reduceEqDiff, reduceCtorEq, Nat.reduceAdd]
    exact a4 k k1 k2
  · simp only [tk_v, bd_v, bx_vl, bx_vr, s2s, s2k, s2j, s1s, s1k, mg_v0, mg_v1, sb_v, List.getD_cons_zero, List.getD_cons_succ, not_false_eq_true, Nat.reduceEqDiff, reduceCtorEq, Nat.reduceAdd]
  · simp only [tk_v, bd_v, bx_vl, bx_vr, s2s, s2k, s2j, s1s, s1k, mg_v0, mg_v1, sb_v, List.getD_cons_zero, List.getD_cons_succ, not_false_eq_true, Nat.reduceEqDiff, reduceCtorEq, Nat.reduceAdd, cpy_v hq]
  · simp only [tk_v, bd_v, bx_vl, bx_vr, s2s, s2k, s2j, s1s, s1k, mg_v0, mg_v1, sb_v, List.getD_cons_zero, List.getD_cons_succ, not_false_eq_true, Nat.reduceEqDiff, reduceCtorEq, Nat.reduceAdd, cpy_v hq]
  · simp only [tk_v, bd_v, bx_vl, bx_vr, s2s, s2k, s2j, s1s, s1k, mg_v0, mg_v1, sb_v, List.getD_cons_zero, List.getD_cons_succ, not_false_eq_true, Nat.reduceEqDiff, reduceCtorEq, Nat.reduceAdd, cpy_v hq]
  · simp only [tk_v, bd_v, bx_vl, bx_vr, s2s, s2k, s2j, s1s, s1k, mg_v0, mg_v1, sb_v, List.getD_cons_zero, List.getD_cons_succ, not_false_eq_true, Nat.reduceEqDiff, reduceCtorEq, Nat.reduceAdd, cpy_v hq]
  · simp only [tk_v, bd_v, bx_vl, bx_vr, s2s, s2k, s2j, s1s, s1k, mg_v0, mg_v1, sb_v, List.getD_cons_zero, List.getD_cons_succ, not_false_eq_true, Nat.reduceEqDiff, reduceCtorEq, Nat.reduceAdd, cpy_v hq]
  · simp only [tk_v, bd_v, bx_vl, bx_vr, s2s, s2k, s2j, s1s, s1k, mg_v0, mg_v1, sb_v, List.getD_cons_zero, List.getD_cons_succ, not_false_eq_true, Nat.reduceEqDiff, reduceCtorEq, Nat.reduceAdd, cpy_v hj]
  · simp only [tk_v, bd_v, bx_vl, bx_vr, s2s, s2k, s2j, s1s, s1k, mg_v0, mg_v1, sb_v, List.getD_cons_zero, List.getD_cons_succ, not_false_eq_true, Nat.reduceEqDiff, reduceCtorEq, Nat.reduceAdd, cpy_v hj]
  · simp only [tk_v, bd_v, bx_vl, bx_vr, s2s, s2k, s2j, s1s, s1k, mg_v0, mg_v1, sb_v, List.getD_cons_zero, List.getD_cons_succ, not_false_eq_true, Nat.reduceEqDiff, reduceCtorEq, Nat.reduceAdd]
  · simp only [tk_v, bd_v, bx_vl, bx_vr, s2s, s2k, s2j, s1s, s1k, mg_v0, mg_v1, sb_v, List.getD_cons_zero, List.getD_cons_succ, not_false_eq_true, Nat.reduceEqDiff, reduceCtorEq, Nat.reduceAdd]
