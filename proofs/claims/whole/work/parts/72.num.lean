/-! many bits, numbers, bytes, the code's end -/
theorem nm_1 (c : Nat) : nI c + (-1) = nI c - 1 := by
  rw [Int32.sub_eq_add_neg]
theorem WR_le {T T' : Nat} {u v : gU} (h : WR T u v) (ht : T ≤ T') : WR T' u v := by
  obtain ⟨s, g, b, f, e1, e2, e3, e4, hB, hs, hT, h⟩ := h
  exact ⟨s, g, b, f, e1, e2, e3, e4, hB, hs, by omega, h⟩
theorem bit_e (x : Int32) : ∃ β : Nat, β < 2 ∧ x &&& 1 = nI β := by
  obtain ⟨j, hj, e⟩ := pk_andE x (m := 1) 1 (by decide)
  exact ⟨j, by omega, e⟩
theorem many_ok (l1 l1' : Int32) : ∀ (c n f T : Nat) (u v : gU), c < n → c < f → T + c ≤ 3001 → WR T u v → (∀ i, i < c → (l1 >>> (nI i &&& 31)) &&& 1 = (l1' >>> (nI i &&& 31)) &&& 1) → ∃ u' v' : gU, L_Wri_writeBits_4 n l1 (nI c - 1) u = some u' ∧ L_Mod_putMany_4 f l1' (nI c - 1) v = some v' ∧ WR (T + c) u' v' ∧ FM v v' := by
  intro c
  induction c with
  | zero =>
    intro n f T u v hn hf hT h hb
    obtain ⟨n, rfl⟩ : ∃ k, n = k + 1 := ⟨n - 1, by omega⟩
    obtain ⟨f, rfl⟩ : ∃ k, f = k + 1 := ⟨f - 1, by omega⟩
    refine ⟨u, v, ?_, ?_, h, FM_rf v⟩
    · unfold L_Wri_writeBits_4
      rw [bq_v (by decide)]
    · unfold L_Mod_putMany_4
      rw [bq_v (by decide)]
  | succ c ih =>
    intro n f T u v hn hf hT h hb
    obtain ⟨n, rfl⟩ : ∃ k, n = k + 1 := ⟨n - 1, by omega⟩
    obtain ⟨f, rfl⟩ : ∃ k, f = k + 1 := ⟨f - 1, by omega⟩
    obtain ⟨β, hβ, eb⟩ := bit_e (l1 >>> (nI c &&& 31))
    have hl : ¬ nI c < 0 := nI_pos (by omega)
    rw [nI_pred]
    obtain ⟨u1, v1, g1, g2, g3, g4⟩ := put_ok (by omega) h hβ hl eb
    obtain ⟨u', v', k1, k2, k3, k4⟩ := ih n f (T + 1) u1 v1 (by omega) (by omega) (by omega) g3 (fun i hi => hb i (by omega))
    refine ⟨u', v', ?_, ?_, by rw [show T + (c + 1) = T + 1 + c by omega]; exact k3, FM_tr g4 k4⟩
    · rw [g1 n, nm_1]
      exact k1
    · unfold L_Mod_putMany_4
      rw [bq_w hl, ← hb c (by omega), eb, g2, bd_v, tk_v, tk_v, nm_1]
      exact k2
theorem un_1 : ∀ i, i < 32 → 1 ≤ i → ((1 : Int32) >>> (nI i &&& 31)) &&& 1 = nI 0 := by decide +kernel
theorem un_0 : ∀ i, i < 32 → ((0 : Int32) >>> (nI i &&& 31)) &&& 1 = nI 0 := by decide +kernel
theorem un_ok : ∀ (c n f T : Nat) (u v : gU), c < n → c < f → c < 32 → T + c + 1 ≤ 3001 → WR T u v → ∃ u' v1 v2 : gU, L_Wri_writeBits_4 (n + 1) 1 (nI c) u = some u' ∧ L_Mod_putMany_4 f 0 (nI c - 1) v = some v1 ∧ f_Mod_put 1 v1 = some v2 ∧ WR (T + c + 1) u' v2 ∧ FM v v2 := by
  intro c
  induction c with
  | zero =>
    intro n f T u v hn hf hc hT h
    obtain ⟨n, rfl⟩ : ∃ k, n = k + 1 := ⟨n - 1, by omega⟩
    obtain ⟨f, rfl⟩ : ∃ k, f = k + 1 := ⟨f - 1, by omega⟩
    obtain ⟨u1, v1, g1, g2, g3, g4⟩ := put_ok (l1 := 1) (l3 := nI 0) (β := 1) (by omega) h (by omega) (by decide) (by decide)
    refine ⟨u1, v, v1, ?_, ?_, g2, g3, g4⟩
    · rw [g1]
      unfold L_Wri_writeBits_4
      rw [bq_v (by decide)]
    · unfold L_Mod_putMany_4
      rw [bq_v (by decide)]
  | succ c ih =>
    intro n f T u v hn hf hc hT h
    obtain ⟨n, rfl⟩ : ∃ k, n = k + 1 := ⟨n - 1, by omega⟩
    obtain ⟨f, rfl⟩ : ∃ k, f = k + 1 := ⟨f - 1, by omega⟩
    have hl : ¬ nI c < 0 := nI_pos (by omega)
    have hl' : ¬ nI (c + 1) < 0 := nI_pos (by omega)
    obtain ⟨u1, v1, g1, g2, g3, g4⟩ := put_ok (l1 := 1) (l3 := nI (c + 1)) (β := 0) (by omega) h (by omega) hl' (un_1 (c + 1) hc (by omega))
    obtain ⟨u', v2, v3, k1, k2, k3, k4, k5⟩ := ih n f (T + 1) u1 v1 (by omega) (by omega) (by omega) (by omega) g3
    refine ⟨u', v2, v3, ?_, ?_, k3, by rw [show T + (c + 1) + 1 = T + 1 + c + 1 by omega]; exact k4, FM_tr g4 k5⟩
    · rw [g1, pk_m1]
      exact k1
    · unfold L_Mod_putMany_4
      rw [nI_pred, bq_w hl, un_0 c (by omega), g2, bd_v, tk_v, tk_v, nm_1]
      exact k2
theorem msk : ∀ k, k < 16 → ((1 : Int32) <<< (nI k &&& 31)) - 1 = nI (2 ^ k - 1) := by decide +kernel
theorem mbit (m k i : Nat) (hm : m < 2 ^ 31) (hk : k < 16) (hi : i < k) : (nI m >>> (nI i &&& 31)) &&& 1 = ((nI m &&& (((1 : Int32) <<< (nI k &&& 31)) - 1)) >>> (nI i &&& 31)) &&& 1 := by
  have hp : 2 ^ k - 1 < 2 ^ 32 := Nat.lt_of_le_of_lt (Nat.sub_le _ _) (Nat.pow_lt_pow_right (by omega) (by omega))
  rw [msk k hk, pk_andN (by omega) k (pk_tn hp), shrN (by omega) hm, shrN (by omega) (Nat.lt_of_le_of_lt (Nat.mod_le _ _) hm)]
  have hd : m / 2 ^ i < 2 ^ 32 := Nat.lt_of_le_of_lt (Nat.div_le_self _ _) (by omega)
  have hd2 : m % 2 ^ k / 2 ^ i < 2 ^ 32 := Nat.lt_of_le_of_lt (Nat.div_le_self _ _) (Nat.lt_of_le_of_lt (Nat.mod_le _ _) (by omega))
  rw [pk_andN hd 1 (by decide), pk_andN hd2 1 (by decide)]
  have ht := Nat.testBit_mod_two_pow m k i
  rw [Nat.testBit_eq_decide_div_mod_eq, Nat.testBit_eq_decide_div_mod_eq, decide_eq_true hi, Bool.true_and] at ht
  have ht2 : (m % 2 ^ k / 2 ^ i % 2 = 1) ↔ (m / 2 ^ i % 2 = 1) := by simpa using ht
  congr 1
  have a1 : m % 2 ^ k / 2 ^ i % 2 < 2 := Nat.mod_lt _ (by omega)
  have a2 : m / 2 ^ i % 2 < 2 := Nat.mod_lt _ (by omega)
  omega
theorem num_ok {m k l q T : Nat} {u v : gU} (hm : m < 2 ^ 31) (hk : k ≤ 10) (hl : l ≤ 32) (hq : q ≤ 8) (hql : q + 2 ≤ l) (hv : v 0 7 = nI q) (hT : T + l + 10 ≤ 3000) (h : WR T u v) : ∃ u' v' : gU, f_Wri_writeNumber (nI m) (nI k) (nI l) (nI q) u = some u' ∧ f_Mod_write (nI m) (nI k) (nI l) v = some v' ∧ WR (T + l + 10) u' v' ∧ FM v v' := by
  have hmost : nI l - nI q - 1 = nI (l - q - 1) := by
    rw [pk_sub (by omega)]
    exact pk_sub (b := 1) (by omega)
  unfold f_Wri_writeNumber f_Mod_write
  rw [tk_v, tk_v, hv, hmost, shrN (by omega) hm]
  have hd : m / 2 ^ k < 2 ^ 31 := Nat.lt_of_le_of_lt (Nat.div_le_self _ _) hm
  by_cases hc : l - q - 1 ≤ m / 2 ^ k
  · rw [bq_v (nI_le hc hd), bq_w (nI_nlt hc hd)]
    unfold f_Wri_writeBits J_Mod_write_23 J_Mod_write_40 f_Mod_putMany
    rw [bq_w (by decide)]
    obtain ⟨u1, v1, v2, a1, a2, a3, a4, a5⟩ := un_ok (l - q - 1) 99 2000 T u v (by omega) (by omega) (by omega) (by omega) h
    obtain ⟨u3, v3, b1, b2, b3, b4⟩ := many_ok (nI m - 1) (nI m - 1) q 100 2000 _ u1 v2 (by omega) (by omega) (by omega) a4 (fun _ _ => rfl)
    have hv2 : v2 0 7 = nI q := by rw [a5.2 7 (by decide) (by decide) (by decide), hv]
    rw [tk_v, show nI (l - q - 1) + 1 - 1 = nI (l - q - 1) by rw [← nI_succ, nI_pred], a1, bd_v, tk_v, tk_v, b1, bd_v, tk_v, tk_v, a2, bd_v, tk_v, a3, bd_v, tk_v, bq_w (by decide), hv2, tk_v, b2, bd_v, tk_v]
    exact ⟨u3, v3, rfl, rfl, WR_le b3 (by omega), FM_tr a5 b4⟩
  · rw [bq_w (nI_ge (by omega) (by omega)), bq_v (nI_lt (by omega) (by omega))]
    unfold f_Wri_writeBits J_Mod_write_23 J_Mod_write_40 f_Mod_putMany
    rw [bq_v rfl, shrN (by omega) hm]
    obtain ⟨u1, v1, v2, a1, a2, a3, a4, a5⟩ := un_ok (m / 2 ^ k) 99 2000 T u v (by omega) (by omega) (by omega) (by omega) h
    obtain ⟨u3, v3, b1, b2, b3, b4⟩ := many_ok (nI m) (nI m &&& (((1 : Int32) <<< (nI k &&& 31)) - 1)) k 100 2000 _ u1 v2 (by omega) (by omega) (by omega) a4 (fun i hi => mbit m k i hm (by omega) hi)
    rw [tk_v, show nI (m / 2 ^ k) + 1 - 1 = nI (m / 2 ^ k) by rw [← nI_succ, nI_pred], a1, bd_v, tk_v, tk_v, b1, bd_v, tk_v, tk_v, a2, bd_v, tk_v, a3, bd_v, tk_v, bq_v rfl, tk_v, b2, bd_v, tk_v]
    exact ⟨u3, v3, rfl, rfl, WR_le b3 (by omega), FM_tr a5 b4⟩
theorem one_ok {T β : Nat} {u v : gU} (hβ : β < 2) (hT : T ≤ 3000) (h : WR T u v) : ∃ u' v' : gU, f_Wri_writeBits (nI β) 1 u = some u' ∧ f_Mod_put (nI β) v = some v' ∧ WR (T + 1) u' v' ∧ FM v v' := by
  have hb : (nI β >>> ((0 : Int32) &&& 31)) &&& 1 = nI β := by
    rcases (by omega : β = 0 ∨ β = 1) with rfl | rfl <;> decide
  obtain ⟨u1, v1, g1, g2, g3, g4⟩ := put_ok (l1 := nI β) (l3 := 0) hT h hβ (by decide) hb
  refine ⟨u1, v1, ?_, g2, g3, g4⟩
  unfold f_Wri_writeBits
  rw [tk_v, show (1 : Int32) - 1 = 0 by decide, g1 99]
  unfold L_Wri_writeBits_4
  rw [bq_v (by decide)]
def BS (s : Nat) (u v : gU) : Prop := u 0 0 = nI s ∧ v 0 13 = nI s ∧ BytW s (u 1) (v 4)
theorem byte_ok {s t : Nat} {u v : gU} (hs : s < 512) (ht : t < 256) (h : BS s u v) : ∃ u' v' : gU, f_Wri_writeByte (nI t) u = some u' ∧ f_Mod_say (nI t) v = some v' ∧ BS (s + 1) u' v' ∧ u' 0 1 = u 0 1 ∧ (∀ k, ¬ k = 0 → ¬ k = 4 → v' k = v k) ∧ (∀ j, ¬ j = 13 → v' 0 j = v 0 j) ∧ v' 4 s = nI t := by
  obtain ⟨h1, h2, h3⟩ := h
  unfold f_Wri_writeByte f_Mod_say
  rw [h1, h2, bq_w (show ¬ (512 : Int32) ≤ nI s from nI_ge (b := 512) (by omega) (by omega)), gd_v (ix_n (by omega) (by omega)), gd_v (ix_n (by omega) (by omega)), tk_v, tk_v, tk_v, tk_v, tc_n (by omega)]
  refine ⟨_, _, rfl, rfl, ⟨?_, ?_, ?_⟩, ?_, ?_, ?_, ?_⟩
  · simp only [tk_v, bd_v, bx_vl, bx_vr, s2s, s2k, s2j, s1s, s1k, mg_v0, mg_v1, sb_v, List.getD_cons_zero, List.getD_cons_succ, not_false_eq_true, Nat.reduceEqDiff, reduceCtorEq, h1, n1]
  · simp only [tk_v, bd_v, bx_vl, bx_vr, s2s, s2k, s2j, s1s, s1k, mg_v0, mg_v1, sb_v, List.getD_cons_zero, List.getD_cons_succ, not_false_eq_true, Nat.reduceEqDiff, reduceCtorEq, h2, n1]
  · intro i hi
    by_cases his : i = s
    · subst his
      simp only [tk_v, bd_v, bx_vl, bx_vr, s2s, s2k, s2j, s1s, s1k, mg_v0, mg_v1, sb_v, List.getD_cons_zero, List.getD_cons_succ, not_false_eq_true, Nat.reduceEqDiff, reduceCtorEq]
      exact ⟨t, ht, rfl, rfl⟩
    · simp only [tk_v, bd_v, bx_vl, bx_vr, s2s, s2k, s2j, s1s, s1k, mg_v0, mg_v1, sb_v, List.getD_cons_zero, List.getD_cons_succ, not_false_eq_true, Nat.reduceEqDiff, reduceCtorEq, s2j his]
      exact h3 i (by omega)
  · simp only [tk_v, bd_v, bx_vl, bx_vr, s2s, s2k, s2j, s1s, s1k, mg_v0, mg_v1, sb_v, List.getD_cons_zero, List.getD_cons_succ, not_false_eq_true, Nat.reduceEqDiff, reduceCtorEq]
  · intro k k0 k4
    rw [s2k k0, s2k k4]
  · intro j hj
    rw [s2j hj, s2k (by decide)]
  · simp only [tk_v, bd_v, bx_vl, bx_vr, s2s, s2k, s2j, s1s, s1k, mg_v0, mg_v1, sb_v, List.getD_cons_zero, List.getD_cons_succ, not_false_eq_true, Nat.reduceEqDiff, reduceCtorEq]
theorem nr_255 : ∀ c, c < 8 → 1 ≤ c → ∀ g, g < 2 ^ (8 - c) → ¬ nI (g * 2 ^ c) = 255 := by decide +kernel
theorem fill_b : ∀ (c f s g : Nat) (v : gU), 1 ≤ c → c ≤ 7 → c < f → s < 590 → v 0 13 = nI s → v 0 14 = nI g → v 0 15 = nI (8 - c) → g < 2 ^ (8 - c) → ∃ v' : gU, L_Mod_putMany_4 f 0 (nI c - 1) v = some v' ∧ v' 0 13 = nI (s + 1) ∧ v' 4 s = nI (g * 2 ^ c) ∧ (∀ j, ¬ j = s → v' 4 j = v 4 j) ∧ FM v v' := by
  intro c
  induction c with
  | zero => intro f s g v h1; omega
  | succ c ih =>
    intro f s g v h1 h2 hf hs e1 e2 e3 hg
    obtain ⟨f, rfl⟩ : ∃ k, f = k + 1 := ⟨f - 1, by omega⟩
    have hl : ¬ nI c < 0 := nI_pos (by omega)
    have hg2 : (2 : Int32) * nI g + nI 0 = nI (2 * g) := by
      rw [show (2 : Int32) * nI g = nI (2 * g) from pk_mul 2 g, nI_add]
      rfl
    unfold L_Mod_putMany_4
    rw [nI_pred, bq_w hl, un_0 c (by omega)]
    rcases Nat.eq_zero_or_pos c with h0 | h0
    · subst h0
      obtain ⟨f, rfl⟩ : ∃ k, f = k + 1 := ⟨f - 1, by omega⟩
      unfold f_Mod_put f_Mod_say J_Mod_put_55
      rw [tk_v, tk_v]
      simp only [tk_v, bd_v, bx_vl, bx_vr, s2s, s2k, s2j, s1s, s1k, mg_v0, mg_v1, sb_v, List.getD_cons_zero, List.getD_cons_succ, not_false_eq_true, Nat.reduceEqDiff, reduceCtorEq]
      rw [e1, e2, e3, hg2, show nI (8 - (0 + 1)) + 1 = nI 8 from rfl, bq_v (show nI 8 = 8 from rfl), gd_v (ix_n (by omega) (by omega)), bd_v, tc_n (by omega)]
      simp only [tk_v, bd_v, bx_vl, bx_vr, s2s, s2k, s2j, s1s, s1k, mg_v0, mg_v1, sb_v, List.getD_cons_zero, List.getD_cons_succ, not_false_eq_true, Nat.reduceEqDiff, reduceCtorEq]
      rw [← nI_succ, bq_w (by
        have := nr_255 1 (by omega) (by omega) g hg
        rw [show g * 2 ^ 1 = 2 * g by omega] at this
        exact this), bd_v]
      unfold L_Mod_putMany_4
      rw [bq_v (by decide)]
      refine ⟨_, rfl, ?_, ?_, ?_, ?_⟩
      · simp only [tk_v, bd_v, bx_vl, bx_vr, s2s, s2k, s2j, s1s, s1k, mg_v0, mg_v1, sb_v, List.getD_cons_zero, List.getD_cons_succ, not_false_eq_true, Nat.reduceEqDiff, reduceCtorEq]
      · simp only [tk_v, bd_v, bx_vl, bx_vr, s2s, s2k, s2j, s1s, s1k, mg_v0, mg_v1, sb_v, List.getD_cons_zero, List.getD_cons_succ, not_false_eq_true, Nat.reduceEqDiff, reduceCtorEq]
        congr 1
        omega
      · intro j hj
        simp only [tk_v, bd_v, bx_vl, bx_vr, s2s, s2k, s2j, s1s, s1k, mg_v0, mg_v1, sb_v, List.getD_cons_zero, List.getD_cons_succ, not_false_eq_true, Nat.reduceEqDiff, reduceCtorEq, s2j hj]
      · exact ⟨fun k k0 k4 => by rw [s2k k0, s2k k0, s2k k0, s2k k4, s2k k0, s2k k0], fun j a1 a2 a3 => by rw [s2j a2, s2j a3, s2j a1, s2k (by decide), s2j a3, s2j a2]⟩
    · have hput : f_Mod_put (nI 0) v = some (st2 (st2 v 0 14 (nI (2 * g))) 0 15 (nI (8 - c))) := by
        unfold f_Mod_put
        rw [tk_v, tk_v]
        simp only [tk_v, bd_v, bx_vl, bx_vr, s2s, s2k, s2j, s1s, s1k, mg_v0, mg_v1, sb_v, List.getD_cons_zero, List.getD_cons_succ, not_false_eq_true, Nat.reduceEqDiff, reduceCtorEq]
        rw [e2, e3, hg2, ← nI_succ, show 8 - (c + 1) + 1 = 8 - c by omega]
        rw [bq_w (fun hh => by
          have := (nI_eq (b := 8) (by omega) (by omega)).mp hh
          omega)]
      rw [hput, bd_v, tk_v, tk_v, nm_1]
      have hpw : 2 ^ (8 - c) = 2 * 2 ^ (8 - (c + 1)) := by
        rw [show 8 - c = 8 - (c + 1) + 1 by omega, Nat.pow_succ]
        omega
      obtain ⟨v', k1, k2, k3, k4, k5⟩ := ih f s (2 * g) (st2 (st2 v 0 14 (nI (2 * g))) 0 15 (nI (8 - c))) h0 (by omega) (by omega) hs (by simp only [tk_v, bd_v, bx_vl, bx_vr, s2s, s2k, s2j, s1s, s1k, mg_v0, mg_v1, sb_v, List.getD_cons_zero, List.getD_cons_succ, not_false_eq_true, Nat.reduceEqDiff, reduceCtorEq]; exact e1) (by simp only [tk_v, bd_v, bx_vl, bx_vr, s2s, s2k, s2j, s1s, s1k, mg_v0, mg_v1, sb_v, List.getD_cons_zero, List.getD_cons_succ, not_false_eq_true, Nat.reduceEqDiff, reduceCtorEq]) (by simp only [tk_v, bd_v, bx_vl, bx_vr, s2s, s2k, s2j, s1s, s1k, mg_v0, mg_v1, sb_v, List.getD_cons_zero, List.getD_cons_succ, not_false_eq_true, Nat.reduceEqDiff, reduceCtorEq]) (by omega)
      refine ⟨v', k1, k2, ?_, fun j hj => by rw [k4 j hj]; simp only [tk_v, bd_v, bx_vl, bx_vr, s2s, s2k, s2j, s1s, s1k, mg_v0, mg_v1, sb_v, List.getD_cons_zero, List.getD_cons_succ, not_false_eq_true, Nat.reduceEqDiff, reduceCtorEq], FM_tr ⟨fun k k0 k4 => by rw [s2k k0, s2k k0], fun j a1 a2 a3 => by rw [s2j a3, s2j a2]⟩ k5⟩
      rw [k3, Nat.pow_succ]
      congr 1
      rw [Nat.mul_comm 2 g, Nat.mul_assoc, Nat.mul_comm (2 ^ c) 2]
theorem end_bytes {s : Nat} {u v : gU} (hs : s ≤ 500) (h : BS s u v) : ∃ u1 u2 v1 v2 : gU, f_Wri_writeByte 255 u = some u1 ∧ f_Wri_writeByte 217 u1 = some u2 ∧ f_Mod_say 255 v = some v1 ∧ f_Mod_say 217 v1 = some v2 ∧ BS (s + 2) u2 v2 ∧ FM v v2 := by
  obtain ⟨u1, v1, a1, a2, a3, a4, a5, a6, a7⟩ := byte_ok (s := s) (t := 255) (by omega) (by omega) h
  obtain ⟨u2, v2, b1, b2, b3, b4, b5, b6, b7⟩ := byte_ok (s := s + 1) (t := 217) (by omega) (by omega) a3
  exact ⟨u1, u2, v1, v2, a1, b1, a2, b2, b3, fun k k0 k4 => by rw [b5 k k0 k4, a5 k k0 k4], fun j h1 h2 h3 => by rw [b6 j h1, a6 j h1]⟩
theorem wend_ok {T : Nat} {u v : gU} (hT : T ≤ 2900) (h : WR T u v) : ∃ (s : Nat) (u' v' : gU), s ≤ 512 ∧ f_Wri_writeEnd u = some u' ∧ (bq (v 0 15 ≤ 0) (J_Mod_encode_103 v) (bd (f_Mod_putMany 0 (8 - v 0 15) v) fun w23 => tk (w23) fun u24 => J_Mod_encode_103 u24)) = some (nI s, v') ∧ BS s u' v' ∧ FM v v' := by
  obtain ⟨s, g, b, f, e1, e2, e3, e4, hB, hs, hT2, hcase⟩ := h
  have hfin : ∀ (s : Nat) (u v : gU), s ≤ 500 → BS s u v → ∃ u' v' : gU, J_Wri_writeEnd_12 u = some u' ∧ J_Mod_encode_103 v = some (nI (s + 2), v') ∧ BS (s + 2) u' v' ∧ FM v v' := by
    intro s u v hs h
    obtain ⟨u1, u2, v1, v2, a1, a2, a3, a4, a5, a6⟩ := end_bytes hs h
    refine ⟨u2, v2, ?_, ?_, a5, a6⟩
    · unfold J_Wri_writeEnd_12
      rw [a1, bd_v, tk_v, a2, bd_v, tk_v]
    · unfold J_Mod_encode_103
      rw [a3, bd_v, tk_v, a4, bd_v, tk_v, a5.2.1]
  rcases hcase with ⟨rfl, e5, rfl, rfl⟩ | ⟨f1, f2, f3, e5, g1, e6⟩
  · have hend : f_Wri_endsWith255 u = some (if v 4 (s - 1) = 255 then 1 else 0) := by
      unfold f_Wri_endsWith255
      have hsp : nI s - 1 = nI (s - 1) := pk_sub (b := 1) (by omega)
      obtain ⟨t, ht, t1, t2⟩ := hB (s - 1) (by omega)
      rw [e5, bq_w (nI_nle (by omega) (by omega)), hsp, gd_v (ix_n (by omega) (by omega)), tc_n (by omega), t1, t2]
      by_cases hh : nI t = 255
      · rw [bq_v hh, if_pos hh]
      · rw [bq_w hh, if_neg hh]
    unfold f_Wri_writeEnd
    rw [hend, bd_v, e3]
    by_cases hc : v 4 (s - 1) = 255
    · rw [if_pos hc] at e3
      rw [if_pos hc, if_pos hc, bq_w (by decide), bq_w (by decide)]
      obtain ⟨v1, k1, k2, k3, k4, k5⟩ := fill_b 7 2000 s 0 v (by omega) (by omega) (by omega) (by omega) e1 e2 e3 (by omega)
      have hb : BS (s + 1) (st2 (st2 u 1 s 0) 0 0 (nI (s + 1))) v1 := by
        refine ⟨by simp only [tk_v, bd_v, bx_vl, bx_vr, s2s, s2k, s2j, s1s, s1k, mg_v0, mg_v1, sb_v, List.getD_cons_zero, List.getD_cons_succ, not_false_eq_true, Nat.reduceEqDiff, reduceCtorEq], k2, ?_⟩
        intro i hi
        by_cases his : i = s
        · subst his
          refine ⟨0, by omega, by simp only [tk_v, bd_v, bx_vl, bx_vr, s2s, s2k, s2j, s1s, s1k, mg_v0, mg_v1, sb_v, List.getD_cons_zero, List.getD_cons_succ, not_false_eq_true, Nat.reduceEqDiff, reduceCtorEq]; rfl, ?_⟩
          rw [k3]
        · simp only [tk_v, bd_v, bx_vl, bx_vr, s2s, s2k, s2j, s1s, s1k, mg_v0, mg_v1, sb_v, List.getD_cons_zero, List.getD_cons_succ, not_false_eq_true, Nat.reduceEqDiff, reduceCtorEq, s2j his]
          rw [k4 i his]
          exact hB i (by omega)
      obtain ⟨u', v', m1, m2, m3, m4⟩ := hfin (s + 1) _ _ (by omega) hb
      refine ⟨s + 1 + 2, u', v', by omega, ?_, ?_, m3, FM_tr k5 m4⟩
      · unfold f_Wri_writeByte
        rw [e5, bq_w (show ¬ (512 : Int32) ≤ nI s from nI_ge (b := 512) (by omega) (by omega)), gd_v (ix_n (by omega) (by omega)), tk_v, tk_v, bd_v, tk_v, tc_n (by omega)]
        simp only [tk_v, bd_v, bx_vl, bx_vr, s2s, s2k, s2j, s1s, s1k, mg_v0, mg_v1, sb_v, List.getD_cons_zero, List.getD_cons_succ, not_false_eq_true, Nat.reduceEqDiff, reduceCtorEq]
        rw [e5, ← nI_succ]
        exact m1
      · unfold f_Mod_putMany
        rw [tk_v, show (8 : Int32) - nI 1 - 1 = nI 7 - 1 by decide, k1, bd_v, tk_v]
        exact m2
    · rw [if_neg hc, if_neg hc, bq_v rfl, bq_v (by decide)]
      obtain ⟨u', v', m1, m2, m3, m4⟩ := hfin s u v (by omega) ⟨e5, e1, hB⟩
      exact ⟨s + 2, u', v', by omega, m1, m2, m3, m4⟩
  · obtain rfl : b = 8 - f := by omega
    obtain ⟨v1, k1, k2, k3, k4, k5⟩ := fill_b f 2000 s g v f1 f2 (by omega) (by omega) e1 e2 e3 g1
    have hn := nr_255 f (by omega) f1 g g1
    have hend : f_Wri_endsWith255 u = some 0 := by
      unfold f_Wri_endsWith255
      rw [e5, bq_w (nI_nle (by omega) (by omega)), nI_pred, gd_v (ix_n (by omega) (by omega)), tc_n (by omega), e6, bq_w hn]
    have h256 : g * 2 ^ f < 256 := by
      have : g * 2 ^ f < 2 ^ (8 - f) * 2 ^ f := Nat.mul_lt_mul_of_pos_right g1 (Nat.pos_of_ne_zero (by simp))
      rw [← Nat.pow_add, show 8 - f + f = 8 by omega] at this
      exact this
    have hb : BS (s + 1) u v1 := by
      refine ⟨e5, k2, ?_⟩
      intro i hi
      by_cases his : i = s
      · subst his
        exact ⟨g * 2 ^ f, h256, e6, k3⟩
      · rw [k4 i his]
        exact hB i (by omega)
    obtain ⟨u', v', m1, m2, m3, m4⟩ := hfin (s + 1) _ _ (by omega) hb
    refine ⟨s + 1 + 2, u', v', by omega, ?_, ?_, m3, FM_tr k5 m4⟩
    · unfold f_Wri_writeEnd
      rw [hend, bd_v, bq_v rfl]
      exact m1
    · rw [e3, bq_w (nI_nle (by omega) (by omega))]
      unfold f_Mod_putMany
      rw [tk_v, show (8 : Int32) - nI (8 - f) = nI f by
        rw [show (8 : Int32) = nI 8 from rfl, pk_sub (by omega)]
        congr 1
        omega, k1, bd_v, tk_v]
      exact m2
