/-! the writer and the reference's bits -/
def WR (T : Nat) (u v : gU) : Prop := ∃ s g b f : Nat, v 0 13 = nI s ∧ v 0 14 = nI g ∧ v 0 15 = nI b ∧ u 0 1 = nI f ∧ BytW s (u 1) (v 4) ∧ 6 ≤ s ∧ 7 * s + b ≤ 43 + T ∧ ((f = 0 ∧ u 0 0 = nI s ∧ g = 0 ∧ b = (if v 4 (s - 1) = 255 then 1 else 0)) ∨ (1 ≤ f ∧ f ≤ 7 ∧ b + f = 8 ∧ u 0 0 = nI (s + 1) ∧ g < 2 ^ b ∧ u 1 s = nI (g * 2 ^ f)))
def FM (v v' : gU) : Prop := (∀ k, ¬ k = 0 → ¬ k = 4 → v' k = v k) ∧ (∀ j, ¬ j = 13 → ¬ j = 14 → ¬ j = 15 → v' 0 j = v 0 j)
theorem FM_tr {v v1 v2 : gU} (h1 : FM v v1) (h2 : FM v1 v2) : FM v v2 := ⟨fun k a b => by rw [h2.1 k a b, h1.1 k a b], fun j a b c => by rw [h2.2 j a b c, h1.2 j a b c]⟩
theorem FM_rf (v : gU) : FM v v := ⟨fun _ _ _ => rfl, fun _ _ _ _ => rfl⟩
theorem or_tb : ∀ f, f < 8 → 1 ≤ f → ∀ g, g < 2 ^ (8 - f) → ∀ β, β < 2 → nI (g * 2 ^ f) ||| (nI β <<< (nI (f - 1) &&& 31)) = nI ((2 * g + β) * 2 ^ (f - 1)) := by decide +kernel
theorem or_t0 : ∀ f, f < 9 → 1 ≤ f → ∀ β, β < 2 → (0 : Int32) ||| (nI β <<< (nI (f - 1) &&& 31)) = nI (β * 2 ^ (f - 1)) := by decide +kernel
theorem put_ok {T : Nat} (hT : T ≤ 3000) {u v : gU} (h : WR T u v) {l1 l3 : Int32} {β : Nat} (hβ : β < 2) (hl : ¬ l3 < 0) (hb : (l1 >>> (l3 &&& 31)) &&& 1 = nI β) : ∃ u' v' : gU, (∀ n, L_Wri_writeBits_4 (n + 1) l1 l3 u = L_Wri_writeBits_4 n l1 (l3 + (-1)) u') ∧ f_Mod_put (nI β) v = some v' ∧ WR (T + 1) u' v' ∧ FM v v' := by
  obtain ⟨s, g, b, f, e1, e2, e3, e4, hB, hs, hT2, ⟨rfl, e5, rfl, rfl⟩ | ⟨f1, f2, f3, e5, g1, e6⟩⟩ := h
  · -- no byte is begun
    have hend : f_Wri_endsWith255 u = some (if v 4 (s - 1) = 255 then 1 else 0) := by
      unfold f_Wri_endsWith255
      have hsp : nI s - 1 = nI (s - 1) := pk_sub (b := 1) (by omega)
      obtain ⟨t, ht, t1, t2⟩ := hB (s - 1) (by omega)
      rw [e5, bq_w (nI_nle (by omega) (by omega)), hsp, gd_v (ix_n (by omega) (by omega)), tc_n (by omega), t1, t2]
      by_cases hh : nI t = 255
      · rw [bq_v hh, if_pos hh]
      · rw [bq_w hh, if_neg hh]
    have key : ∀ (F : Nat), F < 9 → 1 < F → (∀ n, J_Wri_writeBits_30 (L_Wri_writeBits_4 n) l1 l3 (nI F) u = L_Wri_writeBits_4 n l1 (l3 + (-1)) (st2 (st2 (st2 (st2 (st2 u 0 1 (nI F)) 1 s 0) 0 0 (nI (s + 1))) 0 1 (nI (F - 1))) 1 s (nI (β * 2 ^ (F - 1))))) := by
      intro F hF hF1 n
      unfold J_Wri_writeBits_30 f_Wri_writeByte J_Wri_writeBits_38
      rw [tk_v, s2j (by decide), e5, bq_w (show ¬ (512 : Int32) ≤ nI s from nI_ge (b := 512) (by omega) (by omega)), gd_v (ix_n (by omega) (by omega)), tk_v, tk_v, bd_v, tk_v, tk_v, hb]
      have hsp : nI (s + 1) - 1 = nI s := nI_pred s
      have hfp : nI F - 1 = nI (F - 1) := pk_sub (b := 1) (by omega)
      simp only [tk_v, bd_v, bx_vl, bx_vr, s2s, s2k, s2j, s1s, s1k, mg_v0, mg_v1, sb_v, List.getD_cons_zero, List.getD_cons_succ, not_false_eq_true, Nat.reduceEqDiff, reduceCtorEq]
      rw [e5, ← nI_succ, hsp, gd_v (ix_n (by omega) (by omega)), gd_v (ix_n (by omega) (by omega)), tc_n (by omega), hfp]
      simp only [tk_v, bd_v, bx_vl, bx_vr, s2s, s2k, s2j, s1s, s1k, mg_v0, mg_v1, sb_v, List.getD_cons_zero, List.getD_cons_succ, not_false_eq_true, Nat.reduceEqDiff, reduceCtorEq]
      rw [or_t0 F (by omega) (by omega) β hβ]
    have hput : f_Mod_put (nI β) v = some (st2 (st2 v 0 14 (nI β)) 0 15 (nI ((if v 4 (s - 1) = 255 then 1 else 0) + 1))) := by
      unfold f_Mod_put
      rw [tk_v, tk_v]
      simp only [tk_v, bd_v, bx_vl, bx_vr, s2s, s2k, s2j, s1s, s1k, mg_v0, mg_v1, sb_v, List.getD_cons_zero, List.getD_cons_succ, not_false_eq_true, Nat.reduceEqDiff, reduceCtorEq]
      rw [e2, e3, show (2 : Int32) * nI 0 + nI β = nI β by rw [show (2 : Int32) * nI 0 = nI (2 * 0) from pk_mul 2 0, nI_add]; congr 1; omega, ← nI_succ]
      rw [bq_w (by
        intro hh
        have := (nI_eq (b := 8) (by split <;> omega) (by omega)).mp hh
        revert this
        split <;> omega)]
    have FMv : FM v (st2 (st2 v 0 14 (nI β)) 0 15 (nI ((if v 4 (s - 1) = 255 then 1 else 0) + 1))) := ⟨fun k k0 k4 => by rw [s2k k0, s2k k0], fun j a1 a2 a3 => by rw [s2j a3, s2j a2]⟩
    have fin : ∀ F : Nat, 7 ≤ F → F ≤ 8 → (if v 4 (s - 1) = 255 then 1 else 0) + F = 8 → WR (T + 1) (st2 (st2 (st2 (st2 (st2 u 0 1 (nI F)) 1 s 0) 0 0 (nI (s + 1))) 0 1 (nI (F - 1))) 1 s (nI (β * 2 ^ (F - 1)))) (st2 (st2 v 0 14 (nI β)) 0 15 (nI ((if v 4 (s - 1) = 255 then 1 else 0) + 1))) := by
      intro F F7 F8 hF
      refine ⟨s, β, (if v 4 (s - 1) = 255 then 1 else 0) + 1, F - 1, ?_, ?_, ?_, ?_, ?_, hs, by omega, Or.inr ⟨by omega, by omega, by omega, ?_, ?_, ?_⟩⟩
      · simp only [tk_v, bd_v, bx_vl, bx_vr, s2s, s2k, s2j, s1s, s1k, mg_v0, mg_v1, sb_v, List.getD_cons_zero, List.getD_cons_succ, not_false_eq_true, Nat.reduceEqDiff, reduceCtorEq]
        exact e1
      · simp only [tk_v, bd_v, bx_vl, bx_vr, s2s, s2k, s2j, s1s, s1k, mg_v0, mg_v1, sb_v, List.getD_cons_zero, List.getD_cons_succ, not_false_eq_true, Nat.reduceEqDiff, reduceCtorEq]
      · simp only [tk_v, bd_v, bx_vl, bx_vr, s2s, s2k, s2j, s1s, s1k, mg_v0, mg_v1, sb_v, List.getD_cons_zero, List.getD_cons_succ, not_false_eq_true, Nat.reduceEqDiff, reduceCtorEq]
      · simp only [tk_v, bd_v, bx_vl, bx_vr, s2s, s2k, s2j, s1s, s1k, mg_v0, mg_v1, sb_v, List.getD_cons_zero, List.getD_cons_succ, not_false_eq_true, Nat.reduceEqDiff, reduceCtorEq]
      · intro i hi
        have hne : ¬ i = s := by omega
        simp only [tk_v, bd_v, bx_vl, bx_vr, s2s, s2k, s2j, s1s, s1k, mg_v0, mg_v1, sb_v, List.getD_cons_zero, List.getD_cons_succ, not_false_eq_true, Nat.reduceEqDiff, reduceCtorEq, s2j hne]
        exact hB i hi
      · simp only [tk_v, bd_v, bx_vl, bx_vr, s2s, s2k, s2j, s1s, s1k, mg_v0, mg_v1, sb_v, List.getD_cons_zero, List.getD_cons_succ, not_false_eq_true, Nat.reduceEqDiff, reduceCtorEq]
      · have : 2 ^ 1 ≤ 2 ^ ((if v 4 (s - 1) = 255 then 1 else 0) + 1) := Nat.pow_le_pow_right (by omega) (by omega)
        omega
      · simp only [tk_v, bd_v, bx_vl, bx_vr, s2s, s2k, s2j, s1s, s1k, mg_v0, mg_v1, sb_v, List.getD_cons_zero, List.getD_cons_succ, not_false_eq_true, Nat.reduceEqDiff, reduceCtorEq]
    by_cases hc : v 4 (s - 1) = 255
    · refine ⟨_, _, fun n => ?_, hput, fin 7 (by omega) (by omega) (by rw [if_pos hc]), FMv⟩
      conv => lhs; unfold L_Wri_writeBits_4
      rw [bq_w hl, e4, bq_v nI_0, hend, bd_v, if_pos hc, bq_w (by decide)]
      exact key 7 (by omega) (by omega) n
    · refine ⟨_, _, fun n => ?_, hput, fin 8 (by omega) (by omega) (by rw [if_neg hc]), FMv⟩
      conv => lhs; unfold L_Wri_writeBits_4
      rw [bq_w hl, e4, bq_v nI_0, hend, bd_v, if_neg hc, bq_v rfl]
      exact key 8 (by omega) (by omega) n
  · -- a byte is begun
    have hsp : nI (s + 1) - 1 = nI s := nI_pred s
    have hfp : nI f - 1 = nI (f - 1) := pk_sub (b := 1) (by omega)
    obtain rfl : b = 8 - f := by omega
    have hor := or_tb f (by omega) f1 g g1 β hβ
    have hcls : ∀ n, L_Wri_writeBits_4 (n + 1) l1 l3 u = L_Wri_writeBits_4 n l1 (l3 + (-1)) (st2 (st2 u 0 1 (nI (f - 1))) 1 s (nI ((2 * g + β) * 2 ^ (f - 1)))) := by
      intro n
      conv => lhs; unfold L_Wri_writeBits_4
      unfold J_Wri_writeBits_38
      rw [bq_w hl, e4, bq_w (nI_ne0 (by omega) (by omega)), tk_v, hb, tk_v, tk_v]
      simp only [tk_v, bd_v, bx_vl, bx_vr, s2s, s2k, s2j, s1s, s1k, mg_v0, mg_v1, sb_v, List.getD_cons_zero, List.getD_cons_succ, not_false_eq_true, Nat.reduceEqDiff, reduceCtorEq]
      rw [e5, hsp, gd_v (ix_n (by omega) (by omega)), gd_v (ix_n (by omega) (by omega)), tc_n (by omega), hfp]
      rw [e6, hor]
    have hg2 : (2 : Int32) * nI g + nI β = nI (2 * g + β) := by
      rw [show (2 : Int32) * nI g = nI (2 * g) from pk_mul 2 g, nI_add]
    have hpw : 2 ^ (8 - f + 1) = 2 * 2 ^ (8 - f) := by rw [Nat.pow_succ]; omega
    by_cases hf : f = 1
    · subst hf
      have hg3 : 2 * g + β < 256 := by
        have : (2 : Nat) ^ (8 - 1) = 128 := by decide
        omega
      refine ⟨_, st2 (st2 (st2 (st2 (st2 (st2 v 0 14 (nI (2 * g + β))) 0 15 (nI 8)) 4 s (nI (2 * g + β))) 0 13 (nI (s + 1))) 0 15 (nI (if nI (2 * g + β) = 255 then 1 else 0))) 0 14 0, hcls, ?_, ?_, ?_⟩
      · unfold f_Mod_put f_Mod_say J_Mod_put_55
        rw [tk_v, tk_v]
        simp only [tk_v, bd_v, bx_vl, bx_vr, s2s, s2k, s2j, s1s, s1k, mg_v0, mg_v1, sb_v, List.getD_cons_zero, List.getD_cons_succ, not_false_eq_true, Nat.reduceEqDiff, reduceCtorEq]
        rw [e1, e2, e3, hg2, show nI (8 - 1) + 1 = nI 8 from rfl, bq_v (show nI 8 = 8 from rfl), gd_v (ix_n (by omega) (by omega)), bd_v, tc_n (by omega)]
        simp only [tk_v, bd_v, bx_vl, bx_vr, s2s, s2k, s2j, s1s, s1k, mg_v0, mg_v1, sb_v, List.getD_cons_zero, List.getD_cons_succ, not_false_eq_true, Nat.reduceEqDiff, reduceCtorEq]
        rw [← nI_succ]
        by_cases hc : nI (2 * g + β) = 255
        · rw [bq_v hc, if_pos hc]
          rfl
        · rw [bq_w hc, if_neg hc]
          rfl
      · refine ⟨s + 1, 0, if nI (2 * g + β) = 255 then 1 else 0, 0, ?_, ?_, ?_, ?_, ?_, by omega, ?_, Or.inl ⟨rfl, ?_, rfl, ?_⟩⟩
        · simp only [tk_v, bd_v, bx_vl, bx_vr, s2s, s2k, s2j, s1s, s1k, mg_v0, mg_v1, sb_v, List.getD_cons_zero, List.getD_cons_succ, not_false_eq_true, Nat.reduceEqDiff, reduceCtorEq]
        · simp only [tk_v, bd_v, bx_vl, bx_vr, s2s, s2k, s2j, s1s, s1k, mg_v0, mg_v1, sb_v, List.getD_cons_zero, List.getD_cons_succ, not_false_eq_true, Nat.reduceEqDiff, reduceCtorEq]
          rfl
        · simp only [tk_v, bd_v, bx_vl, bx_vr, s2s, s2k, s2j, s1s, s1k, mg_v0, mg_v1, sb_v, List.getD_cons_zero, List.getD_cons_succ, not_false_eq_true, Nat.reduceEqDiff, reduceCtorEq]
        · simp only [tk_v, bd_v, bx_vl, bx_vr, s2s, s2k, s2j, s1s, s1k, mg_v0, mg_v1, sb_v, List.getD_cons_zero, List.getD_cons_succ, not_false_eq_true, Nat.reduceEqDiff, reduceCtorEq]
        · intro i hi
          by_cases his : i = s
          · subst his
            refine ⟨2 * g + β, hg3, ?_, ?_⟩
            · simp only [tk_v, bd_v, bx_vl, bx_vr, s2s, s2k, s2j, s1s, s1k, mg_v0, mg_v1, sb_v, List.getD_cons_zero, List.getD_cons_succ, not_false_eq_true, Nat.reduceEqDiff, reduceCtorEq, Nat.sub_self, Nat.pow_zero, Nat.mul_one]
            · simp only [tk_v, bd_v, bx_vl, bx_vr, s2s, s2k, s2j, s1s, s1k, mg_v0, mg_v1, sb_v, List.getD_cons_zero, List.getD_cons_succ, not_false_eq_true, Nat.reduceEqDiff, reduceCtorEq]
          · simp only [tk_v, bd_v, bx_vl, bx_vr, s2s, s2k, s2j, s1s, s1k, mg_v0, mg_v1, sb_v, List.getD_cons_zero, List.getD_cons_succ, not_false_eq_true, Nat.reduceEqDiff, reduceCtorEq, s2j his]
            exact hB i (by omega)
        · split <;> omega
        · simp only [tk_v, bd_v, bx_vl, bx_vr, s2s, s2k, s2j, s1s, s1k, mg_v0, mg_v1, sb_v, List.getD_cons_zero, List.getD_cons_succ, not_false_eq_true, Nat.reduceEqDiff, reduceCtorEq]
          exact e5
        · simp only [tk_v, bd_v, bx_vl, bx_vr, s2s, s2k, s2j, s1s, s1k, mg_v0, mg_v1, sb_v, List.getD_cons_zero, List.getD_cons_succ, not_false_eq_true, Nat.reduceEqDiff, reduceCtorEq, Nat.add_sub_cancel]
      · exact ⟨fun k k0 k4 => by rw [s2k k0, s2k k0, s2k k0, s2k k4, s2k k0, s2k k0], fun j a1 a2 a3 => by rw [s2j a2, s2j a3, s2j a1, s2k (by decide), s2j a3, s2j a2]⟩
    · refine ⟨_, st2 (st2 v 0 14 (nI (2 * g + β))) 0 15 (nI (8 - f + 1)), hcls, ?_, ?_, ?_⟩
      · unfold f_Mod_put
        rw [tk_v, tk_v]
        simp only [tk_v, bd_v, bx_vl, bx_vr, s2s, s2k, s2j, s1s, s1k, mg_v0, mg_v1, sb_v, List.getD_cons_zero, List.getD_cons_succ, not_false_eq_true, Nat.reduceEqDiff, reduceCtorEq]
        rw [e2, e3, hg2, ← nI_succ]
        rw [bq_w (fun hh => by
          have := (nI_eq (b := 8) (by omega) (by omega)).mp hh
          omega)]
      · refine ⟨s, 2 * g + β, 8 - f + 1, f - 1, ?_, ?_, ?_, ?_, ?_, hs, by omega, Or.inr ⟨by omega, by omega, by omega, ?_, ?_, ?_⟩⟩
        · simp only [tk_v, bd_v, bx_vl, bx_vr, s2s, s2k, s2j, s1s, s1k, mg_v0, mg_v1, sb_v, List.getD_cons_zero, List.getD_cons_succ, not_false_eq_true, Nat.reduceEqDiff, reduceCtorEq]
          exact e1
        · simp only [tk_v, bd_v, bx_vl, bx_vr, s2s, s2k, s2j, s1s, s1k, mg_v0, mg_v1, sb_v, List.getD_cons_zero, List.getD_cons_succ, not_false_eq_true, Nat.reduceEqDiff, reduceCtorEq]
        · simp only [tk_v, bd_v, bx_vl, bx_vr, s2s, s2k, s2j, s1s, s1k, mg_v0, mg_v1, sb_v, List.getD_cons_zero, List.getD_cons_succ, not_false_eq_true, Nat.reduceEqDiff, reduceCtorEq]
        · simp only [tk_v, bd_v, bx_vl, bx_vr, s2s, s2k, s2j, s1s, s1k, mg_v0, mg_v1, sb_v, List.getD_cons_zero, List.getD_cons_succ, not_false_eq_true, Nat.reduceEqDiff, reduceCtorEq]
        · intro i hi
          have hne : ¬ i = s := by omega
          simp only [tk_v, bd_v, bx_vl, bx_vr, s2s, s2k, s2j, s1s, s1k, mg_v0, mg_v1, sb_v, List.getD_cons_zero, List.getD_cons_succ, not_false_eq_true, Nat.reduceEqDiff, reduceCtorEq, s2j hne]
          exact hB i hi
        · simp only [tk_v, bd_v, bx_vl, bx_vr, s2s, s2k, s2j, s1s, s1k, mg_v0, mg_v1, sb_v, List.getD_cons_zero, List.getD_cons_succ, not_false_eq_true, Nat.reduceEqDiff, reduceCtorEq]
          exact e5
        · omega
        · simp only [tk_v, bd_v, bx_vl, bx_vr, s2s, s2k, s2j, s1s, s1k, mg_v0, mg_v1, sb_v, List.getD_cons_zero, List.getD_cons_succ, not_false_eq_true, Nat.reduceEqDiff, reduceCtorEq]
      · exact ⟨fun k k0 k4 => by rw [s2k k0, s2k k0], fun j a1 a2 a3 => by rw [s2j a3, s2j a2]⟩
