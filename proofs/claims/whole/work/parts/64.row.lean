/-! frame and row -/
theorem sm_bv (b : BitVec 64) (s : Nat) (hs : s ≤ 56) : (b.sshiftRight s &&& 255#64) = ((b >>> s).setWidth 8).setWidth 64 := by
  have e : (255#64) = (BitVec.allOnes 8).setWidth 64 := by decide
  rw [e]
  apply BitVec.eq_of_getLsbD_eq
  intro i hi
  simp only [BitVec.getLsbD_and, BitVec.getLsbD_sshiftRight, BitVec.getLsbD_setWidth, BitVec.getLsbD_allOnes, BitVec.getLsbD_ushiftRight]
  by_cases h : i < 8
  · simp [h, hi, show s + i < 64 by omega, show ¬ 64 ≤ i by omega]
  · simp [h]
theorem sm_bw (b : BitVec 64) (s : Nat) : ((b >>> s).setWidth 32 &&& 255#32) = ((b >>> s).setWidth 8).setWidth 32 := by
  have e : (255#32) = (BitVec.allOnes 8).setWidth 32 := by decide
  rw [e]
  apply BitVec.eq_of_getLsbD_eq
  intro i hi
  simp only [BitVec.getLsbD_and, BitVec.getLsbD_setWidth, BitVec.getLsbD_allOnes, BitVec.getLsbD_ushiftRight]
  by_cases h : i < 8
  · simp [h, hi]
  · simp [h]
theorem sm_a (r : Int64) (c : Int32) (s : Nat) (hs : s ≤ 56) (h1 : ((c.toInt64 &&& 63).toBitVec.smod 64).toNat = s) (h2 : (c.toInt64.toUInt64 &&& Int64.toUInt64 63).toBitVec.toNat % 64 = s) : ((r.toUInt64 >>> (c.toInt64.toUInt64 &&& Int64.toUInt64 63)).toInt64).toInt32 &&& 255 = nI ((r.toBitVec >>> s).setWidth 8).toNat ∧ (r >>> (c.toInt64 &&& 63)) &&& 255 = lN ((r.toBitVec >>> s).setWidth 8).toNat := by
  constructor
  · apply Int32.toBitVec_inj.mp
    have e1 : (nI ((r.toBitVec >>> s).setWidth 8).toNat).toBitVec = ((r.toBitVec >>> s).setWidth 8).setWidth 32 := by
      apply BitVec.eq_of_toNat_eq
      simp [nI]
    rw [e1, ← sm_bw]
    simp only [Int32.toBitVec_and, Int64.toBitVec_toInt32, UInt64.toBitVec_toInt64, UInt64.toBitVec_shiftRight, Int64.toBitVec_toUInt64]
    have e2 : ((Int64.toUInt64 (c.toInt64) &&& Int64.toUInt64 63).toBitVec % 64) = BitVec.ofNat 64 s := by
      apply BitVec.eq_of_toNat_eq
      rw [BitVec.toNat_umod, show (64 : BitVec 64).toNat = 64 from rfl, h2]
      simp
      omega
    rw [e2]
    rw [BitVec.ushiftRight_eq', show (BitVec.ofNat 64 s).toNat = s by simp; omega, BitVec.signExtend_eq_setWidth_of_le _ (by omega)]
    rfl
  · apply Int64.toBitVec_inj.mp
    have e1 : (lN ((r.toBitVec >>> s).setWidth 8).toNat).toBitVec = ((r.toBitVec >>> s).setWidth 8).setWidth 64 := by
      apply BitVec.eq_of_toNat_eq
      simp [lN]
    rw [e1, ← sm_bv _ _ hs]
    simp only [Int64.toBitVec_and, Int64.toBitVec_shiftRight]
    have h1' : ((c.toInt64.toBitVec &&& Int64.toBitVec 63).smod 64).toNat = s := h1
    rw [BitVec.sshiftRight_eq', h1']
    rfl

theorem sm_k : ∀ x, x < 8 → (((56 - 8 * nI x).toInt64 &&& 63).toBitVec.smod 64).toNat = 56 - 8 * x ∧ ((56 - 8 * nI x).toInt64.toUInt64 &&& Int64.toUInt64 63).toBitVec.toNat % 64 = 56 - 8 * x := by decide +kernel
theorem sam_ok (r : Int64) (x : Nat) (hx : x < 8) : ∃ t, t < 256 ∧ f_Cod_sampleIn r (nI x) = some (nI t) ∧ (r >>> ((56 - 8 * nI x).toInt64 &&& 63)) &&& 255 = lN t := by
  obtain ⟨h1, h2⟩ := sm_a r (56 - 8 * nI x) (56 - 8 * x) (by omega) (sm_k x hx).1 (sm_k x hx).2
  refine ⟨_, ((r.toBitVec >>> (56 - 8 * x)).setWidth 8).isLt, ?_, h2⟩
  unfold f_Cod_sampleIn
  rw [tk_v, h1]
theorem row_2 (r : Int64) (W H M N j : Nat) (hW : W ≤ 8) (hj : j < H) (hH : H ≤ 8) : ∀ (d i f1 f2 : Nat) (u v : gU), i + d = W → d < f1 → d < f2 → PicW W H M N (u 1) → ModW W H M N (v 0) → SamW W H M (u 9) (u 8) (v 1) (v 2) → (∀ x, x < W → ∀ t, t < 256 → f_Cod_sampleIn r (nI x) = some (nI t) → t ≤ M) → ∃ u' v' : gU, L_Cod_takeRow_42 f1 (nI j) r (nI i) u = some (1, u') ∧ L_Mod_row_65 f2 (nI j) r (nI i) v = some (1, v') ∧ SamW W H M (u' 9) (u' 8) (v' 1) (v' 2) ∧ (∀ k, ¬ k = 9 → u' k = u k) ∧ (∀ k, ¬ k = 1 → v' k = v k) := by
  intro d
  induction d with
  | zero =>
    intro i f1 f2 u v hi hf1 hf2 hu hv hS hM
    obtain ⟨f1, rfl⟩ : ∃ f, f1 = f + 1 := ⟨f1 - 1, by omega⟩
    obtain ⟨f2, rfl⟩ : ∃ f, f2 = f + 1 := ⟨f2 - 1, by omega⟩
    refine ⟨u, v, ?_, ?_, hS, fun _ _ => rfl, fun _ _ => rfl⟩
    · unfold L_Cod_takeRow_42
      rw [hu.1, bq_v (nI_le (by omega) (by omega))]
    · unfold L_Mod_row_65
      rw [hv.1, bq_v (nI_le (by omega) (by omega))]
  | succ d ih =>
    intro i f1 f2 u v hi hf1 hf2 hu hv hS hM
    obtain ⟨f1, rfl⟩ : ∃ f, f1 = f + 1 := ⟨f1 - 1, by omega⟩
    obtain ⟨f2, rfl⟩ : ∃ f, f2 = f + 1 := ⟨f2 - 1, by omega⟩
    obtain ⟨t, ht, e1, e2⟩ := sam_ok r i (by omega)
    have htM := hM i (by omega) t ht e1
    obtain ⟨u', v', g1, g2, g3, g4, g5⟩ := ih (i + 1) f1 f2 (st2 u 9 (8 * j + i) (nI t)) (st2 v 1 (8 * j + i) (nI t)) (by omega) (by omega) (by omega) (by rw [s2k (by decide)]; exact hu) (by rw [s2k (by decide)]; exact hv) (by
      intro a b ha hb
      rw [s2k (k' := 8) (by decide), s2k (k' := 2) (by decide)]
      by_cases hc : 8 * b + a = 8 * j + i
      · rw [hc, s2s, s2s, ← hc]
        exact ⟨rfl, (hS a b ha hb).2.1, t, htM, rfl⟩
      · rw [s2j hc, s2j hc]
        exact hS a b ha hb) hM
    refine ⟨u', v', ?_, ?_, g3, fun k hk => by rw [g4 k hk, s2k hk], fun k hk => by rw [g5 k hk, s2k hk]⟩
    · unfold L_Cod_takeRow_42
      rw [hu.1, bq_w (nI_ge (by omega) (by omega)), f_Pic_place, bd_v, e1, bd_v, pl_c, gd_v (ix_n (by omega) (by omega)), tk_v, tk_v, tc_n (by omega), ← nI_succ]
      exact g1
    · unfold L_Mod_row_65
      rw [hv.1, bq_w (nI_ge (by omega) (by omega)), tk_v, e2, lN_i, pl_m, gd_v (ix_n (by omega) (by omega)), tk_v, tk_v, tc_n (by omega), ← nI_succ]
      exact g2
theorem row_1 (r : Int64) (W H M N j : Nat) (hW : W ≤ 8) (hj : j < H) (hH : H ≤ 8) (hM8 : M ≤ 255) (u v : gU) (hu : PicW W H M N (u 1)) (hv : ModW W H M N (v 0)) (hS : SamW W H M (u 9) (u 8) (v 1) (v 2)) : ∀ (d i f1 f2 : Nat), i + d = W → d < f1 → d < f2 → (∀ x, x < i → ∀ t, t < 256 → f_Cod_sampleIn r (nI x) = some (nI t) → t ≤ M) → ∃ (b : Int32) (u' v' : gU), (b = 0 ∨ b = 1) ∧ L_Cod_takeRow_3 f1 (nI j) r (nI i) u = some (b, u') ∧ L_Mod_row_22 f2 (nI j) r (nI i) v = some (b, v') ∧ SamW W H M (u' 9) (u' 8) (v' 1) (v' 2) ∧ (∀ k, ¬ k = 9 → u' k = u k) ∧ (∀ k, ¬ k = 1 → v' k = v k) := by
  intro d
  induction d with
  | zero =>
    intro i f1 f2 hi hf1 hf2 hM
    obtain ⟨f1, rfl⟩ : ∃ f, f1 = f + 1 := ⟨f1 - 1, by omega⟩
    obtain ⟨f2, rfl⟩ : ∃ f, f2 = f + 1 := ⟨f2 - 1, by omega⟩
    obtain ⟨u', v', g1, g2, g3⟩ := row_2 r W H M N j hW hj hH W 0 20 2000 u v (by omega) (by omega) (by omega) hu hv hS (fun x hx => hM x (by omega))
    refine ⟨1, u', v', Or.inr rfl, ?_, ?_, g3⟩
    · unfold L_Cod_takeRow_3
      rw [hu.1, bq_v (nI_le (by omega) (by omega))]
      exact g1
    · unfold L_Mod_row_22
      rw [hv.1, bq_v (nI_le (by omega) (by omega))]
      exact g2
  | succ d ih =>
    intro i f1 f2 hi hf1 hf2 hM
    obtain ⟨f1, rfl⟩ : ∃ f, f1 = f + 1 := ⟨f1 - 1, by omega⟩
    obtain ⟨f2, rfl⟩ : ∃ f, f2 = f + 1 := ⟨f2 - 1, by omega⟩
    obtain ⟨t, ht, e1, e2⟩ := sam_ok r i (by omega)
    unfold L_Cod_takeRow_3 L_Mod_row_22
    rw [hu.1, hv.1, bq_w (nI_ge (by omega) (by omega)), bq_w (nI_ge (by omega) (by omega)), e1, bd_v, tk_v, tk_v, e2, hu.2.2.1, hv.2.2.1, nI_l (n := M) (by omega)]
    by_cases hc : t ≤ M
    · rw [bq_v (nI_le hc (by omega)), bq_v ((lg_cmp_le _ _).mpr ((pk_lLE (by omega) (by omega)).mpr hc)), tk_v, ← nI_succ]
      refine ih (i + 1) f1 f2 (by omega) (by omega) (by omega) ?_
      intro x hx t' ht' et'
      by_cases hxi : x = i
      · subst hxi
        rw [e1] at et'
        have := (nI_eq (by omega) (by omega)).mp (Option.some.inj et')
        omega
      · exact hM x (by omega) t' ht' et'
    · rw [bq_w (nI_ge (by omega) (by omega)), bq_w (fun hh => hc ((pk_lLE (by omega) (by omega)).mp ((lg_cmp_le _ _).mp hh)))]
      exact ⟨0, u, v, Or.inl rfl, rfl, rfl, hS, fun _ _ => rfl, fun _ _ => rfl⟩

theorem call_row {x y : gU} (h : Inv x y) (a : Int32) (n : Int64) : ∃ (r : Int32) (v vm : gU), f_Grc_row a n x = some (r, v) ∧ f_Mod_row a n y = some (r, vm) ∧ Inv v vm := by
  have hI := Inv_0 (v := 0) h
  have h0 := hI
  obtain ⟨W, H, M, N, z, h1, h2, h3, h4, h5, hz, e1, e2, hB⟩ := h0
  obtain ⟨q1, q2, q3, q4, q5, q6, q7, q8⟩ := h1
  unfold f_Grc_row f_Mod_row
  simp only [tk_v]
  rw [h2.2.1, h3.2.1]
  by_cases ha0 : a < 0
  · rw [bq_v ha0, bq_v ha0]
    exact ⟨_, _, _, rfl, rfl, hI⟩
  · rw [bq_w ha0, bq_w ha0]
    rcases pk_ix a (n := H) (by omega) with ha | ha | ⟨j, hj, rfl⟩
    · exact absurd ha ha0
    · have ha1 : ¬ a < nI H := by
        rw [i_lt]
        rw [i_le] at ha
        omega
      rw [bq_w ha1, bq_w ha1]
      exact ⟨_, _, _, rfl, rfl, hI⟩
    · have a1 : nI j < nI H := nI_lt hj (by omega)
      rw [bq_v a1, bq_v a1]
      obtain ⟨b, u', v', hb, g1, g2, g3, g4, g5⟩ := row_1 n W H M N j q2 hj q4 q6 (sb [1, 2, 3, 4, 5, 6, 7, 8, 9, 10, 11, 12] x) (st2 y 0 0 0) h2 h3 h5 W 0 20 2000 (by omega) (by omega) (by omega) (fun x hx => absurd hx (by omega))
      rw [show f_Cod_takeRow (nI j) n (sb [1, 2, 3, 4, 5, 6, 7, 8, 9, 10, 11, 12] x) = some (b, u') from g1, bd_v, show L_Mod_row_22 2000 (nI j) n 0 (st2 y 0 0 0) = some (b, v') from g2, gd_v hb]
      refine ⟨_, _, _, rfl, rfl, W, H, M, N, z, ⟨q1, q2, q3, q4, q5, q6, q7, q8⟩, ?_, ?_, ?_, ?_, hz, ?_, ?_, ?_⟩
      · simp only [tk_v, bd_v, bx_vl, bx_vr, s2s, s2k, s2j, s1s, s1k, mg_v0, mg_v1, sb_v, List.getD_cons_zero, List.getD_cons_succ, not_false_eq_true, Nat.reduceEqDiff, reduceCtorEq, g4]
        exact h2
      · rw [g5 0 (by decide)]
        exact h3
      · refine CX_eq h4 ?_ (fun q hq => ?_) (by rw [g5 0 (by decide)]) (g5 3 (by decide))
        · simp only [tk_v, bd_v, bx_vl, bx_vr, s2s, s2k, s2j, s1s, s1k, mg_v0, mg_v1, sb_v, List.getD_cons_zero, List.getD_cons_succ, not_false_eq_true, Nat.reduceEqDiff, reduceCtorEq, g4]
        · simp only [tk_v, bd_v, bx_vl, bx_vr, s2s, s2k, s2j, s1s, s1k, mg_v0, mg_v1, sb_v, List.getD_cons_zero, List.getD_cons_succ, not_false_eq_true, Nat.reduceEqDiff, reduceCtorEq, g4, and_self]
      · simp only [tk_v, bd_v, bx_vl, bx_vr, s2s, s2k, s2j, s1s, s1k, mg_v0, mg_v1, sb_v, List.getD_cons_zero, List.getD_cons_succ, not_false_eq_true, Nat.reduceEqDiff, reduceCtorEq]
        exact g3
      · simp only [tk_v, bd_v, bx_vl, bx_vr, s2s, s2k, s2j, s1s, s1k, mg_v0, mg_v1, sb_v, List.getD_cons_zero, List.getD_cons_succ, not_false_eq_true, Nat.reduceEqDiff, reduceCtorEq, g4]
        exact e1
      · rw [g5 0 (by decide)]
        exact e2
      · simp only [tk_v, bd_v, bx_vl, bx_vr, s2s, s2k, s2j, s1s, s1k, mg_v0, mg_v1, sb_v, List.getD_cons_zero, List.getD_cons_succ, not_false_eq_true, Nat.reduceEqDiff, reduceCtorEq, g4]
        rw [g5 4 (by decide)]
        exact hB
theorem fits_c (a b c d : Int32) : (f_Pic_fits a b c d = some 0 ∧ f_Mod_fits a b c d = some 0) ∨ ∃ W H M N : Nat, PN W H M N ∧ a = nI W ∧ b = nI H ∧ c = nI M ∧ d = nI N ∧ f_Pic_fits a b c d = some 1 ∧ f_Mod_fits a b c d = some 1 := by
  have hf : f_Mod_fits a b c d = f_Pic_fits a b c d := rfl
  rw [hf]
  unfold f_Pic_fits
  by_cases a1 : a < 1
  · exact Or.inl ⟨bq_v a1, bq_v a1⟩
  by_cases a2 : 8 < a
  · rw [bq_w a1, bq_v a2]
    exact Or.inl ⟨rfl, rfl⟩
  by_cases b1 : b < 1
  · rw [bq_w a1, bq_w a2, bq_v b1]
    exact Or.inl ⟨rfl, rfl⟩
  by_cases b2 : 8 < b
  · rw [bq_w a1, bq_w a2, bq_w b1, bq_v b2]
    exact Or.inl ⟨rfl, rfl⟩
  by_cases c1 : c < 3
  · rw [bq_w a1, bq_w a2, bq_w b1, bq_w b2, bq_v c1]
    exact Or.inl ⟨rfl, rfl⟩
  by_cases c2 : 255 < c
  · rw [bq_w a1, bq_w a2, bq_w b1, bq_w b2, bq_w c1, bq_v c2]
    exact Or.inl ⟨rfl, rfl⟩
  by_cases d1 : d < 0
  · rw [bq_w a1, bq_w a2, bq_w b1, bq_w b2, bq_w c1, bq_w c2, bq_v d1]
    exact Or.inl ⟨rfl, rfl⟩
  by_cases d2 : 3 < d
  · rw [bq_w a1, bq_w a2, bq_w b1, bq_w b2, bq_w c1, bq_w c2, bq_w d1, bq_v d2]
    exact Or.inl ⟨rfl, rfl⟩
  by_cases d3 : c / 2 < d
  · rw [bq_w a1, bq_w a2, bq_w b1, bq_w b2, bq_w c1, bq_w c2, bq_w d1, bq_w d2, bq_v d3]
    exact Or.inl ⟨rfl, rfl⟩
  rw [bq_w a1, bq_w a2, bq_w b1, bq_w b2, bq_w c1, bq_w c2, bq_w d1, bq_w d2, bq_w d3]
  have rgA : ∀ {z lo hi : Int32} (L U : Nat), lo.toInt = L → hi.toInt = U → ¬ z < lo → ¬ hi < z → ∃ n : Nat, L ≤ n ∧ n ≤ U ∧ z = nI n := by
    intro z lo hi L U e1 e2 k1 k2
    rw [i_lt] at k1 k2
    obtain ⟨n, hn, hz⟩ := nI_of (x := z) (by rw [i_lt]; simp; omega)
    have := nI_toInt hn
    rw [← hz] at this
    exact ⟨n, by omega, by omega, hz⟩
  obtain ⟨W, w1, w2, rfl⟩ := rgA 1 8 rfl rfl a1 a2
  obtain ⟨H, w3, w4, rfl⟩ := rgA 1 8 rfl rfl b1 b2
  obtain ⟨M, w5, w6, rfl⟩ := rgA 3 255 rfl rfl c1 c2
  obtain ⟨N, w7, w8, rfl⟩ := rgA 0 3 rfl rfl d1 d2
  have hd : nI M / 2 = nI (M / 2) := pk_div (d := 2) (by omega) (by omega) (by omega)
  rw [hd] at d3
  have d4 : N ≤ M / 2 := by
    rcases Nat.lt_or_ge (M / 2) N with hh | hh
    · exact absurd (nI_lt hh (by omega)) d3
    · exact hh
  exact Or.inr ⟨W, H, M, N, ⟨w1, w2, w3, w4, w5, w6, w8, by omega⟩, rfl, rfl, rfl, rfl, rfl, rfl⟩
theorem frame_50 : ∀ (d i fuel : Nat) (u : gU), i + d = 64 → d < fuel → ∃ u' : gU, L_Mod_frame_50 fuel (nI i) u = some (1, u') ∧ (∀ j, j < 64 → u' 1 j = if i ≤ j then 0 else u 1 j) ∧ u' 0 13 = 0 ∧ (∀ j, ¬ j = 13 → u' 0 j = u 0 j) ∧ (∀ k, ¬ k = 0 → ¬ k = 1 → u' k = u k) := by
  intro d
  induction d with
  | zero =>
    intro i fuel u hi hf
    obtain ⟨f, rfl⟩ : ∃ f, fuel = f + 1 := ⟨fuel - 1, by omega⟩
    have hi' : i = 64 := by omega
    subst hi'
    refine ⟨st2 u 0 13 0, ?_, fun j hj => ?_, s2s, fun j hj => s2j hj, fun k k0 _ => s2k k0⟩
    · unfold L_Mod_frame_50
      rw [bq_v (by decide), tk_v]
    · rw [if_neg (by omega), s2k (by decide)]
  | succ d ih =>
    intro i fuel u hi hf
    obtain ⟨f, rfl⟩ : ∃ f, fuel = f + 1 := ⟨fuel - 1, by omega⟩
    obtain ⟨u', e, h1, h2, h3, h4⟩ := ih (i + 1) f (st2 u 1 i 0) (by omega) (by omega)
    refine ⟨u', ?_, fun j hj => ?_, h2, fun j hj => by rw [h3 j hj, s2k (by decide)], fun k k0 k1 => by rw [h4 k k0 k1, s2k k1]⟩
    · unfold L_Mod_frame_50
      rw [bq_w (show ¬ (64 : Int32) ≤ nI i from nI_ge (b := 64) (by omega) (by omega)), gd_v (ix_n (by omega) (by omega)), tk_v, tk_v, tc_n (by omega), ← nI_succ]
      exact e
    · rw [h1 j hj]
      by_cases hji : j = i
      · subst hji
        rw [if_neg (by omega), if_pos (by omega), s2s]
      · rw [s2j hji]
        by_cases hc : i ≤ j
        · rw [if_pos hc, if_pos (by omega)]
        · rw [if_neg hc, if_neg (by omega)]
theorem rg_lt {M N : Nat} (h2 : M ≤ 255) : (M + 2 * N) / (2 * N + 1) + 1 < 300 := by
  have : (M + 2 * N) / (2 * N + 1) ≤ M := by
    rw [Nat.div_le_iff_le_mul_add_pred (by omega)]
    have : M ≤ (2 * N + 1) * M := Nat.le_mul_of_pos_left M (by omega)
    omega
  omega
theorem begin_ok {W H M N : Nat} (hP : PN W H M N) (u : gU) : ∃ u' : gU, f_Cod_beginPicture (nI W) (nI H) (nI M) (nI N) u = some u' ∧ PicW W H M N (u' 1) ∧ u' 2 0 = 0 ∧ (∀ q, q < 367 → u' 3 q = mxI 2 ((nI ((M + 2 * N) / (2 * N + 1) + 1) + 32) / 64) ∧ u' 4 q = 0 ∧ u' 5 q = 0 ∧ u' 6 q = 1 ∧ u' 7 q = 0) ∧ (∀ j, j < 64 → u' 9 j = 0) ∧ (∀ j, j < 64 → u' 8 j = 0) ∧ u' 10 0 = 0 := by
  obtain ⟨q1, q2, q3, q4, q5, q6, q7, q8⟩ := hP
  unfold f_Cod_beginPicture
  obtain ⟨w1, e1, a0, a1, a2, a3, a4, a5, a6⟩ := become_ok q5 q6 q7 q8 (nI W) (nI H) (sb [1] u)
  rw [e1, bd_v, tk_v]
  have rr := (nb_ok q5 q6 q7 q8).2.2.2.2.2.2.2.2.1
  have hr : mg [1] 0 u w1 1 5 = nI ((M + 2 * N) / (2 * N + 1) + 1) := by
    simp only [tk_v, bd_v, bx_vl, bx_vr, s2s, s2k, s2j, s1s, s1k, mg_v0, mg_v1, sb_v, List.getD_cons_zero, List.getD_cons_succ, not_false_eq_true, Nat.reduceEqDiff, reduceCtorEq]
    rw [a4 5 (by omega) (by omega), ← rr]
    rfl
  rw [hr]
  have hp : PicW W H M N (mg [1] 0 u w1 1) := by
    simp only [tk_v, bd_v, bx_vl, bx_vr, s2s, s2k, s2j, s1s, s1k, mg_v0, mg_v1, sb_v, List.getD_cons_zero, List.getD_cons_succ, not_false_eq_true, Nat.reduceEqDiff, reduceCtorEq]
    exact ⟨a0, a1, a2, a3, a4⟩
  generalize mg [1] 0 u w1 = u2 at hp
  obtain ⟨w3, e3, b0, b1, b2⟩ := restart_ok (nI ((M + 2 * N) / (2 * N + 1) + 1)) (sb [2, 3, 4, 5, 6, 7] u2)
  rw [e3, bd_v, tk_v]
  obtain ⟨w5, e5, c1⟩ := fill_ok 64 (by omega) 0 (sb [9] (mg [2, 3, 4, 5, 6, 7] 0 u2 w3))
  rw [e5, bd_v, tk_v]
  obtain ⟨w7, e7, d1⟩ := fill_ok 64 (by omega) 0 (sb [8] (mg [9] 0 (mg [2, 3, 4, 5, 6, 7] 0 u2 w3) w5))
  rw [e7, bd_v, tk_v, tk_v]
  refine ⟨_, rfl, ?_, ?_, ?_, ?_, ?_, s2s⟩
  · simp only [tk_v, bd_v, bx_vl, bx_vr, s2s, s2k, s2j, s1s, s1k, mg_v0, mg_v1, sb_v, List.getD_cons_zero, List.getD_cons_succ, not_false_eq_true, Nat.reduceEqDiff, reduceCtorEq]
    exact hp
  · simp only [tk_v, bd_v, bx_vl, bx_vr, s2s, s2k, s2j, s1s, s1k, mg_v0, mg_v1, sb_v, List.getD_cons_zero, List.getD_cons_succ, not_false_eq_true, Nat.reduceEqDiff, reduceCtorEq]
    exact b0
  · simp only [tk_v, bd_v, bx_vl, bx_vr, s2s, s2k, s2j, s1s, s1k, mg_v0, mg_v1, sb_v, List.getD_cons_zero, List.getD_cons_succ, not_false_eq_true, Nat.reduceEqDiff, reduceCtorEq]
    exact b1
  · simp only [tk_v, bd_v, bx_vl, bx_vr, s2s, s2k, s2j, s1s, s1k, mg_v0, mg_v1, sb_v, List.getD_cons_zero, List.getD_cons_succ, not_false_eq_true, Nat.reduceEqDiff, reduceCtorEq]
    exact c1
  · simp only [tk_v, bd_v, bx_vl, bx_vr, s2s, s2k, s2j, s1s, s1k, mg_v0, mg_v1, sb_v, List.getD_cons_zero, List.getD_cons_succ, not_false_eq_true, Nat.reduceEqDiff, reduceCtorEq]
    exact d1
theorem frameM_ok {W H M N : Nat} (hP : PN W H M N) (y : gU) (hf : f_Mod_fits (nI W) (nI H) (nI M) (nI N) = some 1) : ∃ y' : gU, f_Mod_frame (nI W) (nI H) (nI M) (nI N) y = some (1, y') ∧ ModW W H M N (y' 0) ∧ y' 0 12 = 0 ∧ (∀ q, q < 367 → y' 3 (5 * q) = mxI 2 ((nI ((M + 2 * N) / (2 * N + 1) + 1) + 32) / 64) ∧ y' 3 (5 * q + 1) = 0 ∧ y' 3 (5 * q + 2) = 0 ∧ y' 3 (5 * q + 3) = 1 ∧ y' 3 (5 * q + 4) = 0) ∧ (∀ j, j < 64 → y' 1 j = 0) ∧ (∀ j, j < 64 → y' 2 j = 0) ∧ y' 0 13 = 0 := by
  unfold f_Mod_frame
  rw [tk_v, hf, bd_v, bq_w (by decide)]
  obtain ⟨q1, q2, q3, q4, q5, q6, q7, q8⟩ := hP
  simp only [tk_v]
  obtain ⟨y7, k1, k2, k3, k4⟩ := prepare_ok q5 q6 q7 q8 (st2 (st2 (st2 (st2 (st2 y 0 0 0) 0 1 (nI W)) 0 2 (nI H)) 0 3 (nI M)) 0 4 (nI N)) (by simp only [tk_v, bd_v, bx_vl, bx_vr, s2s, s2k, s2j, s1s, s1k, mg_v0, mg_v1, sb_v, List.getD_cons_zero, List.getD_cons_succ, not_false_eq_true, Nat.reduceEqDiff, reduceCtorEq]) (by simp only [tk_v, bd_v, bx_vl, bx_vr, s2s, s2k, s2j, s1s, s1k, mg_v0, mg_v1, sb_v, List.getD_cons_zero, List.getD_cons_succ, not_false_eq_true, Nat.reduceEqDiff, reduceCtorEq])
  rw [k1, bd_v]
  obtain ⟨y9, l1, l2, l3, l4, l5, l6⟩ := forget_ok y7
  rw [l1, bd_v]
  obtain ⟨y10, o1, o2, o3, o4, o5⟩ := frame_50 64 0 2000 y9 (by omega) (by omega)
  rw [nI_0] at o1
  rw [o1]
  have rr := (nb_ok q5 q6 q7 q8).2.2.2.2.2.2.2.2.1
  have hr2 : y7 0 6 = nI ((M + 2 * N) / (2 * N + 1) + 1) := by
    rw [k2 5 (by omega) (by omega), ← rr]
    rfl
  rw [hr2] at l4
  have t : ∀ j, j < 12 → y10 0 j = y7 0 j := fun j hj => by rw [o4 j (by omega), l3 j (by omega)]
  refine ⟨_, rfl, ⟨?_, ?_, ?_, ?_, fun k p1 p2 => by rw [t _ (by omega), k2 k p1 p2]⟩, by rw [o4 12 (by omega), l2], by rw [o5 3 (by omega) (by omega)]; exact l4, fun j hj => ?_, fun j hj => ?_, o3⟩
  · rw [t 1 (by omega), k3 1 (by omega)]
    simp only [tk_v, bd_v, bx_vl, bx_vr, s2s, s2k, s2j, s1s, s1k, mg_v0, mg_v1, sb_v, List.getD_cons_zero, List.getD_cons_succ, not_false_eq_true, Nat.reduceEqDiff, reduceCtorEq]
  · rw [t 2 (by omega), k3 2 (by omega)]
    simp only [tk_v, bd_v, bx_vl, bx_vr, s2s, s2k, s2j, s1s, s1k, mg_v0, mg_v1, sb_v, List.getD_cons_zero, List.getD_cons_succ, not_false_eq_true, Nat.reduceEqDiff, reduceCtorEq]
  · rw [t 3 (by omega), k3 3 (by omega)]
    simp only [tk_v, bd_v, bx_vl, bx_vr, s2s, s2k, s2j, s1s, s1k, mg_v0, mg_v1, sb_v, List.getD_cons_zero, List.getD_cons_succ, not_false_eq_true, Nat.reduceEqDiff, reduceCtorEq]
  · rw [t 4 (by omega), k3 4 (by omega)]
    simp only [tk_v, bd_v, bx_vl, bx_vr, s2s, s2k, s2j, s1s, s1k, mg_v0, mg_v1, sb_v, List.getD_cons_zero, List.getD_cons_succ, not_false_eq_true, Nat.reduceEqDiff, reduceCtorEq]
  · rw [o2 _ hj, if_pos (by omega)]
  · rw [o5 2 (by decide) (by decide), l5 _ (by omega)]
theorem call_frame {x y : gU} (h : Inv x y) (a b c d : Int32) : ∃ (r : Int32) (v vm : gU), f_Grc_frame a b c d x = some (r, v) ∧ f_Mod_frame a b c d y = some (r, vm) ∧ Inv v vm := by
  rcases fits_c a b c d with ⟨g1, g2⟩ | ⟨W, H, M, N, hP, rfl, rfl, rfl, rfl, g1, g2⟩
  · unfold f_Grc_frame f_Mod_frame
    rw [g1, g2, bd_v, bq_v rfl, tk_v, bd_v, bq_v rfl]
    exact ⟨_, _, _, rfl, rfl, Inv_0 (v := 0) h⟩
  · obtain ⟨w, e, a1, a2, a3, a4, a5, a6⟩ := begin_ok hP (sb [1, 2, 3, 4, 5, 6, 7, 8, 9, 10, 11, 12] x)
    obtain ⟨y', f, b1, b2, b3, b4, b5, b6⟩ := frameM_ok hP y g2
    refine ⟨1, mg [1, 2, 3, 4, 5, 6, 7, 8, 9, 10, 11, 12] 0 x w, y', ?_, f, W, H, M, N, 0, hP, ?_, b1, ?_, ?_, by omega, ?_, b6, ?_⟩
    · unfold f_Grc_frame
      rw [g1, bd_v, bq_w (by decide), e, bd_v, tk_v]
    · simp only [tk_v, bd_v, bx_vl, bx_vr, s2s, s2k, s2j, s1s, s1k, mg_v0, mg_v1, sb_v, List.getD_cons_zero, List.getD_cons_succ, not_false_eq_true, Nat.reduceEqDiff, reduceCtorEq]
      exact a1
    · refine CX_new (rg_lt (N := N) hP.2.2.2.2.2.1) ?_ ?_ b2 b3
      · simp only [tk_v, bd_v, bx_vl, bx_vr, s2s, s2k, s2j, s1s, s1k, mg_v0, mg_v1, sb_v, List.getD_cons_zero, List.getD_cons_succ, not_false_eq_true, Nat.reduceEqDiff, reduceCtorEq]
        exact a2
      · simp only [tk_v, bd_v, bx_vl, bx_vr, s2s, s2k, s2j, s1s, s1k, mg_v0, mg_v1, sb_v, List.getD_cons_zero, List.getD_cons_succ, not_false_eq_true, Nat.reduceEqDiff, reduceCtorEq]
        exact a3
    · intro i j hi hj
      obtain ⟨q1, q2, q3, q4, q5, q6, q7, q8⟩ := hP
      simp only [tk_v, bd_v, bx_vl, bx_vr, s2s, s2k, s2j, s1s, s1k, mg_v0, mg_v1, sb_v, List.getD_cons_zero, List.getD_cons_succ, not_false_eq_true, Nat.reduceEqDiff, reduceCtorEq]
      rw [a4 _ (by omega), a5 _ (by omega), b4 _ (by omega), b5 _ (by omega)]
      exact ⟨rfl, rfl, 0, by omega, rfl⟩
    · simp only [tk_v, bd_v, bx_vl, bx_vr, s2s, s2k, s2j, s1s, s1k, mg_v0, mg_v1, sb_v, List.getD_cons_zero, List.getD_cons_succ, not_false_eq_true, Nat.reduceEqDiff, reduceCtorEq]
      exact a6
    · exact fun i hi => absurd hi (by omega)
