/-! what holds between two calls; the calls that only answer, poke and cut -/
def PicW (W H M N : Nat) (f : Nat → Int32) : Prop := f 0 = nI W ∧ f 1 = nI H ∧ f 2 = nI M ∧ f 3 = nI N ∧ ∀ k, 4 ≤ k → k < 11 → f k = nbI (nI M) (nI N) k
def ModW (W H M N : Nat) (g : Nat → Int32) : Prop := g 1 = nI W ∧ g 2 = nI H ∧ g 3 = nI M ∧ g 4 = nI N ∧ ∀ k, 4 ≤ k → k < 11 → g (k + 1) = nbI (nI M) (nI N) k
def SamW (W H M : Nat) (s r s' r' : Nat → Int32) : Prop := ∀ i j, i < W → j < H → s (8 * j + i) = s' (8 * j + i) ∧ r (8 * j + i) = r' (8 * j + i) ∧ ∃ t : Nat, t ≤ M ∧ s' (8 * j + i) = nI t
def BytW (z : Nat) (b b' : Nat → Int32) : Prop := ∀ i, i < z → ∃ t : Nat, t < 256 ∧ b i = nI t ∧ b' i = nI t
def Inv1 (W H M N z : Nat) (x y : gU) : Prop := PN W H M N ∧ PicW W H M N (x 2) ∧ ModW W H M N (y 0) ∧ CX (sb [3, 4, 5, 6, 7, 8] x) y ∧ SamW W H M (x 10) (x 9) (y 1) (y 2) ∧ z ≤ 512 ∧ x 11 0 = nI z ∧ y 0 13 = nI z ∧ BytW z (x 12) (y 4)
def Inv (x y : gU) : Prop := ∃ W H M N z : Nat, Inv1 W H M N z x y
theorem ModW_eq {W H M N : Nat} {g g' : Nat → Int32} (h : ModW W H M N g) (e : ∀ j, 1 ≤ j → j ≤ 11 → g' j = g j) : ModW W H M N g' := by
  obtain ⟨a, b, c, d, f⟩ := h
  exact ⟨by rw [e 1 (by omega) (by omega), a], by rw [e 2 (by omega) (by omega), b], by rw [e 3 (by omega) (by omega), c], by rw [e 4 (by omega) (by omega), d], fun k h1 h2 => by rw [e (k + 1) (by omega) (by omega), f k h1 h2]⟩
theorem Inv_0 {x y : gU} {v : Int32} (h : Inv x y) : Inv x (st2 y 0 0 v) := by
  obtain ⟨W, H, M, N, z, h1, h2, h3, h4, h5, h6, h7, h8, h9⟩ := h
  refine ⟨W, H, M, N, z, h1, h2, ModW_eq h3 (fun j a b => s2j (by omega)), CX_eq h4 rfl (fun q _ => ⟨rfl, rfl, rfl, rfl, rfl⟩) (s2j (by decide)) (s2k (by decide)), ?_, h6, h7, by rw [s2j (by decide)]; exact h8, ?_⟩
  · rw [s2k (by decide), s2k (by decide)]
    exact h5
  · rw [s2k (by decide)]
    exact h9
theorem bq_2 {c : Prop} {d d' : Decidable c} {A B : Option Int32} {A' B' : Option (Int32 × gU)} {y : gU} (h1 : c → ∃ r, A = some r ∧ A' = some (r, y)) (h2 : ¬ c → ∃ r, B = some r ∧ B' = some (r, y)) : ∃ r, @bq _ c d A B = some r ∧ @bq _ c d' A' B' = some (r, y) := by
  by_cases h : c
  · rw [bq_v h, bq_v h]
    exact h1 h
  · rw [bq_w h, bq_w h]
    exact h2 h
theorem call_size {x y : gU} (h : Inv x y) : ∃ (r : Int32) (vm : gU), f_Grc_size x = some r ∧ f_Mod_size y = some (r, vm) ∧ Inv x vm := by
  have h0 := Inv_0 (v := 0) h
  obtain ⟨W, H, M, N, z, h1, h2, h3, h4, h5, h6, h7, h8, h9⟩ := h0
  exact ⟨x 11 0, st2 y 0 0 0, rfl, by rw [f_Mod_size, tk_v, h7, h8], Inv_0 h⟩
theorem call_runIndex {x y : gU} (h : Inv x y) : ∃ (r : Int32) (vm : gU), f_Grc_runIndex x = some r ∧ f_Mod_runIndex y = some (r, vm) ∧ Inv x vm := by
  have h0 := Inv_0 (v := 0) h
  obtain ⟨W, H, M, N, z, h1, h2, h3, h4, h5, h6, h7, h8, h9⟩ := h0
  refine ⟨x 3 0, st2 y 0 0 0, rfl, ?_, Inv_0 h⟩
  rw [f_Mod_runIndex, tk_v, ← h4.1]
  rfl
theorem call_number {x y : gU} (h : Inv x y) (a : Int32) : ∃ (r : Int32) (vm : gU), f_Grc_number a x = some r ∧ f_Mod_number a y = some (r, vm) ∧ Inv x vm := by
  have h0 := Inv_0 (v := 0) h
  have hI := h0
  obtain ⟨W, H, M, N, z, h1, ⟨p0, p1, p2, p3, p4⟩, ⟨m0, m1, m2, m3, m4⟩, -⟩ := h0
  have key : ∃ r, f_Grc_number a x = some r ∧ f_Mod_number a y = some (r, st2 y 0 0 0) := by
    unfold f_Grc_number f_Mod_number
    rw [tk_v]
    refine bq_2 (fun _ => ⟨_, rfl, by rw [m0, p0]⟩) (fun _ => bq_2 (fun _ => ⟨_, rfl, by rw [m1, p1]⟩) (fun _ => bq_2 (fun _ => ⟨_, rfl, by rw [m2, p2]⟩) (fun _ => bq_2 (fun _ => ⟨_, rfl, by rw [m3, p3]⟩) (fun _ => bq_2 (fun _ => ⟨_, rfl, by rw [m4 5 (by omega) (by omega), p4 5 (by omega) (by omega)]⟩) (fun _ => bq_2 (fun _ => ⟨_, rfl, by rw [m4 6 (by omega) (by omega), p4 6 (by omega) (by omega)]⟩) (fun _ => bq_2 (fun _ => ⟨_, rfl, by rw [m4 7 (by omega) (by omega), p4 7 (by omega) (by omega)]⟩) (fun _ => bq_2 (fun _ => ⟨_, rfl, by rw [m4 8 (by omega) (by omega), p4 8 (by omega) (by omega)]⟩) (fun _ => bq_2 (fun _ => ⟨_, rfl, by rw [m4 9 (by omega) (by omega), p4 9 (by omega) (by omega)]⟩) (fun _ => bq_2 (fun _ => ⟨_, rfl, by rw [m4 10 (by omega) (by omega), p4 10 (by omega) (by omega)]⟩) (fun _ => ⟨_, rfl, rfl⟩))))))))))
  obtain ⟨r, e1, e2⟩ := key
  exact ⟨r, _, e1, e2, hI⟩
theorem call_context {x y : gU} (h : Inv x y) (a b : Int32) : ∃ (r : Int32) (vm : gU), f_Grc_context a b x = some r ∧ f_Mod_context a b y = some (r, vm) ∧ Inv x vm := by
  have hI := Inv_0 (v := 0) h
  have h0 := hI
  obtain ⟨W, H, M, N, z, -, -, -, ⟨-, -, -, hc⟩, -⟩ := h0
  have key : ∃ r, f_Grc_context a b x = some r ∧ f_Mod_context a b y = some (r, st2 y 0 0 0) := by
    unfold f_Grc_context f_Mod_context
    rw [tk_v]
    rcases pk_ix a (n := 367) (by omega) with ha | ha | ⟨q, hq, rfl⟩
    · rw [bq_v ha, bq_v ha]
      exact ⟨_, rfl, rfl⟩
    · have ha0 : ¬ a < 0 := by
        have := nI_toInt (n := 367) (by omega)
        rw [i_le] at ha
        rw [i_lt]
        simp only [Int32.toInt_zero]
        omega
      have ha1 : ¬ a < 367 := by
        have := nI_toInt (n := 367) (by omega)
        rw [i_le] at ha
        rw [i_lt]
        exact fun hh => absurd hh (by rw [show (367 : Int32) = nI 367 from rfl]; omega)
      rw [bq_w ha0, bq_w ha1, bq_w ha0, bq_v (show (367 : Int32) ≤ a from ha)]
      exact ⟨_, rfl, rfl⟩
    · have a0 : ¬ nI q < 0 := nI_pos (by omega)
      have a1 : nI q < 367 := nI_lt (b := 367) hq (by omega)
      have a2 : ¬ (367 : Int32) ≤ nI q := nI_ge (b := 367) hq (by omega)
      obtain ⟨c1, c2, c3, c4, c5, -⟩ := hc q hq
      have t0 : tc (nI q) = q := tc_n (by omega)
      rw [bq_w a0, bq_v a1, bq_w a0, bq_w a2, t0, n5]
      simp only [gd_v (ix_n hq (by omega))]
      by_cases b0 : b = 0
      · subst b0
        rw [bq_v rfl, bq_w (by decide), bq_w (by decide), show nI (5 * q) + 0 = nI (5 * q) from nI_add (5 * q) 0, gd_v (ix_n (by omega) (by omega)), tc_n (by omega)]
        exact ⟨_, rfl, by rw [← c1]; rfl⟩
      · rw [bq_w b0]
        by_cases b1 : b = 1
        · subst b1
          rw [bq_v rfl, bq_w (by decide), bq_w (by decide), n1, gd_v (ix_n (by omega) (by omega)), tc_n (by omega)]
          exact ⟨_, rfl, by rw [← c2]; rfl⟩
        · rw [bq_w b1]
          by_cases b2 : b = 2
          · subst b2
            rw [bq_v rfl, bq_w (by decide), bq_w (by decide), n2, gd_v (ix_n (by omega) (by omega)), tc_n (by omega)]
            exact ⟨_, rfl, by rw [← c3]; rfl⟩
          · rw [bq_w b2]
            by_cases b3 : b = 3
            · subst b3
              rw [bq_v rfl, bq_w (by decide), bq_w (by decide), n3, gd_v (ix_n (by omega) (by omega)), tc_n (by omega)]
              exact ⟨_, rfl, by rw [← c4]; rfl⟩
            · rw [bq_w b3]
              by_cases b4 : b = 4
              · subst b4
                rw [bq_v rfl, bq_w (by decide), bq_w (by decide), n4, gd_v (ix_n (by omega) (by omega)), tc_n (by omega)]
                exact ⟨_, rfl, by rw [← c5]; rfl⟩
              · rw [bq_w b4]
                by_cases b5 : b < 0
                · rw [bq_v b5]
                  exact ⟨_, rfl, rfl⟩
                · rw [bq_w b5, bq_v]
                  · exact ⟨_, rfl, rfl⟩
                  · rw [i_eq] at b0 b1 b2 b3 b4
                    rw [i_lt] at b5
                    rw [i_le]
                    simp at b0 b1 b2 b3 b4 b5 ⊢
                    omega
  obtain ⟨r, e1, e2⟩ := key
  exact ⟨r, _, e1, e2, hI⟩
theorem place_ok (W H : Nat) (hW : W ≤ 8) (hH : H ≤ 8) (a b : Int32) (u v : gU) (e0 : u 0 0 = nI W) (e1 : u 0 1 = nI H) (f0 : v 0 1 = nI W) (f1 : v 0 2 = nI H) : (f_Pic_hasPlace a b u = some 0 ∧ f_Mod_isPlace a b v = some 0) ∨ ∃ i j : Nat, i < W ∧ j < H ∧ a = nI i ∧ b = nI j ∧ f_Pic_hasPlace a b u = some 1 ∧ f_Mod_isPlace a b v = some 1 := by
  unfold f_Pic_hasPlace f_Mod_isPlace
  rw [e0, e1, f0, f1]
  by_cases ha0 : a < 0
  · exact Or.inl ⟨bq_v ha0, bq_v ha0⟩
  · rw [bq_w ha0]
    rcases pk_ix a (n := W) (by omega) with ha | ha | ⟨i, hi, ea⟩
    · exact absurd ha ha0
    · exact Or.inl ⟨bq_v ha, bq_v ha⟩
    · have ha1 : ¬ nI W ≤ a := by rw [ea]; exact nI_ge hi (by omega)
      rw [bq_w ha1]
      by_cases hb0 : b < 0
      · exact Or.inl ⟨bq_v hb0, bq_v hb0⟩
      · rw [bq_w hb0]
        rcases pk_ix b (n := H) (by omega) with hb | hb | ⟨j, hj, eb⟩
        · exact absurd hb hb0
        · exact Or.inl ⟨bq_v hb, bq_v hb⟩
        · have hb1 : ¬ nI H ≤ b := by rw [eb]; exact nI_ge hj (by omega)
          rw [bq_w hb1]
          exact Or.inr ⟨i, j, hi, hj, ea, eb, rfl, rfl⟩
theorem pl_c (i j : Nat) : nI j * 8 + nI i = nI (8 * j + i) := by
  rw [show nI j * 8 = nI (j * 8) from pk_mul j 8, nI_add, Nat.mul_comm]
theorem pl_m (i j : Nat) : 8 * nI j + nI i = nI (8 * j + i) := by
  rw [show 8 * nI j = nI (8 * j) from pk_mul 8 j, nI_add]
theorem call_sample {x y : gU} (h : Inv x y) (a b : Int32) : ∃ (r : Int32) (vm : gU), f_Grc_sample a b x = some r ∧ f_Mod_sample a b y = some (r, vm) ∧ Inv x vm := by
  have hI := Inv_0 (v := 0) h
  have h0 := hI
  obtain ⟨W, H, M, N, z, hP, ⟨p0, p1, -⟩, ⟨m0, m1, -⟩, -, hS, -⟩ := h0
  obtain ⟨-, hW, -, hH, -⟩ := hP
  have key : ∃ r, f_Grc_sample a b x = some r ∧ f_Mod_sample a b y = some (r, st2 y 0 0 0) := by
    unfold f_Grc_sample f_Mod_sample
    rw [tk_v]
    rcases place_ok W H hW hH a b (sb [2] x) (st2 y 0 0 0) p0 p1 m0 m1 with ⟨g1, g2⟩ | ⟨i, j, hi, hj, rfl, rfl, g1, g2⟩
    · rw [g1, g2, bd_v, bd_v, bq_v rfl, bq_v rfl]
      exact ⟨_, rfl, rfl⟩
    · rw [g1, g2, bd_v, bd_v, bq_w (by decide), bq_w (by decide), f_Pic_place, bd_v, pl_c, pl_m, gd_v (ix_n (by omega) (by omega)), gd_v (ix_n (by omega) (by omega)), tc_n (by omega), (hS i j hi hj).1]
      exact ⟨_, rfl, rfl⟩
  obtain ⟨r, e1, e2⟩ := key
  exact ⟨r, _, e1, e2, hI⟩
theorem call_rebuilt {x y : gU} (h : Inv x y) (a b : Int32) : ∃ (r : Int32) (vm : gU), f_Grc_rebuilt a b x = some r ∧ f_Mod_rebuilt a b y = some (r, vm) ∧ Inv x vm := by
  have hI := Inv_0 (v := 0) h
  have h0 := hI
  obtain ⟨W, H, M, N, z, hP, ⟨p0, p1, -⟩, ⟨m0, m1, -⟩, -, hS, -⟩ := h0
  obtain ⟨-, hW, -, hH, -⟩ := hP
  have key : ∃ r, f_Grc_rebuilt a b x = some r ∧ f_Mod_rebuilt a b y = some (r, st2 y 0 0 0) := by
    unfold f_Grc_rebuilt f_Mod_rebuilt
    rw [tk_v]
    rcases place_ok W H hW hH a b (sb [2] x) (st2 y 0 0 0) p0 p1 m0 m1 with ⟨g1, g2⟩ | ⟨i, j, hi, hj, rfl, rfl, g1, g2⟩
    · rw [g1, g2, bd_v, bd_v, bq_v rfl, bq_v rfl]
      exact ⟨_, rfl, rfl⟩
    · rw [g1, g2, bd_v, bd_v, bq_w (by decide), bq_w (by decide), f_Pic_place, bd_v, pl_c, pl_m, gd_v (ix_n (by omega) (by omega)), gd_v (ix_n (by omega) (by omega)), tc_n (by omega), (hS i j hi hj).2.1]
      exact ⟨_, rfl, rfl⟩
  obtain ⟨r, e1, e2⟩ := key
  exact ⟨r, _, e1, e2, hI⟩
theorem call_code {x y : gU} (h : Inv x y) (a : Int32) : ∃ (r : Int32) (vm : gU), f_Grc_code a x = some r ∧ f_Mod_code a y = some (r, vm) ∧ Inv x vm := by
  have hI := Inv_0 (v := 0) h
  have h0 := hI
  obtain ⟨W, H, M, N, z, -, -, -, -, -, hz, e1, e2, hB⟩ := h0
  have key : ∃ r, f_Grc_code a x = some r ∧ f_Mod_code a y = some (r, st2 y 0 0 0) := by
    unfold f_Grc_code f_Mod_code f_Grc_hasByte
    rw [tk_v, e1, e2]
    by_cases ha0 : a < 0
    · rw [bq_v ha0, bq_v ha0, bd_v, bq_v rfl]
      exact ⟨_, rfl, rfl⟩
    · rw [bq_w ha0, bq_w ha0]
      rcases pk_ix a (n := z) (by omega) with ha | ha | ⟨i, hi, rfl⟩
      · exact absurd ha ha0
      · rw [bq_v ha, bq_v ha, bd_v, bq_v rfl]
        exact ⟨_, rfl, rfl⟩
      · have a1 : ¬ nI z ≤ nI i := nI_ge hi (by omega)
        obtain ⟨t, -, g1, g2⟩ := hB i hi
        rw [bq_w a1, bq_w a1, bd_v, bq_w (by decide), gd_v (ix_n (by omega) (by omega)), gd_v (ix_n (by omega) (by omega)), tc_n (by omega), g1, g2]
        exact ⟨_, rfl, rfl⟩
  obtain ⟨r, e1, e2⟩ := key
  exact ⟨r, _, e1, e2, hI⟩
theorem call_cut {x y : gU} (h : Inv x y) (a : Int32) : ∃ (r : Int32) (v vm : gU), f_Grc_cut a x = some (r, v) ∧ f_Mod_cut a y = some (r, vm) ∧ Inv v vm := by
  have hI := Inv_0 (v := 0) h
  have h0 := hI
  obtain ⟨W, H, M, N, z, h1, h2, h3, h4, h5, hz, e1, e2, hB⟩ := h0
  unfold f_Grc_cut f_Mod_cut
  simp only [tk_v, e1, e2]
  by_cases ha0 : a < 0
  · rw [bq_v ha0, bq_v ha0]
    exact ⟨_, _, _, rfl, rfl, hI⟩
  · rw [bq_w ha0, bq_w ha0]
    by_cases ha : a ≤ nI z
    · obtain ⟨j, hj, rfl⟩ := nI_of2 (nI_toInt (n := z) (by omega)) ha0 ha
      rw [bq_v ha, bq_v ha]
      refine ⟨_, _, _, rfl, rfl, W, H, M, N, j, h1, ?_, ModW_eq h3 (fun j a b => s2j (by omega)), CX_eq h4 rfl (fun q _ => ⟨rfl, rfl, rfl, rfl, rfl⟩) (s2j (by decide)) (s2k (by decide)), ?_, by omega, s2s, s2s, ?_⟩
      · rw [s2k (by decide)]
        exact h2
      · rw [s2k (by decide), s2k (by decide), s2k (by decide), s2k (by decide)]
        exact h5
      · rw [s2k (by decide), s2k (by decide)]
        exact fun i hi => hB i (by omega)
    · rw [bq_w ha, bq_w ha]
      exact ⟨_, _, _, rfl, rfl, hI⟩
theorem call_poke {x y : gU} (h : Inv x y) (a b : Int32) : ∃ (r : Int32) (v vm : gU), f_Grc_poke a b x = some (r, v) ∧ f_Mod_poke a b y = some (r, vm) ∧ Inv v vm := by
  have hI := Inv_0 (v := 0) h
  have h0 := hI
  obtain ⟨W, H, M, N, z, h1, h2, h3, h4, h5, hz, e1, e2, hB⟩ := h0
  unfold f_Grc_poke f_Mod_poke f_Grc_hasByte
  simp only [tk_v, e1, e2]
  by_cases ha0 : a < 0
  · rw [bq_v ha0, bq_v ha0, bd_v, bq_v rfl]
    exact ⟨_, _, _, rfl, rfl, hI⟩
  · rw [bq_w ha0, bq_w ha0]
    rcases pk_ix a (n := z) (by omega) with ha | ha | ⟨i, hi, rfl⟩
    · exact absurd ha ha0
    · rw [bq_v ha, bq_v ha, bd_v, bq_v rfl]
      exact ⟨_, _, _, rfl, rfl, hI⟩
    · have a1 : ¬ nI z ≤ nI i := nI_ge hi (by omega)
      rw [bq_w a1, bq_w a1, bd_v, bq_w (by decide)]
      by_cases hb0 : b < 0
      · rw [bq_v hb0, bq_v hb0]
        exact ⟨_, _, _, rfl, rfl, hI⟩
      · rw [bq_w hb0, bq_w hb0]
        by_cases hb : b ≤ 255
        · obtain ⟨t, ht, rfl⟩ := nI_of2 (M := 255) (n := 255) rfl hb0 hb
          rw [bq_v hb, bq_v hb, gd_v (ix_n (by omega) (by omega)), gd_v (ix_n (by omega) (by omega)), tc_n (by omega)]
          refine ⟨_, _, _, rfl, rfl, W, H, M, N, z, h1, ?_, ?_, CX_eq h4 rfl (fun q _ => ⟨rfl, rfl, rfl, rfl, rfl⟩) (by rw [s2k (by decide)]) (s2k (by decide)), ?_, hz, by rw [s2k (by decide)]; exact e1, by rw [s2k (by decide)]; exact e2, ?_⟩
          · rw [s2k (by decide)]
            exact h2
          · rw [s2k (by decide)]
            exact h3
          · rw [s2k (by decide), s2k (by decide), s2k (by decide), s2k (by decide)]
            exact h5
          · intro k hk
            by_cases hki : k = i
            · subst hki
              exact ⟨t, by omega, s2s, s2s⟩
            · rw [s2j hki, s2j hki]
              exact hB k hk
        · rw [bq_w hb, bq_w hb]
          exact ⟨_, _, _, rfl, rfl, hI⟩
