/-! the pure part: rows of evaluation -/
section EV
variable {α β γ : Type} {u v w : gU} {k j k' j' : Nat} {x : Int32} {c : Prop}
theorem tk_v (x : α) (f : α → β) : tk x f = f x := by
  refine Eq.trans ?_ (Eq.refl _)
  rfl
theorem bd_v (a : α) (f : α → Option β) : bd (some a) f = f a := by
  refine Eq.trans ?_ (Eq.refl _)
  rfl
theorem bx_vl (a : gU) (f : gU → α) (g : β → α) : bx (.inl a : gU ⊕ β) f g = f a := by
  refine Eq.trans ?_ (Eq.refl _)
  rfl
theorem bx_vr (b : β) (f : gU → α) (g : β → α) : bx (.inr b : gU ⊕ β) f g = g b := by
  refine Eq.trans ?_ (Eq.refl _)
  rfl
theorem s2s : st2 u k j x k j = x := by simp [st2, upd]
theorem s2k (h : ¬ k' = k) : st2 u k j x k' = u k' := by simp [st2, h]
theorem s2j (h : ¬ j' = j) : st2 u k j x k j' = u k j' := by simp [st2, upd, h]
theorem s1s {f : Nat → Int32} : st1 u k f k = f := by simp [st1]
theorem s1k {f : Nat → Int32} (h : ¬ k' = k) : st1 u k f k' = u k' := by simp [st1, h]
theorem mg_v0 : mg [] k u v = u := by
  refine Eq.trans ?_ (Eq.refl _)
  rfl
theorem mg_v1 {l : List Nat} : mg (j :: l) k u v = st1 (mg l (k + 1) u v) j (v k) := by
  refine Eq.trans ?_ (Eq.refl _)
  rfl
theorem sb_v {l : List Nat} {i : Nat} : sb l u i = u (l.getD i 0) := by
  refine Eq.trans ?_ (Eq.refl _)
  rfl
end EV
theorem gd_v {β : Type} {c : Prop} {d : Decidable c} {b : Option β} (h : c) : @gd β c d b = b := if_pos h
theorem bq_v {β : Type} {c : Prop} {d : Decidable c} {a b : β} (h : c) : @bq β c d a b = a := if_pos h
theorem bq_w {β : Type} {c : Prop} {d : Decidable c} {a b : β} (h : ¬ c) : @bq β c d a b = b := if_neg h
theorem i_bm (z : Int) (h1 : -2147483648 ≤ z) (h2 : z < 2147483648) : z.bmod (2 ^ 32) = z := by
  rw [Int.bmod_def]
  split <;> omega
theorem i_add {a b : Int32} (h1 : -2147483648 ≤ a.toInt + b.toInt) (h2 : a.toInt + b.toInt < 2147483648) : (a + b).toInt = a.toInt + b.toInt := by
  rw [Int32.toInt_add, i_bm _ h1 h2]
theorem i_sub {a b : Int32} (h1 : -2147483648 ≤ a.toInt - b.toInt) (h2 : a.toInt - b.toInt < 2147483648) : (a - b).toInt = a.toInt - b.toInt := by
  rw [Int32.toInt_sub, i_bm _ h1 h2]
theorem i_mul {a b : Int32} (h1 : -2147483648 ≤ a.toInt * b.toInt) (h2 : a.toInt * b.toInt < 2147483648) : (a * b).toInt = a.toInt * b.toInt := by
  rw [Int32.toInt_mul, i_bm _ h1 h2]
theorem i_neg {a : Int32} (h1 : -2147483648 < a.toInt) : (-a).toInt = -a.toInt := by
  have h2 := a.toInt_lt
  rw [Int32.toInt_neg, i_bm _ (by omega) (by omega)]
theorem i_lt {a b : Int32} : a < b ↔ a.toInt < b.toInt := Int32.lt_iff_toInt_lt
theorem i_le {a b : Int32} : a ≤ b ↔ a.toInt ≤ b.toInt := Int32.le_iff_toInt_le
theorem i_eq {a b : Int32} : a = b ↔ a.toInt = b.toInt := Int32.toInt_inj.symm
theorem i_rg (a : Int32) : -2147483648 ≤ a.toInt ∧ a.toInt < 2147483648 := ⟨a.le_toInt, a.toInt_lt⟩
theorem ix_n {n N : Nat} (h : n < N) (hN : N < 2 ^ 31) : ix (nI n) N := by
  have := nI_toInt (n := n) (by omega)
  exact ⟨by omega, by omega⟩
theorem tc_n {n : Nat} (h : n < 2 ^ 31) : tc (nI n) = n := nI_clamp h
theorem lit_n (n : Nat) : (OfNat.ofNat n : Int32) = nI n := rfl
