/-! the pure part, put together -/
def SS0 : gU := fun k => match k with | 0 => (fun k => match k with | 0 => 0 | 1 => 1 | 2 => 1 | 3 => 255 | 4 => 0 | 5 => 0 | 6 => 0 | 7 => 0 | 8 => 0 | 9 => 0 | 10 => 0 | 11 => 0 | 12 => 0 | 13 => 0 | 14 => 0 | 15 => 0 | 16 => 0 | 17 => 0 | 18 => 0 | 19 => 0 | _ => 0) | 1 => (fun _ => 0) | 2 => (fun _ => 0) | 3 => (fun _ => 0) | 4 => (fun _ => 0) | 5 => (fun _ => 0) | 6 => (fun _ => 0) | _ => (fun _ => 0)
def SS1 (b1 : gU) : gU := fun k => match k with | 0 => (b1 0) | 1 => (b1 1) | 2 => (b1 2) | 3 => (b1 3) | 4 => (b1 4) | 5 => (b1 5) | 6 => (b1 6) | _ => (b1 7)
theorem law_ok : LawOk Inv := by
  intro u um h
  exact ⟨fun a b c d => call_frame h a b c d, fun a n => call_row h a n, call_encode h, call_size h, fun a => call_code h a, fun a b => call_poke h a b, fun a => call_cut h a, call_decode h, fun a => call_number h a, fun a b => call_sample h a b, fun a b => call_rebuilt h a b, fun a b => call_context h a b, call_runIndex h⟩
theorem pure_ok : Pure1 := by
  have rr := (nb_ok (M := 255) (N := 0) (by omega) (by omega) (by omega) (by omega)).2.2.2.2.2.2.2.2.1
  obtain ⟨a1, e1, a10, a11, a12, a13, a14, -, -⟩ := become_ok (M := 255) (N := 0) (by omega) (by omega) (by omega) (by omega) 1 1 zU
  obtain ⟨a2, e2, a20, a21, -⟩ := restart_ok (a1 0 5) zU
  obtain ⟨b1, e3, b11, b12, b13⟩ := prepare_ok (M := 255) (N := 0) (by omega) (by omega) (by omega) (by omega) SS0 rfl rfl
  obtain ⟨b2, e4, b21, b22, b23, b24, b25⟩ := forget_ok (SS1 b1)
  have h5 : a1 0 5 = nI 256 := by
    rw [a14 5 (by omega) (by omega)]
    exact rr
  have h6 : SS1 b1 0 6 = nI 256 := by
    rw [show SS1 b1 0 6 = b1 0 6 from rfl, b11 5 (by omega) (by omega)]
    exact rr
  rw [h6] at b23
  have a21' := a21
  rw [h5] at a21'
  have s0 : ∀ j, ¬ j = 12 → (j < 5 ∨ 12 ≤ j) → b2 0 j = SS0 0 j := fun j h1 h2 => by rw [b22 j h1, show SS1 b1 0 j = b1 0 j from rfl, b12 j h2]
  refine ⟨Inv, a1, a2, a1, b1, b2, e1, e2, e1, e3, e4, law_ok, 1, 1, 255, 0, 0, ⟨by omega, by omega, by omega, by omega, by omega, by omega, by omega, by omega⟩, ⟨a10, a11, a12, a13, a14⟩, ⟨?_, ?_, ?_, ?_, fun k k1 k2 => ?_⟩, ?_, fun i j hi hj => ?_, by omega, rfl, ?_, fun i hi => absurd hi (by omega)⟩
  · exact s0 1 (by decide) (by omega)
  · exact s0 2 (by decide) (by omega)
  · exact s0 3 (by decide) (by omega)
  · exact s0 4 (by decide) (by omega)
  · rw [show M0 b1 b2 0 (k + 1) = b2 0 (k + 1) from rfl, b22 (k + 1) (by omega), show SS1 b1 0 (k + 1) = b1 0 (k + 1) from rfl, b11 k k1 k2]
  · exact CX_new (r := 256) (by omega) a20 a21' b21 b23
  · obtain rfl : i = 0 := by omega
    obtain rfl : j = 0 := by omega
    have y1 : M0 b1 b2 1 (8 * 0 + 0) = 0 := by
      rw [show M0 b1 b2 1 = b2 1 from rfl, b25 1 (by decide) (by decide) (by decide), show SS1 b1 1 = b1 1 from rfl, b13 1 (by decide)]
      rfl
    have y2 : M0 b1 b2 2 (8 * 0 + 0) = 0 := b24 0 (by omega)
    rw [y1, y2]
    exact ⟨rfl, rfl, 0, by omega, rfl⟩
  · exact s0 13 (by decide) (by omega)
