theorem l_cmp {o9 : Nat → Int64} (r : Int32) : lg_cmp (vp_updL o9 0 r.toInt64 (Int32.toNatClampNeg 0)) r.toInt64 = 0 := by
  have h : vp_updL o9 0 r.toInt64 (Int32.toNatClampNeg 0) = r.toInt64 := rfl
  rw [h]
  simp [lg_cmp]
theorem gi_W {TS : List Cond} {maxL : Nat} {y : MethodName} {cc : ByteArray} {ret : Option FieldType} {hh : List (Nat × Nat × Nat × Nat)} (hg : GoodIn TS TS) (hc : Cond.codeWith y cc maxL ret hh ∈ TS) : GoodIn TS (.codeWith y cc maxL ret hh :: TS) := by
  intro w hw
  rcases List.mem_cons.mp hw with rfl | h
  · exact hg _ hc
  · exact hg _ h
set_option maxHeartbeats 4000000 in
set_option maxRecDepth 100000 in
theorem law_loop {p : Program} {e : Env} {s : State} {m : MethodId} {below : List Frame} {meth : Method} {c : Code} (l : Launch) {b L : Nat} {xs : Nat → Int32} (hfl : l.flags = pinnedFlags ++ [noTraceFlag]) (hL : L ≤ 2560) (hx : p.tables.exec = Jvm.exec) (hb : c.code = code) (hr : meth.sig.returnType = ret) (hml : c.maxLocals = 7) (hown : s.vm.findClass R_Law = some m.cls) (hw : ∀ w ∈ TS, w.before #[Value.ref b] s = true) (hX : va_X b L xs s s.heap) (hbl : b < s.heap.size) (hlocks : meth.locks = false)
    (D : va_G) (cI cL : ClassId) (tJ g0 g1 g2 g3 g4 g5 g6 g7 g8 g9 g10 g11 g12 g13 g14 g15 g16 g17 g18 g19 g20 g21 g22 g23 m0 m1 m2 m3 m4 m5 m6 m7 qo : Nat) (hdg : dj [g0, g1, g2, g3, g4, g5, g6, g7, g8, g9, g10, g11, g12, g13, g14, g15, g16, g17, g18, g19, g20, g21, g22, g23]) (hdm : dj [m0, m1, m2, m3, m4, m5, m6, m7]) (hdgo : dj [g0, g1, g2, g3, g4, g5, g6, g7, g8, g9, g10, g11, g12, g13, g14, g15, g16, g17, g18, g19, g20, g21, g22, g23, qo]) (hGM : ∀ q, ad [g0, g1, g2, g3, g4, g5, g6, g7, g8, g9, g10, g11, g12, g13, g14, g15, g16, g17, g18, g19, g20, g21, g22, g23] q → ¬ ad [m0, m1, m2, m3, m4, m5, m6, m7] q) (hMO : ¬ ad [m0, m1, m2, m3, m4, m5, m6, m7] qo) (hGO : ¬ ad [g0, g1, g2, g3, g4, g5, g6, g7, g8, g9, g10, g11, g12, g13, g14, g15, g16, g17, g18, g19, g20, g21, g22, g23] qo) (hnew : ∀ q, ad [g0, g1, g2, g3, g4, g5, g6, g7, g8, g9, g10, g11, g12, g13, g14, g15, g16, g17, g18, g19, g20, g21, g22, g23, m0, m1, m2, m3, m4, m5, m6, m7, qo] q → s.heap.size ≤ q) (hK : va_K D cls [(cI, .int), (cL, .long)] s) (hJ : Jt tJ (fun q => s.heap.size ≤ q) s) (hXt : Xt (fun q => s.heap.size ≤ q) s) (Inv : gU → gU → Prop) (hI : LawOk Inv) :
    ∀ (n i cs sl : Nat) (ls : Array Slot) (H : Heap) (locs : List Loc) (u um : gU) (o : Nat → Int64), i ≤ 2565 → L < i + 5 * n → cs + n ≤ 1067 → sl + 6 * n ≤ 17757 → lv_has ls 7 [(4, .int (nI i)), (3, .ref qo), (2, .ref m0), (1, .ref g0), (0, .ref b)] → va_P D cls (wGrc cI g0 g1 g2 g3 g4 g5 g6 g7 g8 g9 g10 g11 g12 g13 g14 g15 g16 g17 g18 g19 g20 g21 g22 g23 u) H → va_P D cls (wMod cI m0 m1 m2 m3 m4 m5 m6 m7 um) H → va_P D cls [(qo, .inl (cL, 1, .inr (.inl (o))))] H → va_S (fun q => s.heap.size ≤ q) s.heap H locs → Inv u um → W p l e room_1 s m #[Value.ref b] below meth c H locs cs sl (lw_Z below #[Value.ref b] s) (F0 m 23 ls []) := by
  have hbA : ¬ (fun q => s.heap.size ≤ q) b := fun h => by
    have h' : s.heap.size ≤ b := h
    omega
  have hcR : room_1.cells = 1067 := rfl
  have hsR : room_1.slots = 17757 := rfl
  have hsubG : ∀ q, ad [g0, g1, g2, g3, g4, g5, g6, g7, g8, g9, g10, g11, g12, g13, g14, g15, g16, g17, g18, g19, g20, g21, g22, g23] q → ad [g0, g1, g2, g3, g4, g5, g6, g7, g8, g9, g10, g11, g12, g13, g14, g15, g16, g17, g18, g19, g20, g21, g22, g23, m0, m1, m2, m3, m4, m5, m6, m7, qo] q := ad_sub [0, 1, 2, 3, 4, 5, 6, 7, 8, 9, 10, 11, 12, 13, 14, 15, 16, 17, 18, 19, 20, 21, 22, 23] rfl
  have hsubM : ∀ q, ad [m0, m1, m2, m3, m4, m5, m6, m7] q → ad [g0, g1, g2, g3, g4, g5, g6, g7, g8, g9, g10, g11, g12, g13, g14, g15, g16, g17, g18, g19, g20, g21, g22, g23, m0, m1, m2, m3, m4, m5, m6, m7, qo] q := ad_sub [24, 25, 26, 27, 28, 29, 30, 31] rfl
  have hsubGO : ∀ q, ad [g0, g1, g2, g3, g4, g5, g6, g7, g8, g9, g10, g11, g12, g13, g14, g15, g16, g17, g18, g19, g20, g21, g22, g23, qo] q → ad [g0, g1, g2, g3, g4, g5, g6, g7, g8, g9, g10, g11, g12, g13, g14, g15, g16, g17, g18, g19, g20, g21, g22, g23, m0, m1, m2, m3, m4, m5, m6, m7, qo] q := ad_sub [0, 1, 2, 3, 4, 5, 6, 7, 8, 9, 10, 11, 12, 13, 14, 15, 16, 17, 18, 19, 20, 21, 22, 23, 32] rfl
  have hGM1 : ∀ (z : gU), ∀ x ∈ (wMod cI m0 m1 m2 m3 m4 m5 m6 m7 z), ¬ ad [g0, g1, g2, g3, g4, g5, g6, g7, g8, g9, g10, g11, g12, g13, g14, g15, g16, g17, g18, g19, g20, g21, g22, g23] x.1 := fun z x hx h => hGM x.1 h (List.mem_map.mpr ⟨x, hx, rfl⟩ : x.1 ∈ (wMod cI m0 m1 m2 m3 m4 m5 m6 m7 z).map (fun q => q.1))
  have hMG1 : ∀ (z : gU), ∀ x ∈ (wGrc cI g0 g1 g2 g3 g4 g5 g6 g7 g8 g9 g10 g11 g12 g13 g14 g15 g16 g17 g18 g19 g20 g21 g22 g23 z), ¬ ad [m0, m1, m2, m3, m4, m5, m6, m7] x.1 := fun z x hx h => hGM x.1 (List.mem_map.mpr ⟨x, hx, rfl⟩ : x.1 ∈ (wGrc cI g0 g1 g2 g3 g4 g5 g6 g7 g8 g9 g10 g11 g12 g13 g14 g15 g16 g17 g18 g19 g20 g21 g22 g23 z).map (fun q => q.1)) h
  have hGO1 : ∀ (z : Nat → Int64), ∀ x ∈ ([(qo, .inl (cL, 1, .inr (.inl (z))))] : va_W), ¬ ad [g0, g1, g2, g3, g4, g5, g6, g7, g8, g9, g10, g11, g12, g13, g14, g15, g16, g17, g18, g19, g20, g21, g22, g23] x.1 := fun z x hx h => by
    rcases List.mem_singleton.mp hx with rfl
    exact hGO h
  have hMO1 : ∀ (z : Nat → Int64), ∀ x ∈ ([(qo, .inl (cL, 1, .inr (.inl (z))))] : va_W), ¬ ad [m0, m1, m2, m3, m4, m5, m6, m7] x.1 := fun z x hx h => by
    rcases List.mem_singleton.mp hx with rfl
    exact hMO h
  have hGOM : ∀ (z : gU), ∀ x ∈ (wMod cI m0 m1 m2 m3 m4 m5 m6 m7 z), ¬ ad [g0, g1, g2, g3, g4, g5, g6, g7, g8, g9, g10, g11, g12, g13, g14, g15, g16, g17, g18, g19, g20, g21, g22, g23, qo] x.1 := fun z x hx h => by
    have h9 : x.1 ∈ (wMod cI m0 m1 m2 m3 m4 m5 m6 m7 z).map (fun q => q.1) := List.mem_map.mpr ⟨x, hx, rfl⟩
    rcases List.mem_append.mp (show x.1 ∈ [g0, g1, g2, g3, g4, g5, g6, g7, g8, g9, g10, g11, g12, g13, g14, g15, g16, g17, g18, g19, g20, g21, g22, g23] ++ [qo] from h) with h1 | h1
    · exact hGM x.1 h1 h9
    · rw [List.mem_singleton.mp h1] at h9
      exact hMO h9
  intro n
  induction n with
  | zero =>
    intro i cs sl ls H locs u um o hi hn hc1 hc2 hl hG hM hO hS hInv
    refine lv_iload hx hb d_Law_law_23 (lv_at hl 0 rfl) ?_
    refine lv_aload_n hx hb d_Law_law_25 rfl (lv_at hl 4 rfl) ?_
    refine va_slen hx hb hX hbl hbA hS d_Law_law_26 ?_
    refine lv_iconst (v := 5) hx hb d_Law_law_27 (by decide) ?_
    refine lv_isub hx hb d_Law_law_28 ?_
    refine lv_icmp_gt (tgt := 546) hx hb d_Law_law_29 (by decide) (fun hc => ?_) (fun hc => absurd ((l_head (by omega) (by omega)).mpr (by omega)) hc)
    refine lv_iconst (v := 1) hx hb d_Law_law_546 (by decide) ?_
    refine va_forget (fun q hq => hS.2.2 q hq) ?_
    refine W.widen (k := 1067) (n := 17757) (by omega) (by omega) ?_
    exact lw_ret hx hb hr hlocks d_Law_law_547
  | succ n ih =>
    intro i cs sl ls H locs u um o hi hn hc1 hc2 hl hG hM hO hS hInv
    have tl540 : ∀ (cs sl : Nat) (ls : Array Slot) (H : Heap) (locs : List Loc) (u um : gU) (o : Nat → Int64), i + 5 ≤ L → cs + n ≤ 1067 ∧ sl + 6 * n ≤ 17757 → lv_has ls 7 [(4, .int (nI i)), (3, .ref qo), (2, .ref m0), (1, .ref g0), (0, .ref b)] → va_P D cls (wGrc cI g0 g1 g2 g3 g4 g5 g6 g7 g8 g9 g10 g11 g12 g13 g14 g15 g16 g17 g18 g19 g20 g21 g22 g23 u) H → va_P D cls (wMod cI m0 m1 m2 m3 m4 m5 m6 m7 um) H → va_P D cls [(qo, .inl (cL, 1, .inr (.inl (o))))] H → va_S (fun q => s.heap.size ≤ q) s.heap H locs → Inv u um → W p l e room_1 s m #[Value.ref b] below meth c H locs cs sl (lw_Z below #[Value.ref b] s) (F0 m 540 ls []) := by
      intro cs sl ls H locs u um o hi5 hcs hl hG hM hO hS hInv
      refine lv_iinc (v := nI (i + 5)) (lv' := [(4, .int (nI (i + 5))), (3, .ref qo), (2, .ref m0), (1, .ref g0), (0, .ref b)]) hx hb d_Law_law_540 hl (k := 0) rfl (by rw [← nI_add]; rfl) (by decide) rfl (fun ls hl => ?_)
      refine lv_goto (tgt := 23) hx hb d_Law_law_543 (by decide) ?_
      exact ih (i + 5) cs sl ls H locs u um o (by omega) (by omega) hcs.1 hcs.2 hl hG hM hO hS hInv
    refine lv_iload hx hb d_Law_law_23 (lv_at hl 0 rfl) ?_
    refine lv_aload_n hx hb d_Law_law_25 rfl (lv_at hl 4 rfl) ?_
    refine va_slen hx hb hX hbl hbA hS d_Law_law_26 ?_
    refine lv_iconst (v := 5) hx hb d_Law_law_27 (by decide) ?_
    refine lv_isub hx hb d_Law_law_28 ?_
    refine lv_icmp_gt (tgt := 546) hx hb d_Law_law_29 (by decide) (fun hc => ?_) (fun hc => ?_)
    · refine lv_iconst (v := 1) hx hb d_Law_law_546 (by decide) ?_
      refine va_forget (fun q hq => hS.2.2 q hq) ?_
      refine W.widen (k := 1067) (n := 17757) (by omega) (by omega) ?_
      exact lw_ret hx hb hr hlocks d_Law_law_547
    have hi5 : i + 5 ≤ L := Nat.not_lt.mp (fun h => hc ((l_head (by omega) (by omega)).mpr h))
    refine lv_aload_n hx hb d_Law_law_32 rfl (lv_at hl 4 rfl) ?_
    refine lv_iload hx hb d_Law_law_33 (lv_at hl 0 rfl) ?_
    refine va_sld hx hb hX hbl hbA hS (vp_in_nI (by omega) (by omega)) d_Law_law_35 ?_
    refine lv_bipush (v := 15) hx hb d_Law_law_36 (by decide) ?_
    refine lv_iand hx hb d_Law_law_38 ?_
    refine lv_topi (fun x0 e_x0 => ?_)
    by_cases hc0 : x0 = 0
    · refine lv_tableIn (tgt := 104) hx hb d_Law_law_39 (by rw [hc0]; decide) (by rw [hc0]; decide) (by rw [hc0]; rfl) (by decide) ?_
      refine lv_aload_n hx hb d_Law_law_104 rfl (lv_at hl 3 rfl) ?_
      refine lv_aload_n hx hb d_Law_law_105 rfl (lv_at hl 4 rfl) ?_
      refine lv_iload hx hb d_Law_law_106 (lv_at hl 0 rfl) ?_
      refine lv_iconst (v := 1) hx hb d_Law_law_108 (by decide) ?_
      refine lv_iadd hx hb d_Law_law_109 ?_
      refine va_sld hx hb hX hbl hbA hS (l_in (k := 1) (by omega) (by omega)) d_Law_law_110 ?_
      refine lv_aload_n hx hb d_Law_law_111 rfl (lv_at hl 4 rfl) ?_
      refine lv_iload hx hb d_Law_law_112 (lv_at hl 0 rfl) ?_
      refine lv_iconst (v := 2) hx hb d_Law_law_114 (by decide) ?_
      refine lv_iadd hx hb d_Law_law_115 ?_
      refine va_sld hx hb hX hbl hbA hS (l_in (k := 2) (by omega) (by omega)) d_Law_law_116 ?_
      refine lv_aload_n hx hb d_Law_law_117 rfl (lv_at hl 4 rfl) ?_
      refine lv_iload hx hb d_Law_law_118 (lv_at hl 0 rfl) ?_
      refine lv_iconst (v := 3) hx hb d_Law_law_120 (by decide) ?_
      refine lv_iadd hx hb d_Law_law_121 ?_
      refine va_sld hx hb hX hbl hbA hS (l_in (k := 3) (by omega) (by omega)) d_Law_law_122 ?_
      refine lv_aload_n hx hb d_Law_law_123 rfl (lv_at hl 4 rfl) ?_
      refine lv_iload hx hb d_Law_law_124 (lv_at hl 0 rfl) ?_
      refine lv_iconst (v := 4) hx hb d_Law_law_126 (by decide) ?_
      refine lv_iadd hx hb d_Law_law_127 ?_
      refine va_sld hx hb hX hbl hbA hS (l_in (k := 4) (by omega) (by omega)) d_Law_law_128 ?_
      obtain ⟨r, v9, vm9, h1, h2, hInv⟩ := (hI u um hInv).1 ((xs (tc ((nI i) + 1)))) ((xs (tc ((nI i) + 2)))) ((xs (tc ((nI i) + 3)))) ((xs (tc ((nI i) + 4))))
      refine lw_rw (va_runV (As := [.int (xs (tc ((nI i) + 1))), .int (xs (tc ((nI i) + 2))), .int (xs (tc ((nI i) + 3))), .int (xs (tc ((nI i) + 4)))]) (rest := []) ⟨hx, hb, hml, hown, hw⟩ (c_Grc_frame l D cI g0 g1 g2 g3 g4 g5 g6 g7 g8 g9 g10 g11 g12 g13 g14 g15 g16 g17 g18 g19 g20 g21 g22 g23 hdg ((xs (tc ((nI i) + 1)))) ((xs (tc ((nI i) + 2)))) ((xs (tc ((nI i) + 3)))) ((xs (tc ((nI i) + 4)))) u r v9 h1) (cwV 4 hw g_137 rfl rfl rfl (by decide +kernel) ⟨Nat.le_of_ble_eq_true rfl, Nat.le_of_ble_eq_true rfl⟩) (pre_V hG (hK.sub [0] rfl) rfl rfl) rfl rfl hl.1 rfl (lv_room (Nat.le_of_ble_eq_true rfl)) d_Law_law_129 ⟨by omega, by omega⟩) hS (fun q h => hnew q (hsubG q h)) (fun H locs hG hk hS => ?_)
      have hM := hk _ (hGM1 _) hM
      have hO := hk _ (hGO1 o) hO
      refine lv_aload_n hx hb d_Law_law_132 rfl (lv_at hl 2 rfl) ?_
      refine lv_aload_n hx hb d_Law_law_133 rfl (lv_at hl 4 rfl) ?_
      refine lv_iload hx hb d_Law_law_134 (lv_at hl 0 rfl) ?_
      refine lv_iconst (v := 1) hx hb d_Law_law_136 (by decide) ?_
      refine lv_iadd hx hb d_Law_law_137 ?_
      refine va_sld hx hb hX hbl hbA hS (l_in (k := 1) (by omega) (by omega)) d_Law_law_138 ?_
      refine lv_aload_n hx hb d_Law_law_139 rfl (lv_at hl 4 rfl) ?_
      refine lv_iload hx hb d_Law_law_140 (lv_at hl 0 rfl) ?_
      refine lv_iconst (v := 2) hx hb d_Law_law_142 (by decide) ?_
      refine lv_iadd hx hb d_Law_law_143 ?_
      refine va_sld hx hb hX hbl hbA hS (l_in (k := 2) (by omega) (by omega)) d_Law_law_144 ?_
      refine lv_aload_n hx hb d_Law_law_145 rfl (lv_at hl 4 rfl) ?_
      refine lv_iload hx hb d_Law_law_146 (lv_at hl 0 rfl) ?_
      refine lv_iconst (v := 3) hx hb d_Law_law_148 (by decide) ?_
      refine lv_iadd hx hb d_Law_law_149 ?_
      refine va_sld hx hb hX hbl hbA hS (l_in (k := 3) (by omega) (by omega)) d_Law_law_150 ?_
      refine lv_aload_n hx hb d_Law_law_151 rfl (lv_at hl 4 rfl) ?_
      refine lv_iload hx hb d_Law_law_152 (lv_at hl 0 rfl) ?_
      refine lv_iconst (v := 4) hx hb d_Law_law_154 (by decide) ?_
      refine lv_iadd hx hb d_Law_law_155 ?_
      refine va_sld hx hb hX hbl hbA hS (l_in (k := 4) (by omega) (by omega)) d_Law_law_156 ?_
      refine lw_rw (va_runV (As := [.int (xs (tc ((nI i) + 1))), .int (xs (tc ((nI i) + 2))), .int (xs (tc ((nI i) + 3))), .int (xs (tc ((nI i) + 4)))]) (rest := [.int r]) ⟨hx, hb, hml, hown, hw⟩ (c_Mod_frame l D cI m0 m1 m2 m3 m4 m5 m6 m7 hdm ((xs (tc ((nI i) + 1)))) ((xs (tc ((nI i) + 2)))) ((xs (tc ((nI i) + 3)))) ((xs (tc ((nI i) + 4)))) um r vm9 h2) (cwV 4 hw g_138 rfl rfl rfl (by decide +kernel) ⟨Nat.le_of_ble_eq_true rfl, Nat.le_of_ble_eq_true rfl⟩) (pre_V hM (hK.sub [0] rfl) rfl rfl) rfl rfl hl.1 rfl (lv_room (Nat.le_of_ble_eq_true rfl)) d_Law_law_157 ⟨by omega, by omega⟩) hS (fun q h => hnew q (hsubM q h)) (fun H locs hM hk hS => ?_)
      have hG := hk _ (hMG1 _) hG
      have hO := hk _ (hMO1 o) hO
      refine lv_icmp_eq (tgt := 540) hx hb d_Law_law_160 (by decide) (fun hc => ?_) (fun hc => absurd rfl hc)
      exact tl540 _ _ _ _ _ _ _ _ hi5 (by omega) hl hG hM hO hS hInv
    by_cases hc1 : x0 = 1
    · refine lv_tableIn (tgt := 165) hx hb d_Law_law_39 (by rw [hc1]; decide) (by rw [hc1]; decide) (by rw [hc1]; rfl) (by decide) ?_
      refine lv_aload_n hx hb d_Law_law_165 rfl (lv_at hl 3 rfl) ?_
      refine lv_aload_n hx hb d_Law_law_166 rfl (lv_at hl 4 rfl) ?_
      refine lv_iload hx hb d_Law_law_167 (lv_at hl 0 rfl) ?_
      refine lv_iconst (v := 1) hx hb d_Law_law_169 (by decide) ?_
      refine lv_iadd hx hb d_Law_law_170 ?_
      refine va_sld hx hb hX hbl hbA hS (l_in (k := 1) (by omega) (by omega)) d_Law_law_171 ?_
      refine lv_aload_n hx hb d_Law_law_172 rfl (lv_at hl 4 rfl) ?_
      refine lv_iload hx hb d_Law_law_173 (lv_at hl 0 rfl) ?_
      refine lv_iconst (v := 2) hx hb d_Law_law_175 (by decide) ?_
      refine lv_iadd hx hb d_Law_law_176 ?_
      refine va_sld hx hb hX hbl hbA hS (l_in (k := 2) (by omega) (by omega)) d_Law_law_177 ?_
      refine lv_i2l hx hb d_Law_law_178 rfl ?_
      refine lv_bipush (v := 32) hx hb d_Law_law_179 (by decide) ?_
      refine lv_lshl hx hb d_Law_law_181 rfl ?_
      refine lv_aload_n hx hb d_Law_law_182 rfl (lv_at hl 4 rfl) ?_
      refine lv_iload hx hb d_Law_law_183 (lv_at hl 0 rfl) ?_
      refine lv_iconst (v := 3) hx hb d_Law_law_185 (by decide) ?_
      refine lv_iadd hx hb d_Law_law_186 ?_
      refine va_sld hx hb hX hbl hbA hS (l_in (k := 3) (by omega) (by omega)) d_Law_law_187 ?_
      refine lv_i2l hx hb d_Law_law_188 rfl ?_
      refine lv_ldc2 (v := 4294967295) hx hb hown (hw _ m_767) d_Law_law_189 ?_
      refine lv_land hx hb d_Law_law_192 ?_
      refine lv_lor hx hb d_Law_law_193 ?_
      obtain ⟨r, v9, vm9, h1, h2, hInv⟩ := (hI u um hInv).2.1 ((xs (tc ((nI i) + 1)))) ((((((xs (tc ((nI i) + 2)))).toInt64) <<< ((32 : Int32).toInt64 &&& 63)) ||| ((((xs (tc ((nI i) + 3)))).toInt64) &&& 4294967295)))
      refine lw_rw (va_runV (As := [.int (xs (tc ((nI i) + 1))), .long (((((xs (tc ((nI i) + 2)))).toInt64) <<< ((32 : Int32).toInt64 &&& 63)) ||| ((((xs (tc ((nI i) + 3)))).toInt64) &&& 4294967295))]) (rest := []) ⟨hx, hb, hml, hown, hw⟩ (c_Grc_row l D cI g0 g1 g2 g3 g4 g5 g6 g7 g8 g9 g10 g11 g12 g13 g14 g15 g16 g17 g18 g19 g20 g21 g22 g23 hdg ((xs (tc ((nI i) + 1)))) ((((((xs (tc ((nI i) + 2)))).toInt64) <<< ((32 : Int32).toInt64 &&& 63)) ||| ((((xs (tc ((nI i) + 3)))).toInt64) &&& 4294967295))) u r v9 h1) (cwV 2 hw g_139 rfl rfl rfl (by decide +kernel) ⟨Nat.le_of_ble_eq_true rfl, Nat.le_of_ble_eq_true rfl⟩) (pre_V hG (hK.sub [0] rfl) rfl rfl) rfl rfl hl.1 rfl (lv_room (Nat.le_of_ble_eq_true rfl)) d_Law_law_194 ⟨by omega, by omega⟩) hS (fun q h => hnew q (hsubG q h)) (fun H locs hG hk hS => ?_)
      have hM := hk _ (hGM1 _) hM
      have hO := hk _ (hGO1 o) hO
      refine lv_aload_n hx hb d_Law_law_197 rfl (lv_at hl 2 rfl) ?_
      refine lv_aload_n hx hb d_Law_law_198 rfl (lv_at hl 4 rfl) ?_
      refine lv_iload hx hb d_Law_law_199 (lv_at hl 0 rfl) ?_
      refine lv_iconst (v := 1) hx hb d_Law_law_201 (by decide) ?_
      refine lv_iadd hx hb d_Law_law_202 ?_
      refine va_sld hx hb hX hbl hbA hS (l_in (k := 1) (by omega) (by omega)) d_Law_law_203 ?_
      refine lv_aload_n hx hb d_Law_law_204 rfl (lv_at hl 4 rfl) ?_
      refine lv_iload hx hb d_Law_law_205 (lv_at hl 0 rfl) ?_
      refine lv_iconst (v := 2) hx hb d_Law_law_207 (by decide) ?_
      refine lv_iadd hx hb d_Law_law_208 ?_
      refine va_sld hx hb hX hbl hbA hS (l_in (k := 2) (by omega) (by omega)) d_Law_law_209 ?_
      refine lv_i2l hx hb d_Law_law_210 rfl ?_
      refine lv_bipush (v := 32) hx hb d_Law_law_211 (by decide) ?_
      refine lv_lshl hx hb d_Law_law_213 rfl ?_
      refine lv_aload_n hx hb d_Law_law_214 rfl (lv_at hl 4 rfl) ?_
      refine lv_iload hx hb d_Law_law_215 (lv_at hl 0 rfl) ?_
      refine lv_iconst (v := 3) hx hb d_Law_law_217 (by decide) ?_
      refine lv_iadd hx hb d_Law_law_218 ?_
      refine va_sld hx hb hX hbl hbA hS (l_in (k := 3) (by omega) (by omega)) d_Law_law_219 ?_
      refine lv_i2l hx hb d_Law_law_220 rfl ?_
      refine lv_ldc2 (v := 4294967295) hx hb hown (hw _ m_767) d_Law_law_221 ?_
      refine lv_land hx hb d_Law_law_224 ?_
      refine lv_lor hx hb d_Law_law_225 ?_
      refine lw_rw (va_runV (As := [.int (xs (tc ((nI i) + 1))), .long (((((xs (tc ((nI i) + 2)))).toInt64) <<< ((32 : Int32).toInt64 &&& 63)) ||| ((((xs (tc ((nI i) + 3)))).toInt64) &&& 4294967295))]) (rest := [.int r]) ⟨hx, hb, hml, hown, hw⟩ (c_Mod_row l D cI m0 m1 m2 m3 m4 m5 m6 m7 hdm ((xs (tc ((nI i) + 1)))) ((((((xs (tc ((nI i) + 2)))).toInt64) <<< ((32 : Int32).toInt64 &&& 63)) ||| ((((xs (tc ((nI i) + 3)))).toInt64) &&& 4294967295))) um r vm9 h2) (cwV 2 hw g_140 rfl rfl rfl (by decide +kernel) ⟨Nat.le_of_ble_eq_true rfl, Nat.le_of_ble_eq_true rfl⟩) (pre_V hM (hK.sub [0] rfl) rfl rfl) rfl rfl hl.1 rfl (lv_room (Nat.le_of_ble_eq_true rfl)) d_Law_law_226 ⟨by omega, by omega⟩) hS (fun q h => hnew q (hsubM q h)) (fun H locs hM hk hS => ?_)
      have hG := hk _ (hMG1 _) hG
      have hO := hk _ (hMO1 o) hO
      refine lv_icmp_eq (tgt := 540) hx hb d_Law_law_229 (by decide) (fun hc => ?_) (fun hc => absurd rfl hc)
      exact tl540 _ _ _ _ _ _ _ _ hi5 (by omega) hl hG hM hO hS hInv
    by_cases hc2 : x0 = 2
    · refine lv_tableIn (tgt := 234) hx hb d_Law_law_39 (by rw [hc2]; decide) (by rw [hc2]; decide) (by rw [hc2]; rfl) (by decide) ?_
      refine lv_aload_n hx hb d_Law_law_234 rfl (lv_at hl 3 rfl) ?_
      obtain ⟨r, v9, vm9, h1, h2, hInv⟩ := (hI u um hInv).2.2.1
      refine lw_rw (va_runV (As := []) (rest := []) ⟨hx, hb, hml, hown, hw⟩ (c_Grc_encode l D cI tJ g0 g1 g2 g3 g4 g5 g6 g7 g8 g9 g10 g11 g12 g13 g14 g15 g16 g17 g18 g19 g20 g21 g22 g23 hdg u r v9 h1) (cwV 0 hw g_141 rfl rfl rfl (by decide +kernel) ⟨Nat.le_of_ble_eq_true rfl, Nat.le_of_ble_eq_true rfl⟩) (pre_VJ hG (hK.sub [0] rfl) rfl rfl (Jt_call hJ hS (fun q h => hnew q (hsubG q h)))) rfl rfl hl.1 rfl (lv_room (Nat.le_of_ble_eq_true rfl)) d_Law_law_235 ⟨by omega, by omega⟩) hS (fun q h => hnew q (hsubG q h)) (fun H locs hG hk hS => ?_)
      have hM := hk _ (hGM1 _) hM
      have hO := hk _ (hGO1 o) hO
      refine lv_aload_n hx hb d_Law_law_238 rfl (lv_at hl 2 rfl) ?_
      refine lw_rw (va_runV (As := []) (rest := [.int r]) ⟨hx, hb, hml, hown, hw⟩ (c_Mod_encode l D cI m0 m1 m2 m3 m4 m5 m6 m7 hdm um r vm9 h2) (cwV 0 hw g_142 rfl rfl rfl (by decide +kernel) ⟨Nat.le_of_ble_eq_true rfl, Nat.le_of_ble_eq_true rfl⟩) (pre_V hM (hK.sub [0] rfl) rfl rfl) rfl rfl hl.1 rfl (lv_room (Nat.le_of_ble_eq_true rfl)) d_Law_law_239 ⟨by omega, by omega⟩) hS (fun q h => hnew q (hsubM q h)) (fun H locs hM hk hS => ?_)
      have hG := hk _ (hMG1 _) hG
      have hO := hk _ (hMO1 o) hO
      refine lv_icmp_eq (tgt := 540) hx hb d_Law_law_242 (by decide) (fun hc => ?_) (fun hc => absurd rfl hc)
      exact tl540 _ _ _ _ _ _ _ _ hi5 (by omega) hl hG hM hO hS hInv
    by_cases hc3 : x0 = 3
    · refine lv_tableIn (tgt := 247) hx hb d_Law_law_39 (by rw [hc3]; decide) (by rw [hc3]; decide) (by rw [hc3]; rfl) (by decide) ?_
      refine lv_aload_n hx hb d_Law_law_247 rfl (lv_at hl 3 rfl) ?_
      obtain ⟨r, vm9, h1, h2, hInv⟩ := (hI u um hInv).2.2.2.1
      refine lw_ro (D := D) (cl := cls) (va_runV (As := []) (rest := []) ⟨hx, hb, hml, hown, hw⟩ (c_Grc_size l D cI g0 g1 g2 g3 g4 g5 g6 g7 g8 g9 g10 g11 g12 g13 g14 g15 g16 g17 g18 g19 g20 g21 g22 g23 u r h1) (cwV 0 hw g_143 rfl rfl rfl (by decide +kernel) ⟨Nat.le_of_ble_eq_true rfl, Nat.le_of_ble_eq_true rfl⟩) (pre_V hG (hK.sub [0] rfl) rfl rfl) rfl rfl hl.1 rfl (lv_room (Nat.le_of_ble_eq_true rfl)) d_Law_law_248 ⟨by omega, by omega⟩) hS (fun H locs hk hS => ?_)
      have hG := hk _ hG
      have hM := hk _ hM
      have hO := hk _ hO
      refine lv_aload_n hx hb d_Law_law_251 rfl (lv_at hl 2 rfl) ?_
      refine lw_rw (va_runV (As := []) (rest := [.int r]) ⟨hx, hb, hml, hown, hw⟩ (c_Mod_size l D cI m0 m1 m2 m3 m4 m5 m6 m7 hdm um r vm9 h2) (cwV 0 hw g_144 rfl rfl rfl (by decide +kernel) ⟨Nat.le_of_ble_eq_true rfl, Nat.le_of_ble_eq_true rfl⟩) (pre_V hM (hK.sub [0] rfl) rfl rfl) rfl rfl hl.1 rfl (lv_room (Nat.le_of_ble_eq_true rfl)) d_Law_law_252 ⟨by omega, by omega⟩) hS (fun q h => hnew q (hsubM q h)) (fun H locs hM hk hS => ?_)
      have hG := hk _ (hMG1 _) hG
      have hO := hk _ (hMO1 o) hO
      refine lv_icmp_eq (tgt := 540) hx hb d_Law_law_255 (by decide) (fun hc => ?_) (fun hc => absurd rfl hc)
      exact tl540 _ _ _ _ _ _ _ _ hi5 (by omega) hl hG hM hO hS hInv
    by_cases hc4 : x0 = 4
    · refine lv_tableIn (tgt := 260) hx hb d_Law_law_39 (by rw [hc4]; decide) (by rw [hc4]; decide) (by rw [hc4]; rfl) (by decide) ?_
      refine lv_aload_n hx hb d_Law_law_260 rfl (lv_at hl 3 rfl) ?_
      refine lv_aload_n hx hb d_Law_law_261 rfl (lv_at hl 4 rfl) ?_
      refine lv_iload hx hb d_Law_law_262 (lv_at hl 0 rfl) ?_
      refine lv_iconst (v := 1) hx hb d_Law_law_264 (by decide) ?_
      refine lv_iadd hx hb d_Law_law_265 ?_
      refine va_sld hx hb hX hbl hbA hS (l_in (k := 1) (by omega) (by omega)) d_Law_law_266 ?_
      obtain ⟨r, vm9, h1, h2, hInv⟩ := (hI u um hInv).2.2.2.2.1 ((xs (tc ((nI i) + 1))))
      refine lw_ro (D := D) (cl := cls) (va_runV (As := [.int (xs (tc ((nI i) + 1)))]) (rest := []) ⟨hx, hb, hml, hown, hw⟩ (c_Grc_code l D cI g0 g1 g2 g3 g4 g5 g6 g7 g8 g9 g10 g11 g12 g13 g14 g15 g16 g17 g18 g19 g20 g21 g22 g23 ((xs (tc ((nI i) + 1)))) u r h1) (cwV 1 hw g_145 rfl rfl rfl (by decide +kernel) ⟨Nat.le_of_ble_eq_true rfl, Nat.le_of_ble_eq_true rfl⟩) (pre_V hG (hK.sub [0] rfl) rfl rfl) rfl rfl hl.1 rfl (lv_room (Nat.le_of_ble_eq_true rfl)) d_Law_law_267 ⟨by omega, by omega⟩) hS (fun H locs hk hS => ?_)
      have hG := hk _ hG
      have hM := hk _ hM
      have hO := hk _ hO
      refine lv_aload_n hx hb d_Law_law_270 rfl (lv_at hl 2 rfl) ?_
      refine lv_aload_n hx hb d_Law_law_271 rfl (lv_at hl 4 rfl) ?_
      refine lv_iload hx hb d_Law_law_272 (lv_at hl 0 rfl) ?_
      refine lv_iconst (v := 1) hx hb d_Law_law_274 (by decide) ?_
      refine lv_iadd hx hb d_Law_law_275 ?_
      refine va_sld hx hb hX hbl hbA hS (l_in (k := 1) (by omega) (by omega)) d_Law_law_276 ?_
      refine lw_rw (va_runV (As := [.int (xs (tc ((nI i) + 1)))]) (rest := [.int r]) ⟨hx, hb, hml, hown, hw⟩ (c_Mod_code l D cI m0 m1 m2 m3 m4 m5 m6 m7 hdm ((xs (tc ((nI i) + 1)))) um r vm9 h2) (cwV 1 hw g_146 rfl rfl rfl (by decide +kernel) ⟨Nat.le_of_ble_eq_true rfl, Nat.le_of_ble_eq_true rfl⟩) (pre_V hM (hK.sub [0] rfl) rfl rfl) rfl rfl hl.1 rfl (lv_room (Nat.le_of_ble_eq_true rfl)) d_Law_law_277 ⟨by omega, by omega⟩) hS (fun q h => hnew q (hsubM q h)) (fun H locs hM hk hS => ?_)
      have hG := hk _ (hMG1 _) hG
      have hO := hk _ (hMO1 o) hO
      refine lv_icmp_eq (tgt := 540) hx hb d_Law_law_280 (by decide) (fun hc => ?_) (fun hc => absurd rfl hc)
      exact tl540 _ _ _ _ _ _ _ _ hi5 (by omega) hl hG hM hO hS hInv
    by_cases hc5 : x0 = 5
    · refine lv_tableIn (tgt := 285) hx hb d_Law_law_39 (by rw [hc5]; decide) (by rw [hc5]; decide) (by rw [hc5]; rfl) (by decide) ?_
      refine lv_aload_n hx hb d_Law_law_285 rfl (lv_at hl 3 rfl) ?_
      refine lv_aload_n hx hb d_Law_law_286 rfl (lv_at hl 4 rfl) ?_
      refine lv_iload hx hb d_Law_law_287 (lv_at hl 0 rfl) ?_
      refine lv_iconst (v := 1) hx hb d_Law_law_289 (by decide) ?_
      refine lv_iadd hx hb d_Law_law_290 ?_
      refine va_sld hx hb hX hbl hbA hS (l_in (k := 1) (by omega) (by omega)) d_Law_law_291 ?_
      refine lv_aload_n hx hb d_Law_law_292 rfl (lv_at hl 4 rfl) ?_
      refine lv_iload hx hb d_Law_law_293 (lv_at hl 0 rfl) ?_
      refine lv_iconst (v := 2) hx hb d_Law_law_295 (by decide) ?_
      refine lv_iadd hx hb d_Law_law_296 ?_
      refine va_sld hx hb hX hbl hbA hS (l_in (k := 2) (by omega) (by omega)) d_Law_law_297 ?_
      obtain ⟨r, v9, vm9, h1, h2, hInv⟩ := (hI u um hInv).2.2.2.2.2.1 ((xs (tc ((nI i) + 1)))) ((xs (tc ((nI i) + 2))))
      refine lw_rw (va_runV (As := [.int (xs (tc ((nI i) + 1))), .int (xs (tc ((nI i) + 2)))]) (rest := []) ⟨hx, hb, hml, hown, hw⟩ (c_Grc_poke l D cI g0 g1 g2 g3 g4 g5 g6 g7 g8 g9 g10 g11 g12 g13 g14 g15 g16 g17 g18 g19 g20 g21 g22 g23 hdg ((xs (tc ((nI i) + 1)))) ((xs (tc ((nI i) + 2)))) u r v9 h1) (cwV 2 hw g_147 rfl rfl rfl (by decide +kernel) ⟨Nat.le_of_ble_eq_true rfl, Nat.le_of_ble_eq_true rfl⟩) (pre_V hG (hK.sub [0] rfl) rfl rfl) rfl rfl hl.1 rfl (lv_room (Nat.le_of_ble_eq_true rfl)) d_Law_law_298 ⟨by omega, by omega⟩) hS (fun q h => hnew q (hsubG q h)) (fun H locs hG hk hS => ?_)
      have hM := hk _ (hGM1 _) hM
      have hO := hk _ (hGO1 o) hO
      refine lv_aload_n hx hb d_Law_law_301 rfl (lv_at hl 2 rfl) ?_
      refine lv_aload_n hx hb d_Law_law_302 rfl (lv_at hl 4 rfl) ?_
      refine lv_iload hx hb d_Law_law_303 (lv_at hl 0 rfl) ?_
      refine lv_iconst (v := 1) hx hb d_Law_law_305 (by decide) ?_
      refine lv_iadd hx hb d_Law_law_306 ?_
      refine va_sld hx hb hX hbl hbA hS (l_in (k := 1) (by omega) (by omega)) d_Law_law_307 ?_
      refine lv_aload_n hx hb d_Law_law_308 rfl (lv_at hl 4 rfl) ?_
      refine lv_iload hx hb d_Law_law_309 (lv_at hl 0 rfl) ?_
      refine lv_iconst (v := 2) hx hb d_Law_law_311 (by decide) ?_
      refine lv_iadd hx hb d_Law_law_312 ?_
      refine va_sld hx hb hX hbl hbA hS (l_in (k := 2) (by omega) (by omega)) d_Law_law_313 ?_
      refine lw_rw (va_runV (As := [.int (xs (tc ((nI i) + 1))), .int (xs (tc ((nI i) + 2)))]) (rest := [.int r]) ⟨hx, hb, hml, hown, hw⟩ (c_Mod_poke l D cI m0 m1 m2 m3 m4 m5 m6 m7 hdm ((xs (tc ((nI i) + 1)))) ((xs (tc ((nI i) + 2)))) um r vm9 h2) (cwV 2 hw g_148 rfl rfl rfl (by decide +kernel) ⟨Nat.le_of_ble_eq_true rfl, Nat.le_of_ble_eq_true rfl⟩) (pre_V hM (hK.sub [0] rfl) rfl rfl) rfl rfl hl.1 rfl (lv_room (Nat.le_of_ble_eq_true rfl)) d_Law_law_314 ⟨by omega, by omega⟩) hS (fun q h => hnew q (hsubM q h)) (fun H locs hM hk hS => ?_)
      have hG := hk _ (hMG1 _) hG
      have hO := hk _ (hMO1 o) hO
      refine lv_icmp_eq (tgt := 540) hx hb d_Law_law_317 (by decide) (fun hc => ?_) (fun hc => absurd rfl hc)
      exact tl540 _ _ _ _ _ _ _ _ hi5 (by omega) hl hG hM hO hS hInv
    by_cases hc6 : x0 = 6
    · refine lv_tableIn (tgt := 322) hx hb d_Law_law_39 (by rw [hc6]; decide) (by rw [hc6]; decide) (by rw [hc6]; rfl) (by decide) ?_
      refine lv_aload_n hx hb d_Law_law_322 rfl (lv_at hl 3 rfl) ?_
      refine lv_aload_n hx hb d_Law_law_323 rfl (lv_at hl 4 rfl) ?_
      refine lv_iload hx hb d_Law_law_324 (lv_at hl 0 rfl) ?_
      refine lv_iconst (v := 1) hx hb d_Law_law_326 (by decide) ?_
      refine lv_iadd hx hb d_Law_law_327 ?_
      refine va_sld hx hb hX hbl hbA hS (l_in (k := 1) (by omega) (by omega)) d_Law_law_328 ?_
      obtain ⟨r, v9, vm9, h1, h2, hInv⟩ := (hI u um hInv).2.2.2.2.2.2.1 ((xs (tc ((nI i) + 1))))
      refine lw_rw (va_runV (As := [.int (xs (tc ((nI i) + 1)))]) (rest := []) ⟨hx, hb, hml, hown, hw⟩ (c_Grc_cut l D cI g0 g1 g2 g3 g4 g5 g6 g7 g8 g9 g10 g11 g12 g13 g14 g15 g16 g17 g18 g19 g20 g21 g22 g23 hdg ((xs (tc ((nI i) + 1)))) u r v9 h1) (cwV 1 hw g_149 rfl rfl rfl (by decide +kernel) ⟨Nat.le_of_ble_eq_true rfl, Nat.le_of_ble_eq_true rfl⟩) (pre_V hG (hK.sub [0] rfl) rfl rfl) rfl rfl hl.1 rfl (lv_room (Nat.le_of_ble_eq_true rfl)) d_Law_law_329 ⟨by omega, by omega⟩) hS (fun q h => hnew q (hsubG q h)) (fun H locs hG hk hS => ?_)
      have hM := hk _ (hGM1 _) hM
      have hO := hk _ (hGO1 o) hO
      refine lv_aload_n hx hb d_Law_law_332 rfl (lv_at hl 2 rfl) ?_
      refine lv_aload_n hx hb d_Law_law_333 rfl (lv_at hl 4 rfl) ?_
      refine lv_iload hx hb d_Law_law_334 (lv_at hl 0 rfl) ?_
      refine lv_iconst (v := 1) hx hb d_Law_law_336 (by decide) ?_
      refine lv_iadd hx hb d_Law_law_337 ?_
      refine va_sld hx hb hX hbl hbA hS (l_in (k := 1) (by omega) (by omega)) d_Law_law_338 ?_
      refine lw_rw (va_runV (As := [.int (xs (tc ((nI i) + 1)))]) (rest := [.int r]) ⟨hx, hb, hml, hown, hw⟩ (c_Mod_cut l D cI m0 m1 m2 m3 m4 m5 m6 m7 hdm ((xs (tc ((nI i) + 1)))) um r vm9 h2) (cwV 1 hw g_150 rfl rfl rfl (by decide +kernel) ⟨Nat.le_of_ble_eq_true rfl, Nat.le_of_ble_eq_true rfl⟩) (pre_V hM (hK.sub [0] rfl) rfl rfl) rfl rfl hl.1 rfl (lv_room (Nat.le_of_ble_eq_true rfl)) d_Law_law_339 ⟨by omega, by omega⟩) hS (fun q h => hnew q (hsubM q h)) (fun H locs hM hk hS => ?_)
      have hG := hk _ (hMG1 _) hG
      have hO := hk _ (hMO1 o) hO
      refine lv_icmp_eq (tgt := 540) hx hb d_Law_law_342 (by decide) (fun hc => ?_) (fun hc => absurd rfl hc)
      exact tl540 _ _ _ _ _ _ _ _ hi5 (by omega) hl hG hM hO hS hInv
    by_cases hc7 : x0 = 7
    · refine lv_tableIn (tgt := 347) hx hb d_Law_law_39 (by rw [hc7]; decide) (by rw [hc7]; decide) (by rw [hc7]; rfl) (by decide) ?_
      refine lv_aload_n hx hb d_Law_law_347 rfl (lv_at hl 3 rfl) ?_
      refine lv_aload_n hx hb d_Law_law_348 rfl (lv_at hl 1 rfl) ?_
      rcases (hI u um hInv).2.2.2.2.2.2.2.1 with ⟨r, v9, vm9, h1, h2, h3, hInv⟩ | ⟨r, v9, vm9, h1, h2, h3, hInv⟩
      · refine lw_dec (run_SW (bytes := b_Law_decode) (maxL := 3) (ret := some .int) (hh := [(0, 8, 11, 13)]) (As := [.ref g0, .ref qo]) (rest := []) (n := 2) ⟨hx, hb, hml, hown, hw⟩ (c_Law_decode_0 l D cI cL tJ g0 g1 g2 g3 g4 g5 g6 g7 g8 g9 g10 g11 g12 g13 g14 g15 g16 g17 g18 g19 g20 g21 g22 g23 qo hdgo u o r v9 h1) List.mem_cons_self rfl rfl (Nat.le_of_ble_eq_true rfl) (Nat.le_of_ble_eq_true rfl) (gi_W TS_ok m_816) (hw _ m_817) (hw _ m_818) (hw _ m_819) (by decide +kernel) ⟨fun a U g mk q => ⟨q.1, q.2.1, q.2.2.1, va_K.moved (u := U) (U := U.calling g mk a) (Vm.Alike.refl U.vm) q.2.2.2.1, Jt_blind q.2.2.2.2.1, Xt_blind q.2.2.2.2.2⟩, fun U hU hW => ⟨rfl, by rw [hU]; exact hG, by rw [hU]; exact hO, va_K.moved hW.alike hK, Jt_call hJ hS (fun q h => hnew q (hsubGO q h)) U hU hW, Xt_go hXt hW (fun q z1 z2 => by rw [hU]; exact hS.2.1 q z1 z2) (fun q h => hnew q (hsubGO q h))⟩⟩ rfl rfl hl.1 rfl (lv_room (Nat.le_of_ble_eq_true rfl)) d_Law_law_349 ⟨by omega, by omega⟩) hS (fun q h => hnew q (hsubGO q h)) (fun H locs hG hO hk hS => ?_)
        have hM := hk _ (hGOM _) hM
        refine lv_istore (lv' := [(5, .int 0), (4, .int (nI i)), (3, .ref qo), (2, .ref m0), (1, .ref g0), (0, .ref b)]) hx hb d_Law_law_352 hl (by decide) rfl (fun ls hl => ?_)
        refine lv_aload_n hx hb d_Law_law_354 rfl (lv_at hl 3 rfl) ?_
        refine lw_rw (va_runV (As := []) (rest := []) ⟨hx, hb, hml, hown, hw⟩ (c_Mod_decode l D cI m0 m1 m2 m3 m4 m5 m6 m7 hdm um r vm9 h2) (cwV 0 hw g_151 rfl rfl rfl (by decide +kernel) ⟨Nat.le_of_ble_eq_true rfl, Nat.le_of_ble_eq_true rfl⟩) (pre_V hM (hK.sub [0] rfl) rfl rfl) rfl rfl hl.1 rfl (lv_room (Nat.le_of_ble_eq_true rfl)) d_Law_law_355 ⟨by omega, by omega⟩) hS (fun q h => hnew q (hsubM q h)) (fun H locs hM hk hS => ?_)
        have hG := hk _ (hMG1 _) hG
        have hO := hk _ (hMO1 _) hO
        refine lv_istore (lv' := [(6, .int r), (5, .int 0), (4, .int (nI i)), (3, .ref qo), (2, .ref m0), (1, .ref g0), (0, .ref b)]) hx hb d_Law_law_358 hl (by decide) rfl (fun ls hl => ?_)
        refine lv_aload_n hx hb d_Law_law_360 rfl (lv_at hl 4 rfl) ?_
        refine lw_ro (D := D) (cl := cls) (va_runV (As := []) (rest := []) ⟨hx, hb, hml, hown, hw⟩ (c_Mod_thrown l D cI m0 m1 m2 m3 m4 m5 m6 m7 vm9 0 (congrArg some h3)) (cwV 0 hw g_152 rfl rfl rfl (by decide +kernel) ⟨Nat.le_of_ble_eq_true rfl, Nat.le_of_ble_eq_true rfl⟩) (pre_V hM (hK.sub [0] rfl) rfl rfl) rfl rfl hl.1 rfl (lv_room (Nat.le_of_ble_eq_true rfl)) d_Law_law_361 ⟨by omega, by omega⟩) hS (fun H locs hk hS => ?_)
        have hG := hk _ hG
        have hM := hk _ hM
        have hO := hk _ hO
        refine lv_iload hx hb d_Law_law_364 (lv_at hl 1 rfl) ?_
        refine lv_icmp_eq (tgt := 371) hx hb d_Law_law_366 (by decide) (fun hc => ?_) (fun hc => absurd rfl hc)
        refine lv_iload hx hb d_Law_law_371 (lv_at hl 1 rfl) ?_
        refine lv_if_ne (tgt := 388) hx hb d_Law_law_373 (by decide) (fun hc => ?_) (fun hc => ?_)
        · exact absurd rfl hc
        refine lv_aload_n hx hb d_Law_law_376 rfl (lv_at hl 3 rfl) ?_
        refine lv_iconst (v := 0) hx hb d_Law_law_377 (by decide) ?_
        refine va_lald hx hb hK hO 0 1 rfl rfl (ix_in (by decide)) d_Law_law_378 ?_
        refine lv_iload hx hb d_Law_law_379 (lv_at hl 0 rfl) ?_
        refine lv_i2l hx hb d_Law_law_381 rfl ?_
        refine W.lcmp hx hb d_Law_law_382 ?_
        refine lv_if_eq (tgt := 388) hx hb d_Law_law_383 (by decide) (fun hc => ?_) (fun hc => absurd (l_cmp _) hc)
        refine lv_goto (tgt := 540) hx hb d_Law_law_388 (by decide) ?_
        exact tl540 _ _ _ _ _ _ _ _ hi5 (by omega) (lv_sub hl [2, 3, 4, 5, 6] rfl) hG hM hO hS hInv
      refine lw_dec (run_SW (bytes := b_Law_decode) (maxL := 3) (ret := some .int) (hh := [(0, 8, 11, 13)]) (As := [.ref g0, .ref qo]) (rest := []) (n := 2) ⟨hx, hb, hml, hown, hw⟩ (c_Law_decode_1 l D cI cL tJ g0 g1 g2 g3 g4 g5 g6 g7 g8 g9 g10 g11 g12 g13 g14 g15 g16 g17 g18 g19 g20 g21 g22 g23 qo hdgo u o hfl v9 h1) List.mem_cons_self rfl rfl (Nat.le_of_ble_eq_true rfl) (Nat.le_of_ble_eq_true rfl) (gi_W TS_ok m_816) (hw _ m_817) (hw _ m_818) (hw _ m_819) (by decide +kernel) ⟨fun a U g mk q => ⟨q.1, q.2.1, q.2.2.1, va_K.moved (u := U) (U := U.calling g mk a) (Vm.Alike.refl U.vm) q.2.2.2.1, Jt_blind q.2.2.2.2.1, Xt_blind q.2.2.2.2.2⟩, fun U hU hW => ⟨rfl, by rw [hU]; exact hG, by rw [hU]; exact hO, va_K.moved hW.alike hK, Jt_call hJ hS (fun q h => hnew q (hsubGO q h)) U hU hW, Xt_go hXt hW (fun q z1 z2 => by rw [hU]; exact hS.2.1 q z1 z2) (fun q h => hnew q (hsubGO q h))⟩⟩ rfl rfl hl.1 rfl (lv_room (Nat.le_of_ble_eq_true rfl)) d_Law_law_349 ⟨by omega, by omega⟩) hS (fun q h => hnew q (hsubGO q h)) (fun H locs hG hO hk hS => ?_)
      have hM := hk _ (hGOM _) hM
      refine lv_istore (lv' := [(5, .int 1), (4, .int (nI i)), (3, .ref qo), (2, .ref m0), (1, .ref g0), (0, .ref b)]) hx hb d_Law_law_352 hl (by decide) rfl (fun ls hl => ?_)
      refine lv_aload_n hx hb d_Law_law_354 rfl (lv_at hl 3 rfl) ?_
      refine lw_rw (va_runV (As := []) (rest := []) ⟨hx, hb, hml, hown, hw⟩ (c_Mod_decode l D cI m0 m1 m2 m3 m4 m5 m6 m7 hdm um r vm9 h2) (cwV 0 hw g_151 rfl rfl rfl (by decide +kernel) ⟨Nat.le_of_ble_eq_true rfl, Nat.le_of_ble_eq_true rfl⟩) (pre_V hM (hK.sub [0] rfl) rfl rfl) rfl rfl hl.1 rfl (lv_room (Nat.le_of_ble_eq_true rfl)) d_Law_law_355 ⟨by omega, by omega⟩) hS (fun q h => hnew q (hsubM q h)) (fun H locs hM hk hS => ?_)
      have hG := hk _ (hMG1 _) hG
      have hO := hk _ (hMO1 _) hO
      refine lv_istore (lv' := [(6, .int r), (5, .int 1), (4, .int (nI i)), (3, .ref qo), (2, .ref m0), (1, .ref g0), (0, .ref b)]) hx hb d_Law_law_358 hl (by decide) rfl (fun ls hl => ?_)
      refine lv_aload_n hx hb d_Law_law_360 rfl (lv_at hl 4 rfl) ?_
      refine lw_ro (D := D) (cl := cls) (va_runV (As := []) (rest := []) ⟨hx, hb, hml, hown, hw⟩ (c_Mod_thrown l D cI m0 m1 m2 m3 m4 m5 m6 m7 vm9 1 (congrArg some h3)) (cwV 0 hw g_152 rfl rfl rfl (by decide +kernel) ⟨Nat.le_of_ble_eq_true rfl, Nat.le_of_ble_eq_true rfl⟩) (pre_V hM (hK.sub [0] rfl) rfl rfl) rfl rfl hl.1 rfl (lv_room (Nat.le_of_ble_eq_true rfl)) d_Law_law_361 ⟨by omega, by omega⟩) hS (fun H locs hk hS => ?_)
      have hG := hk _ hG
      have hM := hk _ hM
      have hO := hk _ hO
      refine lv_iload hx hb d_Law_law_364 (lv_at hl 1 rfl) ?_
      refine lv_icmp_eq (tgt := 371) hx hb d_Law_law_366 (by decide) (fun hc => ?_) (fun hc => absurd rfl hc)
      refine lv_iload hx hb d_Law_law_371 (lv_at hl 1 rfl) ?_
      refine lv_if_ne (tgt := 388) hx hb d_Law_law_373 (by decide) (fun hc => ?_) (fun hc => ?_)
      · refine lv_goto (tgt := 540) hx hb d_Law_law_388 (by decide) ?_
        exact tl540 _ _ _ _ _ _ _ _ hi5 (by omega) (lv_sub hl [2, 3, 4, 5, 6] rfl) hG hM hO hS hInv
      exact absurd hc (by decide)
    by_cases hc8 : x0 = 8
    · refine lv_tableIn (tgt := 391) hx hb d_Law_law_39 (by rw [hc8]; decide) (by rw [hc8]; decide) (by rw [hc8]; rfl) (by decide) ?_
      refine lv_aload_n hx hb d_Law_law_391 rfl (lv_at hl 3 rfl) ?_
      refine lv_aload_n hx hb d_Law_law_392 rfl (lv_at hl 4 rfl) ?_
      refine lv_iload hx hb d_Law_law_393 (lv_at hl 0 rfl) ?_
      refine lv_iconst (v := 1) hx hb d_Law_law_395 (by decide) ?_
      refine lv_iadd hx hb d_Law_law_396 ?_
      refine va_sld hx hb hX hbl hbA hS (l_in (k := 1) (by omega) (by omega)) d_Law_law_397 ?_
      obtain ⟨r, vm9, h1, h2, hInv⟩ := (hI u um hInv).2.2.2.2.2.2.2.2.1 ((xs (tc ((nI i) + 1))))
      refine lw_ro (D := D) (cl := cls) (va_runV (As := [.int (xs (tc ((nI i) + 1)))]) (rest := []) ⟨hx, hb, hml, hown, hw⟩ (c_Grc_number l D cI g0 g1 g2 g3 g4 g5 g6 g7 g8 g9 g10 g11 g12 g13 g14 g15 g16 g17 g18 g19 g20 g21 g22 g23 ((xs (tc ((nI i) + 1)))) u r h1) (cwV 1 hw g_153 rfl rfl rfl (by decide +kernel) ⟨Nat.le_of_ble_eq_true rfl, Nat.le_of_ble_eq_true rfl⟩) (pre_V hG (hK.sub [0] rfl) rfl rfl) rfl rfl hl.1 rfl (lv_room (Nat.le_of_ble_eq_true rfl)) d_Law_law_398 ⟨by omega, by omega⟩) hS (fun H locs hk hS => ?_)
      have hG := hk _ hG
      have hM := hk _ hM
      have hO := hk _ hO
      refine lv_aload_n hx hb d_Law_law_401 rfl (lv_at hl 2 rfl) ?_
      refine lv_aload_n hx hb d_Law_law_402 rfl (lv_at hl 4 rfl) ?_
      refine lv_iload hx hb d_Law_law_403 (lv_at hl 0 rfl) ?_
      refine lv_iconst (v := 1) hx hb d_Law_law_405 (by decide) ?_
      refine lv_iadd hx hb d_Law_law_406 ?_
      refine va_sld hx hb hX hbl hbA hS (l_in (k := 1) (by omega) (by omega)) d_Law_law_407 ?_
      refine lw_rw (va_runV (As := [.int (xs (tc ((nI i) + 1)))]) (rest := [.int r]) ⟨hx, hb, hml, hown, hw⟩ (c_Mod_number l D cI m0 m1 m2 m3 m4 m5 m6 m7 hdm ((xs (tc ((nI i) + 1)))) um r vm9 h2) (cwV 1 hw g_154 rfl rfl rfl (by decide +kernel) ⟨Nat.le_of_ble_eq_true rfl, Nat.le_of_ble_eq_true rfl⟩) (pre_V hM (hK.sub [0] rfl) rfl rfl) rfl rfl hl.1 rfl (lv_room (Nat.le_of_ble_eq_true rfl)) d_Law_law_408 ⟨by omega, by omega⟩) hS (fun q h => hnew q (hsubM q h)) (fun H locs hM hk hS => ?_)
      have hG := hk _ (hMG1 _) hG
      have hO := hk _ (hMO1 o) hO
      refine lv_icmp_eq (tgt := 540) hx hb d_Law_law_411 (by decide) (fun hc => ?_) (fun hc => absurd rfl hc)
      exact tl540 _ _ _ _ _ _ _ _ hi5 (by omega) hl hG hM hO hS hInv
    by_cases hc9 : x0 = 9
    · refine lv_tableIn (tgt := 416) hx hb d_Law_law_39 (by rw [hc9]; decide) (by rw [hc9]; decide) (by rw [hc9]; rfl) (by decide) ?_
      refine lv_aload_n hx hb d_Law_law_416 rfl (lv_at hl 3 rfl) ?_
      refine lv_aload_n hx hb d_Law_law_417 rfl (lv_at hl 4 rfl) ?_
      refine lv_iload hx hb d_Law_law_418 (lv_at hl 0 rfl) ?_
      refine lv_iconst (v := 1) hx hb d_Law_law_420 (by decide) ?_
      refine lv_iadd hx hb d_Law_law_421 ?_
      refine va_sld hx hb hX hbl hbA hS (l_in (k := 1) (by omega) (by omega)) d_Law_law_422 ?_
      refine lv_aload_n hx hb d_Law_law_423 rfl (lv_at hl 4 rfl) ?_
      refine lv_iload hx hb d_Law_law_424 (lv_at hl 0 rfl) ?_
      refine lv_iconst (v := 2) hx hb d_Law_law_426 (by decide) ?_
      refine lv_iadd hx hb d_Law_law_427 ?_
      refine va_sld hx hb hX hbl hbA hS (l_in (k := 2) (by omega) (by omega)) d_Law_law_428 ?_
      obtain ⟨r, vm9, h1, h2, hInv⟩ := (hI u um hInv).2.2.2.2.2.2.2.2.2.1 ((xs (tc ((nI i) + 1)))) ((xs (tc ((nI i) + 2))))
      refine lw_ro (D := D) (cl := cls) (va_runV (As := [.int (xs (tc ((nI i) + 1))), .int (xs (tc ((nI i) + 2)))]) (rest := []) ⟨hx, hb, hml, hown, hw⟩ (c_Grc_sample l D cI g0 g1 g2 g3 g4 g5 g6 g7 g8 g9 g10 g11 g12 g13 g14 g15 g16 g17 g18 g19 g20 g21 g22 g23 ((xs (tc ((nI i) + 1)))) ((xs (tc ((nI i) + 2)))) u r h1) (cwV 2 hw g_155 rfl rfl rfl (by decide +kernel) ⟨Nat.le_of_ble_eq_true rfl, Nat.le_of_ble_eq_true rfl⟩) (pre_V hG (hK.sub [0] rfl) rfl rfl) rfl rfl hl.1 rfl (lv_room (Nat.le_of_ble_eq_true rfl)) d_Law_law_429 ⟨by omega, by omega⟩) hS (fun H locs hk hS => ?_)
      have hG := hk _ hG
      have hM := hk _ hM
      have hO := hk _ hO
      refine lv_aload_n hx hb d_Law_law_432 rfl (lv_at hl 2 rfl) ?_
      refine lv_aload_n hx hb d_Law_law_433 rfl (lv_at hl 4 rfl) ?_
      refine lv_iload hx hb d_Law_law_434 (lv_at hl 0 rfl) ?_
      refine lv_iconst (v := 1) hx hb d_Law_law_436 (by decide) ?_
      refine lv_iadd hx hb d_Law_law_437 ?_
      refine va_sld hx hb hX hbl hbA hS (l_in (k := 1) (by omega) (by omega)) d_Law_law_438 ?_
      refine lv_aload_n hx hb d_Law_law_439 rfl (lv_at hl 4 rfl) ?_
      refine lv_iload hx hb d_Law_law_440 (lv_at hl 0 rfl) ?_
      refine lv_iconst (v := 2) hx hb d_Law_law_442 (by decide) ?_
      refine lv_iadd hx hb d_Law_law_443 ?_
      refine va_sld hx hb hX hbl hbA hS (l_in (k := 2) (by omega) (by omega)) d_Law_law_444 ?_
      refine lw_rw (va_runV (As := [.int (xs (tc ((nI i) + 1))), .int (xs (tc ((nI i) + 2)))]) (rest := [.int r]) ⟨hx, hb, hml, hown, hw⟩ (c_Mod_sample l D cI m0 m1 m2 m3 m4 m5 m6 m7 hdm ((xs (tc ((nI i) + 1)))) ((xs (tc ((nI i) + 2)))) um r vm9 h2) (cwV 2 hw g_156 rfl rfl rfl (by decide +kernel) ⟨Nat.le_of_ble_eq_true rfl, Nat.le_of_ble_eq_true rfl⟩) (pre_V hM (hK.sub [0] rfl) rfl rfl) rfl rfl hl.1 rfl (lv_room (Nat.le_of_ble_eq_true rfl)) d_Law_law_445 ⟨by omega, by omega⟩) hS (fun q h => hnew q (hsubM q h)) (fun H locs hM hk hS => ?_)
      have hG := hk _ (hMG1 _) hG
      have hO := hk _ (hMO1 o) hO
      refine lv_icmp_eq (tgt := 540) hx hb d_Law_law_448 (by decide) (fun hc => ?_) (fun hc => absurd rfl hc)
      exact tl540 _ _ _ _ _ _ _ _ hi5 (by omega) hl hG hM hO hS hInv
    by_cases hc10 : x0 = 10
    · refine lv_tableIn (tgt := 453) hx hb d_Law_law_39 (by rw [hc10]; decide) (by rw [hc10]; decide) (by rw [hc10]; rfl) (by decide) ?_
      refine lv_aload_n hx hb d_Law_law_453 rfl (lv_at hl 3 rfl) ?_
      refine lv_aload_n hx hb d_Law_law_454 rfl (lv_at hl 4 rfl) ?_
      refine lv_iload hx hb d_Law_law_455 (lv_at hl 0 rfl) ?_
      refine lv_iconst (v := 1) hx hb d_Law_law_457 (by decide) ?_
      refine lv_iadd hx hb d_Law_law_458 ?_
      refine va_sld hx hb hX hbl hbA hS (l_in (k := 1) (by omega) (by omega)) d_Law_law_459 ?_
      refine lv_aload_n hx hb d_Law_law_460 rfl (lv_at hl 4 rfl) ?_
      refine lv_iload hx hb d_Law_law_461 (lv_at hl 0 rfl) ?_
      refine lv_iconst (v := 2) hx hb d_Law_law_463 (by decide) ?_
      refine lv_iadd hx hb d_Law_law_464 ?_
      refine va_sld hx hb hX hbl hbA hS (l_in (k := 2) (by omega) (by omega)) d_Law_law_465 ?_
      obtain ⟨r, vm9, h1, h2, hInv⟩ := (hI u um hInv).2.2.2.2.2.2.2.2.2.2.1 ((xs (tc ((nI i) + 1)))) ((xs (tc ((nI i) + 2))))
      refine lw_ro (D := D) (cl := cls) (va_runV (As := [.int (xs (tc ((nI i) + 1))), .int (xs (tc ((nI i) + 2)))]) (rest := []) ⟨hx, hb, hml, hown, hw⟩ (c_Grc_rebuilt l D cI g0 g1 g2 g3 g4 g5 g6 g7 g8 g9 g10 g11 g12 g13 g14 g15 g16 g17 g18 g19 g20 g21 g22 g23 ((xs (tc ((nI i) + 1)))) ((xs (tc ((nI i) + 2)))) u r h1) (cwV 2 hw g_157 rfl rfl rfl (by decide +kernel) ⟨Nat.le_of_ble_eq_true rfl, Nat.le_of_ble_eq_true rfl⟩) (pre_V hG (hK.sub [0] rfl) rfl rfl) rfl rfl hl.1 rfl (lv_room (Nat.le_of_ble_eq_true rfl)) d_Law_law_466 ⟨by omega, by omega⟩) hS (fun H locs hk hS => ?_)
      have hG := hk _ hG
      have hM := hk _ hM
      have hO := hk _ hO
      refine lv_aload_n hx hb d_Law_law_469 rfl (lv_at hl 2 rfl) ?_
      refine lv_aload_n hx hb d_Law_law_470 rfl (lv_at hl 4 rfl) ?_
      refine lv_iload hx hb d_Law_law_471 (lv_at hl 0 rfl) ?_
      refine lv_iconst (v := 1) hx hb d_Law_law_473 (by decide) ?_
      refine lv_iadd hx hb d_Law_law_474 ?_
      refine va_sld hx hb hX hbl hbA hS (l_in (k := 1) (by omega) (by omega)) d_Law_law_475 ?_
      refine lv_aload_n hx hb d_Law_law_476 rfl (lv_at hl 4 rfl) ?_
      refine lv_iload hx hb d_Law_law_477 (lv_at hl 0 rfl) ?_
      refine lv_iconst (v := 2) hx hb d_Law_law_479 (by decide) ?_
      refine lv_iadd hx hb d_Law_law_480 ?_
      refine va_sld hx hb hX hbl hbA hS (l_in (k := 2) (by omega) (by omega)) d_Law_law_481 ?_
      refine lw_rw (va_runV (As := [.int (xs (tc ((nI i) + 1))), .int (xs (tc ((nI i) + 2)))]) (rest := [.int r]) ⟨hx, hb, hml, hown, hw⟩ (c_Mod_rebuilt l D cI m0 m1 m2 m3 m4 m5 m6 m7 hdm ((xs (tc ((nI i) + 1)))) ((xs (tc ((nI i) + 2)))) um r vm9 h2) (cwV 2 hw g_158 rfl rfl rfl (by decide +kernel) ⟨Nat.le_of_ble_eq_true rfl, Nat.le_of_ble_eq_true rfl⟩) (pre_V hM (hK.sub [0] rfl) rfl rfl) rfl rfl hl.1 rfl (lv_room (Nat.le_of_ble_eq_true rfl)) d_Law_law_482 ⟨by omega, by omega⟩) hS (fun q h => hnew q (hsubM q h)) (fun H locs hM hk hS => ?_)
      have hG := hk _ (hMG1 _) hG
      have hO := hk _ (hMO1 o) hO
      refine lv_icmp_eq (tgt := 540) hx hb d_Law_law_485 (by decide) (fun hc => ?_) (fun hc => absurd rfl hc)
      exact tl540 _ _ _ _ _ _ _ _ hi5 (by omega) hl hG hM hO hS hInv
    by_cases hc11 : x0 = 11
    · refine lv_tableIn (tgt := 490) hx hb d_Law_law_39 (by rw [hc11]; decide) (by rw [hc11]; decide) (by rw [hc11]; rfl) (by decide) ?_
      refine lv_aload_n hx hb d_Law_law_490 rfl (lv_at hl 3 rfl) ?_
      refine lv_aload_n hx hb d_Law_law_491 rfl (lv_at hl 4 rfl) ?_
      refine lv_iload hx hb d_Law_law_492 (lv_at hl 0 rfl) ?_
      refine lv_iconst (v := 1) hx hb d_Law_law_494 (by decide) ?_
      refine lv_iadd hx hb d_Law_law_495 ?_
      refine va_sld hx hb hX hbl hbA hS (l_in (k := 1) (by omega) (by omega)) d_Law_law_496 ?_
      refine lv_aload_n hx hb d_Law_law_497 rfl (lv_at hl 4 rfl) ?_
      refine lv_iload hx hb d_Law_law_498 (lv_at hl 0 rfl) ?_
      refine lv_iconst (v := 2) hx hb d_Law_law_500 (by decide) ?_
      refine lv_iadd hx hb d_Law_law_501 ?_
      refine va_sld hx hb hX hbl hbA hS (l_in (k := 2) (by omega) (by omega)) d_Law_law_502 ?_
      obtain ⟨r, vm9, h1, h2, hInv⟩ := (hI u um hInv).2.2.2.2.2.2.2.2.2.2.2.1 ((xs (tc ((nI i) + 1)))) ((xs (tc ((nI i) + 2))))
      refine lw_ro (D := D) (cl := cls) (va_runV (As := [.int (xs (tc ((nI i) + 1))), .int (xs (tc ((nI i) + 2)))]) (rest := []) ⟨hx, hb, hml, hown, hw⟩ (c_Grc_context l D cI g0 g1 g2 g3 g4 g5 g6 g7 g8 g9 g10 g11 g12 g13 g14 g15 g16 g17 g18 g19 g20 g21 g22 g23 ((xs (tc ((nI i) + 1)))) ((xs (tc ((nI i) + 2)))) u r h1) (cwV 2 hw g_159 rfl rfl rfl (by decide +kernel) ⟨Nat.le_of_ble_eq_true rfl, Nat.le_of_ble_eq_true rfl⟩) (pre_V hG (hK.sub [0] rfl) rfl rfl) rfl rfl hl.1 rfl (lv_room (Nat.le_of_ble_eq_true rfl)) d_Law_law_503 ⟨by omega, by omega⟩) hS (fun H locs hk hS => ?_)
      have hG := hk _ hG
      have hM := hk _ hM
      have hO := hk _ hO
      refine lv_aload_n hx hb d_Law_law_506 rfl (lv_at hl 2 rfl) ?_
      refine lv_aload_n hx hb d_Law_law_507 rfl (lv_at hl 4 rfl) ?_
      refine lv_iload hx hb d_Law_law_508 (lv_at hl 0 rfl) ?_
      refine lv_iconst (v := 1) hx hb d_Law_law_510 (by decide) ?_
      refine lv_iadd hx hb d_Law_law_511 ?_
      refine va_sld hx hb hX hbl hbA hS (l_in (k := 1) (by omega) (by omega)) d_Law_law_512 ?_
      refine lv_aload_n hx hb d_Law_law_513 rfl (lv_at hl 4 rfl) ?_
      refine lv_iload hx hb d_Law_law_514 (lv_at hl 0 rfl) ?_
      refine lv_iconst (v := 2) hx hb d_Law_law_516 (by decide) ?_
      refine lv_iadd hx hb d_Law_law_517 ?_
      refine va_sld hx hb hX hbl hbA hS (l_in (k := 2) (by omega) (by omega)) d_Law_law_518 ?_
      refine lw_rw (va_runV (As := [.int (xs (tc ((nI i) + 1))), .int (xs (tc ((nI i) + 2)))]) (rest := [.int r]) ⟨hx, hb, hml, hown, hw⟩ (c_Mod_context l D cI m0 m1 m2 m3 m4 m5 m6 m7 hdm ((xs (tc ((nI i) + 1)))) ((xs (tc ((nI i) + 2)))) um r vm9 h2) (cwV 2 hw g_160 rfl rfl rfl (by decide +kernel) ⟨Nat.le_of_ble_eq_true rfl, Nat.le_of_ble_eq_true rfl⟩) (pre_V hM (hK.sub [0] rfl) rfl rfl) rfl rfl hl.1 rfl (lv_room (Nat.le_of_ble_eq_true rfl)) d_Law_law_519 ⟨by omega, by omega⟩) hS (fun q h => hnew q (hsubM q h)) (fun H locs hM hk hS => ?_)
      have hG := hk _ (hMG1 _) hG
      have hO := hk _ (hMO1 o) hO
      refine lv_icmp_eq (tgt := 540) hx hb d_Law_law_522 (by decide) (fun hc => ?_) (fun hc => absurd rfl hc)
      exact tl540 _ _ _ _ _ _ _ _ hi5 (by omega) hl hG hM hO hS hInv
    by_cases hc12 : x0 = 12
    · refine lv_tableIn (tgt := 527) hx hb d_Law_law_39 (by rw [hc12]; decide) (by rw [hc12]; decide) (by rw [hc12]; rfl) (by decide) ?_
      refine lv_aload_n hx hb d_Law_law_527 rfl (lv_at hl 3 rfl) ?_
      obtain ⟨r, vm9, h1, h2, hInv⟩ := (hI u um hInv).2.2.2.2.2.2.2.2.2.2.2.2
      refine lw_ro (D := D) (cl := cls) (va_runV (As := []) (rest := []) ⟨hx, hb, hml, hown, hw⟩ (c_Grc_runIndex l D cI g0 g1 g2 g3 g4 g5 g6 g7 g8 g9 g10 g11 g12 g13 g14 g15 g16 g17 g18 g19 g20 g21 g22 g23 u r h1) (cwV 0 hw g_161 rfl rfl rfl (by decide +kernel) ⟨Nat.le_of_ble_eq_true rfl, Nat.le_of_ble_eq_true rfl⟩) (pre_V hG (hK.sub [0] rfl) rfl rfl) rfl rfl hl.1 rfl (lv_room (Nat.le_of_ble_eq_true rfl)) d_Law_law_528 ⟨by omega, by omega⟩) hS (fun H locs hk hS => ?_)
      have hG := hk _ hG
      have hM := hk _ hM
      have hO := hk _ hO
      refine lv_aload_n hx hb d_Law_law_531 rfl (lv_at hl 2 rfl) ?_
      refine lw_rw (va_runV (As := []) (rest := [.int r]) ⟨hx, hb, hml, hown, hw⟩ (c_Mod_runIndex l D cI m0 m1 m2 m3 m4 m5 m6 m7 hdm um r vm9 h2) (cwV 0 hw g_162 rfl rfl rfl (by decide +kernel) ⟨Nat.le_of_ble_eq_true rfl, Nat.le_of_ble_eq_true rfl⟩) (pre_V hM (hK.sub [0] rfl) rfl rfl) rfl rfl hl.1 rfl (lv_room (Nat.le_of_ble_eq_true rfl)) d_Law_law_532 ⟨by omega, by omega⟩) hS (fun q h => hnew q (hsubM q h)) (fun H locs hM hk hS => ?_)
      have hG := hk _ (hMG1 _) hG
      have hO := hk _ (hMO1 o) hO
      refine lv_icmp_eq (tgt := 540) hx hb d_Law_law_535 (by decide) (fun hc => ?_) (fun hc => absurd rfl hc)
      exact tl540 _ _ _ _ _ _ _ _ hi5 (by omega) hl hG hM hO hS hInv
    refine lv_tableOut (tgt := 540) hx hb d_Law_law_39 (by have z0 := lv_neT hc0 (a := 0) (by decide); have z1 := lv_neT hc1 (a := 1) (by decide); have z2 := lv_neT hc2 (a := 2) (by decide); have z3 := lv_neT hc3 (a := 3) (by decide); have z4 := lv_neT hc4 (a := 4) (by decide); have z5 := lv_neT hc5 (a := 5) (by decide); have z6 := lv_neT hc6 (a := 6) (by decide); have z7 := lv_neT hc7 (a := 7) (by decide); have z8 := lv_neT hc8 (a := 8) (by decide); have z9 := lv_neT hc9 (a := 9) (by decide); have z10 := lv_neT hc10 (a := 10) (by decide); have z11 := lv_neT hc11 (a := 11) (by decide); have z12 := lv_neT hc12 (a := 12) (by decide); omega) (by decide) ?_
    exact tl540 _ _ _ _ _ _ _ _ hi5 (by omega) hl hG hM hO hS hInv
