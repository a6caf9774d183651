/-! a copy comes, by the class and by the reference -/
section PUT
variable {S : xH} {m m' m0 : Nat → Int → Int} {q q' : Nat → Int → Int64} {a r : Nat} {told p x y nu ho fr wy mo gi : Int} {w v v' g : Int → Int}
theorem put_net (C : CX S m q a r told w v g) (p0 : 0 ≤ p) (p1 : p < w 0) (x0 : 0 ≤ x) (x1 : x < told) (hz : v (51 + 7 * (30 * p + x) + 0) = 0) (n0 : 0 ≤ nu) (n1 : nu ≤ 9999) (hP : Rpth (q (a + 15) (30 * p + x)) wy mo ho (w 0)) : NetC (up (up (up (up (up (up (up m (a + 11) (30 * p + x) nu) (a + 12) (30 * p + x) ho) (a + 13) (30 * p + x) fr) (a + 14) (30 * p + x) (v 0)) (a + 16) p (((m (a + 16) p).toNat ||| 2 ^ x.toNat : Nat) : Int)) (a + 4) p (m (a + 4) p + 1)) (a + 17) x (m (a + 17) x + 1)) q a told w (ppS v p x nu ho fr wy mo) := by
  obtain ⟨⟨hs, hn, hr, r16, a46⟩, W, WC, NC, R⟩ := C
  have tw := W.1.2.1
  have t0 := NC.1
  have w1 := W.2.1
  obtain ⟨⟨o0, o1⟩, o2⟩ := NC.on (p := p) (x := x) p0 (by omega) x0 (by omega)
  have hb : (m (a + 16) p).toNat.testBit x.toNat = false := by
    by_cases z : (m (a + 16) p).toNat.testBit x.toNat = true
    · rw [if_pos z] at o2
      omega
    · exact Bool.eq_false_iff.mpr z
  have ol := or_lt (n := (m (a + 16) p).toNat) (k := x.toNat) (b := 30) (by omega) (by omega)
  have tx := fun i => tb_or (m (a + 16) p).toNat x.toNat i
  generalize hM : up (up (up (up (up (up (up m (a + 11) (30 * p + x) nu) (a + 12) (30 * p + x) ho) (a + 13) (30 * p + x) fr) (a + 14) (30 * p + x) (v 0)) (a + 16) p (((m (a + 16) p).toNat ||| 2 ^ x.toNat : Nat) : Int)) (a + 4) p (m (a + 4) p + 1)) (a + 17) x (m (a + 17) x + 1) = M
  have g17 : ∀ i, M (a + 17) i = if i = x then m (a + 17) x + 1 else m (a + 17) i := fun i => by
    rw [← hM]
    by_cases c : i = x
    · rw [c, up_at, if_pos rfl]
    · rw [up_i c, if_neg c, up_a (by omega), up_a (by omega), up_a (by omega), up_a (by omega), up_a (by omega), up_a (by omega)]
  have g4 : ∀ i, M (a + 4) i = if i = p then m (a + 4) p + 1 else m (a + 4) i := fun i => by
    rw [← hM, up_a (by omega)]
    by_cases c : i = p
    · rw [c, up_at, if_pos rfl]
    · rw [up_i c, if_neg c, up_a (by omega), up_a (by omega), up_a (by omega), up_a (by omega), up_a (by omega)]
  have g16 : ∀ i, M (a + 16) i = if i = p then (((m (a + 16) p).toNat ||| 2 ^ x.toNat : Nat) : Int) else m (a + 16) i := fun i => by
    rw [← hM, up_a (by omega), up_a (by omega)]
    by_cases c : i = p
    · rw [c, up_at, if_pos rfl]
    · rw [up_i c, if_neg c, up_a (by omega), up_a (by omega), up_a (by omega), up_a (by omega)]
  have g14 : ∀ i, M (a + 14) i = if i = 30 * p + x then v 0 else m (a + 14) i := fun i => by
    rw [← hM, up_a (by omega), up_a (by omega), up_a (by omega)]
    by_cases c : i = 30 * p + x
    · rw [c, up_at, if_pos rfl]
    · rw [up_i c, if_neg c, up_a (by omega), up_a (by omega), up_a (by omega)]
  have g13 : ∀ i, M (a + 13) i = if i = 30 * p + x then fr else m (a + 13) i := fun i => by
    rw [← hM, up_a (by omega), up_a (by omega), up_a (by omega), up_a (by omega)]
    by_cases c : i = 30 * p + x
    · rw [c, up_at, if_pos rfl]
    · rw [up_i c, if_neg c, up_a (by omega), up_a (by omega)]
  have g12 : ∀ i, M (a + 12) i = if i = 30 * p + x then ho else m (a + 12) i := fun i => by
    rw [← hM, up_a (by omega), up_a (by omega), up_a (by omega), up_a (by omega), up_a (by omega)]
    by_cases c : i = 30 * p + x
    · rw [c, up_at, if_pos rfl]
    · rw [up_i c, if_neg c, up_a (by omega)]
  have g11 : ∀ i, M (a + 11) i = if i = 30 * p + x then nu else m (a + 11) i := fun i => by
    rw [← hM, up_a (by omega), up_a (by omega), up_a (by omega), up_a (by omega), up_a (by omega), up_a (by omega)]
    by_cases c : i = 30 * p + x
    · rw [c, up_at, if_pos rfl]
    · rw [up_i c, if_neg c]
  have gO : ∀ (o : Nat) i, o ≠ 4 → o ≠ 11 → o ≠ 12 → o ≠ 13 → o ≠ 14 → o ≠ 16 → o ≠ 17 → M (a + o) i = m (a + o) i := fun o i _ _ _ _ _ _ _ => by
    rw [← hM, up_a (by omega), up_a (by omega), up_a (by omega), up_a (by omega), up_a (by omega), up_a (by omega), up_a (by omega)]
  refine Rnet.copy NC ⟨W.1.1, tw⟩ w1.2 p0 p1 x0 x1 (fun i i0 i1 => gO 0 i (by omega) (by omega) (by omega) (by omega) (by omega) (by omega) (by omega)) (fun o i i0 i1 o0 o1 o2 => gO o i (by omega) (by omega) (by omega) (by omega) (by omega) (by omega) (by omega)) (fun o i i0 i1 o0 o1 => gO o i (by omega) (by omega) (by omega) (by omega) (by omega) (by omega) (by omega)) (fun i i0 i1 => rfl) (fun o i i0 i1 i2 o0 o1 => ?_) (fun i i0 i1 i2 => rfl) (fun i i0 i1 i2 => (g16 i).trans (if_neg i2)) ⟨?_, ?_, fun y y0 y1 y2 => ?_⟩ ?_ (fun i i0 i1 => ?_) (fun i i0 i1 => ?_) (fun i hi => ppS_o hi) (fun z => ?_)
  · obtain rfl | rfl | rfl | rfl : o = 11 ∨ o = 12 ∨ o = 13 ∨ o = 14 := by omega
    · exact (g11 i).trans (if_neg i2)
    · exact (g12 i).trans (if_neg i2)
    · exact (g13 i).trans (if_neg i2)
    · exact (g14 i).trans (if_neg i2)
  · show 0 ≤ M (a + 16) p
    rw [g16, if_pos rfl]; omega
  · show M (a + 16) p < _
    rw [g16, if_pos rfl]; omega
  · show (M (a + 16) p).toNat.testBit _ = _
    rw [g16, if_pos rfl, Int.toNat_natCast, tx, if_neg (by omega)]
  · show ppS v p x nu ho fr wy mo _ = if (M (a + 16) p).toNat.testBit _ = true then 1 else 0
    rw [ppS_0, g16, if_pos rfl, Int.toNat_natCast, tx, if_pos rfl, if_pos rfl]
  · show M (a + 4) i = m (a + 4) i + _
    rw [ppS_0, hz, g4]
    by_cases c : i = p
    · rw [c, if_pos rfl, if_pos rfl]
      rfl
    · rw [if_neg c, if_neg c, Int.add_zero]
  · show M (a + 17) i = m (a + 17) i + _
    rw [ppS_0, hz, g17]
    by_cases c : i = x
    · rw [c, if_pos rfl, if_pos rfl]
      rfl
    · rw [if_neg c, if_neg c, Int.add_zero]
  · show (M (a + 11) _ = _ ∧ M (a + 12) _ = _ ∧ M (a + 13) _ = _ ∧ M (a + 14) _ = _) ∧ (0 ≤ M (a + 11) _ ∧ M (a + 11) _ ≤ 9999) ∧ Rpth (q (a + 15) _) _ _ (M (a + 12) _) _
    rw [ppS_1, ppS_2, ppS_3, ppS_4, ppS_5, ppS_6, g11, g12, g13, g14, if_pos rfl, if_pos rfl, if_pos rfl, if_pos rfl]
    exact ⟨⟨rfl, rfl, rfl, rfl⟩, ⟨n0, n1⟩, hP⟩
theorem q_put69 (C : CX S m q a r told w v g) (p0 : 0 ≤ p) (p1 : p < w 0) (x0 : 0 ≤ x) (x1 : x < told) (hz : v (51 + 7 * (30 * p + x) + 0) = 0) (n0 : 0 ≤ nu) (n1 : nu ≤ 9999) (hP : Rpth (q (a + 15) (30 * p + x)) wy mo ho (w 0)) : ∃ m' q', De (fun n => f_X1_put n 69 [.ref a, .int (J p), .int (J x), .int (J nu), .int (J fr), .int (J (30 * p + x)), .int (J ho)] (hp S m q)) (.inl none) (hp S m' q') ∧ CX S m' q' a r told w (cmS v p x nu ho fr wy mo) g ∧ (∀ b i, (b < a ∨ a + 22 ≤ b ∨ b = a ∨ b = a + 21) → m' b i = m b i) ∧ ∀ b, b ≠ a + 20 → q' b = q b := by
  have N1 := put_net (fr := fr) C p0 p1 x0 x1 hz n0 n1 hP
  obtain ⟨⟨hs, hn, hr, r16, a46⟩, W, WC, NC, R⟩ := id C
  have tw := W.1.2.1
  have t0 := NC.1
  have w1 := W.2.1
  have ho2 : m (a + 18) x = v (2151 + 5 * x + 0) := (NC.2.2.2.2.2 x x0 x1).1
  have ho3 : -1 ≤ m (a + 18) x ∧ m (a + 18) x ≤ v 0 := ⟨(NC.2.2.2.2.2 x x0 x1).2.1, (NC.2.2.2.2.2 x x0 x1).2.2.1⟩
  have tk : m a 2 = v 0 := t0.2.1
  have s4 := (cntw_in v p 30)
  have s4e : m (a + 4) p = cntw v p 30 := (NC.2.2.1 p p0 (by omega)).1
  obtain ⟨⟨o0, o1⟩, -⟩ := NC.on (p := p) (x := x) p0 (by omega) x0 (by omega)
  have or1 := J_or1 (z := m (a + 16) p) (p := x) o0 x0 (by omega)
  by_cases t : p = 0 ∧ v (2151 + 5 * x + 0) < 0
  · obtain ⟨tp, th⟩ := t
    have N2 : NetC (up (up (up (up (up (up (up (up (up m (a + 11) (30 * p + x) nu) (a + 12) (30 * p + x) ho) (a + 13) (30 * p + x) fr) (a + 14) (30 * p + x) (v 0)) (a + 16) p (((m (a + 16) p).toNat ||| 2 ^ x.toNat : Nat) : Int)) (a + 4) p (m (a + 4) p + 1)) (a + 17) x (m (a + 17) x + 1)) (a + 18) x (v 0)) (a + 19) x ho) (uq q (a + 20) x (q (a + 15) (30 * p + x))) a told w (cmS v p x nu ho fr wy mo) := by
      unfold cmS
      rw [if_pos ⟨tp, th⟩]
      generalize up (up (up (up (up (up (up m (a + 11) (30 * p + x) nu) (a + 12) (30 * p + x) ho) (a + 13) (30 * p + x) fr) (a + 14) (30 * p + x) (v 0)) (a + 16) p (((m (a + 16) p).toNat ||| 2 ^ x.toNat : Nat) : Int)) (a + 4) p (m (a + 4) p + 1)) (a + 17) x (m (a + 17) x + 1) = M at N1 ⊢
      have v0 : ppS v p x nu ho fr wy mo 0 = v 0 := ppS_o (by omega)
      refine Rnet.hads N1 ⟨W.1.1, tw⟩ w1.2 x0 x1 (fun i i0 i1 => ?_) (fun o i i0 h => ?_) (fun i i0 i1 => ?_) (fun o i i0 i1 i2 o0 o1 => ?_) (fun i i0 i1 i2 => ?_) (fun i hi => hdS_o hi) ?_
      · show up _ _ _ _ (a + 0) i = M (a + 0) i
        rw [up_a (by omega), up_a (by omega)]
      · show up _ _ _ _ (a + o) i = M (a + o) i
        rw [up_a (by omega), up_a (by omega)]
      · show uq _ _ _ _ (a + 15) i = q (a + 15) i
        rw [uq_row (by omega)]
      · show up _ _ _ _ (a + o) i = M (a + o) i
        rw [up_i i2, up_i i2]
      · show uq _ _ _ _ (a + 20) i = q (a + 20) i
        rw [uq_get, if_neg (fun z => i2 z.2)]
      · show up _ _ _ _ (a + 18) x = hdS _ _ _ _ _ _ _ ∧ 0 ≤ up _ _ _ _ (a + 18) x ∧ up _ _ _ _ (a + 18) x ≤ ppS _ _ _ _ _ _ _ _ 0 ∧ up _ _ _ _ (a + 19) x = hdS _ _ _ _ _ _ _ ∧ Rpth (uq _ _ _ _ (a + 20) x) (hdS _ _ _ _ _ _ _) (hdS _ _ _ _ _ _ _) (up _ _ _ _ (a + 19) x) _
        rw [up_at, up_a (by omega), up_at, uq_at, hdS_0, hdS_2, hdS_3, hdS_4, v0]
        exact ⟨rfl, by omega, Int.le_refl _, rfl, hP⟩
    refine ⟨_, _, ?_, C.net (fun b i hb => ?_) N2, fun b i hb => ?_, fun b hb => uq_row hb⟩
    · refine De.eq 1 (fun n => ?_)
      rw [j_X1_put_69]
      simp (disch := omega) only [b_X1_put_69, Net0_r6 hn, Net10_m0 hn, Net10_m1 hn, Net10_m2 hn, Net10_m3 hn, Net11_s hn, Net12_s hn, Net13_s hn, Net14_s hn, Net0_i2 hn, Net0_r8 hn, Net16_g hn, Net16_s hn, Net0_r5 hn, Net1_m2 hn, Net4_g hn, Net4_s hn, Net0_r9 hn, Net17_g hn, Net17_s hn, Net0_r10 hn, Net18_g hn, Net18_s hn, Net0_r11 hn, Net19_s hn, Net0_r12 hn, Net0_r7 hn, Net15_g hn, Net20_s hn, or1, tk, up_a, ne_eq, Option.bind_some, xI, xU, xUt, xIt, J_lit, J_add, J_sub, J_mul, J_neg, J_ltc, J_lec, J_eqc, lt_T, lt_F, le_T, le_F, eq_T, eq_F, ↓reduceIte, ite_not, not_true_eq_false, not_false_eq_true, true_or, or_true, false_or, or_false, true_and, and_true, false_and, and_false, up_get, Nat.reduceEqDiff, Int.reduceNeg, eqN_T, eqN_F]
    · rw [up_a (by omega), up_a (by omega), up_a (by omega), up_a (by omega), up_a (by omega), up_a (by omega), up_a (by omega), up_a (by omega), up_a (by omega)]
    · rw [up_a (by omega), up_a (by omega), up_a (by omega), up_a (by omega), up_a (by omega), up_a (by omega), up_a (by omega), up_a (by omega), up_a (by omega)]
  · have ec : cmS v p x nu ho fr wy mo = ppS v p x nu ho fr wy mo := if_neg t
    have N2 := N1
    rw [← ec] at N2
    refine ⟨_, q, ?_, C.net (fun b i hb => ?_) N2, fun b i hb => ?_, fun b hb => rfl⟩
    · refine De.eq 1 (fun n => ?_)
      rw [j_X1_put_69]
      by_cases tp : p = 0
      · have th : ¬ v (2151 + 5 * x + 0) < 0 := fun z => t ⟨tp, z⟩
        simp (disch := omega) only [b_X1_put_69, Net0_r6 hn, Net10_m0 hn, Net10_m1 hn, Net10_m2 hn, Net10_m3 hn, Net11_s hn, Net12_s hn, Net13_s hn, Net14_s hn, Net0_i2 hn, Net0_r8 hn, Net16_g hn, Net16_s hn, Net0_r5 hn, Net1_m2 hn, Net4_g hn, Net4_s hn, Net0_r9 hn, Net17_g hn, Net17_s hn, Net0_r10 hn, Net18_g hn, or1, tk, up_a, ne_eq, Option.bind_some, xI, xU, xUt, xIt, J_lit, J_add, J_sub, J_mul, J_neg, J_ltc, J_lec, J_eqc, lt_T, lt_F, le_T, le_F, eq_T, eq_F, ↓reduceIte, ite_not, not_true_eq_false, not_false_eq_true, true_or, or_true, false_or, or_false, true_and, and_true, false_and, and_false, up_get, Nat.reduceEqDiff, Int.reduceNeg, eqN_T, eqN_F]
      · simp (disch := omega) only [b_X1_put_69, Net0_r6 hn, Net10_m0 hn, Net10_m1 hn, Net10_m2 hn, Net10_m3 hn, Net11_s hn, Net12_s hn, Net13_s hn, Net14_s hn, Net0_i2 hn, Net0_r8 hn, Net16_g hn, Net16_s hn, Net0_r5 hn, Net1_m2 hn, Net4_g hn, Net4_s hn, Net0_r9 hn, Net17_g hn, Net17_s hn, or1, tk, up_a, ne_eq, Option.bind_some, xI, xU, xUt, xIt, J_lit, J_add, J_sub, J_mul, J_neg, J_ltc, J_lec, J_eqc, lt_T, lt_F, le_T, le_F, eq_T, eq_F, ↓reduceIte, ite_not, not_true_eq_false, not_false_eq_true, true_or, or_true, false_or, or_false, true_and, and_true, false_and, and_false, up_get, Nat.reduceEqDiff, Int.reduceNeg, eqN_T, eqN_F]
    · rw [up_a (by omega), up_a (by omega), up_a (by omega), up_a (by omega), up_a (by omega), up_a (by omega), up_a (by omega)]
    · rw [up_a (by omega), up_a (by omega), up_a (by omega), up_a (by omega), up_a (by omega), up_a (by omega), up_a (by omega)]
/-- the path of a copy that is not there may be anything -/
theorem CX.path (C : CX S m q a r told w v g) (p0 : 0 ≤ p) (p1 : p < w 0) (x0 : 0 ≤ x) (x1 : x < told) (hz : v (51 + 7 * (30 * p + x) + 0) = 0) (L : Int64) : CX S m (uq q (a + 15) (30 * p + x) L) a r told w v g := by
  obtain ⟨⟨hs, hn, hr, r16, a46⟩, W, WC, NC, R⟩ := id C
  have tw := W.1.2.1
  have w1 := W.2.1
  have t0 := NC.1
  obtain ⟨⟨o0, o1⟩, o2⟩ := NC.on (p := p) (x := x) p0 (by omega) x0 (by omega)
  refine C.net (fun b i hb => rfl) ?_
  refine Rnet.copy NC ⟨W.1.1, tw⟩ w1.2 p0 p1 x0 x1 (fun i i0 i1 => rfl) (fun o i i0 i1 o0 o1 o2 => rfl) (fun o i i0 i1 o0 o1 => rfl) (fun i i0 i1 => ?_) (fun o i i0 i1 i2 o0 o1 => rfl) (fun i i0 i1 i2 => ?_) (fun i i0 i1 i2 => rfl) ⟨o0, o1, fun y y0 y1 y2 => rfl⟩ o2 (fun i i0 i1 => ?_) (fun i i0 i1 => ?_) (fun i hi => rfl) (fun z => absurd (hz.symm.trans z) (by decide))
  · show uq _ _ _ _ (a + 20) i = q (a + 20) i
    rw [uq_row (by omega)]
  · show uq _ _ _ _ (a + 15) i = q (a + 15) i
    rw [uq_get, if_neg (fun z => i2 z.2)]
  · rw [hz]
    split <;> omega
  · rw [hz]
    split <;> omega
theorem Rpth0 {ph : Int} : Rpth 0 0 0 0 ph := ⟨by decide, by decide, by decide, by decide, by decide +kernel, by decide, by decide, by decide, fun i hi => absurd hi (by omega)⟩
/-- told there -/
theorem q_put0 (C : CX S m q a r told w v g) (p0 : 0 ≤ p) (p1 : p < w 0) (x0 : 0 ≤ x) (x1 : x < told) (hz : v (51 + 7 * (30 * p + x) + 0) = 0) (n0 : 0 ≤ nu) (n1 : nu ≤ 9999) : ∃ m' q', De (fun n => f_X1_put n 0 [.ref a, .int (J p), .int (J x), .int (J nu), .int (J (-1))] (hp S m q)) (.inl none) (hp S m' q') ∧ CX S m' q' a r told w (cmS v p x nu 0 (-1) 0 0) g ∧ (∀ b i, (b < a ∨ a + 22 ≤ b ∨ b = a ∨ b = a + 21) → m' b i = m b i) ∧ ∀ b, b ≠ a + 15 → b ≠ a + 20 → q' b = q b := by
  obtain ⟨⟨hs, hn, hr, r16, a46⟩, W, WC, NC, R⟩ := id C
  have tw := W.1.2.1
  have w1 := W.2.1
  have t0 := NC.1
  obtain ⟨m', q', D, C', F, G⟩ := q_put69 (fr := -1) (wy := 0) (mo := 0) (ho := 0) (C.path p0 p1 x0 x1 hz 0) p0 p1 x0 x1 hz n0 n1 (by rw [uq_at]; exact Rpth0)
  refine ⟨m', q', ?_, C', F, fun b h1 h2 => (G b h2).trans (uq_row h1)⟩
  refine De.step ?_
  simp only [j_X1_put_0]
  simp (disch := omega) only [b_X1_put_0]
  refine De.call (De.eq 1 (fun n => e_cell n p x _)) ?_
  simp (disch := omega) only [Net0_r7 hn, Net15_s hn, Option.bind_some, xI, xU, xUt, xIt, J_lit, J_add, J_sub, J_mul, J_neg, J_ltc, J_lec, J_eqc, lt_T, lt_F, le_T, le_F, eq_T, eq_F, ↓reduceIte, ite_not, not_true_eq_false, not_false_eq_true, true_or, or_true, false_or, or_false, true_and, and_true, false_and, and_false, up_get, Nat.reduceEqDiff, Int.reduceNeg, eqN_T, eqN_F]
  exact D
/-- handed on -/
theorem q_put1 (C : CX S m q a r told w v g) (p0 : 0 ≤ p) (p1 : p < w 0) (x0 : 0 ≤ x) (x1 : x < told) (hz : v (51 + 7 * (30 * p + x) + 0) = 0) (n0 : 0 ≤ nu) (n1 : nu ≤ 9999) (g0 : 0 ≤ gi) (g1 : gi < w 0) (hg : v (51 + 7 * (30 * gi + x) + 0) = 1) (h12 : v (51 + 7 * (30 * gi + x) + 2) < 12) : ∃ m' q', De (fun n => f_X1_put n 0 [.ref a, .int (J p), .int (J x), .int (J nu), .int (J gi)] (hp S m q)) (.inl none) (hp S m' q') ∧ CX S m' q' a r told w (cmS v p x nu (v (51 + 7 * (30 * gi + x) + 2) + 1) gi (wyS (v (51 + 7 * (30 * gi + x) + 5)) gi (v (51 + 7 * (30 * gi + x) + 2))) (moS (v (51 + 7 * (30 * gi + x) + 6)) gi (v (51 + 7 * (30 * gi + x) + 2)))) g ∧ (∀ b i, (b < a ∨ a + 22 ≤ b ∨ b = a ∨ b = a + 21) → m' b i = m b i) ∧ ∀ b, b ≠ a + 15 → b ≠ a + 20 → q' b = q b := by
  obtain ⟨⟨hs, hn, hr, r16, a46⟩, W, WC, NC, R⟩ := id C
  have tw := W.1.2.1
  have w1 := W.2.1
  have t0 := NC.1
  have ne : gi ≠ p := fun z => by
    rw [z] at hg
    omega
  obtain ⟨-, hgf⟩ := NC.2.2.2.1 gi x g0 (by omega) x0 (by omega)
  obtain ⟨-, ⟨c1, c2, c3, c4⟩, c5, c6⟩ := hgf hg
  have e12 : m (a + 12) (30 * gi + x) = v (51 + 7 * (30 * gi + x) + 2) := c2
  have c6' : Rpth (q (a + 15) (30 * gi + x)) (v (51 + 7 * (30 * gi + x) + 5)) (v (51 + 7 * (30 * gi + x) + 6)) (v (51 + 7 * (30 * gi + x) + 2)) (w 0) := e12 ▸ c6
  have h0 := c6'.2.2.2.2.2.1
  have P := c6'.on h12 g0 g1 tw
  obtain ⟨m', q', D, C', F, G⟩ := q_put69 (fr := gi) (C.path p0 p1 x0 x1 hz (q (a + 15) (30 * gi + x) ||| (Int32.toInt64 (J gi) <<< (Int32.toInt64 (J (4 * v (51 + 7 * (30 * gi + x) + 2))) &&& 63)))) p0 p1 x0 x1 hz n0 n1 (by rw [uq_at]; exact P)
  refine ⟨m', q', ?_, C', F, fun b h1 h2 => (G b h2).trans (uq_row h1)⟩
  have e15 : ∀ L, uq q (a + 15) (30 * p + x) L (a + 15) (30 * gi + x) = q (a + 15) (30 * gi + x) := fun L => by rw [uq_get, if_neg (by omega)]
  have uu : ∀ L L', uq (uq q (a + 15) (30 * p + x) L) (a + 15) (30 * p + x) L' = uq q (a + 15) (30 * p + x) L' := fun L L' => funext fun b => funext fun i => by
    rw [uq_get, uq_get, uq_get]
    split <;> rfl
  refine De.step ?_
  simp only [j_X1_put_0]
  simp (disch := omega) only [b_X1_put_0]
  refine De.call (De.eq 1 (fun n => e_cell n p x _)) ?_
  simp (disch := omega) only [Net0_r7 hn, Net15_s hn, Net0_r6 hn, Net10_m1 hn, Option.bind_some, xI, xU, xUt, xIt, J_lit, J_add, J_sub, J_mul, J_neg, J_ltc, J_lec, J_eqc, lt_T, lt_F, le_T, le_F, eq_T, eq_F, ↓reduceIte, ite_not, not_true_eq_false, not_false_eq_true, true_or, or_true, false_or, or_false, true_and, and_true, false_and, and_false, up_get, Nat.reduceEqDiff, Int.reduceNeg, eqN_T, eqN_F]
  refine De.call (De.eq 1 (fun n => e_cell n gi x _)) ?_
  simp (disch := omega) only [Net0_r7 hn, Net12_g hn, e12, Option.bind_some, xI, xU, xUt, xIt, J_lit, J_add, J_sub, J_mul, J_neg, J_ltc, J_lec, J_eqc, lt_T, lt_F, le_T, le_F, eq_T, eq_F, ↓reduceIte, ite_not, not_true_eq_false, not_false_eq_true, true_or, or_true, false_or, or_false, true_and, and_true, false_and, and_false, up_get, Nat.reduceEqDiff, Int.reduceNeg, eqN_T, eqN_F]
  refine De.call (De.eq 1 (fun n => e_cell n gi x _)) ?_
  simp (disch := omega) only [Net15_g hn, Net15_s hn, e15, uu, Option.bind_some, xI, xU, xUt, xIt, J_lit, J_add, J_sub, J_mul, J_neg, J_ltc, J_lec, J_eqc, lt_T, lt_F, le_T, le_F, eq_T, eq_F, ↓reduceIte, ite_not, not_true_eq_false, not_false_eq_true, true_or, or_true, false_or, or_false, true_and, and_true, false_and, and_false, up_get, Nat.reduceEqDiff, Int.reduceNeg, eqN_T, eqN_F]
  exact D
end PUT
