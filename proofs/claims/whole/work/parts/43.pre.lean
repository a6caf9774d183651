/-! rows for the calls that follow -/
def ixor (a b : Int) : Int := (J a ^^^ J b).toInt
theorem J_ixor (a b : Int) : J a ^^^ J b = J (ixor a b) := (J_toInt _).symm
theorem ixor_in (a b : Int) : -2147483648 ≤ ixor a b ∧ ixor a b < 2147483648 := by
  obtain ⟨z, h, h1, h2⟩ := J_of (J a ^^^ J b)
  unfold ixor
  rw [h, toInt_J h1 h2]
  exact ⟨h1, h2⟩
theorem Rwrd.judge {n x d : Int} {F F' : Int → Int → Int} {u w w' v : Int → Int} (h : Rwrd n F u w v) (x0 : 0 ≤ x) (x1 : x < w 1) (d0 : 1 ≤ d) (d1 : d ≤ 2) (eF : ∀ k y : Int, 0 ≤ k → k < 10 → F' k y = if k = 9 ∧ y = x then d else F k y) (ew : ∀ i : Int, w' i = if i = 761 + 10 * x + 9 then d else w i) : Rwrd n F' u w' v := by
  obtain ⟨h1, h2, h3, h4, h5, h6, h7, h8⟩ := h
  have e1 : w' 1 = w 1 := by rw [ew, if_neg (by omega)]
  have e0 : w' 0 = w 0 := by rw [ew, if_neg (by omega)]
  refine ⟨by omega, by omega, by omega, fun y k y0 y1 k0 k1 => ?_, fun y y0 y1 => ?_, fun y z y0 yz z1 => ?_, fun y k y0 y1 k0 k1 k2 => ?_, fun y y0 y1 => ?_⟩
  · rw [eF k y k0 k1, ew]
    by_cases c : k = 9 ∧ y = x
    · rw [if_pos c, if_pos (by omega)]
    · rw [if_neg c, if_neg (by omega)]
      exact h4 y k y0 (by omega) k0 k1
  · rw [eF 0 y (by omega) (by omega), if_neg (by omega), eF 1 y (by omega) (by omega), if_neg (by omega), eF 2 y (by omega) (by omega), if_neg (by omega), eF 3 y (by omega) (by omega), if_neg (by omega), eF 4 y (by omega) (by omega), if_neg (by omega), eF 5 y (by omega) (by omega), if_neg (by omega), eF 6 y (by omega) (by omega), if_neg (by omega), eF 7 y (by omega) (by omega), if_neg (by omega), eF 8 y (by omega) (by omega), if_neg (by omega), eF 9 y (by omega) (by omega), e0]
    have := h5 y y0 (by omega)
    by_cases c : y = x
    · rw [if_pos ⟨rfl, c⟩]
      exact ⟨this.1, this.2.1, this.2.2.1, this.2.2.2.1, this.2.2.2.2.1, this.2.2.2.2.2.1, by omega, by omega⟩
    · rw [if_neg (fun z => c z.2)]
      exact this
  · rw [eF 2 y (by omega) (by omega), if_neg (by omega), eF 2 z (by omega) (by omega), if_neg (by omega)]
    exact h6 y z y0 yz (by omega)
  · rw [eF k y (by omega) k1, if_neg (by omega)]
    exact h7 y k (by omega) y1 k0 k1 k2
  · obtain ⟨a1, a2, a3⟩ := h8 y y0 y1
    refine ⟨a1, a2, fun z z0 z1 => ?_⟩
    rw [e1, ew, if_neg (by omega)]
    exact a3 z z0 z1
section PRE43
variable {S : xH} {m : Nat → Int → Int} {q : Nat → Int → Int64} {x : Int}
theorem e_isHidden_T (hs : Sk S) (h0 : 0 ≤ m 9 9) (h1 : m 9 9 < 65536) (x0 : 0 ≤ x) (x1 : x < 16) (hb : (m 9 9).toNat.testBit x.toNat = true) (n : Nat) : f_X7_isHidden (n + 1) 0 [.ref 9, .int (J x)] (hp S m q) = some (.inl (some (.int (J 1))), hp S m q) := by
  simp (disch := omega) only [j_X7_isHidden_0, b_X7_isHidden_0, x9_k hs, x9_r0 hs, x9_r1 hs, x9_r2 hs, x9_r3 hs, x9_r4 hs, x9_r5 hs, x9_r6 hs, x9_r7 hs, x9_i8 hs, x9_w8 hs, x9_i9 hs, x9_w9 hs, J_tb, Option.bind_some, xI, xU, xUt, xIt, J_lit, J_add, J_sub, J_mul, J_neg, J_lt, J_le, J_eq, lt_T, lt_F, le_T, le_F, eq_T, eq_F, ↓reduceIte, ite_not, not_true_eq_false, not_false_eq_true, true_or, or_true, false_or, or_false, true_and, and_true, false_and, and_false, up_get, Nat.reduceEqDiff, Int.reduceNeg]
  rw [hb]
  simp only [if_true]
  rw [if_neg (by omega)]
theorem e_isHidden_F (hs : Sk S) (h0 : 0 ≤ m 9 9) (h1 : m 9 9 < 65536) (x0 : 0 ≤ x) (x1 : x < 16) (hb : (m 9 9).toNat.testBit x.toNat = false) (n : Nat) : f_X7_isHidden (n + 1) 0 [.ref 9, .int (J x)] (hp S m q) = some (.inl (some (.int (J 0))), hp S m q) := by
  simp (disch := omega) only [j_X7_isHidden_0, b_X7_isHidden_0, x9_k hs, x9_r0 hs, x9_r1 hs, x9_r2 hs, x9_r3 hs, x9_r4 hs, x9_r5 hs, x9_r6 hs, x9_r7 hs, x9_i8 hs, x9_w8 hs, x9_i9 hs, x9_w9 hs, J_tb, Option.bind_some, xI, xU, xUt, xIt, J_lit, J_add, J_sub, J_mul, J_neg, J_lt, J_le, J_eq, lt_T, lt_F, le_T, le_F, eq_T, eq_F, ↓reduceIte, ite_not, not_true_eq_false, not_false_eq_true, true_or, or_true, false_or, or_false, true_and, and_true, false_and, and_false, up_get, Nat.reduceEqDiff, Int.reduceNeg]
  rw [hb]
  simp
/-- steps between two places; what a gang saves -/
def stp (a b : Int) : Int32 := mAbs (J (a - a / 4 * 4 - (b - b / 4 * 4))) + mAbs (J (a / 4 - b / 4))
theorem e_steps {a b : Int} (a0 : 0 ≤ a) (a1 : a < 16) (b0 : 0 ≤ b) (b1 : b < 16) (n : Nat) (P : xH) : f_X10_steps (n + 1) 0 [.int (J a), .int (J b)] P = some (.inl (some (.int (stp a b))), P) := by
  unfold stp
  simp (disch := omega) only [j_X10_steps_0, b_X10_steps_0, J_div, Option.bind_some, xI, xU, xUt, xIt, J_lit, J_add, J_sub, J_mul, J_neg, J_lt, J_le, J_eq, lt_T, lt_F, le_T, le_F, eq_T, eq_F, ↓reduceIte, ite_not, not_true_eq_false, not_false_eq_true, true_or, or_true, false_or, or_false, true_and, and_true, false_and, and_false, up_get, Nat.reduceEqDiff, Int.reduceNeg]
theorem e_between {a b : Int} (a0 : 0 ≤ a) (a1 : a < 16) (b0 : 0 ≤ b) (b1 : b < 16) (n : Nat) (P : xH) : f_X11_between (n + 1) 0 [.int (J a), .int (J b)] P = some (.inl (some (.int (stp a b))), P) := by
  unfold stp
  simp (disch := omega) only [j_X11_between_0, b_X11_between_0, J_div, Option.bind_some, xI, xU, xUt, xIt, J_lit, J_add, J_sub, J_mul, J_neg, J_lt, J_le, J_eq, lt_T, lt_F, le_T, le_F, eq_T, eq_F, ↓reduceIte, ite_not, not_true_eq_false, not_false_eq_true, true_or, or_true, false_or, or_false, true_and, and_true, false_and, and_false, up_get, Nat.reduceEqDiff, Int.reduceNeg]
def sav (l o f d told sp gp st t : Int) : Int32 := J l * mMax (J o - J f * (J t + stp gp sp + J ((d + st - 1) / st) - J told)) (J 0)
theorem e_savedByC (hs : Sk S) {g s t : Int} (g0 : 0 ≤ g) (g1 : g < 4) (s0 : 0 ≤ s) (s1 : s < 5) (h1 : 0 ≤ m 107 g) (h2 : m 107 g < 16) (h3 : 0 ≤ m 101 s) (h4 : m 101 s < 16) (h5 : 1 ≤ m 108 g) (h6 : m 108 g ≤ 100) (h7 : 1 ≤ m 105 s) (h8 : m 105 s ≤ 1000) (n : Nat) : f_X0_savedBy (n + 3) 0 [.ref 99, .int (J g), .int (J s), .int (J t)] (hp S m q) = some (.inl (some (.int (sav (m 102 s) (m 103 s) (m 104 s) (m 105 s) (m 106 s) (m 101 s) (m 107 g) (m 108 g) t))), hp S m q) := by
  unfold sav
  simp (disch := omega) only [j_X0_savedBy_0, b_X0_savedBy_0, x99_k hs, x99_r0 hs, x99_r1 hs, x99_r2 hs, x99_r3 hs, x99_r4 hs, x99_i5 hs, x99_w5 hs, x99_i6 hs, x99_w6 hs, x99_i7 hs, x99_w7 hs, x100_m0 hs, x100_m1 hs, x100_m2 hs, x100_m3 hs, x100_m4 hs, x100_m5 hs, x100_l hs, x101_g hs, x101_s hs, x101_l hs, x102_g hs, x102_s hs, x102_l hs, x103_g hs, x103_s hs, x103_l hs, x104_g hs, x104_s hs, x104_l hs, x105_g hs, x105_s hs, x105_l hs, x106_g hs, x106_s hs, x106_l hs, x107_g hs, x107_s hs, x107_l hs, x108_g hs, x108_s hs, x108_l hs, e_steps, J_div, Option.bind_some, xI, xU, xUt, xIt, J_lit, J_add, J_sub, J_mul, J_neg, J_lt, J_le, J_eq, lt_T, lt_F, le_T, le_F, eq_T, eq_F, ↓reduceIte, ite_not, not_true_eq_false, not_false_eq_true, true_or, or_true, false_or, or_false, true_and, and_true, false_and, and_false, up_get, Nat.reduceEqDiff, Int.reduceNeg]
theorem e_savedByM (hs : Sk S) {g s : Int} (g0 : 0 ≤ g) (g1 : g < 4) (s0 : 0 ≤ s) (s1 : s < 5) (h1 : 0 ≤ m 139 (1112 + 2 * g)) (h2 : m 139 (1112 + 2 * g) < 16) (h3 : 0 ≤ m 139 (1082 + 6 * s)) (h4 : m 139 (1082 + 6 * s) < 16) (h5 : 1 ≤ m 139 (1112 + 2 * g + 1)) (h6 : m 139 (1112 + 2 * g + 1) ≤ 100) (h7 : 1 ≤ m 139 (1082 + 6 * s + 4)) (h8 : m 139 (1082 + 6 * s + 4) ≤ 1000) (n : Nat) : f_X11_savedBy (n + 3) 0 [.ref 136, .int (J g), .int (J s)] (hp S m q) = some (.inl (some (.int (sav (m 139 (1082 + 6 * s + 1)) (m 139 (1082 + 6 * s + 2)) (m 139 (1082 + 6 * s + 3)) (m 139 (1082 + 6 * s + 4)) (m 139 (1082 + 6 * s + 5)) (m 139 (1082 + 6 * s)) (m 139 (1112 + 2 * g)) (m 139 (1112 + 2 * g + 1)) (m 137 0)))), hp S m q) := by
  unfold sav
  simp (disch := omega) only [j_X11_savedBy_0, b_X11_savedBy_0, x136_k hs, x136_i0 hs, x136_w0 hs, x136_r1 hs, x136_r2 hs, x136_r3 hs, x136_r4 hs, x136_i5 hs, x136_w5 hs, x136_i6 hs, x136_w6 hs, x136_i7 hs, x136_w7 hs, x136_r8 hs, x136_i9 hs, x136_w9 hs, x136_i10 hs, x136_w10 hs, x136_i11 hs, x136_w11 hs, x136_i12 hs, x136_w12 hs, x136_i13 hs, x136_w13 hs, x136_i14 hs, x136_w14 hs, x136_r15 hs, x136_i16 hs, x136_w16 hs, x136_r17 hs, x136_r18 hs, x136_r19 hs, x136_r20 hs, x136_r21 hs, x136_i22 hs, x136_w22 hs, x136_r23 hs, x136_r24 hs, x136_i25 hs, x136_w25 hs, x136_i26 hs, x136_w26 hs, x136_r27 hs, x136_r28 hs, x136_i29 hs, x136_w29 hs, x139_g hs, x139_s hs, x139_l hs, e_tick hs, e_between, J_div, Option.bind_some, xI, xU, xUt, xIt, J_lit, J_add, J_sub, J_mul, J_neg, J_lt, J_le, J_eq, lt_T, lt_F, le_T, le_F, eq_T, eq_F, ↓reduceIte, ite_not, not_true_eq_false, not_false_eq_true, true_or, or_true, false_or, or_false, true_and, and_true, false_and, and_false, up_get, Nat.reduceEqDiff, Int.reduceNeg]
  rw [mMax_comm]
end PRE43
