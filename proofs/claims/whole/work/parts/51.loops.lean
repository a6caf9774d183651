/-! more loops that count: total, wordsHad, lotsThatMove, count's own, firstTorn, check -/
/-- the first place where two rows differ, from i on -/
def ftor (a b : Int → Int) : Nat → Int → Int
  | 0, _ => -1
  | k + 1, i => if a i = b i then ftor a b k (i + 1) else i
theorem ftor_congr {a b a' b' : Int → Int} : ∀ (k : Nat) (i : Int), (∀ x, i ≤ x → x < i + k → a' x = a x ∧ b' x = b x) → ftor a' b' k i = ftor a b k i
  | 0, _, _ => rfl
  | k + 1, i, h => by
    obtain ⟨h1, h2⟩ := h i (by omega) (by omega)
    rw [ftor, ftor, h1, h2, ftor_congr k (i + 1) (fun x x0 x1 => h x (by omega) (by omega))]
section LOOPS2
variable {S : xH} {m : Nat → Int → Int} {q : Nat → Int → Int64}
theorem q_total2_l (hs : Sk S) (hb : m 46 3 ≤ 10) (N : Nat) (hN : (N : Int) = m 46 3) : ∀ k i : Nat, i + k = N → De (fun n => f_X1_total n 4 [.ref 46, .int (J 2), .int (J (psum (m 50) i)), .int (J i)] (hp S m q)) (.inl (some (.int (J (psum (m 50) N))))) (hp S m q)
  | 0, i, h => by
    have h : i = N := by omega
    subst h
    refine De.stepk 3 ?_
    simp only [j_X1_total_4]
    simp (disch := omega) only [b_X1_total_4, x46_k hs, x46_r0 hs, x46_r1 hs, x46_i2 hs, x46_w2 hs, x46_i3 hs, x46_w3 hs, x46_i4 hs, x46_w4 hs, x46_r5 hs, x46_r6 hs, x46_r7 hs, x46_r8 hs, x46_r9 hs, x46_r10 hs, x46_r11 hs, x46_r12 hs, x46_r13 hs, x46_i14 hs, x46_w14 hs, x46_i15 hs, x46_w15 hs, x46_i16 hs, x46_w16 hs, x47_m0 hs, x47_m1 hs, x47_m2 hs, x47_m3 hs, x47_m4 hs, x47_m5 hs, x47_m6 hs, x47_m7 hs, x47_l hs, Option.bind_some, xI, xU, xUt, xIt, J_lit, J_add, J_sub, J_mul, J_neg, J_lt, J_le, J_eq, lt_T, lt_F, le_T, le_F, eq_T, eq_F, ↓reduceIte, ite_not, not_true_eq_false, not_false_eq_true, true_or, or_true, false_or, or_false, true_and, and_true, false_and, and_false, up_get, Nat.reduceEqDiff, Int.reduceNeg]
    exact De.ret _ _
  | k + 1, i, h => by
    have ih := (q_total2_l hs hb N hN k (i + 1) (by omega)).sh 2
    rw [psum] at ih
    refine De.stepk 3 ?_
    simp only [j_X1_total_4]
    simp (disch := omega) only [b_X1_total_4, x46_k hs, x46_r0 hs, x46_r1 hs, x46_i2 hs, x46_w2 hs, x46_i3 hs, x46_w3 hs, x46_i4 hs, x46_w4 hs, x46_r5 hs, x46_r6 hs, x46_r7 hs, x46_r8 hs, x46_r9 hs, x46_r10 hs, x46_r11 hs, x46_r12 hs, x46_r13 hs, x46_i14 hs, x46_w14 hs, x46_i15 hs, x46_w15 hs, x46_i16 hs, x46_w16 hs, x47_m0 hs, x47_m1 hs, x47_m2 hs, x47_m3 hs, x47_m4 hs, x47_m5 hs, x47_m6 hs, x47_m7 hs, x47_l hs, x50_g hs, x50_s hs, x50_l hs, Option.bind_some, xI, xU, xUt, xIt, J_lit, J_add, J_sub, J_mul, J_neg, J_lt, J_le, J_eq, lt_T, lt_F, le_T, le_F, eq_T, eq_F, ↓reduceIte, ite_not, not_true_eq_false, not_false_eq_true, true_or, or_true, false_or, or_false, true_and, and_true, false_and, and_false, up_get, Nat.reduceEqDiff, Int.reduceNeg]
    exact ih
theorem q_total2 (hs : Sk S) (hb : m 46 3 ≤ 10) (N : Nat) (hN : (N : Int) = m 46 3) : De (fun n => f_X1_total n 0 [.ref 46, .int (J 2)] (hp S m q)) (.inl (some (.int (J (psum (m 50) N))))) (hp S m q) := by
  refine De.step ?_
  simp only [j_X1_total_0, b_X1_total_0, J_lit]
  exact q_total2_l hs hb N hN N 0 (by omega)
theorem q_total5_l (hs : Sk S) (hb : m 46 3 ≤ 10) (N : Nat) (hN : (N : Int) = m 46 3) : ∀ k i : Nat, i + k = N → De (fun n => f_X1_total n 4 [.ref 46, .int (J 5), .int (J (psum (m 53) i)), .int (J i)] (hp S m q)) (.inl (some (.int (J (psum (m 53) N))))) (hp S m q)
  | 0, i, h => by
    have h : i = N := by omega
    subst h
    refine De.stepk 3 ?_
    simp only [j_X1_total_4]
    simp (disch := omega) only [b_X1_total_4, x46_k hs, x46_r0 hs, x46_r1 hs, x46_i2 hs, x46_w2 hs, x46_i3 hs, x46_w3 hs, x46_i4 hs, x46_w4 hs, x46_r5 hs, x46_r6 hs, x46_r7 hs, x46_r8 hs, x46_r9 hs, x46_r10 hs, x46_r11 hs, x46_r12 hs, x46_r13 hs, x46_i14 hs, x46_w14 hs, x46_i15 hs, x46_w15 hs, x46_i16 hs, x46_w16 hs, x47_m0 hs, x47_m1 hs, x47_m2 hs, x47_m3 hs, x47_m4 hs, x47_m5 hs, x47_m6 hs, x47_m7 hs, x47_l hs, Option.bind_some, xI, xU, xUt, xIt, J_lit, J_add, J_sub, J_mul, J_neg, J_lt, J_le, J_eq, lt_T, lt_F, le_T, le_F, eq_T, eq_F, ↓reduceIte, ite_not, not_true_eq_false, not_false_eq_true, true_or, or_true, false_or, or_false, true_and, and_true, false_and, and_false, up_get, Nat.reduceEqDiff, Int.reduceNeg]
    exact De.ret _ _
  | k + 1, i, h => by
    have ih := (q_total5_l hs hb N hN k (i + 1) (by omega)).sh 2
    rw [psum] at ih
    refine De.stepk 3 ?_
    simp only [j_X1_total_4]
    simp (disch := omega) only [b_X1_total_4, x46_k hs, x46_r0 hs, x46_r1 hs, x46_i2 hs, x46_w2 hs, x46_i3 hs, x46_w3 hs, x46_i4 hs, x46_w4 hs, x46_r5 hs, x46_r6 hs, x46_r7 hs, x46_r8 hs, x46_r9 hs, x46_r10 hs, x46_r11 hs, x46_r12 hs, x46_r13 hs, x46_i14 hs, x46_w14 hs, x46_i15 hs, x46_w15 hs, x46_i16 hs, x46_w16 hs, x47_m0 hs, x47_m1 hs, x47_m2 hs, x47_m3 hs, x47_m4 hs, x47_m5 hs, x47_m6 hs, x47_m7 hs, x47_l hs, x53_g hs, x53_s hs, x53_l hs, Option.bind_some, xI, xU, xUt, xIt, J_lit, J_add, J_sub, J_mul, J_neg, J_lt, J_le, J_eq, lt_T, lt_F, le_T, le_F, eq_T, eq_F, ↓reduceIte, ite_not, not_true_eq_false, not_false_eq_true, true_or, or_true, false_or, or_false, true_and, and_true, false_and, and_false, up_get, Nat.reduceEqDiff, Int.reduceNeg]
    exact ih
theorem q_total5 (hs : Sk S) (hb : m 46 3 ≤ 10) (N : Nat) (hN : (N : Int) = m 46 3) : De (fun n => f_X1_total n 0 [.ref 46, .int (J 5)] (hp S m q)) (.inl (some (.int (J (psum (m 53) N))))) (hp S m q) := by
  refine De.step ?_
  simp only [j_X1_total_0, b_X1_total_0, J_lit]
  exact q_total5_l hs hb N hN N 0 (by omega)
theorem q_total7_l (hs : Sk S) (hb : m 46 3 ≤ 10) (N : Nat) (hN : (N : Int) = m 46 3) : ∀ k i : Nat, i + k = N → De (fun n => f_X1_total n 4 [.ref 46, .int (J 7), .int (J (psum (m 55) i)), .int (J i)] (hp S m q)) (.inl (some (.int (J (psum (m 55) N))))) (hp S m q)
  | 0, i, h => by
    have h : i = N := by omega
    subst h
    refine De.stepk 3 ?_
    simp only [j_X1_total_4]
    simp (disch := omega) only [b_X1_total_4, x46_k hs, x46_r0 hs, x46_r1 hs, x46_i2 hs, x46_w2 hs, x46_i3 hs, x46_w3 hs, x46_i4 hs, x46_w4 hs, x46_r5 hs, x46_r6 hs, x46_r7 hs, x46_r8 hs, x46_r9 hs, x46_r10 hs, x46_r11 hs, x46_r12 hs, x46_r13 hs, x46_i14 hs, x46_w14 hs, x46_i15 hs, x46_w15 hs, x46_i16 hs, x46_w16 hs, x47_m0 hs, x47_m1 hs, x47_m2 hs, x47_m3 hs, x47_m4 hs, x47_m5 hs, x47_m6 hs, x47_m7 hs, x47_l hs, Option.bind_some, xI, xU, xUt, xIt, J_lit, J_add, J_sub, J_mul, J_neg, J_lt, J_le, J_eq, lt_T, lt_F, le_T, le_F, eq_T, eq_F, ↓reduceIte, ite_not, not_true_eq_false, not_false_eq_true, true_or, or_true, false_or, or_false, true_and, and_true, false_and, and_false, up_get, Nat.reduceEqDiff, Int.reduceNeg]
    exact De.ret _ _
  | k + 1, i, h => by
    have ih := (q_total7_l hs hb N hN k (i + 1) (by omega)).sh 2
    rw [psum] at ih
    refine De.stepk 3 ?_
    simp only [j_X1_total_4]
    simp (disch := omega) only [b_X1_total_4, x46_k hs, x46_r0 hs, x46_r1 hs, x46_i2 hs, x46_w2 hs, x46_i3 hs, x46_w3 hs, x46_i4 hs, x46_w4 hs, x46_r5 hs, x46_r6 hs, x46_r7 hs, x46_r8 hs, x46_r9 hs, x46_r10 hs, x46_r11 hs, x46_r12 hs, x46_r13 hs, x46_i14 hs, x46_w14 hs, x46_i15 hs, x46_w15 hs, x46_i16 hs, x46_w16 hs, x47_m0 hs, x47_m1 hs, x47_m2 hs, x47_m3 hs, x47_m4 hs, x47_m5 hs, x47_m6 hs, x47_m7 hs, x47_l hs, x55_g hs, x55_s hs, x55_l hs, Option.bind_some, xI, xU, xUt, xIt, J_lit, J_add, J_sub, J_mul, J_neg, J_lt, J_le, J_eq, lt_T, lt_F, le_T, le_F, eq_T, eq_F, ↓reduceIte, ite_not, not_true_eq_false, not_false_eq_true, true_or, or_true, false_or, or_false, true_and, and_true, false_and, and_false, up_get, Nat.reduceEqDiff, Int.reduceNeg]
    exact ih
theorem q_total7 (hs : Sk S) (hb : m 46 3 ≤ 10) (N : Nat) (hN : (N : Int) = m 46 3) : De (fun n => f_X1_total n 0 [.ref 46, .int (J 7)] (hp S m q)) (.inl (some (.int (J (psum (m 55) N))))) (hp S m q) := by
  refine De.step ?_
  simp only [j_X1_total_0, b_X1_total_0, J_lit]
  exact q_total7_l hs hb N hN N 0 (by omega)
theorem q_wordsHad_l (hs : Sk S) (hb : m 46 4 ≤ 30) (hh : ∀ x : Int, 0 ≤ x → x < m 46 4 → m 64 x = m 137 (2151 + 5 * x + 0) ∧ -1 ≤ m 64 x ∧ m 64 x ≤ 400) (N : Nat) (hN : (N : Int) = m 46 4) (hB : N ≤ 100) : ∀ k i : Nat, i + k = N → De (fun n => f_X1_wordsHad n 4 [.ref 46, .int (J (cHad (m 137) i)), .int (J i)] (hp S m q)) (.inl (some (.int (J (cHad (m 137) N))))) (hp S m q)
  | 0, i, h => by
    have h : i = N := by omega
    subst h
    refine De.stepk 3 ?_
    simp only [j_X1_wordsHad_4]
    simp (disch := omega) only [b_X1_wordsHad_4, x46_k hs, x46_r0 hs, x46_r1 hs, x46_i2 hs, x46_w2 hs, x46_i3 hs, x46_w3 hs, x46_i4 hs, x46_w4 hs, x46_r5 hs, x46_r6 hs, x46_r7 hs, x46_r8 hs, x46_r9 hs, x46_r10 hs, x46_r11 hs, x46_r12 hs, x46_r13 hs, x46_i14 hs, x46_w14 hs, x46_i15 hs, x46_w15 hs, x46_i16 hs, x46_w16 hs, Option.bind_some, xI, xU, xUt, xIt, J_lit, J_add, J_sub, J_mul, J_neg, J_lt, J_le, J_eq, lt_T, lt_F, le_T, le_F, eq_T, eq_F, ↓reduceIte, ite_not, not_true_eq_false, not_false_eq_true, true_or, or_true, false_or, or_false, true_and, and_true, false_and, and_false, up_get, Nat.reduceEqDiff, Int.reduceNeg]
    exact De.ret _ _
  | k + 1, i, h => by
    have ih := (q_wordsHad_l hs hb hh N hN hB k (i + 1) (by omega)).sh 2
    obtain ⟨h1, h2, h3⟩ := hh i (by omega) (by omega)
    rw [cHad] at ih
    by_cases c : 0 ≤ m 137 (2151 + 5 * i + 0)
    · rw [if_pos c] at ih
      refine De.stepk 3 ?_
      simp only [j_X1_wordsHad_4]
      simp (disch := omega) only [b_X1_wordsHad_4, x46_k hs, x46_r0 hs, x46_r1 hs, x46_i2 hs, x46_w2 hs, x46_i3 hs, x46_w3 hs, x46_i4 hs, x46_w4 hs, x46_r5 hs, x46_r6 hs, x46_r7 hs, x46_r8 hs, x46_r9 hs, x46_r10 hs, x46_r11 hs, x46_r12 hs, x46_r13 hs, x46_i14 hs, x46_w14 hs, x46_i15 hs, x46_w15 hs, x46_i16 hs, x46_w16 hs, x64_g hs, x64_s hs, x64_l hs, Option.bind_some, xI, xU, xUt, xIt, J_lit, J_add, J_sub, J_mul, J_neg, J_lt, J_le, J_eq, lt_T, lt_F, le_T, le_F, eq_T, eq_F, ↓reduceIte, ite_not, not_true_eq_false, not_false_eq_true, true_or, or_true, false_or, or_false, true_and, and_true, false_and, and_false, up_get, Nat.reduceEqDiff, Int.reduceNeg]
      exact ih
    · rw [if_neg c] at ih
      refine De.stepk 3 ?_
      simp only [j_X1_wordsHad_4]
      simp (disch := omega) only [b_X1_wordsHad_4, x46_k hs, x46_r0 hs, x46_r1 hs, x46_i2 hs, x46_w2 hs, x46_i3 hs, x46_w3 hs, x46_i4 hs, x46_w4 hs, x46_r5 hs, x46_r6 hs, x46_r7 hs, x46_r8 hs, x46_r9 hs, x46_r10 hs, x46_r11 hs, x46_r12 hs, x46_r13 hs, x46_i14 hs, x46_w14 hs, x46_i15 hs, x46_w15 hs, x46_i16 hs, x46_w16 hs, x64_g hs, x64_s hs, x64_l hs, Option.bind_some, xI, xU, xUt, xIt, J_lit, J_add, J_sub, J_mul, J_neg, J_lt, J_le, J_eq, lt_T, lt_F, le_T, le_F, eq_T, eq_F, ↓reduceIte, ite_not, not_true_eq_false, not_false_eq_true, true_or, or_true, false_or, or_false, true_and, and_true, false_and, and_false, up_get, Nat.reduceEqDiff, Int.reduceNeg]
      exact ih
theorem q_wordsHad (hs : Sk S) (hb : m 46 4 ≤ 30) (hh : ∀ x : Int, 0 ≤ x → x < m 46 4 → m 64 x = m 137 (2151 + 5 * x + 0) ∧ -1 ≤ m 64 x ∧ m 64 x ≤ 400) (N : Nat) (hN : (N : Int) = m 46 4) (hB : N ≤ 100) : De (fun n => f_X1_wordsHad n 0 [.ref 46] (hp S m q)) (.inl (some (.int (J (cHad (m 137) N))))) (hp S m q) := by
  refine De.step ?_
  simp only [j_X1_wordsHad_0, b_X1_wordsHad_0, J_lit]
  exact q_wordsHad_l hs hb hh N hN hB N 0 (by omega)
theorem q_lotsThatMove_l (hs : Sk S) (hh : ∀ l : Int, 0 ≤ l → l < 4 → m 45 l = m 139 (2 + l) ∧ 0 ≤ m 139 (2 + l) ∧ m 139 (2 + l) ≤ 60) (N : Nat) (hN : (N : Int) = 4) (hB : N ≤ 100) : ∀ k i : Nat, i + k = N → De (fun n => f_X8_lotsThatMove n 4 [.ref 29, .int (J (cLot (m 139) i)), .int (J i)] (hp S m q)) (.inl (some (.int (J (cLot (m 139) N))))) (hp S m q)
  | 0, i, h => by
    have h : i = N := by omega
    subst h
    refine De.stepk 3 ?_
    simp only [j_X8_lotsThatMove_4]
    simp (disch := omega) only [b_X8_lotsThatMove_4, x29_k hs, x29_r0 hs, x29_r1 hs, x29_r2 hs, x29_r3 hs, Option.bind_some, xI, xU, xUt, xIt, J_lit, J_add, J_sub, J_mul, J_neg, J_lt, J_le, J_eq, lt_T, lt_F, le_T, le_F, eq_T, eq_F, ↓reduceIte, ite_not, not_true_eq_false, not_false_eq_true, true_or, or_true, false_or, or_false, true_and, and_true, false_and, and_false, up_get, Nat.reduceEqDiff, Int.reduceNeg]
    exact De.ret _ _
  | k + 1, i, h => by
    have ih := (q_lotsThatMove_l hs hh N hN hB k (i + 1) (by omega)).sh 2
    obtain ⟨h1, h2, h3⟩ := hh i (by omega) (by omega)
    rw [cLot] at ih
    by_cases c : 0 < m 139 (2 + i)
    · rw [if_pos c] at ih
      refine De.stepk 3 ?_
      simp only [j_X8_lotsThatMove_4]
      simp (disch := omega) only [b_X8_lotsThatMove_4, x29_k hs, x29_r0 hs, x29_r1 hs, x29_r2 hs, x29_r3 hs, x45_g hs, x45_s hs, x45_l hs, Option.bind_some, xI, xU, xUt, xIt, J_lit, J_add, J_sub, J_mul, J_neg, J_lt, J_le, J_eq, lt_T, lt_F, le_T, le_F, eq_T, eq_F, ↓reduceIte, ite_not, not_true_eq_false, not_false_eq_true, true_or, or_true, false_or, or_false, true_and, and_true, false_and, and_false, up_get, Nat.reduceEqDiff, Int.reduceNeg]
      exact ih
    · rw [if_neg c] at ih
      refine De.stepk 3 ?_
      simp only [j_X8_lotsThatMove_4]
      simp (disch := omega) only [b_X8_lotsThatMove_4, x29_k hs, x29_r0 hs, x29_r1 hs, x29_r2 hs, x29_r3 hs, x45_g hs, x45_s hs, x45_l hs, Option.bind_some, xI, xU, xUt, xIt, J_lit, J_add, J_sub, J_mul, J_neg, J_lt, J_le, J_eq, lt_T, lt_F, le_T, le_F, eq_T, eq_F, ↓reduceIte, ite_not, not_true_eq_false, not_false_eq_true, true_or, or_true, false_or, or_false, true_and, and_true, false_and, and_false, up_get, Nat.reduceEqDiff, Int.reduceNeg]
      exact ih
theorem q_lotsThatMove (hs : Sk S) (hh : ∀ l : Int, 0 ≤ l → l < 4 → m 45 l = m 139 (2 + l) ∧ 0 ≤ m 139 (2 + l) ∧ m 139 (2 + l) ≤ 60) (N : Nat) (hN : (N : Int) = 4) (hB : N ≤ 100) : De (fun n => f_X8_lotsThatMove n 0 [.ref 29] (hp S m q)) (.inl (some (.int (J (cLot (m 139) N))))) (hp S m q) := by
  refine De.step ?_
  simp only [j_X8_lotsThatMove_0, b_X8_lotsThatMove_0, J_lit]
  exact q_lotsThatMove_l hs hh N hN hB N 0 (by omega)
theorem q_count116 (hs : Sk S) (hb : m 139 1 ≤ 30) (hh : ∀ x : Int, 0 ≤ x → x < m 139 1 → -1 ≤ m 137 (2151 + 5 * x + 0) ∧ m 137 (2151 + 5 * x + 0) ≤ 400) (N : Nat) (hN : (N : Int) = m 139 1) (hB : N ≤ 100) : ∀ k i : Nat, i + k = N → De (fun n => f_X11_count n 116 [.ref 136, .int (J 7), .int (J (cHad (m 137) i)), .int (J i)] (hp S m q)) (.inl (some (.int (J (cHad (m 137) N))))) (hp S m q)
  | 0, i, h => by
    have h : i = N := by omega
    subst h
    refine De.stepk 4 ?_
    simp only [j_X11_count_116]
    simp (disch := omega) only [b_X11_count_116, x136_k hs, x136_i0 hs, x136_w0 hs, x136_r1 hs, x136_r2 hs, x136_r3 hs, x136_r4 hs, x136_i5 hs, x136_w5 hs, x136_i6 hs, x136_w6 hs, x136_i7 hs, x136_w7 hs, x136_r8 hs, x136_i9 hs, x136_w9 hs, x136_i10 hs, x136_w10 hs, x136_i11 hs, x136_w11 hs, x136_i12 hs, x136_w12 hs, x136_i13 hs, x136_w13 hs, x136_i14 hs, x136_w14 hs, x136_r15 hs, x136_i16 hs, x136_w16 hs, x136_r17 hs, x136_r18 hs, x136_r19 hs, x136_r20 hs, x136_r21 hs, x136_i22 hs, x136_w22 hs, x136_r23 hs, x136_r24 hs, x136_i25 hs, x136_w25 hs, x136_i26 hs, x136_w26 hs, x136_r27 hs, x136_r28 hs, x136_i29 hs, x136_w29 hs, x137_g hs, x137_s hs, x137_l hs, e_words hs, e_hadAt, Option.bind_some, xI, xU, xUt, xIt, J_lit, J_add, J_sub, J_mul, J_neg, J_lt, J_le, J_eq, lt_T, lt_F, le_T, le_F, eq_T, eq_F, ↓reduceIte, ite_not, not_true_eq_false, not_false_eq_true, true_or, or_true, false_or, or_false, true_and, and_true, false_and, and_false, up_get, Nat.reduceEqDiff, Int.reduceNeg]
    exact De.ret _ _
  | k + 1, i, h => by
    have ih := (q_count116 hs hb hh N hN hB k (i + 1) (by omega)).sh 3
    obtain ⟨h1, h2⟩ := hh i (by omega) (by omega)
    rw [cHad] at ih
    by_cases c : 0 ≤ m 137 (2151 + 5 * i + 0)
    · rw [if_pos c] at ih
      refine De.stepk 4 ?_
      simp only [j_X11_count_116]
      simp (disch := omega) only [b_X11_count_116, x136_k hs, x136_i0 hs, x136_w0 hs, x136_r1 hs, x136_r2 hs, x136_r3 hs, x136_r4 hs, x136_i5 hs, x136_w5 hs, x136_i6 hs, x136_w6 hs, x136_i7 hs, x136_w7 hs, x136_r8 hs, x136_i9 hs, x136_w9 hs, x136_i10 hs, x136_w10 hs, x136_i11 hs, x136_w11 hs, x136_i12 hs, x136_w12 hs, x136_i13 hs, x136_w13 hs, x136_i14 hs, x136_w14 hs, x136_r15 hs, x136_i16 hs, x136_w16 hs, x136_r17 hs, x136_r18 hs, x136_r19 hs, x136_r20 hs, x136_r21 hs, x136_i22 hs, x136_w22 hs, x136_r23 hs, x136_r24 hs, x136_i25 hs, x136_w25 hs, x136_i26 hs, x136_w26 hs, x136_r27 hs, x136_r28 hs, x136_i29 hs, x136_w29 hs, x137_g hs, x137_s hs, x137_l hs, e_words hs, e_hadAt, Option.bind_some, xI, xU, xUt, xIt, J_lit, J_add, J_sub, J_mul, J_neg, J_lt, J_le, J_eq, lt_T, lt_F, le_T, le_F, eq_T, eq_F, ↓reduceIte, ite_not, not_true_eq_false, not_false_eq_true, true_or, or_true, false_or, or_false, true_and, and_true, false_and, and_false, up_get, Nat.reduceEqDiff, Int.reduceNeg]
      exact ih
    · rw [if_neg c] at ih
      refine De.stepk 4 ?_
      simp only [j_X11_count_116]
      simp (disch := omega) only [b_X11_count_116, x136_k hs, x136_i0 hs, x136_w0 hs, x136_r1 hs, x136_r2 hs, x136_r3 hs, x136_r4 hs, x136_i5 hs, x136_w5 hs, x136_i6 hs, x136_w6 hs, x136_i7 hs, x136_w7 hs, x136_r8 hs, x136_i9 hs, x136_w9 hs, x136_i10 hs, x136_w10 hs, x136_i11 hs, x136_w11 hs, x136_i12 hs, x136_w12 hs, x136_i13 hs, x136_w13 hs, x136_i14 hs, x136_w14 hs, x136_r15 hs, x136_i16 hs, x136_w16 hs, x136_r17 hs, x136_r18 hs, x136_r19 hs, x136_r20 hs, x136_r21 hs, x136_i22 hs, x136_w22 hs, x136_r23 hs, x136_r24 hs, x136_i25 hs, x136_w25 hs, x136_i26 hs, x136_w26 hs, x136_r27 hs, x136_r28 hs, x136_i29 hs, x136_w29 hs, x137_g hs, x137_s hs, x137_l hs, e_words hs, e_hadAt, Option.bind_some, xI, xU, xUt, xIt, J_lit, J_add, J_sub, J_mul, J_neg, J_lt, J_le, J_eq, lt_T, lt_F, le_T, le_F, eq_T, eq_F, ↓reduceIte, ite_not, not_true_eq_false, not_false_eq_true, true_or, or_true, false_or, or_false, true_and, and_true, false_and, and_false, up_get, Nat.reduceEqDiff, Int.reduceNeg]
      exact ih
theorem q_count179 (hs : Sk S) (hh : ∀ l : Int, 0 ≤ l → l < 4 → 0 ≤ m 139 (2 + l) ∧ m 139 (2 + l) ≤ 60) (N : Nat) (hN : (N : Int) = 4) (hB : N ≤ 100) : ∀ k i : Nat, i + k = N → De (fun n => f_X11_count n 179 [.ref 136, .int (J 11), .int (J (cLot (m 139) i)), .int (J i)] (hp S m q)) (.inl (some (.int (J (cLot (m 139) N))))) (hp S m q)
  | 0, i, h => by
    have h : i = N := by omega
    subst h
    refine De.stepk 4 ?_
    simp only [j_X11_count_179]
    simp (disch := omega) only [b_X11_count_179, x136_k hs, x136_i0 hs, x136_w0 hs, x136_r1 hs, x136_r2 hs, x136_r3 hs, x136_r4 hs, x136_i5 hs, x136_w5 hs, x136_i6 hs, x136_w6 hs, x136_i7 hs, x136_w7 hs, x136_r8 hs, x136_i9 hs, x136_w9 hs, x136_i10 hs, x136_w10 hs, x136_i11 hs, x136_w11 hs, x136_i12 hs, x136_w12 hs, x136_i13 hs, x136_w13 hs, x136_i14 hs, x136_w14 hs, x136_r15 hs, x136_i16 hs, x136_w16 hs, x136_r17 hs, x136_r18 hs, x136_r19 hs, x136_r20 hs, x136_r21 hs, x136_i22 hs, x136_w22 hs, x136_r23 hs, x136_r24 hs, x136_i25 hs, x136_w25 hs, x136_i26 hs, x136_w26 hs, x136_r27 hs, x136_r28 hs, x136_i29 hs, x136_w29 hs, x139_g hs, x139_s hs, x139_l hs, Option.bind_some, xI, xU, xUt, xIt, J_lit, J_add, J_sub, J_mul, J_neg, J_lt, J_le, J_eq, lt_T, lt_F, le_T, le_F, eq_T, eq_F, ↓reduceIte, ite_not, not_true_eq_false, not_false_eq_true, true_or, or_true, false_or, or_false, true_and, and_true, false_and, and_false, up_get, Nat.reduceEqDiff, Int.reduceNeg]
    exact De.ret _ _
  | k + 1, i, h => by
    have ih := (q_count179 hs hh N hN hB k (i + 1) (by omega)).sh 3
    obtain ⟨h1, h2⟩ := hh i (by omega) (by omega)
    rw [cLot] at ih
    by_cases c : 0 < m 139 (2 + i)
    · rw [if_pos c] at ih
      refine De.stepk 4 ?_
      simp only [j_X11_count_179]
      simp (disch := omega) only [b_X11_count_179, x136_k hs, x136_i0 hs, x136_w0 hs, x136_r1 hs, x136_r2 hs, x136_r3 hs, x136_r4 hs, x136_i5 hs, x136_w5 hs, x136_i6 hs, x136_w6 hs, x136_i7 hs, x136_w7 hs, x136_r8 hs, x136_i9 hs, x136_w9 hs, x136_i10 hs, x136_w10 hs, x136_i11 hs, x136_w11 hs, x136_i12 hs, x136_w12 hs, x136_i13 hs, x136_w13 hs, x136_i14 hs, x136_w14 hs, x136_r15 hs, x136_i16 hs, x136_w16 hs, x136_r17 hs, x136_r18 hs, x136_r19 hs, x136_r20 hs, x136_r21 hs, x136_i22 hs, x136_w22 hs, x136_r23 hs, x136_r24 hs, x136_i25 hs, x136_w25 hs, x136_i26 hs, x136_w26 hs, x136_r27 hs, x136_r28 hs, x136_i29 hs, x136_w29 hs, x139_g hs, x139_s hs, x139_l hs, Option.bind_some, xI, xU, xUt, xIt, J_lit, J_add, J_sub, J_mul, J_neg, J_lt, J_le, J_eq, lt_T, lt_F, le_T, le_F, eq_T, eq_F, ↓reduceIte, ite_not, not_true_eq_false, not_false_eq_true, true_or, or_true, false_or, or_false, true_and, and_true, false_and, and_false, up_get, Nat.reduceEqDiff, Int.reduceNeg]
      exact ih
    · rw [if_neg c] at ih
      refine De.stepk 4 ?_
      simp only [j_X11_count_179]
      simp (disch := omega) only [b_X11_count_179, x136_k hs, x136_i0 hs, x136_w0 hs, x136_r1 hs, x136_r2 hs, x136_r3 hs, x136_r4 hs, x136_i5 hs, x136_w5 hs, x136_i6 hs, x136_w6 hs, x136_i7 hs, x136_w7 hs, x136_r8 hs, x136_i9 hs, x136_w9 hs, x136_i10 hs, x136_w10 hs, x136_i11 hs, x136_w11 hs, x136_i12 hs, x136_w12 hs, x136_i13 hs, x136_w13 hs, x136_i14 hs, x136_w14 hs, x136_r15 hs, x136_i16 hs, x136_w16 hs, x136_r17 hs, x136_r18 hs, x136_r19 hs, x136_r20 hs, x136_r21 hs, x136_i22 hs, x136_w22 hs, x136_r23 hs, x136_r24 hs, x136_i25 hs, x136_w25 hs, x136_i26 hs, x136_w26 hs, x136_r27 hs, x136_r28 hs, x136_i29 hs, x136_w29 hs, x139_g hs, x139_s hs, x139_l hs, Option.bind_some, xI, xU, xUt, xIt, J_lit, J_add, J_sub, J_mul, J_neg, J_lt, J_le, J_eq, lt_T, lt_F, le_T, le_F, eq_T, eq_F, ↓reduceIte, ite_not, not_true_eq_false, not_false_eq_true, true_or, or_true, false_or, or_false, true_and, and_true, false_and, and_false, up_get, Nat.reduceEqDiff, Int.reduceNeg]
      exact ih
theorem q_firstTorn_l (hs : Sk S) (hb : m 90 2 ≤ 8) (hr : ∀ i : Int, 0 ≤ i → i < m 90 2 → -2147483648 ≤ m 92 i ∧ m 92 i < 2147483648 ∧ 0 ≤ m 91 i ∧ m 91 i ≤ 300) : ∀ k i : Nat, ((i + k : Nat) : Int) = m 90 2 → De (fun n => f_X4_firstTorn n 2 [.ref 90, .int (J i)] (hp S m q)) (.inl (some (.int (J (ftor (m 91) (m 92) k i))))) (hp S m q)
  | 0, i, h => by
    refine De.stepk 3 ?_
    simp only [j_X4_firstTorn_2, ftor]
    simp (disch := omega) only [b_X4_firstTorn_2, x90_k hs, x90_r0 hs, x90_r1 hs, x90_i2 hs, x90_w2 hs, Option.bind_some, xI, xU, xUt, xIt, J_lit, J_add, J_sub, J_mul, J_neg, J_lt, J_le, J_eq, lt_T, lt_F, le_T, le_F, eq_T, eq_F, ↓reduceIte, ite_not, not_true_eq_false, not_false_eq_true, true_or, or_true, false_or, or_false, true_and, and_true, false_and, and_false, up_get, Nat.reduceEqDiff, Int.reduceNeg]
    exact De.ret _ _
  | k + 1, i, h => by
    have ih := (q_firstTorn_l hs hb hr k (i + 1) (by omega)).sh 2
    obtain ⟨h1, h2, h3, h4⟩ := hr i (by omega) (by omega)
    by_cases c : m 91 i = m 92 i
    · rw [ftor, if_pos c]
      refine De.stepk 3 ?_
      simp only [j_X4_firstTorn_2]
      simp (disch := omega) only [b_X4_firstTorn_2, x90_k hs, x90_r0 hs, x90_r1 hs, x90_i2 hs, x90_w2 hs, x91_g hs, x91_s hs, x91_l hs, x92_g hs, x92_s hs, x92_l hs, Option.bind_some, xI, xU, xUt, xIt, J_lit, J_add, J_sub, J_mul, J_neg, J_lt, J_le, J_eq, lt_T, lt_F, le_T, le_F, eq_T, eq_F, ↓reduceIte, ite_not, not_true_eq_false, not_false_eq_true, true_or, or_true, false_or, or_false, true_and, and_true, false_and, and_false, up_get, Nat.reduceEqDiff, Int.reduceNeg]
      exact ih
    · rw [ftor, if_neg c]
      refine De.stepk 3 ?_
      simp only [j_X4_firstTorn_2]
      simp (disch := omega) only [b_X4_firstTorn_2, x90_k hs, x90_r0 hs, x90_r1 hs, x90_i2 hs, x90_w2 hs, x91_g hs, x91_s hs, x91_l hs, x92_g hs, x92_s hs, x92_l hs, Option.bind_some, xI, xU, xUt, xIt, J_lit, J_add, J_sub, J_mul, J_neg, J_lt, J_le, J_eq, lt_T, lt_F, le_T, le_F, eq_T, eq_F, ↓reduceIte, ite_not, not_true_eq_false, not_false_eq_true, true_or, or_true, false_or, or_false, true_and, and_true, false_and, and_false, up_get, Nat.reduceEqDiff, Int.reduceNeg]
      exact De.ret _ _
theorem q_check_l (hs : Sk S) (t0 : 0 ≤ m 137 0) (t1 : m 137 0 ≤ 400) (hr : ∀ i : Int, 0 ≤ i → i < min 8 (m 137 0) → -2147483648 ≤ m 139 (1136 + 2 * (m 137 0 - min 8 (m 137 0) + 1 + i)) ∧ m 139 (1136 + 2 * (m 137 0 - min 8 (m 137 0) + 1 + i)) < 2147483648 ∧ 0 ≤ m 139 (1136 + 2 * (m 137 0 - min 8 (m 137 0) + 1 + i) + 1) ∧ m 139 (1136 + 2 * (m 137 0 - min 8 (m 137 0) + 1 + i) + 1) ≤ 300) : ∀ k i : Nat, ((i + k : Nat) : Int) = min 8 (m 137 0) → De (fun n => f_X11_check n 7 [.ref 136, .int (J i)] (hp S m q)) (.inl (some (.int (J (ftor (fun i => m 139 (1136 + 2 * (m 137 0 - min 8 (m 137 0) + 1 + i) + 1)) (fun i => m 139 (1136 + 2 * (m 137 0 - min 8 (m 137 0) + 1 + i))) k i))))) (hp S m q)
  | 0, i, h => by
    refine De.stepk 6 ?_
    simp only [j_X11_check_7, ftor]
    simp (disch := omega) only [b_X11_check_7, x136_k hs, x136_i0 hs, x136_w0 hs, x136_r1 hs, x136_r2 hs, x136_r3 hs, x136_r4 hs, x136_i5 hs, x136_w5 hs, x136_i6 hs, x136_w6 hs, x136_i7 hs, x136_w7 hs, x136_r8 hs, x136_i9 hs, x136_w9 hs, x136_i10 hs, x136_w10 hs, x136_i11 hs, x136_w11 hs, x136_i12 hs, x136_w12 hs, x136_i13 hs, x136_w13 hs, x136_i14 hs, x136_w14 hs, x136_r15 hs, x136_i16 hs, x136_w16 hs, x136_r17 hs, x136_r18 hs, x136_r19 hs, x136_r20 hs, x136_r21 hs, x136_i22 hs, x136_w22 hs, x136_r23 hs, x136_r24 hs, x136_i25 hs, x136_w25 hs, x136_i26 hs, x136_w26 hs, x136_r27 hs, x136_r28 hs, x136_i29 hs, x136_w29 hs, e_tick hs, J_min, Option.bind_some, xI, xU, xUt, xIt, J_lit, J_add, J_sub, J_mul, J_neg, J_lt, J_le, J_eq, lt_T, lt_F, le_T, le_F, eq_T, eq_F, ↓reduceIte, ite_not, not_true_eq_false, not_false_eq_true, true_or, or_true, false_or, or_false, true_and, and_true, false_and, and_false, up_get, Nat.reduceEqDiff, Int.reduceNeg]
    exact De.ret _ _
  | k + 1, i, h => by
    have ih := (q_check_l hs t0 t1 hr k (i + 1) (by omega)).sh 5
    obtain ⟨h1, h2, h3, h4⟩ := hr i (by omega) (by omega)
    have ra : ∀ n : Nat, f_X11_rowAt (n + 3) 0 [.ref 136, .int (J i)] (hp S m q) = some (.inl (some (.int (J (1136 + 2 * (m 137 0 - min 8 (m 137 0) + 1 + i))))), hp S m q) := fun n => by
      simp (disch := omega) only [j_X11_rowAt_0, b_X11_rowAt_0, x136_k hs, x136_i0 hs, x136_w0 hs, x136_r1 hs, x136_r2 hs, x136_r3 hs, x136_r4 hs, x136_i5 hs, x136_w5 hs, x136_i6 hs, x136_w6 hs, x136_i7 hs, x136_w7 hs, x136_r8 hs, x136_i9 hs, x136_w9 hs, x136_i10 hs, x136_w10 hs, x136_i11 hs, x136_w11 hs, x136_i12 hs, x136_w12 hs, x136_i13 hs, x136_w13 hs, x136_i14 hs, x136_w14 hs, x136_r15 hs, x136_i16 hs, x136_w16 hs, x136_r17 hs, x136_r18 hs, x136_r19 hs, x136_r20 hs, x136_r21 hs, x136_i22 hs, x136_w22 hs, x136_r23 hs, x136_r24 hs, x136_i25 hs, x136_w25 hs, x136_i26 hs, x136_w26 hs, x136_r27 hs, x136_r28 hs, x136_i29 hs, x136_w29 hs, e_tick hs, e_in_T, J_min, Option.bind_some, xI, xU, xUt, xIt, J_lit, J_add, J_sub, J_mul, J_neg, J_lt, J_le, J_eq, lt_T, lt_F, le_T, le_F, eq_T, eq_F, ↓reduceIte, ite_not, not_true_eq_false, not_false_eq_true, true_or, or_true, false_or, or_false, true_and, and_true, false_and, and_false, up_get, Nat.reduceEqDiff, Int.reduceNeg]
    by_cases c : m 139 (1136 + 2 * (m 137 0 - min 8 (m 137 0) + 1 + i) + 1) = m 139 (1136 + 2 * (m 137 0 - min 8 (m 137 0) + 1 + i))
    · rw [ftor, if_pos c]
      refine De.stepk 6 ?_
      simp only [j_X11_check_7]
      simp (disch := omega) only [b_X11_check_7, x136_k hs, x136_i0 hs, x136_w0 hs, x136_r1 hs, x136_r2 hs, x136_r3 hs, x136_r4 hs, x136_i5 hs, x136_w5 hs, x136_i6 hs, x136_w6 hs, x136_i7 hs, x136_w7 hs, x136_r8 hs, x136_i9 hs, x136_w9 hs, x136_i10 hs, x136_w10 hs, x136_i11 hs, x136_w11 hs, x136_i12 hs, x136_w12 hs, x136_i13 hs, x136_w13 hs, x136_i14 hs, x136_w14 hs, x136_r15 hs, x136_i16 hs, x136_w16 hs, x136_r17 hs, x136_r18 hs, x136_r19 hs, x136_r20 hs, x136_r21 hs, x136_i22 hs, x136_w22 hs, x136_r23 hs, x136_r24 hs, x136_i25 hs, x136_w25 hs, x136_i26 hs, x136_w26 hs, x136_r27 hs, x136_r28 hs, x136_i29 hs, x136_w29 hs, x139_g hs, x139_s hs, x139_l hs, e_tick hs, J_min, ra, Option.bind_some, xI, xU, xUt, xIt, J_lit, J_add, J_sub, J_mul, J_neg, J_lt, J_le, J_eq, lt_T, lt_F, le_T, le_F, eq_T, eq_F, ↓reduceIte, ite_not, not_true_eq_false, not_false_eq_true, true_or, or_true, false_or, or_false, true_and, and_true, false_and, and_false, up_get, Nat.reduceEqDiff, Int.reduceNeg]
      exact ih
    · rw [ftor, if_neg c]
      refine De.stepk 6 ?_
      simp only [j_X11_check_7]
      simp (disch := omega) only [b_X11_check_7, x136_k hs, x136_i0 hs, x136_w0 hs, x136_r1 hs, x136_r2 hs, x136_r3 hs, x136_r4 hs, x136_i5 hs, x136_w5 hs, x136_i6 hs, x136_w6 hs, x136_i7 hs, x136_w7 hs, x136_r8 hs, x136_i9 hs, x136_w9 hs, x136_i10 hs, x136_w10 hs, x136_i11 hs, x136_w11 hs, x136_i12 hs, x136_w12 hs, x136_i13 hs, x136_w13 hs, x136_i14 hs, x136_w14 hs, x136_r15 hs, x136_i16 hs, x136_w16 hs, x136_r17 hs, x136_r18 hs, x136_r19 hs, x136_r20 hs, x136_r21 hs, x136_i22 hs, x136_w22 hs, x136_r23 hs, x136_r24 hs, x136_i25 hs, x136_w25 hs, x136_i26 hs, x136_w26 hs, x136_r27 hs, x136_r28 hs, x136_i29 hs, x136_w29 hs, x139_g hs, x139_s hs, x139_l hs, e_tick hs, J_min, ra, Option.bind_some, xI, xU, xUt, xIt, J_lit, J_add, J_sub, J_mul, J_neg, J_lt, J_le, J_eq, lt_T, lt_F, le_T, le_F, eq_T, eq_F, ↓reduceIte, ite_not, not_true_eq_false, not_false_eq_true, true_or, or_true, false_or, or_false, true_and, and_true, false_and, and_false, up_get, Nat.reduceEqDiff, Int.reduceNeg]
      exact De.ret _ _
end LOOPS2
