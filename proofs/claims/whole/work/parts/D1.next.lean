/-! the class goes on to the next token -/
theorem and255 : ∀ a : Fin 256, J ((a.1 : Int) - 128) &&& J 255 = J (((a.1 : Int) - 128) % 256) := by decide +kernel
theorem J_and255 {a : Int} (h0 : -128 ≤ a) (h1 : a < 128) : J a &&& J 255 = J (a % 256) := by
  have := and255 ⟨(a + 128).toNat, by omega⟩
  simp only [show (((a + 128).toNat : Nat) : Int) - 128 = a by omega] at this
  exact this
def Fr1 (m m' : Nat → Int → Int) : Prop := ∀ c j, ¬ (c = 1 ∧ 4 ≤ j ∧ j ≤ 7) → m' c j = m c j
theorem Fr1.tr {m m1 m2 : Nat → Int → Int} (h1 : Fr1 m m1) (h2 : Fr1 m1 m2) : Fr1 m m2 := fun c j h => (h2 c j h).trans (h1 c j h)
theorem Fr1.up {m : Nat → Int → Int} {j x : Int} (h0 : 4 ≤ j) (h1 : j ≤ 7) : Fr1 m (up m 1 j x) := fun c i h => if_neg (fun z => h ⟨z.1, by omega, by omega⟩)
theorem Fr1.b8 {m m' : Nat → Int → Int} (h : Fr1 m m') : m' 8 = m 8 := funext fun i => h 8 i (by omega)
section NX
variable {S : xH} {m m' m0 : Nat → Int → Int} {q : Nat → Int → Int64} {b : Int → Int} {n i B e : Int}
theorem q_nx0 (hs : Sk S) (n4 : n ≤ 400) (hb : ∀ j, 0 ≤ j → j < n → -128 ≤ b j ∧ b j < 128) : ∀ (k : Nat) (i : Int) (m : Nat → Int → Int), (n - i).toNat = k → 0 ≤ i → i ≤ n → m 1 2 = n → m 1 4 = i → m 8 = b → ∃ m', m' 1 4 = rn b n 32 32 i ∧ Fr1 m m' ∧ ∀ {R : xR} {P : xH}, De (fun n => f_X3_next n 38 [.ref 1] (hp S m' q)) R P → De (fun n => f_X3_next n 0 [.ref 1] (hp S m q)) R P := by
  intro k
  induction k with
  | zero =>
    intro i m hk i0 i1 h2 h4 h8
    refine ⟨m, by rw [rn_end (by omega)]; exact h4, fun _ _ _ => rfl, fun D => ?_⟩
    refine De.step ?_
    simp only [j_X3_next_0]
    simp (disch := omega) only [b_X3_next_0, x1_k hs, x1_r0 hs, x1_r1 hs, x1_i2 hs, x1_w2 hs, x1_i3 hs, x1_w3 hs, x1_i4 hs, x1_w4 hs, x1_i5 hs, x1_w5 hs, x1_i6 hs, x1_w6 hs, x1_i7 hs, x1_w7 hs, h2, h4, Option.bind_some, xI, xU, xUt, xIt, J_lit, J_add, J_sub, J_mul, J_neg, J_ltc, J_lec, J_eqc, lt_T, lt_F, le_T, le_F, eq_T, eq_F, ↓reduceIte, ite_not, not_true_eq_false, not_false_eq_true, true_or, or_true, false_or, or_false, true_and, and_true, false_and, and_false, up_get, Nat.reduceEqDiff, Int.reduceNeg, eqN_T, eqN_F]
    exact D
  | succ k IH =>
    intro i m hk i0 i1 h2 h4 h8
    have bb := hb i i0 (by omega)
    by_cases c : b i = 32
    · obtain ⟨m', a1, a2, a3⟩ := IH (i + 1) (up m 1 4 (i + 1)) (by omega) (by omega) (by omega) ((up_i (by decide)).trans h2) (up_at _ _ _ _) ((up_row (by decide)).trans h8)
      refine ⟨m', by rw [rn_yes (by omega) (by omega)]; exact a1, (Fr1.up (by decide) (by decide)).tr a2, fun D => ?_⟩
      have Q := a3 D
      refine De.step ?_
      simp only [j_X3_next_0]
      simp (disch := omega) only [b_X3_next_0, x1_k hs, x1_r0 hs, x1_r1 hs, x1_i2 hs, x1_w2 hs, x1_i3 hs, x1_w3 hs, x1_i4 hs, x1_w4 hs, x1_i5 hs, x1_w5 hs, x1_i6 hs, x1_w6 hs, x1_i7 hs, x1_w7 hs, x8_g hs, x8_s hs, x8_l hs, h2, h4, h8, c, Option.bind_some, xI, xU, xUt, xIt, J_lit, J_add, J_sub, J_mul, J_neg, J_ltc, J_lec, J_eqc, lt_T, lt_F, le_T, le_F, eq_T, eq_F, ↓reduceIte, ite_not, not_true_eq_false, not_false_eq_true, true_or, or_true, false_or, or_false, true_and, and_true, false_and, and_false, up_get, Nat.reduceEqDiff, Int.reduceNeg, eqN_T, eqN_F]
      exact Q
    · refine ⟨m, by rw [rn_no (by omega)]; exact h4, fun _ _ _ => rfl, fun D => ?_⟩
      refine De.step ?_
      simp only [j_X3_next_0]
      simp (disch := omega) only [b_X3_next_0, x1_k hs, x1_r0 hs, x1_r1 hs, x1_i2 hs, x1_w2 hs, x1_i3 hs, x1_w3 hs, x1_i4 hs, x1_w4 hs, x1_i5 hs, x1_w5 hs, x1_i6 hs, x1_w6 hs, x1_i7 hs, x1_w7 hs, x8_g hs, x8_s hs, x8_l hs, h2, h4, h8, Option.bind_some, xI, xU, xUt, xIt, J_lit, J_add, J_sub, J_mul, J_neg, J_ltc, J_lec, J_eqc, lt_T, lt_F, le_T, le_F, eq_T, eq_F, ↓reduceIte, ite_not, not_true_eq_false, not_false_eq_true, true_or, or_true, false_or, or_false, true_and, and_true, false_and, and_false, up_get, Nat.reduceEqDiff, Int.reduceNeg, eqN_T, eqN_F]
      exact D
theorem q_nx69 (hs : Sk S) (n4 : n ≤ 400) (B0 : 0 ≤ B) (hb : ∀ j, 0 ≤ j → j < n → -128 ≤ b j ∧ b j < 128) : ∀ (k : Nat) (i : Int) (m : Nat → Int → Int), (n - i).toNat = k → B ≤ i → i ≤ n → m 1 2 = n → m 1 4 = i → m 1 6 = B → m 1 7 = vlF b B (i - B).toNat → m 8 = b → ∃ m', m' 1 4 = rn b n 48 57 i ∧ m' 1 6 = B ∧ m' 1 7 = vlF b B (rn b n 48 57 i - B).toNat ∧ Fr1 m m' ∧ ∀ {R : xR} {P : xH}, De (fun n => f_X3_next n 164 [.ref 1] (hp S m' q)) R P → De (fun n => f_X3_next n 69 [.ref 1] (hp S m q)) R P := by
  intro k
  induction k with
  | zero =>
    intro i m hk i0 i1 h2 h4 h6 h7 h8
    rw [rn_end (by omega)]
    refine ⟨m, h4, h6, h7, fun _ _ _ => rfl, fun D => ?_⟩
    refine De.step ?_
    simp only [j_X3_next_69]
    simp (disch := omega) only [b_X3_next_69, x1_k hs, x1_r0 hs, x1_r1 hs, x1_i2 hs, x1_w2 hs, x1_i3 hs, x1_w3 hs, x1_i4 hs, x1_w4 hs, x1_i5 hs, x1_w5 hs, x1_i6 hs, x1_w6 hs, x1_i7 hs, x1_w7 hs, h2, h4, Option.bind_some, xI, xU, xUt, xIt, J_lit, J_add, J_sub, J_mul, J_neg, J_ltc, J_lec, J_eqc, lt_T, lt_F, le_T, le_F, eq_T, eq_F, ↓reduceIte, ite_not, not_true_eq_false, not_false_eq_true, true_or, or_true, false_or, or_false, true_and, and_true, false_and, and_false, up_get, Nat.reduceEqDiff, Int.reduceNeg, eqN_T, eqN_F]
    exact D
  | succ k IH =>
    intro i m hk i0 i1 h2 h4 h6 h7 h8
    have bb := hb i (by omega) (by omega)
    by_cases c1 : 48 ≤ b i
    · by_cases c2 : b i ≤ 57
      · rw [rn_yes (by omega) ⟨c1, c2⟩]
        have ev : vlF b B (i + 1 - B).toNat = if i - B < 4 then 10 * vlF b B (i - B).toNat + b i - 48 else 10000 := by
          rw [show (i + 1 - B).toNat = (i - B).toNat + 1 by omega, vlF, show B + ((i - B).toNat : Int) = i by omega]
          by_cases d : i - B < 4
          · rw [if_pos d, if_pos (by omega)]
          · rw [if_neg d, if_neg (by omega)]
        obtain ⟨m', a1, a2, a3, a4, a5⟩ := IH (i + 1) (up (up m 1 7 (vlF b B (i + 1 - B).toNat)) 1 4 (i + 1)) (by omega) (by omega) (by omega) ((up_i (by decide)).trans ((up_i (by decide)).trans h2)) (up_at _ _ _ _) ((up_i (by decide)).trans ((up_i (by decide)).trans h6)) ((up_i (by decide)).trans (up_at _ _ _ _)) ((up_row (by decide)).trans ((up_row (by decide)).trans h8))
        refine ⟨m', a1, a2, a3, ((Fr1.up (by decide) (by decide)).tr (Fr1.up (by decide) (by decide))).tr a4, fun D => ?_⟩
        have Q := a5 D
        rw [ev] at Q
        by_cases d : i - B < 4
        · rw [if_pos d] at Q
          refine De.step ?_
          simp only [j_X3_next_69]
          simp (disch := omega) only [b_X3_next_69, x1_k hs, x1_r0 hs, x1_r1 hs, x1_i2 hs, x1_w2 hs, x1_i3 hs, x1_w3 hs, x1_i4 hs, x1_w4 hs, x1_i5 hs, x1_w5 hs, x1_i6 hs, x1_w6 hs, x1_i7 hs, x1_w7 hs, x8_g hs, x8_s hs, x8_l hs, h2, h4, h6, h7, h8, Option.bind_some, xI, xU, xUt, xIt, J_lit, J_add, J_sub, J_mul, J_neg, J_ltc, J_lec, J_eqc, lt_T, lt_F, le_T, le_F, eq_T, eq_F, ↓reduceIte, ite_not, not_true_eq_false, not_false_eq_true, true_or, or_true, false_or, or_false, true_and, and_true, false_and, and_false, up_get, Nat.reduceEqDiff, Int.reduceNeg, eqN_T, eqN_F]
          refine De.step ?_
          simp only [j_X3_next_148]
          simp (disch := omega) only [b_X3_next_148, x1_k hs, x1_r0 hs, x1_r1 hs, x1_i2 hs, x1_w2 hs, x1_i3 hs, x1_w3 hs, x1_i4 hs, x1_w4 hs, x1_i5 hs, x1_w5 hs, x1_i6 hs, x1_w6 hs, x1_i7 hs, x1_w7 hs, h4, Option.bind_some, xI, xU, xUt, xIt, J_lit, J_add, J_sub, J_mul, J_neg, J_ltc, J_lec, J_eqc, lt_T, lt_F, le_T, le_F, eq_T, eq_F, ↓reduceIte, ite_not, not_true_eq_false, not_false_eq_true, true_or, or_true, false_or, or_false, true_and, and_true, false_and, and_false, up_get, Nat.reduceEqDiff, Int.reduceNeg, eqN_T, eqN_F]
          exact Q
        · rw [if_neg d] at Q
          refine De.step ?_
          simp only [j_X3_next_69]
          simp (disch := omega) only [b_X3_next_69, x1_k hs, x1_r0 hs, x1_r1 hs, x1_i2 hs, x1_w2 hs, x1_i3 hs, x1_w3 hs, x1_i4 hs, x1_w4 hs, x1_i5 hs, x1_w5 hs, x1_i6 hs, x1_w6 hs, x1_i7 hs, x1_w7 hs, x8_g hs, x8_s hs, x8_l hs, h2, h4, h6, h7, h8, Option.bind_some, xI, xU, xUt, xIt, J_lit, J_add, J_sub, J_mul, J_neg, J_ltc, J_lec, J_eqc, lt_T, lt_F, le_T, le_F, eq_T, eq_F, ↓reduceIte, ite_not, not_true_eq_false, not_false_eq_true, true_or, or_true, false_or, or_false, true_and, and_true, false_and, and_false, up_get, Nat.reduceEqDiff, Int.reduceNeg, eqN_T, eqN_F]
          refine De.step ?_
          simp only [j_X3_next_148]
          simp (disch := omega) only [b_X3_next_148, x1_k hs, x1_r0 hs, x1_r1 hs, x1_i2 hs, x1_w2 hs, x1_i3 hs, x1_w3 hs, x1_i4 hs, x1_w4 hs, x1_i5 hs, x1_w5 hs, x1_i6 hs, x1_w6 hs, x1_i7 hs, x1_w7 hs, h4, Option.bind_some, xI, xU, xUt, xIt, J_lit, J_add, J_sub, J_mul, J_neg, J_ltc, J_lec, J_eqc, lt_T, lt_F, le_T, le_F, eq_T, eq_F, ↓reduceIte, ite_not, not_true_eq_false, not_false_eq_true, true_or, or_true, false_or, or_false, true_and, and_true, false_and, and_false, up_get, Nat.reduceEqDiff, Int.reduceNeg, eqN_T, eqN_F]
          exact Q
      · rw [rn_no (by omega)]
        refine ⟨m, h4, h6, h7, fun _ _ _ => rfl, fun D => ?_⟩
        refine De.step ?_
        simp only [j_X3_next_69]
        simp (disch := omega) only [b_X3_next_69, x1_k hs, x1_r0 hs, x1_r1 hs, x1_i2 hs, x1_w2 hs, x1_i3 hs, x1_w3 hs, x1_i4 hs, x1_w4 hs, x1_i5 hs, x1_w5 hs, x1_i6 hs, x1_w6 hs, x1_i7 hs, x1_w7 hs, x8_g hs, x8_s hs, x8_l hs, h2, h4, h8, Option.bind_some, xI, xU, xUt, xIt, J_lit, J_add, J_sub, J_mul, J_neg, J_ltc, J_lec, J_eqc, lt_T, lt_F, le_T, le_F, eq_T, eq_F, ↓reduceIte, ite_not, not_true_eq_false, not_false_eq_true, true_or, or_true, false_or, or_false, true_and, and_true, false_and, and_false, up_get, Nat.reduceEqDiff, Int.reduceNeg, eqN_T, eqN_F]
        exact D
    · rw [rn_no (by omega)]
      refine ⟨m, h4, h6, h7, fun _ _ _ => rfl, fun D => ?_⟩
      refine De.step ?_
      simp only [j_X3_next_69]
      simp (disch := omega) only [b_X3_next_69, x1_k hs, x1_r0 hs, x1_r1 hs, x1_i2 hs, x1_w2 hs, x1_i3 hs, x1_w3 hs, x1_i4 hs, x1_w4 hs, x1_i5 hs, x1_w5 hs, x1_i6 hs, x1_w6 hs, x1_i7 hs, x1_w7 hs, x8_g hs, x8_s hs, x8_l hs, h2, h4, h8, Option.bind_some, xI, xU, xUt, xIt, J_lit, J_add, J_sub, J_mul, J_neg, J_ltc, J_lec, J_eqc, lt_T, lt_F, le_T, le_F, eq_T, eq_F, ↓reduceIte, ite_not, not_true_eq_false, not_false_eq_true, true_or, or_true, false_or, or_false, true_and, and_true, false_and, and_false, up_get, Nat.reduceEqDiff, Int.reduceNeg, eqN_T, eqN_F]
      exact D
theorem q_nx182 (hs : Sk S) (n4 : n ≤ 400) (hb : ∀ j, 0 ≤ j → j < n → -128 ≤ b j ∧ b j < 128) : ∀ (k : Nat) (i : Int) (m : Nat → Int → Int), (n - i).toNat = k → 0 ≤ i → i ≤ n → m 1 2 = n → m 1 4 = i → m 1 6 = B → m 8 = b → ∃ m', m' 1 4 = rn b n 97 122 i ∧ m' 1 6 = B ∧ Fr1 m m' ∧ ∀ {R : xR} {P : xH}, De (fun n => f_X3_next n 234 [.ref 1] (hp S m' q)) R P → De (fun n => f_X3_next n 182 [.ref 1] (hp S m q)) R P := by
  intro k
  induction k with
  | zero =>
    intro i m hk i0 i1 h2 h4 h6 h8
    rw [rn_end (by omega)]
    refine ⟨m, h4, h6, fun _ _ _ => rfl, fun D => ?_⟩
    refine De.step ?_
    simp only [j_X3_next_182]
    simp (disch := omega) only [b_X3_next_182, x1_k hs, x1_r0 hs, x1_r1 hs, x1_i2 hs, x1_w2 hs, x1_i3 hs, x1_w3 hs, x1_i4 hs, x1_w4 hs, x1_i5 hs, x1_w5 hs, x1_i6 hs, x1_w6 hs, x1_i7 hs, x1_w7 hs, h2, h4, Option.bind_some, xI, xU, xUt, xIt, J_lit, J_add, J_sub, J_mul, J_neg, J_ltc, J_lec, J_eqc, lt_T, lt_F, le_T, le_F, eq_T, eq_F, ↓reduceIte, ite_not, not_true_eq_false, not_false_eq_true, true_or, or_true, false_or, or_false, true_and, and_true, false_and, and_false, up_get, Nat.reduceEqDiff, Int.reduceNeg, eqN_T, eqN_F]
    exact D
  | succ k IH =>
    intro i m hk i0 i1 h2 h4 h6 h8
    have bb := hb i (by omega) (by omega)
    by_cases c1 : 97 ≤ b i
    · by_cases c2 : b i ≤ 122
      · rw [rn_yes (by omega) ⟨c1, c2⟩]
        obtain ⟨m', a1, a2, a3, a4⟩ := IH (i + 1) (up m 1 4 (i + 1)) (by omega) (by omega) (by omega) ((up_i (by decide)).trans h2) (up_at _ _ _ _) ((up_i (by decide)).trans h6) ((up_row (by decide)).trans h8)
        refine ⟨m', a1, a2, (Fr1.up (by decide) (by decide)).tr a3, fun D => ?_⟩
        have Q := a4 D
        refine De.step ?_
        simp only [j_X3_next_182]
        simp (disch := omega) only [b_X3_next_182, x1_k hs, x1_r0 hs, x1_r1 hs, x1_i2 hs, x1_w2 hs, x1_i3 hs, x1_w3 hs, x1_i4 hs, x1_w4 hs, x1_i5 hs, x1_w5 hs, x1_i6 hs, x1_w6 hs, x1_i7 hs, x1_w7 hs, x8_g hs, x8_s hs, x8_l hs, h2, h4, h8, Option.bind_some, xI, xU, xUt, xIt, J_lit, J_add, J_sub, J_mul, J_neg, J_ltc, J_lec, J_eqc, lt_T, lt_F, le_T, le_F, eq_T, eq_F, ↓reduceIte, ite_not, not_true_eq_false, not_false_eq_true, true_or, or_true, false_or, or_false, true_and, and_true, false_and, and_false, up_get, Nat.reduceEqDiff, Int.reduceNeg, eqN_T, eqN_F]
        exact Q
      · rw [rn_no (by omega)]
        refine ⟨m, h4, h6, fun _ _ _ => rfl, fun D => ?_⟩
        refine De.step ?_
        simp only [j_X3_next_182]
        simp (disch := omega) only [b_X3_next_182, x1_k hs, x1_r0 hs, x1_r1 hs, x1_i2 hs, x1_w2 hs, x1_i3 hs, x1_w3 hs, x1_i4 hs, x1_w4 hs, x1_i5 hs, x1_w5 hs, x1_i6 hs, x1_w6 hs, x1_i7 hs, x1_w7 hs, x8_g hs, x8_s hs, x8_l hs, h2, h4, h8, Option.bind_some, xI, xU, xUt, xIt, J_lit, J_add, J_sub, J_mul, J_neg, J_ltc, J_lec, J_eqc, lt_T, lt_F, le_T, le_F, eq_T, eq_F, ↓reduceIte, ite_not, not_true_eq_false, not_false_eq_true, true_or, or_true, false_or, or_false, true_and, and_true, false_and, and_false, up_get, Nat.reduceEqDiff, Int.reduceNeg, eqN_T, eqN_F]
        exact D
    · rw [rn_no (by omega)]
      refine ⟨m, h4, h6, fun _ _ _ => rfl, fun D => ?_⟩
      refine De.step ?_
      simp only [j_X3_next_182]
      simp (disch := omega) only [b_X3_next_182, x1_k hs, x1_r0 hs, x1_r1 hs, x1_i2 hs, x1_w2 hs, x1_i3 hs, x1_w3 hs, x1_i4 hs, x1_w4 hs, x1_i5 hs, x1_w5 hs, x1_i6 hs, x1_w6 hs, x1_i7 hs, x1_w7 hs, x8_g hs, x8_s hs, x8_l hs, h2, h4, h8, Option.bind_some, xI, xU, xUt, xIt, J_lit, J_add, J_sub, J_mul, J_neg, J_ltc, J_lec, J_eqc, lt_T, lt_F, le_T, le_F, eq_T, eq_F, ↓reduceIte, ite_not, not_true_eq_false, not_false_eq_true, true_or, or_true, false_or, or_false, true_and, and_true, false_and, and_false, up_get, Nat.reduceEqDiff, Int.reduceNeg, eqN_T, eqN_F]
      exact D
theorem q_next (hs : Sk S) (n4 : n ≤ 400) (hb : ∀ j, 0 ≤ j → j < n → -128 ≤ b j ∧ b j < 128) (i0 : 0 ≤ i) (i1 : i ≤ n) (h2 : m 1 2 = n) (h4 : m 1 4 = i) (h8 : m 8 = b) : ∃ m', De (fun n => f_X3_next n 0 [.ref 1] (hp S m q)) (.inl none) (hp S m' q) ∧ Tk m' b n (rn b n 32 32 i) ∧ Fr1 m m' := by
  obtain ⟨m1, a4, F1, S1⟩ := q_nx0 (q := q) hs n4 hb (n - i).toNat i m rfl i0 i1 h2 h4 h8
  obtain ⟨r1, r2, -, -⟩ := rn_ok (b := b) (lo := 32) (hi := 32) i1
  obtain ⟨B, eB⟩ : ∃ B, B = rn b n 32 32 i := ⟨_, rfl⟩
  rw [← eB] at a4 r1 r2 ⊢
  have k2 : m1 1 2 = n := (F1 1 2 (by omega)).trans h2
  have k8 : m1 8 = b := F1.b8.trans h8
  by_cases c : n ≤ B
  · have t1 : tok b n B = 21 := if_pos c
    have t2 : ten b n B = B := if_pos c
    refine ⟨up (up m1 1 6 B) 1 5 21, S1 ?_, ⟨?_, ?_, ?_, fun z => ?_⟩, F1.tr ((Fr1.up (by decide) (by decide)).tr (Fr1.up (by decide) (by decide)))⟩
    · refine De.step ?_
      simp only [j_X3_next_38]
      simp (disch := omega) only [b_X3_next_38, x1_k hs, x1_r0 hs, x1_r1 hs, x1_i2 hs, x1_w2 hs, x1_i3 hs, x1_w3 hs, x1_i4 hs, x1_w4 hs, x1_i5 hs, x1_w5 hs, x1_i6 hs, x1_w6 hs, x1_i7 hs, x1_w7 hs, a4, k2, Option.bind_some, xI, xU, xUt, xIt, J_lit, J_add, J_sub, J_mul, J_neg, J_ltc, J_lec, J_eqc, lt_T, lt_F, le_T, le_F, eq_T, eq_F, ↓reduceIte, ite_not, not_true_eq_false, not_false_eq_true, true_or, or_true, false_or, or_false, true_and, and_true, false_and, and_false, up_get, Nat.reduceEqDiff, Int.reduceNeg, eqN_T, eqN_F]
      exact De.ret _ _
    · rw [t2, up_i (by decide), up_i (by decide)]
      exact a4
    · rw [t1, up_at]
    · rw [up_i (by decide), up_at]
    · rw [t1] at z
      exact absurd z (by decide)
  · have Z : ∀ {R : xR} {P : xH}, De (fun n => f_X3_next n 69 [.ref 1] (hp S (up (up m1 1 6 B) 1 7 0) q)) R P → De (fun n => f_X3_next n 38 [.ref 1] (hp S m1 q)) R P := by
      intro R P D
      refine De.step ?_
      simp only [j_X3_next_38]
      simp (disch := omega) only [b_X3_next_38, x1_k hs, x1_r0 hs, x1_r1 hs, x1_i2 hs, x1_w2 hs, x1_i3 hs, x1_w3 hs, x1_i4 hs, x1_w4 hs, x1_i5 hs, x1_w5 hs, x1_i6 hs, x1_w6 hs, x1_i7 hs, x1_w7 hs, a4, k2, Option.bind_some, xI, xU, xUt, xIt, J_lit, J_add, J_sub, J_mul, J_neg, J_ltc, J_lec, J_eqc, lt_T, lt_F, le_T, le_F, eq_T, eq_F, ↓reduceIte, ite_not, not_true_eq_false, not_false_eq_true, true_or, or_true, false_or, or_false, true_and, and_true, false_and, and_false, up_get, Nat.reduceEqDiff, Int.reduceNeg, eqN_T, eqN_F]
      exact D
    obtain ⟨m2, b4, b6, b7, F2, S2⟩ := q_nx69 (q := q) (B := B) hs n4 (by omega) hb (n - B).toNat B (up (up m1 1 6 B) 1 7 0) rfl (Int.le_refl _) (by omega) ((up_i (by decide)).trans ((up_i (by decide)).trans k2)) ((up_i (by decide)).trans ((up_i (by decide)).trans a4)) ((up_i (by decide)).trans (up_at _ _ _ _)) (by rw [up_at, show (B - B).toNat = 0 by omega]; rfl) ((up_row (by decide)).trans ((up_row (by decide)).trans k8))
    have FF : Fr1 m m2 := F1.tr (((Fr1.up (by decide) (by decide)).tr (Fr1.up (by decide) (by decide))).tr F2)
    have j2 : m2 1 2 = n := (FF 1 2 (by omega)).trans h2
    have j8 : m2 8 = b := FF.b8.trans h8
    obtain ⟨d1, d2, -, -⟩ := rn_ok (b := b) (lo := 48) (hi := 57) (show B ≤ n by omega)
    by_cases cd : 48 ≤ b B ∧ b B ≤ 57
    · have t1 : tok b n B = 20 := (if_neg c).trans (if_pos cd)
      have t2 : ten b n B = rn b n 48 57 B := (if_neg c).trans (if_pos cd)
      have gt : B < rn b n 48 57 B := by
        rw [rn_yes (by omega) cd]
        have := (rn_ok (b := b) (lo := 48) (hi := 57) (show B + 1 ≤ n by omega)).1
        omega
      refine ⟨up m2 1 5 20, S1 (Z (S2 ?_)), ⟨?_, ?_, ?_, fun z => ?_⟩, FF.tr (Fr1.up (by decide) (by decide))⟩
      · refine De.step ?_
        simp only [j_X3_next_164]
        simp (disch := omega) only [b_X3_next_164, x1_k hs, x1_r0 hs, x1_r1 hs, x1_i2 hs, x1_w2 hs, x1_i3 hs, x1_w3 hs, x1_i4 hs, x1_w4 hs, x1_i5 hs, x1_w5 hs, x1_i6 hs, x1_w6 hs, x1_i7 hs, x1_w7 hs, b4, b6, Option.bind_some, xI, xU, xUt, xIt, J_lit, J_add, J_sub, J_mul, J_neg, J_ltc, J_lec, J_eqc, lt_T, lt_F, le_T, le_F, eq_T, eq_F, ↓reduceIte, ite_not, not_true_eq_false, not_false_eq_true, true_or, or_true, false_or, or_false, true_and, and_true, false_and, and_false, up_get, Nat.reduceEqDiff, Int.reduceNeg, eqN_T, eqN_F]
        exact De.ret _ _
      · rw [t2, up_i (by decide)]
        exact b4
      · rw [t1, up_at]
      · rw [up_i (by decide)]
        exact b6
      · rw [t2, up_i (by decide)]
        exact b7
    · rw [rn_no cd] at b4
      have Y : ∀ {R : xR} {P : xH}, De (fun n => f_X3_next n 182 [.ref 1] (hp S m2 q)) R P → De (fun n => f_X3_next n 164 [.ref 1] (hp S m2 q)) R P := by
        intro R P D
        refine De.step ?_
        simp only [j_X3_next_164]
        simp (disch := omega) only [b_X3_next_164, x1_k hs, x1_r0 hs, x1_r1 hs, x1_i2 hs, x1_w2 hs, x1_i3 hs, x1_w3 hs, x1_i4 hs, x1_w4 hs, x1_i5 hs, x1_w5 hs, x1_i6 hs, x1_w6 hs, x1_i7 hs, x1_w7 hs, b4, b6, Option.bind_some, xI, xU, xUt, xIt, J_lit, J_add, J_sub, J_mul, J_neg, J_ltc, J_lec, J_eqc, lt_T, lt_F, le_T, le_F, eq_T, eq_F, ↓reduceIte, ite_not, not_true_eq_false, not_false_eq_true, true_or, or_true, false_or, or_false, true_and, and_true, false_and, and_false, up_get, Nat.reduceEqDiff, Int.reduceNeg, eqN_T, eqN_F]
        exact D
      obtain ⟨m3, c4, c6, F3, S3⟩ := q_nx182 (q := q) (B := B) hs n4 hb (n - B).toNat B m2 rfl (by omega) (by omega) j2 b4 b6 j8
      have FG : Fr1 m m3 := FF.tr F3
      have l8 : m3 8 = b := FG.b8.trans h8
      obtain ⟨g1, g2, g3, -⟩ := rn_ok (b := b) (lo := 97) (hi := 122) (show B ≤ n by omega)
      by_cases cl : 97 ≤ b B ∧ b B ≤ 122
      · have t1 : tok b n B = nmF b B (rn b n 97 122 B) 20 := (if_neg c).trans ((if_neg cd).trans (if_pos cl))
        have t2 : ten b n B = rn b n 97 122 B := (if_neg c).trans ((if_neg cd).trans (if_pos cl))
        have gt : B < rn b n 97 122 B := by
          rw [rn_yes (by omega) cl]
          have := (rn_ok (b := b) (lo := 97) (hi := 122) (show B + 1 ≤ n by omega)).1
          omega
        have DN := q_named (q := q) (m := m3) (B := B) (e := rn b n 97 122 B) hs c4 c6 (by omega) gt (by omega) (fun j h1 h2 => by rw [l8]; exact g3 j h1 h2)
        rw [l8] at DN
        have rg := nmF_rng (b := b) (B := B) (e := rn b n 97 122 B)
        refine ⟨up m3 1 5 (nmF b B (rn b n 97 122 B) 20), S1 (Z (S2 (Y (S3 ?_)))), ⟨?_, ?_, ?_, fun z => ?_⟩, FG.tr (Fr1.up (by decide) (by decide))⟩
        · refine De.step ?_
          simp only [j_X3_next_234]
          simp (disch := omega) only [b_X3_next_234, x1_k hs, x1_r0 hs, x1_r1 hs, x1_i2 hs, x1_w2 hs, x1_i3 hs, x1_w3 hs, x1_i4 hs, x1_w4 hs, x1_i5 hs, x1_w5 hs, x1_i6 hs, x1_w6 hs, x1_i7 hs, x1_w7 hs, c4, c6, Option.bind_some, xI, xU, xUt, xIt, J_lit, J_add, J_sub, J_mul, J_neg, J_ltc, J_lec, J_eqc, lt_T, lt_F, le_T, le_F, eq_T, eq_F, ↓reduceIte, ite_not, not_true_eq_false, not_false_eq_true, true_or, or_true, false_or, or_false, true_and, and_true, false_and, and_false, up_get, Nat.reduceEqDiff, Int.reduceNeg, eqN_T, eqN_F]
          refine De.call DN ?_
          simp (disch := omega) only [x1_k hs, x1_r0 hs, x1_r1 hs, x1_i2 hs, x1_w2 hs, x1_i3 hs, x1_w3 hs, x1_i4 hs, x1_w4 hs, x1_i5 hs, x1_w5 hs, x1_i6 hs, x1_w6 hs, x1_i7 hs, x1_w7 hs, Option.bind_some, xI, xU, xUt, xIt, J_lit, J_add, J_sub, J_mul, J_neg, J_ltc, J_lec, J_eqc, lt_T, lt_F, le_T, le_F, eq_T, eq_F, ↓reduceIte, ite_not, not_true_eq_false, not_false_eq_true, true_or, or_true, false_or, or_false, true_and, and_true, false_and, and_false, up_get, Nat.reduceEqDiff, Int.reduceNeg, eqN_T, eqN_F]
          exact De.ret _ _
        · rw [t2, up_i (by decide)]
          exact c4
        · rw [t1, up_at]
        · rw [up_i (by decide)]
          exact c6
        · rw [t1] at z
          rcases nmF_in (b := b) (B := B) (e := rn b n 97 122 B) 20 (by omega) with ⟨x1, -⟩ | ⟨x1, x2, x3, -⟩
          · omega
          · omega
      · rw [rn_no cl] at c4
        have t1 : tok b n B = 100 + b B % 256 := (if_neg c).trans ((if_neg cd).trans (if_neg cl))
        have t2 : ten b n B = B + 1 := (if_neg c).trans ((if_neg cd).trans (if_neg cl))
        have bb := hb B (by omega) (by omega)
        have ja := J_and255 bb.1 bb.2
        refine ⟨up (up m3 1 5 (100 + b B % 256)) 1 4 (B + 1), S1 (Z (S2 (Y (S3 ?_)))), ⟨?_, ?_, ?_, fun z => ?_⟩, FG.tr ((Fr1.up (by decide) (by decide)).tr (Fr1.up (by decide) (by decide)))⟩
        · refine De.step ?_
          simp only [j_X3_next_234]
          simp (disch := omega) only [b_X3_next_234, x1_k hs, x1_r0 hs, x1_r1 hs, x1_i2 hs, x1_w2 hs, x1_i3 hs, x1_w3 hs, x1_i4 hs, x1_w4 hs, x1_i5 hs, x1_w5 hs, x1_i6 hs, x1_w6 hs, x1_i7 hs, x1_w7 hs, x8_g hs, x8_s hs, x8_l hs, c4, c6, l8, ja, Option.bind_some, xI, xU, xUt, xIt, J_lit, J_add, J_sub, J_mul, J_neg, J_ltc, J_lec, J_eqc, lt_T, lt_F, le_T, le_F, eq_T, eq_F, ↓reduceIte, ite_not, not_true_eq_false, not_false_eq_true, true_or, or_true, false_or, or_false, true_and, and_true, false_and, and_false, up_get, Nat.reduceEqDiff, Int.reduceNeg, eqN_T, eqN_F]
          exact De.ret _ _
        · rw [t2, up_at]
        · rw [t1, up_i (by decide), up_at]
        · rw [up_i (by decide), up_i (by decide)]
          exact c6
        · rw [t1] at z
          omega
end NX
