/-! the sayings about a person: gathered alike -/
theorem J_ltc {a b : Int} (h : (-2147483648 ≤ a ∧ a < 2147483648) ∧ -2147483648 ≤ b ∧ b < 2147483648) : (J a < J b) = (a < b) := J_lt h.1.1 h.1.2 h.2.1 h.2.2
theorem J_lec {a b : Int} (h : (-2147483648 ≤ a ∧ a < 2147483648) ∧ -2147483648 ≤ b ∧ b < 2147483648) : (J a ≤ J b) = (a ≤ b) := J_le h.1.1 h.1.2 h.2.1 h.2.2
theorem J_eqc {a b : Int} (h : (-2147483648 ≤ a ∧ a < 2147483648) ∧ -2147483648 ≤ b ∧ b < 2147483648) : (J a = J b) = (a = b) := J_eq h.1.1 h.1.2 h.2.1 h.2.2
/-- the tent knows it at a tick; one of k words from j on undoes x, and is known -/
def kno (v : Int → Int) (kn x : Int) : Prop := 0 ≤ v (2151 + 5 * x + 0) ∧ v (2151 + 5 * x + 0) ≤ kn
def anyU (w v : Int → Int) (kn x : Int) : Nat → Int → Bool
  | 0, _ => false
  | k + 1, j => (decide (w (761 + 10 * j + 8) = x ∧ 0 ≤ v (2151 + 5 * j + 0) ∧ v (2151 + 5 * j + 0) ≤ kn)) || anyU w v kn x k (j + 1)
theorem anyU_add (w v : Int → Int) (kn x : Int) : ∀ (a b : Nat) (j : Int), anyU w v kn x (a + b) j = (anyU w v kn x a j || anyU w v kn x b (j + a))
  | 0, b, j => by simp [anyU]
  | a + 1, b, j => by
    rw [show a + 1 + b = a + b + 1 by omega, anyU, anyU, anyU_add w v kn x a b (j + 1), Bool.or_assoc, show j + 1 + (a : Int) = j + ((a + 1 : Nat) : Int) by omega]
theorem anyU_no {w v : Int → Int} {kn x : Int} : ∀ (k : Nat) (j : Int), (∀ u, j ≤ u → u < j + k → w (761 + 10 * u + 8) ≠ x) → anyU w v kn x k j = false
  | 0, _, _ => rfl
  | k + 1, j, h => by
    rw [anyU, anyU_no k (j + 1) (fun u u0 u1 => h u (by omega) (by omega)), decide_eq_false (fun z => h j (by omega) (by omega) z.1)]
    rfl
/-- x is a saying about pe that is known and not undone (N words) -/
def sayP (w v : Int → Int) (pe kn : Int) (N : Nat) (x : Int) : Prop := w (761 + 10 * x + 0) ≤ 1 ∧ w (761 + 10 * x + 4) = pe ∧ (0 ≤ v (2151 + 5 * x + 0) ∧ v (2151 + 5 * x + 0) ≤ kn) ∧ anyU w v kn x N 0 = false
theorem sayP_dec (w v : Int → Int) (pe kn : Int) (N : Nat) (x : Int) : Nonempty (Decidable (sayP w v pe kn N x)) := ⟨by unfold sayP; exact inferInstance⟩
def sayB (w v : Int → Int) (pe kn : Int) (N : Nat) (x : Int) : Bool := decide (w (761 + 10 * x + 0) ≤ 1) && decide (w (761 + 10 * x + 4) = pe) && decide (0 ≤ v (2151 + 5 * x + 0) ∧ v (2151 + 5 * x + 0) ≤ kn) && !anyU w v kn x N 0
/-- how many, and which, of the first n -/
def gN (w v : Int → Int) (pe kn : Int) (N : Nat) : Nat → Int
  | 0 => 0
  | n + 1 => gN w v pe kn N n + (if sayB w v pe kn N n = true then 1 else 0)
def gE (w v : Int → Int) (pe kn : Int) (N : Nat) : Nat → Int → Int
  | 0, _ => 0
  | n + 1, i => if sayB w v pe kn N n = true ∧ i = gN w v pe kn N n then n else gE w v pe kn N n i
theorem gN_in (w v : Int → Int) (pe kn : Int) (N : Nat) : ∀ n : Nat, 0 ≤ gN w v pe kn N n ∧ gN w v pe kn N n ≤ n
  | 0 => by simp [gN]
  | n + 1 => by
    have := gN_in w v pe kn N n
    rw [gN]
    split <;> omega
theorem gE_in (w v : Int → Int) (pe kn : Int) (N : Nat) : ∀ (n : Nat) (i : Int), 0 ≤ i → i < gN w v pe kn N n → (0 ≤ gE w v pe kn N n i ∧ gE w v pe kn N n i < n) ∧ sayB w v pe kn N (gE w v pe kn N n i) = true
  | 0, i, h0, h1 => by simp [gN] at h1; omega
  | n + 1, i, h0, h1 => by
    rw [gE]
    by_cases c : sayB w v pe kn N n = true ∧ i = gN w v pe kn N n
    · rw [if_pos c]
      exact ⟨⟨by omega, by omega⟩, c.1⟩
    · rw [if_neg c]
      have hi : i < gN w v pe kn N n := by
        rw [gN] at h1
        by_cases d : sayB w v pe kn N n = true
        · rw [if_pos d] at h1
          have : i ≠ gN w v pe kn N n := fun z => c ⟨d, z⟩
          omega
        · rw [if_neg d] at h1
          omega
      have := gE_in w v pe kn N n i h0 hi
      exact ⟨⟨this.1.1, by omega⟩, this.2⟩
section GATHER
variable {S : xH} {m : Nat → Int → Int} {q : Nat → Int → Int64} {x kn pe : Int}
theorem e_isKnown_T (hs : Sk S) (x0 : 0 ≤ x) (x1 : x < 30) (h0 : -1 ≤ m 64 x) (h1 : m 64 x ≤ 400) (k0 : -2147483648 ≤ kn) (k1 : kn < 2147483648) (h : 0 ≤ m 64 x ∧ m 64 x ≤ kn) (n : Nat) : f_X6_isKnown (n + 1) 0 [.ref 133, .int (J x), .int (J kn)] (hp S m q) = some (.inl (some (.int (J 1))), hp S m q) := by
  simp (disch := omega) only [j_X6_isKnown_0, b_X6_isKnown_0, x133_k hs, x133_r0 hs, x133_r1 hs, x133_r2 hs, x133_r3 hs, x133_i4 hs, x133_w4 hs, x46_k hs, x46_r0 hs, x46_r1 hs, x46_i2 hs, x46_w2 hs, x46_i3 hs, x46_w3 hs, x46_i4 hs, x46_w4 hs, x46_r5 hs, x46_r6 hs, x46_r7 hs, x46_r8 hs, x46_r9 hs, x46_r10 hs, x46_r11 hs, x46_r12 hs, x46_r13 hs, x46_i14 hs, x46_w14 hs, x46_i15 hs, x46_w15 hs, x46_i16 hs, x46_w16 hs, x64_g hs, x64_s hs, x64_l hs, Option.bind_some, xI, xU, xUt, xIt, J_lit, J_add, J_sub, J_mul, J_neg, J_ltc, J_lec, J_eqc, lt_T, lt_F, le_T, le_F, eq_T, eq_F, ↓reduceIte, ite_not, not_true_eq_false, not_false_eq_true, true_or, or_true, false_or, or_false, true_and, and_true, false_and, and_false, up_get, Nat.reduceEqDiff, Int.reduceNeg, eqN_T, eqN_F]
theorem e_isKnown_F (hs : Sk S) (x0 : 0 ≤ x) (x1 : x < 30) (h0 : -1 ≤ m 64 x) (h1 : m 64 x ≤ 400) (k0 : -2147483648 ≤ kn) (k1 : kn < 2147483648) (h : ¬ (0 ≤ m 64 x ∧ m 64 x ≤ kn)) (n : Nat) : f_X6_isKnown (n + 1) 0 [.ref 133, .int (J x), .int (J kn)] (hp S m q) = some (.inl (some (.int (J 0))), hp S m q) := by
  by_cases c : m 64 x = -1
  · simp (disch := omega) only [j_X6_isKnown_0, b_X6_isKnown_0, x133_k hs, x133_r0 hs, x133_r1 hs, x133_r2 hs, x133_r3 hs, x133_i4 hs, x133_w4 hs, x46_k hs, x46_r0 hs, x46_r1 hs, x46_i2 hs, x46_w2 hs, x46_i3 hs, x46_w3 hs, x46_i4 hs, x46_w4 hs, x46_r5 hs, x46_r6 hs, x46_r7 hs, x46_r8 hs, x46_r9 hs, x46_r10 hs, x46_r11 hs, x46_r12 hs, x46_r13 hs, x46_i14 hs, x46_w14 hs, x46_i15 hs, x46_w15 hs, x46_i16 hs, x46_w16 hs, x64_g hs, x64_s hs, x64_l hs, Option.bind_some, xI, xU, xUt, xIt, J_lit, J_add, J_sub, J_mul, J_neg, J_ltc, J_lec, J_eqc, lt_T, lt_F, le_T, le_F, eq_T, eq_F, ↓reduceIte, ite_not, not_true_eq_false, not_false_eq_true, true_or, or_true, false_or, or_false, true_and, and_true, false_and, and_false, up_get, Nat.reduceEqDiff, Int.reduceNeg, eqN_T, eqN_F]
  · simp (disch := omega) only [j_X6_isKnown_0, b_X6_isKnown_0, x133_k hs, x133_r0 hs, x133_r1 hs, x133_r2 hs, x133_r3 hs, x133_i4 hs, x133_w4 hs, x46_k hs, x46_r0 hs, x46_r1 hs, x46_i2 hs, x46_w2 hs, x46_i3 hs, x46_w3 hs, x46_i4 hs, x46_w4 hs, x46_r5 hs, x46_r6 hs, x46_r7 hs, x46_r8 hs, x46_r9 hs, x46_r10 hs, x46_r11 hs, x46_r12 hs, x46_r13 hs, x46_i14 hs, x46_w14 hs, x46_i15 hs, x46_w15 hs, x46_i16 hs, x46_w16 hs, x64_g hs, x64_s hs, x64_l hs, Option.bind_some, xI, xU, xUt, xIt, J_lit, J_add, J_sub, J_mul, J_neg, J_ltc, J_lec, J_eqc, lt_T, lt_F, le_T, le_F, eq_T, eq_F, ↓reduceIte, ite_not, not_true_eq_false, not_false_eq_true, true_or, or_true, false_or, or_false, true_and, and_true, false_and, and_false, up_get, Nat.reduceEqDiff, Int.reduceNeg, eqN_T, eqN_F]
theorem e_wasHad_T (hs : Sk S) (x0 : 0 ≤ x) (x1 : x < 30) (h0 : -1 ≤ m 137 (2151 + 5 * x + 0)) (h1 : m 137 (2151 + 5 * x + 0) ≤ 400) (k0 : -2147483648 ≤ kn) (k1 : kn < 2147483648) (h : 0 ≤ m 137 (2151 + 5 * x + 0) ∧ m 137 (2151 + 5 * x + 0) ≤ kn) (n : Nat) : f_X11_wasHad (n + 2) 0 [.ref 136, .int (J x), .int (J kn)] (hp S m q) = some (.inl (some (.int (J 1))), hp S m q) := by
  simp (disch := omega) only [j_X11_wasHad_0, b_X11_wasHad_0, x136_k hs, x136_i0 hs, x136_w0 hs, x136_r1 hs, x136_r2 hs, x136_r3 hs, x136_r4 hs, x136_i5 hs, x136_w5 hs, x136_i6 hs, x136_w6 hs, x136_i7 hs, x136_w7 hs, x136_r8 hs, x136_i9 hs, x136_w9 hs, x136_i10 hs, x136_w10 hs, x136_i11 hs, x136_w11 hs, x136_i12 hs, x136_w12 hs, x136_i13 hs, x136_w13 hs, x136_i14 hs, x136_w14 hs, x136_r15 hs, x136_i16 hs, x136_w16 hs, x136_r17 hs, x136_r18 hs, x136_r19 hs, x136_r20 hs, x136_r21 hs, x136_i22 hs, x136_w22 hs, x136_r23 hs, x136_r24 hs, x136_i25 hs, x136_w25 hs, x136_i26 hs, x136_w26 hs, x136_r27 hs, x136_r28 hs, x136_i29 hs, x136_w29 hs, x137_g hs, x137_s hs, x137_l hs, e_hadAt, e_in_T, Option.bind_some, xI, xU, xUt, xIt, J_lit, J_add, J_sub, J_mul, J_neg, J_ltc, J_lec, J_eqc, lt_T, lt_F, le_T, le_F, eq_T, eq_F, ↓reduceIte, ite_not, not_true_eq_false, not_false_eq_true, true_or, or_true, false_or, or_false, true_and, and_true, false_and, and_false, up_get, Nat.reduceEqDiff, Int.reduceNeg, eqN_T, eqN_F]
theorem e_wasHad_F (hs : Sk S) (x0 : 0 ≤ x) (x1 : x < 30) (h0 : -1 ≤ m 137 (2151 + 5 * x + 0)) (h1 : m 137 (2151 + 5 * x + 0) ≤ 400) (k0 : -2147483648 ≤ kn) (k1 : kn < 2147483648) (h : ¬ (0 ≤ m 137 (2151 + 5 * x + 0) ∧ m 137 (2151 + 5 * x + 0) ≤ kn)) (n : Nat) : f_X11_wasHad (n + 2) 0 [.ref 136, .int (J x), .int (J kn)] (hp S m q) = some (.inl (some (.int (J 0))), hp S m q) := by
  simp (disch := omega) only [j_X11_wasHad_0, b_X11_wasHad_0, x136_k hs, x136_i0 hs, x136_w0 hs, x136_r1 hs, x136_r2 hs, x136_r3 hs, x136_r4 hs, x136_i5 hs, x136_w5 hs, x136_i6 hs, x136_w6 hs, x136_i7 hs, x136_w7 hs, x136_r8 hs, x136_i9 hs, x136_w9 hs, x136_i10 hs, x136_w10 hs, x136_i11 hs, x136_w11 hs, x136_i12 hs, x136_w12 hs, x136_i13 hs, x136_w13 hs, x136_i14 hs, x136_w14 hs, x136_r15 hs, x136_i16 hs, x136_w16 hs, x136_r17 hs, x136_r18 hs, x136_r19 hs, x136_r20 hs, x136_r21 hs, x136_i22 hs, x136_w22 hs, x136_r23 hs, x136_r24 hs, x136_i25 hs, x136_w25 hs, x136_i26 hs, x136_w26 hs, x136_r27 hs, x136_r28 hs, x136_i29 hs, x136_w29 hs, x137_g hs, x137_s hs, x137_l hs, e_hadAt, e_in_F, Option.bind_some, xI, xU, xUt, xIt, J_lit, J_add, J_sub, J_mul, J_neg, J_ltc, J_lec, J_eqc, lt_T, lt_F, le_T, le_F, eq_T, eq_F, ↓reduceIte, ite_not, not_true_eq_false, not_false_eq_true, true_or, or_true, false_or, or_false, true_and, and_true, false_and, and_false, up_get, Nat.reduceEqDiff, Int.reduceNeg, eqN_T, eqN_F]
/-- what gathering reads: the words, beside the reference's -/
def Gok (m : Nat → Int → Int) : Prop := (0 ≤ m 139 1 ∧ m 139 1 ≤ 30 ∧ m 16 3 = m 139 1) ∧ ∀ x : Int, 0 ≤ x → x < m 139 1 → (m 18 x = m 139 (761 + 10 * x + 0) ∧ m 22 x = m 139 (761 + 10 * x + 4) ∧ m 26 x = m 139 (761 + 10 * x + 8) ∧ m 64 x = m 137 (2151 + 5 * x + 0)) ∧ (0 ≤ m 18 x ∧ m 18 x ≤ 5 ∧ 0 ≤ m 22 x ∧ m 22 x ≤ 15 ∧ -1 ≤ m 26 x ∧ m 26 x < x ∧ -1 ≤ m 64 x ∧ m 64 x ≤ 400)
theorem q_isUndone_l (hs : Sk S) (g : Gok m) (x0 : 0 ≤ x) (x1 : x < m 139 1) (k0 : -2147483648 ≤ kn) (k1 : kn < 2147483648) (N : Nat) (hN : (N : Int) = m 139 1) : ∀ k i : Nat, i + k = N → De (fun n => f_X6_isUndone n 4 [.ref 133, .int (J x), .int (J kn), .int (J i)] (hp S m q)) (.inl (some (.int (J (if anyU (m 139) (m 137) kn x k i = true then 1 else 0))))) (hp S m q)
  | 0, i, h => by
    have g1 := g.1
    refine De.stepk 4 ?_
    simp only [j_X6_isUndone_4, anyU, Bool.false_eq_true, if_false]
    simp (disch := omega) only [b_X6_isUndone_4, x133_k hs, x133_r0 hs, x133_r1 hs, x133_r2 hs, x133_r3 hs, x133_i4 hs, x133_w4 hs, x16_k hs, x16_r0 hs, x16_r1 hs, x16_r2 hs, x16_i3 hs, x16_w3 hs, Option.bind_some, xI, xU, xUt, xIt, J_lit, J_add, J_sub, J_mul, J_neg, J_ltc, J_lec, J_eqc, lt_T, lt_F, le_T, le_F, eq_T, eq_F, ↓reduceIte, ite_not, not_true_eq_false, not_false_eq_true, true_or, or_true, false_or, or_false, true_and, and_true, false_and, and_false, up_get, Nat.reduceEqDiff, Int.reduceNeg, eqN_T, eqN_F]
    exact De.ret _ _
  | k + 1, i, h => by
    have g1 := g.1
    have ih := (q_isUndone_l hs g x0 x1 k0 k1 N hN k (i + 1) (by omega)).sh 3
    obtain ⟨⟨f0, f4, f8, fh⟩, r1, r2, r3, r4, r5, r6, r7, r8⟩ := g.2 i (by omega) (by omega)
    rw [anyU]
    by_cases c : m 139 (761 + 10 * i + 8) = x
    · by_cases d : 0 ≤ m 137 (2151 + 5 * i + 0) ∧ m 137 (2151 + 5 * i + 0) ≤ kn
      · rw [decide_eq_true ⟨c, d⟩]
        refine De.stepk 4 ?_
        simp only [j_X6_isUndone_4, Bool.true_or, if_true]
        simp (disch := omega) only [b_X6_isUndone_4, x133_k hs, x133_r0 hs, x133_r1 hs, x133_r2 hs, x133_r3 hs, x133_i4 hs, x133_w4 hs, x16_k hs, x16_r0 hs, x16_r1 hs, x16_r2 hs, x16_i3 hs, x16_w3 hs, x17_m0 hs, x17_m1 hs, x17_m2 hs, x17_m3 hs, x17_m4 hs, x17_m5 hs, x17_m6 hs, x17_m7 hs, x17_m8 hs, x17_l hs, x26_g hs, x26_s hs, x26_l hs, e_isKnown_T hs, Option.bind_some, xI, xU, xUt, xIt, J_lit, J_add, J_sub, J_mul, J_neg, J_ltc, J_lec, J_eqc, lt_T, lt_F, le_T, le_F, eq_T, eq_F, ↓reduceIte, ite_not, not_true_eq_false, not_false_eq_true, true_or, or_true, false_or, or_false, true_and, and_true, false_and, and_false, up_get, Nat.reduceEqDiff, Int.reduceNeg, eqN_T, eqN_F]
        exact De.ret _ _
      · rw [decide_eq_false (fun z => d z.2), Bool.false_or]
        refine De.stepk 4 ?_
        simp only [j_X6_isUndone_4]
        simp (disch := omega) only [b_X6_isUndone_4, x133_k hs, x133_r0 hs, x133_r1 hs, x133_r2 hs, x133_r3 hs, x133_i4 hs, x133_w4 hs, x16_k hs, x16_r0 hs, x16_r1 hs, x16_r2 hs, x16_i3 hs, x16_w3 hs, x17_m0 hs, x17_m1 hs, x17_m2 hs, x17_m3 hs, x17_m4 hs, x17_m5 hs, x17_m6 hs, x17_m7 hs, x17_m8 hs, x17_l hs, x26_g hs, x26_s hs, x26_l hs, e_isKnown_F hs, Option.bind_some, xI, xU, xUt, xIt, J_lit, J_add, J_sub, J_mul, J_neg, J_ltc, J_lec, J_eqc, lt_T, lt_F, le_T, le_F, eq_T, eq_F, ↓reduceIte, ite_not, not_true_eq_false, not_false_eq_true, true_or, or_true, false_or, or_false, true_and, and_true, false_and, and_false, up_get, Nat.reduceEqDiff, Int.reduceNeg, eqN_T, eqN_F]
        exact ih
    · rw [decide_eq_false (fun z => c z.1), Bool.false_or]
      refine De.stepk 4 ?_
      simp only [j_X6_isUndone_4]
      simp (disch := omega) only [b_X6_isUndone_4, x133_k hs, x133_r0 hs, x133_r1 hs, x133_r2 hs, x133_r3 hs, x133_i4 hs, x133_w4 hs, x16_k hs, x16_r0 hs, x16_r1 hs, x16_r2 hs, x16_i3 hs, x16_w3 hs, x17_m0 hs, x17_m1 hs, x17_m2 hs, x17_m3 hs, x17_m4 hs, x17_m5 hs, x17_m6 hs, x17_m7 hs, x17_m8 hs, x17_l hs, x26_g hs, x26_s hs, x26_l hs, Option.bind_some, xI, xU, xUt, xIt, J_lit, J_add, J_sub, J_mul, J_neg, J_ltc, J_lec, J_eqc, lt_T, lt_F, le_T, le_F, eq_T, eq_F, ↓reduceIte, ite_not, not_true_eq_false, not_false_eq_true, true_or, or_true, false_or, or_false, true_and, and_true, false_and, and_false, up_get, Nat.reduceEqDiff, Int.reduceNeg, eqN_T, eqN_F]
      exact ih
theorem q_isUndone (hs : Sk S) (g : Gok m) (x0 : 0 ≤ x) (x1 : x < m 139 1) (k0 : -2147483648 ≤ kn) (k1 : kn < 2147483648) (N : Nat) (hN : (N : Int) = m 139 1) : De (fun n => f_X6_isUndone n 0 [.ref 133, .int (J x), .int (J kn)] (hp S m q)) (.inl (some (.int (J (if anyU (m 139) (m 137) kn x N 0 = true then 1 else 0))))) (hp S m q) := by
  have e : anyU (m 139) (m 137) kn x N 0 = anyU (m 139) (m 137) kn x (N - (x.toNat + 1)) ((x.toNat + 1 : Nat) : Int) := by
    have a := anyU_add (m 139) (m 137) kn x (x.toNat + 1) (N - (x.toNat + 1)) 0
    rw [show x.toNat + 1 + (N - (x.toNat + 1)) = N by omega, anyU_no (x.toNat + 1) 0 (fun u u0 u1 z => by
      obtain ⟨⟨f0, f4, f8, fh⟩, r1, r2, r3, r4, r5, r6, r7, r8⟩ := g.2 u (by omega) (by omega)
      omega), Bool.false_or] at a
    rw [a, Int.zero_add]
  rw [e]
  refine De.step ?_
  simp only [j_X6_isUndone_0, b_X6_isUndone_0, J_lit, J_add]
  have Q := q_isUndone_l (q := q) hs g x0 x1 k0 k1 N hN (N - (x.toNat + 1)) (x.toNat + 1) (by omega)
  rw [show ((x.toNat + 1 : Nat) : Int) = x + 1 by omega] at Q ⊢
  exact Q
end GATHER
