/-! loops that count -/
def psum (f : Int → Int) : Nat → Int
  | 0 => 0
  | n + 1 => psum f n + f n
theorem psum_congr {f g : Int → Int} : ∀ n : Nat, (∀ i : Int, 0 ≤ i → i < n → f i = g i) → psum f n = psum g n
  | 0, _ => rfl
  | n + 1, h => by rw [psum, psum, psum_congr n (fun i h0 h1 => h i h0 (by omega)), h n (by omega) (by omega)]
theorem cntw_stop {v : Int → Int} {p : Int} (n : Nat) : ∀ k : Nat, (∀ w : Int, n ≤ w → w < n + k → v (51 + 7 * (30 * p + w) + 0) ≠ 1) → cntw v p (n + k) = cntw v p n
  | 0, _ => rfl
  | k + 1, h => by
    rw [← Nat.add_assoc, cntw, cntw_stop n k (fun w h0 h1 => h w h0 (by omega)), if_neg (h _ (by omega) (by omega)), Int.add_zero]
theorem cntp_stop {v : Int → Int} {x : Int} (n : Nat) : ∀ k : Nat, (∀ p : Int, n ≤ p → p < n + k → v (51 + 7 * (30 * p + x) + 0) ≠ 1) → cntp v x (n + k) = cntp v x n
  | 0, _ => rfl
  | k + 1, h => by
    rw [← Nat.add_assoc, cntp, cntp_stop n k (fun w h0 h1 => h w h0 (by omega)), if_neg (h _ (by omega) (by omega)), Int.add_zero]
theorem cntw_in (v : Int → Int) (p : Int) : ∀ n : Nat, 0 ≤ cntw v p n ∧ cntw v p n ≤ n
  | 0 => by simp [cntw]
  | n + 1 => by
    have := cntw_in v p n
    rw [cntw]
    split <;> omega
theorem cntp_in (v : Int → Int) (x : Int) : ∀ n : Nat, 0 ≤ cntp v x n ∧ cntp v x n ≤ n
  | 0 => by simp [cntp]
  | n + 1 => by
    have := cntp_in v x n
    rw [cntp]
    split <;> omega
/-- how many of the first n words of a mouth are judged; how many as true -/
def cAll (w : Int → Int) (p : Int) : Nat → Int
  | 0 => 0
  | n + 1 => cAll w p n + (if w (761 + 10 * n + 1) = p ∧ w (761 + 10 * n + 9) ≠ 0 then 1 else 0)
def cTru (w : Int → Int) (p : Int) : Nat → Int
  | 0 => 0
  | n + 1 => cTru w p n + (if w (761 + 10 * n + 1) = p ∧ w (761 + 10 * n + 9) = 1 then 1 else 0)
theorem cAll_in (w : Int → Int) (p : Int) : ∀ n : Nat, 0 ≤ cAll w p n ∧ cAll w p n ≤ n
  | 0 => by simp [cAll]
  | n + 1 => by
    have := cAll_in w p n
    rw [cAll]
    split <;> omega
theorem cTru_in (w : Int → Int) (p : Int) : ∀ n : Nat, 0 ≤ cTru w p n ∧ cTru w p n ≤ n
  | 0 => by simp [cTru]
  | n + 1 => by
    have := cTru_in w p n
    rw [cTru]
    split <;> omega
def cHad (v : Int → Int) : Nat → Int
  | 0 => 0
  | n + 1 => cHad v n + (if 0 ≤ v (2151 + 5 * n + 0) then 1 else 0)
def cLot (w : Int → Int) : Nat → Int
  | 0 => 0
  | n + 1 => cLot w n + (if 0 < w (2 + n) then 1 else 0)
section LOOPS1
variable {S : xH} {m : Nat → Int → Int} {q : Nat → Int → Int64} {p x : Int}
theorem q_copies_l (hs : Sk S) (p0 : 0 ≤ p) (p1 : p < 10) (hv : ∀ w : Int, 0 ≤ w → w < 30 → 0 ≤ m 137 (51 + 7 * (30 * p + w) + 0) ∧ m 137 (51 + 7 * (30 * p + w) + 0) ≤ 1) (hb : m 139 1 ≤ 30) (N : Nat) (hN : (N : Int) = m 139 1) (hB : N ≤ 100) : ∀ k i : Nat, i + k = N → De (fun n => f_X11_copies n 4 [.ref 136, .int (J p), .int (J (cntw (m 137) p i)), .int (J i)] (hp S m q)) (.inl (some (.int (J (cntw (m 137) p N))))) (hp S m q)
  | 0, i, h => by
    have h : i = N := by omega
    subst h
    refine De.stepk 6 ?_
    simp only [j_X11_copies_4]
    simp (disch := omega) only [b_X11_copies_4, x136_k hs, x136_i0 hs, x136_w0 hs, x136_r1 hs, x136_r2 hs, x136_r3 hs, x136_r4 hs, x136_i5 hs, x136_w5 hs, x136_i6 hs, x136_w6 hs, x136_i7 hs, x136_w7 hs, x136_r8 hs, x136_i9 hs, x136_w9 hs, x136_i10 hs, x136_w10 hs, x136_i11 hs, x136_w11 hs, x136_i12 hs, x136_w12 hs, x136_i13 hs, x136_w13 hs, x136_i14 hs, x136_w14 hs, x136_r15 hs, x136_i16 hs, x136_w16 hs, x136_r17 hs, x136_r18 hs, x136_r19 hs, x136_r20 hs, x136_r21 hs, x136_i22 hs, x136_w22 hs, x136_r23 hs, x136_r24 hs, x136_i25 hs, x136_w25 hs, x136_i26 hs, x136_w26 hs, x136_r27 hs, x136_r28 hs, x136_i29 hs, x136_w29 hs, e_words hs, Option.bind_some, xI, xU, xUt, xIt, J_lit, J_add, J_sub, J_mul, J_neg, J_lt, J_le, J_eq, lt_T, lt_F, le_T, le_F, eq_T, eq_F, ↓reduceIte, ite_not, not_true_eq_false, not_false_eq_true, true_or, or_true, false_or, or_false, true_and, and_true, false_and, and_false, up_get, Nat.reduceEqDiff, Int.reduceNeg]
    exact De.ret _ _
  | k + 1, i, h => by
    have ih := (q_copies_l hs p0 p1 hv hb N hN hB k (i + 1) (by omega)).sh 5
    obtain ⟨v0, v1⟩ := hv i (by omega) (by omega)
    rw [cntw] at ih
    by_cases c : m 137 (51 + 7 * (30 * p + i) + 0) = 1
    · rw [if_pos c] at ih
      refine De.stepk 6 ?_
      simp only [j_X11_copies_4]
      simp (disch := omega) only [b_X11_copies_4, x136_k hs, x136_i0 hs, x136_w0 hs, x136_r1 hs, x136_r2 hs, x136_r3 hs, x136_r4 hs, x136_i5 hs, x136_w5 hs, x136_i6 hs, x136_w6 hs, x136_i7 hs, x136_w7 hs, x136_r8 hs, x136_i9 hs, x136_w9 hs, x136_i10 hs, x136_w10 hs, x136_i11 hs, x136_w11 hs, x136_i12 hs, x136_w12 hs, x136_i13 hs, x136_w13 hs, x136_i14 hs, x136_w14 hs, x136_r15 hs, x136_i16 hs, x136_w16 hs, x136_r17 hs, x136_r18 hs, x136_r19 hs, x136_r20 hs, x136_r21 hs, x136_i22 hs, x136_w22 hs, x136_r23 hs, x136_r24 hs, x136_i25 hs, x136_w25 hs, x136_i26 hs, x136_w26 hs, x136_r27 hs, x136_r28 hs, x136_i29 hs, x136_w29 hs, e_words hs, e_has hs, Option.bind_some, xI, xU, xUt, xIt, J_lit, J_add, J_sub, J_mul, J_neg, J_lt, J_le, J_eq, lt_T, lt_F, le_T, le_F, eq_T, eq_F, ↓reduceIte, ite_not, not_true_eq_false, not_false_eq_true, true_or, or_true, false_or, or_false, true_and, and_true, false_and, and_false, up_get, Nat.reduceEqDiff, Int.reduceNeg]
      exact ih
    · rw [if_neg c] at ih
      refine De.stepk 6 ?_
      simp only [j_X11_copies_4]
      simp (disch := omega) only [b_X11_copies_4, x136_k hs, x136_i0 hs, x136_w0 hs, x136_r1 hs, x136_r2 hs, x136_r3 hs, x136_r4 hs, x136_i5 hs, x136_w5 hs, x136_i6 hs, x136_w6 hs, x136_i7 hs, x136_w7 hs, x136_r8 hs, x136_i9 hs, x136_w9 hs, x136_i10 hs, x136_w10 hs, x136_i11 hs, x136_w11 hs, x136_i12 hs, x136_w12 hs, x136_i13 hs, x136_w13 hs, x136_i14 hs, x136_w14 hs, x136_r15 hs, x136_i16 hs, x136_w16 hs, x136_r17 hs, x136_r18 hs, x136_r19 hs, x136_r20 hs, x136_r21 hs, x136_i22 hs, x136_w22 hs, x136_r23 hs, x136_r24 hs, x136_i25 hs, x136_w25 hs, x136_i26 hs, x136_w26 hs, x136_r27 hs, x136_r28 hs, x136_i29 hs, x136_w29 hs, e_words hs, e_has hs, Option.bind_some, xI, xU, xUt, xIt, J_lit, J_add, J_sub, J_mul, J_neg, J_lt, J_le, J_eq, lt_T, lt_F, le_T, le_F, eq_T, eq_F, ↓reduceIte, ite_not, not_true_eq_false, not_false_eq_true, true_or, or_true, false_or, or_false, true_and, and_true, false_and, and_false, up_get, Nat.reduceEqDiff, Int.reduceNeg]
      exact ih
theorem q_copies (hs : Sk S) (p0 : 0 ≤ p) (p1 : p < 10) (hv : ∀ w : Int, 0 ≤ w → w < 30 → 0 ≤ m 137 (51 + 7 * (30 * p + w) + 0) ∧ m 137 (51 + 7 * (30 * p + w) + 0) ≤ 1) (hb : m 139 1 ≤ 30) (N : Nat) (hN : (N : Int) = m 139 1) (hB : N ≤ 100) : De (fun n => f_X11_copies n 0 [.ref 136, .int (J p)] (hp S m q)) (.inl (some (.int (J (cntw (m 137) p N))))) (hp S m q) := by
  refine De.step ?_
  simp only [j_X11_copies_0, b_X11_copies_0, J_lit]
  exact q_copies_l hs p0 p1 hv hb N hN hB N 0 (by omega)
theorem q_haveOf_l (hs : Sk S) (x0 : 0 ≤ x) (x1 : x < 30) (hv : ∀ p : Int, 0 ≤ p → p < 10 → 0 ≤ m 137 (51 + 7 * (30 * p + x) + 0) ∧ m 137 (51 + 7 * (30 * p + x) + 0) ≤ 1) (hb : m 139 0 ≤ 10) (N : Nat) (hN : (N : Int) = m 139 0) (hB : N ≤ 100) : ∀ k i : Nat, i + k = N → De (fun n => f_X11_haveOf n 4 [.ref 136, .int (J x), .int (J (cntp (m 137) x i)), .int (J i)] (hp S m q)) (.inl (some (.int (J (cntp (m 137) x N))))) (hp S m q)
  | 0, i, h => by
    have h : i = N := by omega
    subst h
    refine De.stepk 6 ?_
    simp only [j_X11_haveOf_4]
    simp (disch := omega) only [b_X11_haveOf_4, x136_k hs, x136_i0 hs, x136_w0 hs, x136_r1 hs, x136_r2 hs, x136_r3 hs, x136_r4 hs, x136_i5 hs, x136_w5 hs, x136_i6 hs, x136_w6 hs, x136_i7 hs, x136_w7 hs, x136_r8 hs, x136_i9 hs, x136_w9 hs, x136_i10 hs, x136_w10 hs, x136_i11 hs, x136_w11 hs, x136_i12 hs, x136_w12 hs, x136_i13 hs, x136_w13 hs, x136_i14 hs, x136_w14 hs, x136_r15 hs, x136_i16 hs, x136_w16 hs, x136_r17 hs, x136_r18 hs, x136_r19 hs, x136_r20 hs, x136_r21 hs, x136_i22 hs, x136_w22 hs, x136_r23 hs, x136_r24 hs, x136_i25 hs, x136_w25 hs, x136_i26 hs, x136_w26 hs, x136_r27 hs, x136_r28 hs, x136_i29 hs, x136_w29 hs, e_phones hs, Option.bind_some, xI, xU, xUt, xIt, J_lit, J_add, J_sub, J_mul, J_neg, J_lt, J_le, J_eq, lt_T, lt_F, le_T, le_F, eq_T, eq_F, ↓reduceIte, ite_not, not_true_eq_false, not_false_eq_true, true_or, or_true, false_or, or_false, true_and, and_true, false_and, and_false, up_get, Nat.reduceEqDiff, Int.reduceNeg]
    exact De.ret _ _
  | k + 1, i, h => by
    have ih := (q_haveOf_l hs x0 x1 hv hb N hN hB k (i + 1) (by omega)).sh 5
    obtain ⟨v0, v1⟩ := hv i (by omega) (by omega)
    rw [cntp] at ih
    by_cases c : m 137 (51 + 7 * (30 * i + x) + 0) = 1
    · rw [if_pos c] at ih
      refine De.stepk 6 ?_
      simp only [j_X11_haveOf_4]
      simp (disch := omega) only [b_X11_haveOf_4, x136_k hs, x136_i0 hs, x136_w0 hs, x136_r1 hs, x136_r2 hs, x136_r3 hs, x136_r4 hs, x136_i5 hs, x136_w5 hs, x136_i6 hs, x136_w6 hs, x136_i7 hs, x136_w7 hs, x136_r8 hs, x136_i9 hs, x136_w9 hs, x136_i10 hs, x136_w10 hs, x136_i11 hs, x136_w11 hs, x136_i12 hs, x136_w12 hs, x136_i13 hs, x136_w13 hs, x136_i14 hs, x136_w14 hs, x136_r15 hs, x136_i16 hs, x136_w16 hs, x136_r17 hs, x136_r18 hs, x136_r19 hs, x136_r20 hs, x136_r21 hs, x136_i22 hs, x136_w22 hs, x136_r23 hs, x136_r24 hs, x136_i25 hs, x136_w25 hs, x136_i26 hs, x136_w26 hs, x136_r27 hs, x136_r28 hs, x136_i29 hs, x136_w29 hs, e_phones hs, e_has hs, Option.bind_some, xI, xU, xUt, xIt, J_lit, J_add, J_sub, J_mul, J_neg, J_lt, J_le, J_eq, lt_T, lt_F, le_T, le_F, eq_T, eq_F, ↓reduceIte, ite_not, not_true_eq_false, not_false_eq_true, true_or, or_true, false_or, or_false, true_and, and_true, false_and, and_false, up_get, Nat.reduceEqDiff, Int.reduceNeg]
      exact ih
    · rw [if_neg c] at ih
      refine De.stepk 6 ?_
      simp only [j_X11_haveOf_4]
      simp (disch := omega) only [b_X11_haveOf_4, x136_k hs, x136_i0 hs, x136_w0 hs, x136_r1 hs, x136_r2 hs, x136_r3 hs, x136_r4 hs, x136_i5 hs, x136_w5 hs, x136_i6 hs, x136_w6 hs, x136_i7 hs, x136_w7 hs, x136_r8 hs, x136_i9 hs, x136_w9 hs, x136_i10 hs, x136_w10 hs, x136_i11 hs, x136_w11 hs, x136_i12 hs, x136_w12 hs, x136_i13 hs, x136_w13 hs, x136_i14 hs, x136_w14 hs, x136_r15 hs, x136_i16 hs, x136_w16 hs, x136_r17 hs, x136_r18 hs, x136_r19 hs, x136_r20 hs, x136_r21 hs, x136_i22 hs, x136_w22 hs, x136_r23 hs, x136_r24 hs, x136_i25 hs, x136_w25 hs, x136_i26 hs, x136_w26 hs, x136_r27 hs, x136_r28 hs, x136_i29 hs, x136_w29 hs, e_phones hs, e_has hs, Option.bind_some, xI, xU, xUt, xIt, J_lit, J_add, J_sub, J_mul, J_neg, J_lt, J_le, J_eq, lt_T, lt_F, le_T, le_F, eq_T, eq_F, ↓reduceIte, ite_not, not_true_eq_false, not_false_eq_true, true_or, or_true, false_or, or_false, true_and, and_true, false_and, and_false, up_get, Nat.reduceEqDiff, Int.reduceNeg]
      exact ih
theorem q_haveOf (hs : Sk S) (x0 : 0 ≤ x) (x1 : x < 30) (hv : ∀ p : Int, 0 ≤ p → p < 10 → 0 ≤ m 137 (51 + 7 * (30 * p + x) + 0) ∧ m 137 (51 + 7 * (30 * p + x) + 0) ≤ 1) (hb : m 139 0 ≤ 10) (N : Nat) (hN : (N : Int) = m 139 0) (hB : N ≤ 100) : De (fun n => f_X11_haveOf n 0 [.ref 136, .int (J x)] (hp S m q)) (.inl (some (.int (J (cntp (m 137) x N))))) (hp S m q) := by
  refine De.step ?_
  simp only [j_X11_haveOf_0, b_X11_haveOf_0, J_lit]
  exact q_haveOf_l hs x0 x1 hv hb N hN hB N 0 (by omega)
theorem q_sumOf_l (hs : Sk S) (x0 : 0 ≤ x) (x1 : x < 5) (hb : m 139 0 ≤ 10) (N : Nat) (hN : (N : Int) = m 139 0) (hB : N ≤ 100) : ∀ k i : Nat, i + k = N → De (fun n => f_X11_sumOf n 4 [.ref 136, .int (J x), .int (J (psum (fun p => m 137 (1 + 5 * p + x)) i)), .int (J i)] (hp S m q)) (.inl (some (.int (J (psum (fun p => m 137 (1 + 5 * p + x)) N))))) (hp S m q)
  | 0, i, h => by
    have h : i = N := by omega
    subst h
    refine De.stepk 6 ?_
    simp only [j_X11_sumOf_4]
    simp (disch := omega) only [b_X11_sumOf_4, x136_k hs, x136_i0 hs, x136_w0 hs, x136_r1 hs, x136_r2 hs, x136_r3 hs, x136_r4 hs, x136_i5 hs, x136_w5 hs, x136_i6 hs, x136_w6 hs, x136_i7 hs, x136_w7 hs, x136_r8 hs, x136_i9 hs, x136_w9 hs, x136_i10 hs, x136_w10 hs, x136_i11 hs, x136_w11 hs, x136_i12 hs, x136_w12 hs, x136_i13 hs, x136_w13 hs, x136_i14 hs, x136_w14 hs, x136_r15 hs, x136_i16 hs, x136_w16 hs, x136_r17 hs, x136_r18 hs, x136_r19 hs, x136_r20 hs, x136_r21 hs, x136_i22 hs, x136_w22 hs, x136_r23 hs, x136_r24 hs, x136_i25 hs, x136_w25 hs, x136_i26 hs, x136_w26 hs, x136_r27 hs, x136_r28 hs, x136_i29 hs, x136_w29 hs, e_phones hs, Option.bind_some, xI, xU, xUt, xIt, J_lit, J_add, J_sub, J_mul, J_neg, J_lt, J_le, J_eq, lt_T, lt_F, le_T, le_F, eq_T, eq_F, ↓reduceIte, ite_not, not_true_eq_false, not_false_eq_true, true_or, or_true, false_or, or_false, true_and, and_true, false_and, and_false, up_get, Nat.reduceEqDiff, Int.reduceNeg]
    exact De.ret _ _
  | k + 1, i, h => by
    have ih := (q_sumOf_l hs x0 x1 hb N hN hB k (i + 1) (by omega)).sh 5
    rw [psum] at ih
    refine De.stepk 6 ?_
    simp only [j_X11_sumOf_4]
    simp (disch := omega) only [b_X11_sumOf_4, x136_k hs, x136_i0 hs, x136_w0 hs, x136_r1 hs, x136_r2 hs, x136_r3 hs, x136_r4 hs, x136_i5 hs, x136_w5 hs, x136_i6 hs, x136_w6 hs, x136_i7 hs, x136_w7 hs, x136_r8 hs, x136_i9 hs, x136_w9 hs, x136_i10 hs, x136_w10 hs, x136_i11 hs, x136_w11 hs, x136_i12 hs, x136_w12 hs, x136_i13 hs, x136_w13 hs, x136_i14 hs, x136_w14 hs, x136_r15 hs, x136_i16 hs, x136_w16 hs, x136_r17 hs, x136_r18 hs, x136_r19 hs, x136_r20 hs, x136_r21 hs, x136_i22 hs, x136_w22 hs, x136_r23 hs, x136_r24 hs, x136_i25 hs, x136_w25 hs, x136_i26 hs, x136_w26 hs, x136_r27 hs, x136_r28 hs, x136_i29 hs, x136_w29 hs, x137_g hs, x137_s hs, x137_l hs, e_phones hs, e_phoneAt, Option.bind_some, xI, xU, xUt, xIt, J_lit, J_add, J_sub, J_mul, J_neg, J_lt, J_le, J_eq, lt_T, lt_F, le_T, le_F, eq_T, eq_F, ↓reduceIte, ite_not, not_true_eq_false, not_false_eq_true, true_or, or_true, false_or, or_false, true_and, and_true, false_and, and_false, up_get, Nat.reduceEqDiff, Int.reduceNeg]
    exact ih
theorem q_sumOf (hs : Sk S) (x0 : 0 ≤ x) (x1 : x < 5) (hb : m 139 0 ≤ 10) (N : Nat) (hN : (N : Int) = m 139 0) (hB : N ≤ 100) : De (fun n => f_X11_sumOf n 0 [.ref 136, .int (J x)] (hp S m q)) (.inl (some (.int (J (psum (fun p => m 137 (1 + 5 * p + x)) N))))) (hp S m q) := by
  refine De.step ?_
  simp only [j_X11_sumOf_0, b_X11_sumOf_0, J_lit]
  exact q_sumOf_l hs x0 x1 hb N hN hB N 0 (by omega)
theorem q_allCopies_l (hs : Sk S) (hv : ∀ p w : Int, 0 ≤ p → p < 10 → 0 ≤ w → w < 30 → 0 ≤ m 137 (51 + 7 * (30 * p + w) + 0) ∧ m 137 (51 + 7 * (30 * p + w) + 0) ≤ 1) (hb : m 139 0 ≤ 10) (hW : m 139 1 ≤ 30) (W : Nat) (hWn : (W : Int) = m 139 1) (N : Nat) (hN : (N : Int) = m 139 0) (hB : N ≤ 100) : ∀ k i : Nat, i + k = N → De (fun n => f_X11_allCopies n 4 [.ref 136, .int (J (psum (fun p => cntw (m 137) p W) i)), .int (J i)] (hp S m q)) (.inl (some (.int (J (psum (fun p => cntw (m 137) p W) N))))) (hp S m q)
  | 0, i, h => by
    have h : i = N := by omega
    subst h
    refine De.stepk 6 ?_
    simp only [j_X11_allCopies_4]
    simp (disch := omega) only [b_X11_allCopies_4, x136_k hs, x136_i0 hs, x136_w0 hs, x136_r1 hs, x136_r2 hs, x136_r3 hs, x136_r4 hs, x136_i5 hs, x136_w5 hs, x136_i6 hs, x136_w6 hs, x136_i7 hs, x136_w7 hs, x136_r8 hs, x136_i9 hs, x136_w9 hs, x136_i10 hs, x136_w10 hs, x136_i11 hs, x136_w11 hs, x136_i12 hs, x136_w12 hs, x136_i13 hs, x136_w13 hs, x136_i14 hs, x136_w14 hs, x136_r15 hs, x136_i16 hs, x136_w16 hs, x136_r17 hs, x136_r18 hs, x136_r19 hs, x136_r20 hs, x136_r21 hs, x136_i22 hs, x136_w22 hs, x136_r23 hs, x136_r24 hs, x136_i25 hs, x136_w25 hs, x136_i26 hs, x136_w26 hs, x136_r27 hs, x136_r28 hs, x136_i29 hs, x136_w29 hs, e_phones hs, Option.bind_some, xI, xU, xUt, xIt, J_lit, J_add, J_sub, J_mul, J_neg, J_lt, J_le, J_eq, lt_T, lt_F, le_T, le_F, eq_T, eq_F, ↓reduceIte, ite_not, not_true_eq_false, not_false_eq_true, true_or, or_true, false_or, or_false, true_and, and_true, false_and, and_false, up_get, Nat.reduceEqDiff, Int.reduceNeg]
    exact De.ret _ _
  | k + 1, i, h => by
    have ih := (q_allCopies_l hs hv hb hW W hWn N hN hB k (i + 1) (by omega)).sh 5
    rw [psum] at ih
    refine De.stepk 6 ?_
    simp only [j_X11_allCopies_4]
    simp (disch := omega) only [b_X11_allCopies_4, x136_k hs, x136_i0 hs, x136_w0 hs, x136_r1 hs, x136_r2 hs, x136_r3 hs, x136_r4 hs, x136_i5 hs, x136_w5 hs, x136_i6 hs, x136_w6 hs, x136_i7 hs, x136_w7 hs, x136_r8 hs, x136_i9 hs, x136_w9 hs, x136_i10 hs, x136_w10 hs, x136_i11 hs, x136_w11 hs, x136_i12 hs, x136_w12 hs, x136_i13 hs, x136_w13 hs, x136_i14 hs, x136_w14 hs, x136_r15 hs, x136_i16 hs, x136_w16 hs, x136_r17 hs, x136_r18 hs, x136_r19 hs, x136_r20 hs, x136_r21 hs, x136_i22 hs, x136_w22 hs, x136_r23 hs, x136_r24 hs, x136_i25 hs, x136_w25 hs, x136_i26 hs, x136_w26 hs, x136_r27 hs, x136_r28 hs, x136_i29 hs, x136_w29 hs, e_phones hs, Option.bind_some, xI, xU, xUt, xIt, J_lit, J_add, J_sub, J_mul, J_neg, J_lt, J_le, J_eq, lt_T, lt_F, le_T, le_F, eq_T, eq_F, ↓reduceIte, ite_not, not_true_eq_false, not_false_eq_true, true_or, or_true, false_or, or_false, true_and, and_true, false_and, and_false, up_get, Nat.reduceEqDiff, Int.reduceNeg]
    refine De.call ((q_copies hs (by omega) (by omega) (fun w w0 w1 => hv i w (by omega) (by omega) w0 w1) hW W hWn (by omega)).sh 5) ?_
    simp only [xI, J_add]
    exact ih
theorem q_allCopies (hs : Sk S) (hv : ∀ p w : Int, 0 ≤ p → p < 10 → 0 ≤ w → w < 30 → 0 ≤ m 137 (51 + 7 * (30 * p + w) + 0) ∧ m 137 (51 + 7 * (30 * p + w) + 0) ≤ 1) (hb : m 139 0 ≤ 10) (hW : m 139 1 ≤ 30) (W : Nat) (hWn : (W : Int) = m 139 1) (N : Nat) (hN : (N : Int) = m 139 0) (hB : N ≤ 100) : De (fun n => f_X11_allCopies n 0 [.ref 136] (hp S m q)) (.inl (some (.int (J (psum (fun p => cntw (m 137) p W) N))))) (hp S m q) := by
  refine De.step ?_
  simp only [j_X11_allCopies_0, b_X11_allCopies_0, J_lit]
  exact q_allCopies_l hs hv hb hW W hWn N hN hB N 0 (by omega)
theorem q_weightOf_l (hs : Sk S) (p0 : 0 ≤ p) (p1 : p < 10) (hb : m 139 1 ≤ 30) (hj : ∀ w : Int, 0 ≤ w → w < m 139 1 → (0 ≤ m 139 (761 + 10 * w + 1) ∧ m 139 (761 + 10 * w + 1) < 10) ∧ 0 ≤ m 139 (761 + 10 * w + 9) ∧ m 139 (761 + 10 * w + 9) ≤ 2) (N : Nat) (hN : (N : Int) = m 139 1) (hB : N ≤ 100) : ∀ k i : Nat, i + k = N → De (fun n => f_X11_weightOf n 7 [.ref 136, .int (J p), .int (J (cTru (m 139) p i + 1)), .int (J (cAll (m 139) p i + 2)), .int (J i)] (hp S m q)) (.inl (some (.int (J (1000 * (cTru (m 139) p N + 1) / (cAll (m 139) p N + 2)))))) (hp S m q)
  | 0, i, h => by
    have h : i = N := by omega
    subst h
    have b1 := cAll_in (m 139) p i
    have b2 := cTru_in (m 139) p i
    refine De.stepk 6 ?_
    simp only [j_X11_weightOf_7]
    simp (disch := omega) only [b_X11_weightOf_7, x136_k hs, x136_i0 hs, x136_w0 hs, x136_r1 hs, x136_r2 hs, x136_r3 hs, x136_r4 hs, x136_i5 hs, x136_w5 hs, x136_i6 hs, x136_w6 hs, x136_i7 hs, x136_w7 hs, x136_r8 hs, x136_i9 hs, x136_w9 hs, x136_i10 hs, x136_w10 hs, x136_i11 hs, x136_w11 hs, x136_i12 hs, x136_w12 hs, x136_i13 hs, x136_w13 hs, x136_i14 hs, x136_w14 hs, x136_r15 hs, x136_i16 hs, x136_w16 hs, x136_r17 hs, x136_r18 hs, x136_r19 hs, x136_r20 hs, x136_r21 hs, x136_i22 hs, x136_w22 hs, x136_r23 hs, x136_r24 hs, x136_i25 hs, x136_w25 hs, x136_i26 hs, x136_w26 hs, x136_r27 hs, x136_r28 hs, x136_i29 hs, x136_w29 hs, e_words hs, J_div, Option.bind_some, xI, xU, xUt, xIt, J_lit, J_add, J_sub, J_mul, J_neg, J_lt, J_le, J_eq, lt_T, lt_F, le_T, le_F, eq_T, eq_F, ↓reduceIte, ite_not, not_true_eq_false, not_false_eq_true, true_or, or_true, false_or, or_false, true_and, and_true, false_and, and_false, up_get, Nat.reduceEqDiff, Int.reduceNeg]
    exact De.ret _ _
  | k + 1, i, h => by
    have ih := (q_weightOf_l hs p0 p1 hb hj N hN hB k (i + 1) (by omega)).sh 5
    obtain ⟨⟨j0, j1⟩, j2, j3⟩ := hj i (by omega) (by omega)
    have b1 := cAll_in (m 139) p i
    have b2 := cTru_in (m 139) p i
    rw [cAll, cTru] at ih
    by_cases c : m 139 (761 + 10 * i + 1) = p
    · by_cases d : m 139 (761 + 10 * i + 9) = 0
      · simp (disch := omega) only [eq_T, eq_F, ne_eq, true_and, and_true, false_and, and_false, not_true_eq_false, not_false_eq_true, if_true, if_false, Int.add_zero] at ih
        refine De.stepk 6 ?_
        simp only [j_X11_weightOf_7]
        simp (disch := omega) only [b_X11_weightOf_7, x136_k hs, x136_i0 hs, x136_w0 hs, x136_r1 hs, x136_r2 hs, x136_r3 hs, x136_r4 hs, x136_i5 hs, x136_w5 hs, x136_i6 hs, x136_w6 hs, x136_i7 hs, x136_w7 hs, x136_r8 hs, x136_i9 hs, x136_w9 hs, x136_i10 hs, x136_w10 hs, x136_i11 hs, x136_w11 hs, x136_i12 hs, x136_w12 hs, x136_i13 hs, x136_w13 hs, x136_i14 hs, x136_w14 hs, x136_r15 hs, x136_i16 hs, x136_w16 hs, x136_r17 hs, x136_r18 hs, x136_r19 hs, x136_r20 hs, x136_r21 hs, x136_i22 hs, x136_w22 hs, x136_r23 hs, x136_r24 hs, x136_i25 hs, x136_w25 hs, x136_i26 hs, x136_w26 hs, x136_r27 hs, x136_r28 hs, x136_i29 hs, x136_w29 hs, e_words hs, e_of hs, Option.bind_some, xI, xU, xUt, xIt, J_lit, J_add, J_sub, J_mul, J_neg, J_lt, J_le, J_eq, lt_T, lt_F, le_T, le_F, eq_T, eq_F, ↓reduceIte, ite_not, not_true_eq_false, not_false_eq_true, true_or, or_true, false_or, or_false, true_and, and_true, false_and, and_false, up_get, Nat.reduceEqDiff, Int.reduceNeg]
        exact ih
      · by_cases e : m 139 (761 + 10 * i + 9) = 1
        · simp (disch := omega) only [eq_T, eq_F, ne_eq, true_and, and_true, false_and, and_false, not_true_eq_false, not_false_eq_true, if_true, if_false, Int.add_zero] at ih
          rw [show cTru (m 139) p i + 1 + 1 = cTru (m 139) p i + 1 + 1 from rfl, show cAll (m 139) p i + 1 + 2 = cAll (m 139) p i + 2 + 1 by omega] at ih
          refine De.stepk 6 ?_
          simp only [j_X11_weightOf_7]
          simp (disch := omega) only [b_X11_weightOf_7, x136_k hs, x136_i0 hs, x136_w0 hs, x136_r1 hs, x136_r2 hs, x136_r3 hs, x136_r4 hs, x136_i5 hs, x136_w5 hs, x136_i6 hs, x136_w6 hs, x136_i7 hs, x136_w7 hs, x136_r8 hs, x136_i9 hs, x136_w9 hs, x136_i10 hs, x136_w10 hs, x136_i11 hs, x136_w11 hs, x136_i12 hs, x136_w12 hs, x136_i13 hs, x136_w13 hs, x136_i14 hs, x136_w14 hs, x136_r15 hs, x136_i16 hs, x136_w16 hs, x136_r17 hs, x136_r18 hs, x136_r19 hs, x136_r20 hs, x136_r21 hs, x136_i22 hs, x136_w22 hs, x136_r23 hs, x136_r24 hs, x136_i25 hs, x136_w25 hs, x136_i26 hs, x136_w26 hs, x136_r27 hs, x136_r28 hs, x136_i29 hs, x136_w29 hs, e_words hs, e_of hs, Option.bind_some, xI, xU, xUt, xIt, J_lit, J_add, J_sub, J_mul, J_neg, J_lt, J_le, J_eq, lt_T, lt_F, le_T, le_F, eq_T, eq_F, ↓reduceIte, ite_not, not_true_eq_false, not_false_eq_true, true_or, or_true, false_or, or_false, true_and, and_true, false_and, and_false, up_get, Nat.reduceEqDiff, Int.reduceNeg]
          exact ih
        · simp (disch := omega) only [eq_T, eq_F, ne_eq, true_and, and_true, false_and, and_false, not_true_eq_false, not_false_eq_true, if_true, if_false, Int.add_zero] at ih
          rw [show cAll (m 139) p i + 1 + 2 = cAll (m 139) p i + 2 + 1 by omega] at ih
          refine De.stepk 6 ?_
          simp only [j_X11_weightOf_7]
          simp (disch := omega) only [b_X11_weightOf_7, x136_k hs, x136_i0 hs, x136_w0 hs, x136_r1 hs, x136_r2 hs, x136_r3 hs, x136_r4 hs, x136_i5 hs, x136_w5 hs, x136_i6 hs, x136_w6 hs, x136_i7 hs, x136_w7 hs, x136_r8 hs, x136_i9 hs, x136_w9 hs, x136_i10 hs, x136_w10 hs, x136_i11 hs, x136_w11 hs, x136_i12 hs, x136_w12 hs, x136_i13 hs, x136_w13 hs, x136_i14 hs, x136_w14 hs, x136_r15 hs, x136_i16 hs, x136_w16 hs, x136_r17 hs, x136_r18 hs, x136_r19 hs, x136_r20 hs, x136_r21 hs, x136_i22 hs, x136_w22 hs, x136_r23 hs, x136_r24 hs, x136_i25 hs, x136_w25 hs, x136_i26 hs, x136_w26 hs, x136_r27 hs, x136_r28 hs, x136_i29 hs, x136_w29 hs, e_words hs, e_of hs, Int.add_zero, Option.bind_some, xI, xU, xUt, xIt, J_lit, J_add, J_sub, J_mul, J_neg, J_lt, J_le, J_eq, lt_T, lt_F, le_T, le_F, eq_T, eq_F, ↓reduceIte, ite_not, not_true_eq_false, not_false_eq_true, true_or, or_true, false_or, or_false, true_and, and_true, false_and, and_false, up_get, Nat.reduceEqDiff, Int.reduceNeg]
          exact ih
    · simp (disch := omega) only [eq_T, eq_F, ne_eq, true_and, and_true, false_and, and_false, not_true_eq_false, not_false_eq_true, if_true, if_false, Int.add_zero] at ih
      refine De.stepk 6 ?_
      simp only [j_X11_weightOf_7]
      simp (disch := omega) only [b_X11_weightOf_7, x136_k hs, x136_i0 hs, x136_w0 hs, x136_r1 hs, x136_r2 hs, x136_r3 hs, x136_r4 hs, x136_i5 hs, x136_w5 hs, x136_i6 hs, x136_w6 hs, x136_i7 hs, x136_w7 hs, x136_r8 hs, x136_i9 hs, x136_w9 hs, x136_i10 hs, x136_w10 hs, x136_i11 hs, x136_w11 hs, x136_i12 hs, x136_w12 hs, x136_i13 hs, x136_w13 hs, x136_i14 hs, x136_w14 hs, x136_r15 hs, x136_i16 hs, x136_w16 hs, x136_r17 hs, x136_r18 hs, x136_r19 hs, x136_r20 hs, x136_r21 hs, x136_i22 hs, x136_w22 hs, x136_r23 hs, x136_r24 hs, x136_i25 hs, x136_w25 hs, x136_i26 hs, x136_w26 hs, x136_r27 hs, x136_r28 hs, x136_i29 hs, x136_w29 hs, e_words hs, e_of hs, Option.bind_some, xI, xU, xUt, xIt, J_lit, J_add, J_sub, J_mul, J_neg, J_lt, J_le, J_eq, lt_T, lt_F, le_T, le_F, eq_T, eq_F, ↓reduceIte, ite_not, not_true_eq_false, not_false_eq_true, true_or, or_true, false_or, or_false, true_and, and_true, false_and, and_false, up_get, Nat.reduceEqDiff, Int.reduceNeg]
      exact ih
theorem q_weightOf (hs : Sk S) (p0 : 0 ≤ p) (p1 : p < 10) (hb : m 139 1 ≤ 30) (hj : ∀ w : Int, 0 ≤ w → w < m 139 1 → (0 ≤ m 139 (761 + 10 * w + 1) ∧ m 139 (761 + 10 * w + 1) < 10) ∧ 0 ≤ m 139 (761 + 10 * w + 9) ∧ m 139 (761 + 10 * w + 9) ≤ 2) (N : Nat) (hN : (N : Int) = m 139 1) (hB : N ≤ 100) : De (fun n => f_X11_weightOf n 0 [.ref 136, .int (J p)] (hp S m q)) (.inl (some (.int (J (1000 * (cTru (m 139) p N + 1) / (cAll (m 139) p N + 2)))))) (hp S m q) := by
  refine De.step ?_
  simp only [j_X11_weightOf_0, b_X11_weightOf_0, J_lit]
  exact q_weightOf_l hs p0 p1 hb hj N hN hB N 0 (by omega)
theorem q_trust_l (hs : Sk S) (p0 : 0 ≤ p) (p1 : p < 10) (hb : m 16 3 ≤ 30) (hj : ∀ w : Int, 0 ≤ w → w < m 16 3 → m 19 w = m 139 (761 + 10 * w + 1) ∧ m 28 w = m 139 (761 + 10 * w + 9) ∧ (0 ≤ m 139 (761 + 10 * w + 1) ∧ m 139 (761 + 10 * w + 1) < 10) ∧ 0 ≤ m 139 (761 + 10 * w + 9) ∧ m 139 (761 + 10 * w + 9) ≤ 2) (N : Nat) (hN : (N : Int) = m 16 3) (hB : N ≤ 100) : ∀ k i : Nat, i + k = N → De (fun n => f_X9_trust n 7 [.ref 16, .int (J p), .int (J (cAll (m 139) p i)), .int (J (cTru (m 139) p i)), .int (J i)] (hp S m q)) (.inl (some (.int (J (1000 * (cTru (m 139) p N + 1) / (cAll (m 139) p N + 2)))))) (hp S m q)
  | 0, i, h => by
    have h : i = N := by omega
    subst h
    have b1 := cAll_in (m 139) p i
    have b2 := cTru_in (m 139) p i
    refine De.stepk 6 ?_
    simp only [j_X9_trust_7]
    simp (disch := omega) only [b_X9_trust_7, x16_k hs, x16_r0 hs, x16_r1 hs, x16_r2 hs, x16_i3 hs, x16_w3 hs, J_div, Option.bind_some, xI, xU, xUt, xIt, J_lit, J_add, J_sub, J_mul, J_neg, J_lt, J_le, J_eq, lt_T, lt_F, le_T, le_F, eq_T, eq_F, ↓reduceIte, ite_not, not_true_eq_false, not_false_eq_true, true_or, or_true, false_or, or_false, true_and, and_true, false_and, and_false, up_get, Nat.reduceEqDiff, Int.reduceNeg]
    exact De.ret _ _
  | k + 1, i, h => by
    have ih := (q_trust_l hs p0 p1 hb hj N hN hB k (i + 1) (by omega)).sh 5
    obtain ⟨f1, f2, ⟨j0, j1⟩, j2, j3⟩ := hj i (by omega) (by omega)
    have b1 := cAll_in (m 139) p i
    have b2 := cTru_in (m 139) p i
    rw [cAll, cTru] at ih
    by_cases c : m 139 (761 + 10 * i + 1) = p
    · by_cases d : m 139 (761 + 10 * i + 9) = 0
      · rw [if_neg (fun z => z.2 d), if_neg (by omega)] at ih
        simp only [Int.add_zero] at ih
        refine De.stepk 6 ?_
        simp only [j_X9_trust_7]
        simp (disch := omega) only [b_X9_trust_7, x16_k hs, x16_r0 hs, x16_r1 hs, x16_r2 hs, x16_i3 hs, x16_w3 hs, x17_m0 hs, x17_m1 hs, x17_m2 hs, x17_m3 hs, x17_m4 hs, x17_m5 hs, x17_m6 hs, x17_m7 hs, x17_m8 hs, x17_l hs, x19_g hs, x19_s hs, x19_l hs, x28_g hs, x28_s hs, x28_l hs, Option.bind_some, xI, xU, xUt, xIt, J_lit, J_add, J_sub, J_mul, J_neg, J_lt, J_le, J_eq, lt_T, lt_F, le_T, le_F, eq_T, eq_F, ↓reduceIte, ite_not, not_true_eq_false, not_false_eq_true, true_or, or_true, false_or, or_false, true_and, and_true, false_and, and_false, up_get, Nat.reduceEqDiff, Int.reduceNeg]
        exact ih
      · rw [if_pos ⟨c, d⟩] at ih
        by_cases e : m 139 (761 + 10 * i + 9) = 1
        · rw [if_pos ⟨c, e⟩] at ih
          refine De.stepk 6 ?_
          simp only [j_X9_trust_7]
          simp (disch := omega) only [b_X9_trust_7, x16_k hs, x16_r0 hs, x16_r1 hs, x16_r2 hs, x16_i3 hs, x16_w3 hs, x17_m0 hs, x17_m1 hs, x17_m2 hs, x17_m3 hs, x17_m4 hs, x17_m5 hs, x17_m6 hs, x17_m7 hs, x17_m8 hs, x17_l hs, x19_g hs, x19_s hs, x19_l hs, x28_g hs, x28_s hs, x28_l hs, Option.bind_some, xI, xU, xUt, xIt, J_lit, J_add, J_sub, J_mul, J_neg, J_lt, J_le, J_eq, lt_T, lt_F, le_T, le_F, eq_T, eq_F, ↓reduceIte, ite_not, not_true_eq_false, not_false_eq_true, true_or, or_true, false_or, or_false, true_and, and_true, false_and, and_false, up_get, Nat.reduceEqDiff, Int.reduceNeg]
          exact ih
        · rw [if_neg (fun z => e z.2)] at ih
          refine De.stepk 6 ?_
          simp only [j_X9_trust_7]
          simp (disch := omega) only [b_X9_trust_7, x16_k hs, x16_r0 hs, x16_r1 hs, x16_r2 hs, x16_i3 hs, x16_w3 hs, x17_m0 hs, x17_m1 hs, x17_m2 hs, x17_m3 hs, x17_m4 hs, x17_m5 hs, x17_m6 hs, x17_m7 hs, x17_m8 hs, x17_l hs, x19_g hs, x19_s hs, x19_l hs, x28_g hs, x28_s hs, x28_l hs, Option.bind_some, xI, xU, xUt, xIt, J_lit, J_add, J_sub, J_mul, J_neg, J_lt, J_le, J_eq, lt_T, lt_F, le_T, le_F, eq_T, eq_F, ↓reduceIte, ite_not, not_true_eq_false, not_false_eq_true, true_or, or_true, false_or, or_false, true_and, and_true, false_and, and_false, up_get, Nat.reduceEqDiff, Int.reduceNeg]
          exact ih
    · rw [if_neg (fun z => c z.1), if_neg (fun z => c z.1)] at ih
      simp only [Int.add_zero] at ih
      refine De.stepk 6 ?_
      simp only [j_X9_trust_7]
      simp (disch := omega) only [b_X9_trust_7, x16_k hs, x16_r0 hs, x16_r1 hs, x16_r2 hs, x16_i3 hs, x16_w3 hs, x17_m0 hs, x17_m1 hs, x17_m2 hs, x17_m3 hs, x17_m4 hs, x17_m5 hs, x17_m6 hs, x17_m7 hs, x17_m8 hs, x17_l hs, x19_g hs, x19_s hs, x19_l hs, x28_g hs, x28_s hs, x28_l hs, Option.bind_some, xI, xU, xUt, xIt, J_lit, J_add, J_sub, J_mul, J_neg, J_lt, J_le, J_eq, lt_T, lt_F, le_T, le_F, eq_T, eq_F, ↓reduceIte, ite_not, not_true_eq_false, not_false_eq_true, true_or, or_true, false_or, or_false, true_and, and_true, false_and, and_false, up_get, Nat.reduceEqDiff, Int.reduceNeg]
      exact ih
theorem q_trust (hs : Sk S) (p0 : 0 ≤ p) (p1 : p < 10) (hb : m 16 3 ≤ 30) (hj : ∀ w : Int, 0 ≤ w → w < m 16 3 → m 19 w = m 139 (761 + 10 * w + 1) ∧ m 28 w = m 139 (761 + 10 * w + 9) ∧ (0 ≤ m 139 (761 + 10 * w + 1) ∧ m 139 (761 + 10 * w + 1) < 10) ∧ 0 ≤ m 139 (761 + 10 * w + 9) ∧ m 139 (761 + 10 * w + 9) ≤ 2) (N : Nat) (hN : (N : Int) = m 16 3) (hB : N ≤ 100) : De (fun n => f_X9_trust n 0 [.ref 16, .int (J p)] (hp S m q)) (.inl (some (.int (J (1000 * (cTru (m 139) p N + 1) / (cAll (m 139) p N + 2)))))) (hp S m q) := by
  refine De.step ?_
  simp only [j_X9_trust_0, b_X9_trust_0, J_lit]
  exact q_trust_l hs p0 p1 hb hj N hN hB N 0 (by omega)
end LOOPS1
