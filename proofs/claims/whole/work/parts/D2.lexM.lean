/-! the tape, piece by piece: the reference -/
def Fr2 (m m' : Nat → Int → Int) : Prop := ∀ c j, ¬ (c = 136 ∧ (j = 10 ∨ j = 12)) → m' c j = m c j
theorem Fr2.tr {m m1 m2 : Nat → Int → Int} (h1 : Fr2 m m1) (h2 : Fr2 m1 m2) : Fr2 m m2 := fun c j h => (h2 c j h).trans (h1 c j h)
theorem Fr2.u10 {m : Nat → Int → Int} {x : Int} : Fr2 m (up m 136 10 x) := fun c i h => if_neg (fun z => h ⟨z.1, Or.inl z.2⟩)
theorem Fr2.u12 {m : Nat → Int → Int} {x : Int} : Fr2 m (up m 136 12 x) := fun c i h => if_neg (fun z => h ⟨z.1, Or.inr z.2⟩)
/-- the tape as the reference reads it, its point at p -/
def Rp (m : Nat → Int → Int) (b : Int → Int) (n p : Int) : Prop := m 136 10 = p ∧ m 136 11 = n ∧ (0 ≤ p ∧ p ≤ n ∧ n ≤ 400) ∧ ∀ j, 0 ≤ j → j < n → m 141 j = b j ∧ -128 ≤ b j ∧ b j < 128
theorem Rp.fr {m m' : Nat → Int → Int} {b : Int → Int} {n p p' : Int} (h : Rp m b n p) (F : Fr2 m m') (e : m' 136 10 = p') (h0 : 0 ≤ p') (h1 : p' ≤ n) : Rp m' b n p' := ⟨e, (F 136 11 (by omega)).trans h.2.1, ⟨h0, h1, h.2.2.1.2.2⟩, fun j a c => by rw [F 141 j (by omega)]; exact h.2.2.2 j a c⟩
section LEXM
variable {S : xH} {m m' m0 : Nat → Int → Int} {q : Nat → Int → Int64} {b : Int → Int} {n p B e lo hi : Int}
theorem d_isAt (hs : Sk S) (h : Rp m b n p) (l0 : 0 ≤ lo) (l1 : lo ≤ 127) (r0 : 0 ≤ hi) (r1 : hi ≤ 127) : De (fun n => f_X11_isAt n 0 [.ref 136, .int (J lo), .int (J hi)] (hp S m q)) (.inl (some (.int (J (if p < n ∧ lo ≤ b p ∧ b p ≤ hi then 1 else 0))))) (hp S m q) := by
  obtain ⟨h1, h2, ⟨h3, h4, h5⟩, h6⟩ := h
  by_cases c0 : p < n
  · obtain ⟨k1, k2, k3⟩ := h6 p h3 c0
    by_cases c1 : lo ≤ b p
    · by_cases c2 : b p ≤ hi
      · rw [if_pos ⟨c0, c1, c2⟩]
        refine De.step ?_
        simp only [j_X11_isAt_0]
        simp (disch := omega) only [b_X11_isAt_0, x136_k hs, x136_i0 hs, x136_w0 hs, x136_r1 hs, x136_r2 hs, x136_r3 hs, x136_r4 hs, x136_i5 hs, x136_w5 hs, x136_i6 hs, x136_w6 hs, x136_i7 hs, x136_w7 hs, x136_r8 hs, x136_i9 hs, x136_w9 hs, x136_i10 hs, x136_w10 hs, x136_i11 hs, x136_w11 hs, x136_i12 hs, x136_w12 hs, x136_i13 hs, x136_w13 hs, x136_i14 hs, x136_w14 hs, x136_r15 hs, x136_i16 hs, x136_w16 hs, x136_r17 hs, x136_r18 hs, x136_r19 hs, x136_r20 hs, x136_r21 hs, x136_i22 hs, x136_w22 hs, x136_r23 hs, x136_r24 hs, x136_i25 hs, x136_w25 hs, x136_i26 hs, x136_w26 hs, x136_r27 hs, x136_r28 hs, x136_i29 hs, x136_w29 hs, x141_g hs, x141_s hs, x141_l hs, h1, h2, k1, Option.bind_some, xI, xU, xUt, xIt, J_lit, J_add, J_sub, J_mul, J_neg, J_ltc, J_lec, J_eqc, lt_T, lt_F, le_T, le_F, eq_T, eq_F, ↓reduceIte, ite_not, not_true_eq_false, not_false_eq_true, true_or, or_true, false_or, or_false, true_and, and_true, false_and, and_false, up_get, Nat.reduceEqDiff, Int.reduceNeg, eqN_T, eqN_F]
        exact De.ret _ _
      · rw [if_neg (fun z => c2 z.2.2)]
        refine De.step ?_
        simp only [j_X11_isAt_0]
        simp (disch := omega) only [b_X11_isAt_0, x136_k hs, x136_i0 hs, x136_w0 hs, x136_r1 hs, x136_r2 hs, x136_r3 hs, x136_r4 hs, x136_i5 hs, x136_w5 hs, x136_i6 hs, x136_w6 hs, x136_i7 hs, x136_w7 hs, x136_r8 hs, x136_i9 hs, x136_w9 hs, x136_i10 hs, x136_w10 hs, x136_i11 hs, x136_w11 hs, x136_i12 hs, x136_w12 hs, x136_i13 hs, x136_w13 hs, x136_i14 hs, x136_w14 hs, x136_r15 hs, x136_i16 hs, x136_w16 hs, x136_r17 hs, x136_r18 hs, x136_r19 hs, x136_r20 hs, x136_r21 hs, x136_i22 hs, x136_w22 hs, x136_r23 hs, x136_r24 hs, x136_i25 hs, x136_w25 hs, x136_i26 hs, x136_w26 hs, x136_r27 hs, x136_r28 hs, x136_i29 hs, x136_w29 hs, x141_g hs, x141_s hs, x141_l hs, h1, h2, k1, Option.bind_some, xI, xU, xUt, xIt, J_lit, J_add, J_sub, J_mul, J_neg, J_ltc, J_lec, J_eqc, lt_T, lt_F, le_T, le_F, eq_T, eq_F, ↓reduceIte, ite_not, not_true_eq_false, not_false_eq_true, true_or, or_true, false_or, or_false, true_and, and_true, false_and, and_false, up_get, Nat.reduceEqDiff, Int.reduceNeg, eqN_T, eqN_F]
        exact De.ret _ _
    · rw [if_neg (fun z => c1 z.2.1)]
      refine De.step ?_
      simp only [j_X11_isAt_0]
      simp (disch := omega) only [b_X11_isAt_0, x136_k hs, x136_i0 hs, x136_w0 hs, x136_r1 hs, x136_r2 hs, x136_r3 hs, x136_r4 hs, x136_i5 hs, x136_w5 hs, x136_i6 hs, x136_w6 hs, x136_i7 hs, x136_w7 hs, x136_r8 hs, x136_i9 hs, x136_w9 hs, x136_i10 hs, x136_w10 hs, x136_i11 hs, x136_w11 hs, x136_i12 hs, x136_w12 hs, x136_i13 hs, x136_w13 hs, x136_i14 hs, x136_w14 hs, x136_r15 hs, x136_i16 hs, x136_w16 hs, x136_r17 hs, x136_r18 hs, x136_r19 hs, x136_r20 hs, x136_r21 hs, x136_i22 hs, x136_w22 hs, x136_r23 hs, x136_r24 hs, x136_i25 hs, x136_w25 hs, x136_i26 hs, x136_w26 hs, x136_r27 hs, x136_r28 hs, x136_i29 hs, x136_w29 hs, x141_g hs, x141_s hs, x141_l hs, h1, h2, k1, Option.bind_some, xI, xU, xUt, xIt, J_lit, J_add, J_sub, J_mul, J_neg, J_ltc, J_lec, J_eqc, lt_T, lt_F, le_T, le_F, eq_T, eq_F, ↓reduceIte, ite_not, not_true_eq_false, not_false_eq_true, true_or, or_true, false_or, or_false, true_and, and_true, false_and, and_false, up_get, Nat.reduceEqDiff, Int.reduceNeg, eqN_T, eqN_F]
      exact De.ret _ _
  · rw [if_neg (fun z => c0 z.1)]
    refine De.step ?_
    simp only [j_X11_isAt_0]
    simp (disch := omega) only [b_X11_isAt_0, x136_k hs, x136_i0 hs, x136_w0 hs, x136_r1 hs, x136_r2 hs, x136_r3 hs, x136_r4 hs, x136_i5 hs, x136_w5 hs, x136_i6 hs, x136_w6 hs, x136_i7 hs, x136_w7 hs, x136_r8 hs, x136_i9 hs, x136_w9 hs, x136_i10 hs, x136_w10 hs, x136_i11 hs, x136_w11 hs, x136_i12 hs, x136_w12 hs, x136_i13 hs, x136_w13 hs, x136_i14 hs, x136_w14 hs, x136_r15 hs, x136_i16 hs, x136_w16 hs, x136_r17 hs, x136_r18 hs, x136_r19 hs, x136_r20 hs, x136_r21 hs, x136_i22 hs, x136_w22 hs, x136_r23 hs, x136_r24 hs, x136_i25 hs, x136_w25 hs, x136_i26 hs, x136_w26 hs, x136_r27 hs, x136_r28 hs, x136_i29 hs, x136_w29 hs, h1, h2, Option.bind_some, xI, xU, xUt, xIt, J_lit, J_add, J_sub, J_mul, J_neg, J_ltc, J_lec, J_eqc, lt_T, lt_F, le_T, le_F, eq_T, eq_F, ↓reduceIte, ite_not, not_true_eq_false, not_false_eq_true, true_or, or_true, false_or, or_false, true_and, and_true, false_and, and_false, up_get, Nat.reduceEqDiff, Int.reduceNeg, eqN_T, eqN_F]
    exact De.ret _ _
theorem q_blanksM (hs : Sk S) : ∀ (k : Nat) (p : Int) (m : Nat → Int → Int), (n - p).toNat = k → Rp m b n p → ∃ m', De (fun n => f_X11_blanks n 0 [.ref 136] (hp S m q)) (.inl none) (hp S m' q) ∧ Rp m' b n (rn b n 32 32 p) ∧ m' 136 12 = rn b n 32 32 p ∧ Fr2 m m' := by
  intro k
  induction k with
  | zero =>
    intro p m hk h
    obtain ⟨h1, h2, ⟨h3, h4, h5⟩, h6⟩ := id h
    have D := d_isAt (q := q) (lo := 32) (hi := 32) hs h (by decide) (by decide) (by decide) (by decide)
    rw [if_neg (by omega)] at D
    rw [rn_end (by omega)]
    refine ⟨up m 136 12 p, ?_, h.fr Fr2.u12 ((up_i (by decide)).trans h1) h3 h4, up_at _ _ _ _, Fr2.u12⟩
    refine De.step ?_
    simp only [j_X11_blanks_0]
    simp (disch := omega) only [b_X11_blanks_0, x136_k hs, x136_i0 hs, x136_w0 hs, x136_r1 hs, x136_r2 hs, x136_r3 hs, x136_r4 hs, x136_i5 hs, x136_w5 hs, x136_i6 hs, x136_w6 hs, x136_i7 hs, x136_w7 hs, x136_r8 hs, x136_i9 hs, x136_w9 hs, x136_i10 hs, x136_w10 hs, x136_i11 hs, x136_w11 hs, x136_i12 hs, x136_w12 hs, x136_i13 hs, x136_w13 hs, x136_i14 hs, x136_w14 hs, x136_r15 hs, x136_i16 hs, x136_w16 hs, x136_r17 hs, x136_r18 hs, x136_r19 hs, x136_r20 hs, x136_r21 hs, x136_i22 hs, x136_w22 hs, x136_r23 hs, x136_r24 hs, x136_i25 hs, x136_w25 hs, x136_i26 hs, x136_w26 hs, x136_r27 hs, x136_r28 hs, x136_i29 hs, x136_w29 hs, J_lit, Option.bind_some]
    refine De.call D ?_
    simp (disch := omega) only [x136_k hs, x136_i0 hs, x136_w0 hs, x136_r1 hs, x136_r2 hs, x136_r3 hs, x136_r4 hs, x136_i5 hs, x136_w5 hs, x136_i6 hs, x136_w6 hs, x136_i7 hs, x136_w7 hs, x136_r8 hs, x136_i9 hs, x136_w9 hs, x136_i10 hs, x136_w10 hs, x136_i11 hs, x136_w11 hs, x136_i12 hs, x136_w12 hs, x136_i13 hs, x136_w13 hs, x136_i14 hs, x136_w14 hs, x136_r15 hs, x136_i16 hs, x136_w16 hs, x136_r17 hs, x136_r18 hs, x136_r19 hs, x136_r20 hs, x136_r21 hs, x136_i22 hs, x136_w22 hs, x136_r23 hs, x136_r24 hs, x136_i25 hs, x136_w25 hs, x136_i26 hs, x136_w26 hs, x136_r27 hs, x136_r28 hs, x136_i29 hs, x136_w29 hs, h1, Option.bind_some, xI, xU, xUt, xIt, J_lit, J_add, J_sub, J_mul, J_neg, J_ltc, J_lec, J_eqc, lt_T, lt_F, le_T, le_F, eq_T, eq_F, ↓reduceIte, ite_not, not_true_eq_false, not_false_eq_true, true_or, or_true, false_or, or_false, true_and, and_true, false_and, and_false, up_get, Nat.reduceEqDiff, Int.reduceNeg, eqN_T, eqN_F]
    exact De.ret _ _
  | succ k IH =>
    intro p m hk h
    obtain ⟨h1, h2, ⟨h3, h4, h5⟩, h6⟩ := id h
    have D := d_isAt (q := q) (lo := 32) (hi := 32) hs h (by decide) (by decide) (by decide) (by decide)
    by_cases c : b p = 32
    · rw [if_pos (by omega)] at D
      rw [rn_yes (by omega) (by omega)]
      obtain ⟨m', D', a1, a2, a3⟩ := IH (p + 1) (up m 136 10 (p + 1)) (by omega) (h.fr Fr2.u10 (up_at _ _ _ _) (by omega) (by omega))
      refine ⟨m', ?_, a1, a2, Fr2.u10.tr a3⟩
      refine De.step ?_
      simp only [j_X11_blanks_0]
      simp (disch := omega) only [b_X11_blanks_0, x136_k hs, x136_i0 hs, x136_w0 hs, x136_r1 hs, x136_r2 hs, x136_r3 hs, x136_r4 hs, x136_i5 hs, x136_w5 hs, x136_i6 hs, x136_w6 hs, x136_i7 hs, x136_w7 hs, x136_r8 hs, x136_i9 hs, x136_w9 hs, x136_i10 hs, x136_w10 hs, x136_i11 hs, x136_w11 hs, x136_i12 hs, x136_w12 hs, x136_i13 hs, x136_w13 hs, x136_i14 hs, x136_w14 hs, x136_r15 hs, x136_i16 hs, x136_w16 hs, x136_r17 hs, x136_r18 hs, x136_r19 hs, x136_r20 hs, x136_r21 hs, x136_i22 hs, x136_w22 hs, x136_r23 hs, x136_r24 hs, x136_i25 hs, x136_w25 hs, x136_i26 hs, x136_w26 hs, x136_r27 hs, x136_r28 hs, x136_i29 hs, x136_w29 hs, J_lit, Option.bind_some]
      refine De.call D ?_
      simp (disch := omega) only [x136_k hs, x136_i0 hs, x136_w0 hs, x136_r1 hs, x136_r2 hs, x136_r3 hs, x136_r4 hs, x136_i5 hs, x136_w5 hs, x136_i6 hs, x136_w6 hs, x136_i7 hs, x136_w7 hs, x136_r8 hs, x136_i9 hs, x136_w9 hs, x136_i10 hs, x136_w10 hs, x136_i11 hs, x136_w11 hs, x136_i12 hs, x136_w12 hs, x136_i13 hs, x136_w13 hs, x136_i14 hs, x136_w14 hs, x136_r15 hs, x136_i16 hs, x136_w16 hs, x136_r17 hs, x136_r18 hs, x136_r19 hs, x136_r20 hs, x136_r21 hs, x136_i22 hs, x136_w22 hs, x136_r23 hs, x136_r24 hs, x136_i25 hs, x136_w25 hs, x136_i26 hs, x136_w26 hs, x136_r27 hs, x136_r28 hs, x136_i29 hs, x136_w29 hs, h1, Option.bind_some, xI, xU, xUt, xIt, J_lit, J_add, J_sub, J_mul, J_neg, J_ltc, J_lec, J_eqc, lt_T, lt_F, le_T, le_F, eq_T, eq_F, ↓reduceIte, ite_not, not_true_eq_false, not_false_eq_true, true_or, or_true, false_or, or_false, true_and, and_true, false_and, and_false, up_get, Nat.reduceEqDiff, Int.reduceNeg, eqN_T, eqN_F]
      exact D'
    · rw [if_neg (by omega)] at D
      rw [rn_no (by omega)]
      refine ⟨up m 136 12 p, ?_, h.fr Fr2.u12 ((up_i (by decide)).trans h1) h3 h4, up_at _ _ _ _, Fr2.u12⟩
      refine De.step ?_
      simp only [j_X11_blanks_0]
      simp (disch := omega) only [b_X11_blanks_0, x136_k hs, x136_i0 hs, x136_w0 hs, x136_r1 hs, x136_r2 hs, x136_r3 hs, x136_r4 hs, x136_i5 hs, x136_w5 hs, x136_i6 hs, x136_w6 hs, x136_i7 hs, x136_w7 hs, x136_r8 hs, x136_i9 hs, x136_w9 hs, x136_i10 hs, x136_w10 hs, x136_i11 hs, x136_w11 hs, x136_i12 hs, x136_w12 hs, x136_i13 hs, x136_w13 hs, x136_i14 hs, x136_w14 hs, x136_r15 hs, x136_i16 hs, x136_w16 hs, x136_r17 hs, x136_r18 hs, x136_r19 hs, x136_r20 hs, x136_r21 hs, x136_i22 hs, x136_w22 hs, x136_r23 hs, x136_r24 hs, x136_i25 hs, x136_w25 hs, x136_i26 hs, x136_w26 hs, x136_r27 hs, x136_r28 hs, x136_i29 hs, x136_w29 hs, J_lit, Option.bind_some]
      refine De.call D ?_
      simp (disch := omega) only [x136_k hs, x136_i0 hs, x136_w0 hs, x136_r1 hs, x136_r2 hs, x136_r3 hs, x136_r4 hs, x136_i5 hs, x136_w5 hs, x136_i6 hs, x136_w6 hs, x136_i7 hs, x136_w7 hs, x136_r8 hs, x136_i9 hs, x136_w9 hs, x136_i10 hs, x136_w10 hs, x136_i11 hs, x136_w11 hs, x136_i12 hs, x136_w12 hs, x136_i13 hs, x136_w13 hs, x136_i14 hs, x136_w14 hs, x136_r15 hs, x136_i16 hs, x136_w16 hs, x136_r17 hs, x136_r18 hs, x136_r19 hs, x136_r20 hs, x136_r21 hs, x136_i22 hs, x136_w22 hs, x136_r23 hs, x136_r24 hs, x136_i25 hs, x136_w25 hs, x136_i26 hs, x136_w26 hs, x136_r27 hs, x136_r28 hs, x136_i29 hs, x136_w29 hs, h1, Option.bind_some, xI, xU, xUt, xIt, J_lit, J_add, J_sub, J_mul, J_neg, J_ltc, J_lec, J_eqc, lt_T, lt_F, le_T, le_F, eq_T, eq_F, ↓reduceIte, ite_not, not_true_eq_false, not_false_eq_true, true_or, or_true, false_or, or_false, true_and, and_true, false_and, and_false, up_get, Nat.reduceEqDiff, Int.reduceNeg, eqN_T, eqN_F]
      exact De.ret _ _
theorem d_blanks (hs : Sk S) (h : Rp m b n p) : ∃ m', De (fun n => f_X11_blanks n 0 [.ref 136] (hp S m q)) (.inl none) (hp S m' q) ∧ Rp m' b n (rn b n 32 32 p) ∧ m' 136 12 = rn b n 32 32 p ∧ Fr2 m m' := q_blanksM hs _ p m rfl h
theorem q_letters4 (hs : Sk S) : ∀ (k : Nat) (p : Int) (m : Nat → Int → Int), (n - p).toNat = k → Rp m b n p → ∃ m', De (fun n => f_X11_letters n 4 [.ref 136] (hp S m q)) (.inl none) (hp S m' q) ∧ Rp m' b n (rn b n 97 122 p) ∧ m' 136 12 = m 136 12 ∧ Fr2 m m' := by
  intro k
  induction k with
  | zero =>
    intro p m hk h
    obtain ⟨h1, h2, ⟨h3, h4, h5⟩, h6⟩ := id h
    have D := d_isAt (q := q) (lo := 97) (hi := 122) hs h (by decide) (by decide) (by decide) (by decide)
    rw [if_neg (by omega)] at D
    rw [rn_end (by omega)]
    refine ⟨m, ?_, h, rfl, fun _ _ _ => rfl⟩
    refine De.step ?_
    simp only [j_X11_letters_4]
    simp (disch := omega) only [b_X11_letters_4, x136_k hs, x136_i0 hs, x136_w0 hs, x136_r1 hs, x136_r2 hs, x136_r3 hs, x136_r4 hs, x136_i5 hs, x136_w5 hs, x136_i6 hs, x136_w6 hs, x136_i7 hs, x136_w7 hs, x136_r8 hs, x136_i9 hs, x136_w9 hs, x136_i10 hs, x136_w10 hs, x136_i11 hs, x136_w11 hs, x136_i12 hs, x136_w12 hs, x136_i13 hs, x136_w13 hs, x136_i14 hs, x136_w14 hs, x136_r15 hs, x136_i16 hs, x136_w16 hs, x136_r17 hs, x136_r18 hs, x136_r19 hs, x136_r20 hs, x136_r21 hs, x136_i22 hs, x136_w22 hs, x136_r23 hs, x136_r24 hs, x136_i25 hs, x136_w25 hs, x136_i26 hs, x136_w26 hs, x136_r27 hs, x136_r28 hs, x136_i29 hs, x136_w29 hs, J_lit, Option.bind_some]
    refine De.call D ?_
    simp (disch := omega) only [Option.bind_some, xI, xU, xUt, xIt, J_lit, J_add, J_sub, J_mul, J_neg, J_ltc, J_lec, J_eqc, lt_T, lt_F, le_T, le_F, eq_T, eq_F, ↓reduceIte, ite_not, not_true_eq_false, not_false_eq_true, true_or, or_true, false_or, or_false, true_and, and_true, false_and, and_false, up_get, Nat.reduceEqDiff, Int.reduceNeg, eqN_T, eqN_F]
    exact De.ret _ _
  | succ k IH =>
    intro p m hk h
    obtain ⟨h1, h2, ⟨h3, h4, h5⟩, h6⟩ := id h
    have D := d_isAt (q := q) (lo := 97) (hi := 122) hs h (by decide) (by decide) (by decide) (by decide)
    by_cases c : 97 ≤ b p ∧ b p ≤ 122
    · rw [if_pos ⟨by omega, c⟩] at D
      rw [rn_yes (by omega) c]
      obtain ⟨m', D', a1, a2, a3⟩ := IH (p + 1) (up m 136 10 (p + 1)) (by omega) (h.fr Fr2.u10 (up_at _ _ _ _) (by omega) (by omega))
      refine ⟨m', ?_, a1, a2.trans (up_i (by decide)), Fr2.u10.tr a3⟩
      refine De.step ?_
      simp only [j_X11_letters_4]
      simp (disch := omega) only [b_X11_letters_4, x136_k hs, x136_i0 hs, x136_w0 hs, x136_r1 hs, x136_r2 hs, x136_r3 hs, x136_r4 hs, x136_i5 hs, x136_w5 hs, x136_i6 hs, x136_w6 hs, x136_i7 hs, x136_w7 hs, x136_r8 hs, x136_i9 hs, x136_w9 hs, x136_i10 hs, x136_w10 hs, x136_i11 hs, x136_w11 hs, x136_i12 hs, x136_w12 hs, x136_i13 hs, x136_w13 hs, x136_i14 hs, x136_w14 hs, x136_r15 hs, x136_i16 hs, x136_w16 hs, x136_r17 hs, x136_r18 hs, x136_r19 hs, x136_r20 hs, x136_r21 hs, x136_i22 hs, x136_w22 hs, x136_r23 hs, x136_r24 hs, x136_i25 hs, x136_w25 hs, x136_i26 hs, x136_w26 hs, x136_r27 hs, x136_r28 hs, x136_i29 hs, x136_w29 hs, J_lit, Option.bind_some]
      refine De.call D ?_
      simp (disch := omega) only [x136_k hs, x136_i0 hs, x136_w0 hs, x136_r1 hs, x136_r2 hs, x136_r3 hs, x136_r4 hs, x136_i5 hs, x136_w5 hs, x136_i6 hs, x136_w6 hs, x136_i7 hs, x136_w7 hs, x136_r8 hs, x136_i9 hs, x136_w9 hs, x136_i10 hs, x136_w10 hs, x136_i11 hs, x136_w11 hs, x136_i12 hs, x136_w12 hs, x136_i13 hs, x136_w13 hs, x136_i14 hs, x136_w14 hs, x136_r15 hs, x136_i16 hs, x136_w16 hs, x136_r17 hs, x136_r18 hs, x136_r19 hs, x136_r20 hs, x136_r21 hs, x136_i22 hs, x136_w22 hs, x136_r23 hs, x136_r24 hs, x136_i25 hs, x136_w25 hs, x136_i26 hs, x136_w26 hs, x136_r27 hs, x136_r28 hs, x136_i29 hs, x136_w29 hs, h1, Option.bind_some, xI, xU, xUt, xIt, J_lit, J_add, J_sub, J_mul, J_neg, J_ltc, J_lec, J_eqc, lt_T, lt_F, le_T, le_F, eq_T, eq_F, ↓reduceIte, ite_not, not_true_eq_false, not_false_eq_true, true_or, or_true, false_or, or_false, true_and, and_true, false_and, and_false, up_get, Nat.reduceEqDiff, Int.reduceNeg, eqN_T, eqN_F]
      exact D'
    · rw [if_neg (fun z => c z.2)] at D
      rw [rn_no c]
      refine ⟨m, ?_, h, rfl, fun _ _ _ => rfl⟩
      refine De.step ?_
      simp only [j_X11_letters_4]
      simp (disch := omega) only [b_X11_letters_4, x136_k hs, x136_i0 hs, x136_w0 hs, x136_r1 hs, x136_r2 hs, x136_r3 hs, x136_r4 hs, x136_i5 hs, x136_w5 hs, x136_i6 hs, x136_w6 hs, x136_i7 hs, x136_w7 hs, x136_r8 hs, x136_i9 hs, x136_w9 hs, x136_i10 hs, x136_w10 hs, x136_i11 hs, x136_w11 hs, x136_i12 hs, x136_w12 hs, x136_i13 hs, x136_w13 hs, x136_i14 hs, x136_w14 hs, x136_r15 hs, x136_i16 hs, x136_w16 hs, x136_r17 hs, x136_r18 hs, x136_r19 hs, x136_r20 hs, x136_r21 hs, x136_i22 hs, x136_w22 hs, x136_r23 hs, x136_r24 hs, x136_i25 hs, x136_w25 hs, x136_i26 hs, x136_w26 hs, x136_r27 hs, x136_r28 hs, x136_i29 hs, x136_w29 hs, J_lit, Option.bind_some]
      refine De.call D ?_
      simp (disch := omega) only [Option.bind_some, xI, xU, xUt, xIt, J_lit, J_add, J_sub, J_mul, J_neg, J_ltc, J_lec, J_eqc, lt_T, lt_F, le_T, le_F, eq_T, eq_F, ↓reduceIte, ite_not, not_true_eq_false, not_false_eq_true, true_or, or_true, false_or, or_false, true_and, and_true, false_and, and_false, up_get, Nat.reduceEqDiff, Int.reduceNeg, eqN_T, eqN_F]
      exact De.ret _ _
theorem d_letters (hs : Sk S) (h : Rp m b n p) : ∃ m', De (fun n => f_X11_letters n 0 [.ref 136] (hp S m q)) (.inl none) (hp S m' q) ∧ Rp m' b n (rn b n 97 122 (rn b n 32 32 p)) ∧ m' 136 12 = rn b n 32 32 p ∧ Fr2 m m' := by
  obtain ⟨m1, D1, R1, B1, F1⟩ := d_blanks (q := q) hs h
  obtain ⟨m', D2, R2, B2, F2⟩ := q_letters4 (q := q) hs _ _ m1 rfl R1
  refine ⟨m', ?_, R2, B2.trans B1, F1.tr F2⟩
  refine De.step ?_
  simp only [j_X11_letters_0]
  simp (disch := omega) only [b_X11_letters_0, x136_k hs, x136_i0 hs, x136_w0 hs, x136_r1 hs, x136_r2 hs, x136_r3 hs, x136_r4 hs, x136_i5 hs, x136_w5 hs, x136_i6 hs, x136_w6 hs, x136_i7 hs, x136_w7 hs, x136_r8 hs, x136_i9 hs, x136_w9 hs, x136_i10 hs, x136_w10 hs, x136_i11 hs, x136_w11 hs, x136_i12 hs, x136_w12 hs, x136_i13 hs, x136_w13 hs, x136_i14 hs, x136_w14 hs, x136_r15 hs, x136_i16 hs, x136_w16 hs, x136_r17 hs, x136_r18 hs, x136_r19 hs, x136_r20 hs, x136_r21 hs, x136_i22 hs, x136_w22 hs, x136_r23 hs, x136_r24 hs, x136_i25 hs, x136_w25 hs, x136_i26 hs, x136_w26 hs, x136_r27 hs, x136_r28 hs, x136_i29 hs, x136_w29 hs, Option.bind_some]
  refine De.call D1 ?_
  simp (disch := omega) only [Option.bind_some, xI, xU, xUt, xIt, J_lit, J_add, J_sub, J_mul, J_neg, J_ltc, J_lec, J_eqc, lt_T, lt_F, le_T, le_F, eq_T, eq_F, ↓reduceIte, ite_not, not_true_eq_false, not_false_eq_true, true_or, or_true, false_or, or_false, true_and, and_true, false_and, and_false, up_get, Nat.reduceEqDiff, Int.reduceNeg, eqN_T, eqN_F]
  exact D2
theorem q_isLet (hs : Sk S) (h : Rp m b n e) (hB : m 136 12 = B) (B0 : 0 ≤ B) {k : Nat} (hk : k < 20) {t : Nat} (ht : t = txN k + 1) (el : e - B = ((nmL k).length : Int)) : ∀ s j : Nat, j + s = (nmL k).length → (∀ i : Nat, i < j → b (B + i) = (nmL k).getD i 32) → De (fun n => f_X11_isLetters n 24 [.ref 136, .retAddr t, .int (J 1), .int (J j)] (hp S m q)) (.inl (some (.int (J (if wd b B e k = true then 1 else 0))))) (hp S m q) := by
  obtain ⟨h1, h2, ⟨h3, h4, h5⟩, h6⟩ := id h
  have ok := nmL_ok ⟨k, hk⟩
  have l6 : (nmL k).length ≤ 6 := ok.2.1
  have ln := sLnT ⟨k, hk⟩
  simp only at ln
  rw [← ht] at ln
  intro s
  induction s with
  | zero =>
    intro j hj hm
    rw [if_pos ((wd_iff k).2 ⟨el, fun i hi => hm i (by omega)⟩)]
    refine De.step ?_
    simp only [j_X11_isLetters_24]
    simp (disch := omega) only [b_X11_isLetters_24, ln, Option.bind_some, xI, xU, xUt, xIt, J_lit, J_add, J_sub, J_mul, J_neg, J_ltc, J_lec, J_eqc, lt_T, lt_F, le_T, le_F, eq_T, eq_F, ↓reduceIte, ite_not, not_true_eq_false, not_false_eq_true, true_or, or_true, false_or, or_false, true_and, and_true, false_and, and_false, up_get, Nat.reduceEqDiff, Int.reduceNeg, eqN_T, eqN_F]
    exact De.ret _ _
  | succ s IH =>
    intro j hj hm
    have ch := sChT ⟨k, hk⟩ ⟨j, by omega⟩ (show j < (nmL k).length by omega)
    simp only at ch
    rw [← ht] at ch
    have jl : j < (nmL k).length := by omega
    have cr : 97 ≤ (nmL k).getD j 32 ∧ (nmL k).getD j 32 ≤ 122 := by
      rw [List.getD_eq_getElem?_getD, List.getElem?_eq_getElem jl, Option.getD_some]
      exact ok.2.2 _ (List.getElem_mem jl)
    obtain ⟨k1, k2, k3⟩ := h6 (B + j) (by omega) (by omega)
    by_cases c : b (B + j) = (nmL k).getD j 32
    · have D := IH (j + 1) (by omega) (fun i hi => by
        by_cases z : i = j
        · rw [z]
          exact c
        · exact hm i (by omega))
      refine De.step ?_
      simp only [j_X11_isLetters_24]
      simp (disch := omega) only [b_X11_isLetters_24, ln, ch, x136_k hs, x136_i0 hs, x136_w0 hs, x136_r1 hs, x136_r2 hs, x136_r3 hs, x136_r4 hs, x136_i5 hs, x136_w5 hs, x136_i6 hs, x136_w6 hs, x136_i7 hs, x136_w7 hs, x136_r8 hs, x136_i9 hs, x136_w9 hs, x136_i10 hs, x136_w10 hs, x136_i11 hs, x136_w11 hs, x136_i12 hs, x136_w12 hs, x136_i13 hs, x136_w13 hs, x136_i14 hs, x136_w14 hs, x136_r15 hs, x136_i16 hs, x136_w16 hs, x136_r17 hs, x136_r18 hs, x136_r19 hs, x136_r20 hs, x136_r21 hs, x136_i22 hs, x136_w22 hs, x136_r23 hs, x136_r24 hs, x136_i25 hs, x136_w25 hs, x136_i26 hs, x136_w26 hs, x136_r27 hs, x136_r28 hs, x136_i29 hs, x136_w29 hs, x141_g hs, x141_s hs, x141_l hs, hB, k1, c, Option.bind_some, xI, xU, xUt, xIt, J_lit, J_add, J_sub, J_mul, J_neg, J_ltc, J_lec, J_eqc, lt_T, lt_F, le_T, le_F, eq_T, eq_F, ↓reduceIte, ite_not, not_true_eq_false, not_false_eq_true, true_or, or_true, false_or, or_false, true_and, and_true, false_and, and_false, up_get, Nat.reduceEqDiff, Int.reduceNeg, eqN_T, eqN_F]
      exact D
    · rw [if_neg (fun z => c (((wd_iff k).1 z).2 j jl))]
      refine De.step ?_
      simp only [j_X11_isLetters_24]
      simp (disch := omega) only [b_X11_isLetters_24, ln, ch, x136_k hs, x136_i0 hs, x136_w0 hs, x136_r1 hs, x136_r2 hs, x136_r3 hs, x136_r4 hs, x136_i5 hs, x136_w5 hs, x136_i6 hs, x136_w6 hs, x136_i7 hs, x136_w7 hs, x136_r8 hs, x136_i9 hs, x136_w9 hs, x136_i10 hs, x136_w10 hs, x136_i11 hs, x136_w11 hs, x136_i12 hs, x136_w12 hs, x136_i13 hs, x136_w13 hs, x136_i14 hs, x136_w14 hs, x136_r15 hs, x136_i16 hs, x136_w16 hs, x136_r17 hs, x136_r18 hs, x136_r19 hs, x136_r20 hs, x136_r21 hs, x136_i22 hs, x136_w22 hs, x136_r23 hs, x136_r24 hs, x136_i25 hs, x136_w25 hs, x136_i26 hs, x136_w26 hs, x136_r27 hs, x136_r28 hs, x136_i29 hs, x136_w29 hs, x141_g hs, x141_s hs, x141_l hs, hB, k1, Option.bind_some, xI, xU, xUt, xIt, J_lit, J_add, J_sub, J_mul, J_neg, J_ltc, J_lec, J_eqc, lt_T, lt_F, le_T, le_F, eq_T, eq_F, ↓reduceIte, ite_not, not_true_eq_false, not_false_eq_true, true_or, or_true, false_or, or_false, true_and, and_true, false_and, and_false, up_get, Nat.reduceEqDiff, Int.reduceNeg, eqN_T, eqN_F]
      refine De.step ?_
      simp only [j_X11_isLetters_24]
      simp (disch := omega) only [b_X11_isLetters_24, Option.bind_some, xI, xU, xUt, xIt, J_lit, J_add, J_sub, J_mul, J_neg, J_ltc, J_lec, J_eqc, lt_T, lt_F, le_T, le_F, eq_T, eq_F, ↓reduceIte, ite_not, not_true_eq_false, not_false_eq_true, true_or, or_true, false_or, or_false, true_and, and_true, false_and, and_false, up_get, Nat.reduceEqDiff, Int.reduceNeg, eqN_T, eqN_F]
      exact De.ret _ _
theorem d_isLet (hs : Sk S) (h : Rp m b n e) (hB : m 136 12 = B) (B0 : 0 ≤ B) (Be : B ≤ e) (k : Nat) (hk : k < 20) {t : Nat} (ht : t = txN k + 1) : De (fun n => f_X11_isLetters n 0 [.ref 136, .retAddr t] (hp S m q)) (.inl (some (.int (J (if wd b B e k = true then 1 else 0))))) (hp S m q) := by
  obtain ⟨h1, h2, ⟨h3, h4, h5⟩, h6⟩ := id h
  have l6 : (nmL k).length ≤ 6 := (nmL_ok ⟨k, hk⟩).2.1
  have ln := sLnT ⟨k, hk⟩
  simp only at ln
  rw [← ht] at ln
  by_cases c : e - B = ((nmL k).length : Int)
  · have D := q_isLet (q := q) hs h hB B0 hk ht c (nmL k).length 0 (by omega) (fun i hi => by omega)
    refine De.step ?_
    simp only [j_X11_isLetters_0]
    simp (disch := omega) only [b_X11_isLetters_0, ln, x136_k hs, x136_i0 hs, x136_w0 hs, x136_r1 hs, x136_r2 hs, x136_r3 hs, x136_r4 hs, x136_i5 hs, x136_w5 hs, x136_i6 hs, x136_w6 hs, x136_i7 hs, x136_w7 hs, x136_r8 hs, x136_i9 hs, x136_w9 hs, x136_i10 hs, x136_w10 hs, x136_i11 hs, x136_w11 hs, x136_i12 hs, x136_w12 hs, x136_i13 hs, x136_w13 hs, x136_i14 hs, x136_w14 hs, x136_r15 hs, x136_i16 hs, x136_w16 hs, x136_r17 hs, x136_r18 hs, x136_r19 hs, x136_r20 hs, x136_r21 hs, x136_i22 hs, x136_w22 hs, x136_r23 hs, x136_r24 hs, x136_i25 hs, x136_w25 hs, x136_i26 hs, x136_w26 hs, x136_r27 hs, x136_r28 hs, x136_i29 hs, x136_w29 hs, h1, hB, Option.bind_some, xI, xU, xUt, xIt, J_lit, J_add, J_sub, J_mul, J_neg, J_ltc, J_lec, J_eqc, lt_T, lt_F, le_T, le_F, eq_T, eq_F, ↓reduceIte, ite_not, not_true_eq_false, not_false_eq_true, true_or, or_true, false_or, or_false, true_and, and_true, false_and, and_false, up_get, Nat.reduceEqDiff, Int.reduceNeg, eqN_T, eqN_F]
    exact D
  · rw [if_neg (fun z => c ((wd_iff k).1 z).1)]
    refine De.step ?_
    simp only [j_X11_isLetters_0]
    simp (disch := omega) only [b_X11_isLetters_0, ln, x136_k hs, x136_i0 hs, x136_w0 hs, x136_r1 hs, x136_r2 hs, x136_r3 hs, x136_r4 hs, x136_i5 hs, x136_w5 hs, x136_i6 hs, x136_w6 hs, x136_i7 hs, x136_w7 hs, x136_r8 hs, x136_i9 hs, x136_w9 hs, x136_i10 hs, x136_w10 hs, x136_i11 hs, x136_w11 hs, x136_i12 hs, x136_w12 hs, x136_i13 hs, x136_w13 hs, x136_i14 hs, x136_w14 hs, x136_r15 hs, x136_i16 hs, x136_w16 hs, x136_r17 hs, x136_r18 hs, x136_r19 hs, x136_r20 hs, x136_r21 hs, x136_i22 hs, x136_w22 hs, x136_r23 hs, x136_r24 hs, x136_i25 hs, x136_w25 hs, x136_i26 hs, x136_w26 hs, x136_r27 hs, x136_r28 hs, x136_i29 hs, x136_w29 hs, h1, hB, Option.bind_some, xI, xU, xUt, xIt, J_lit, J_add, J_sub, J_mul, J_neg, J_ltc, J_lec, J_eqc, lt_T, lt_F, le_T, le_F, eq_T, eq_F, ↓reduceIte, ite_not, not_true_eq_false, not_false_eq_true, true_or, or_true, false_or, or_false, true_and, and_true, false_and, and_false, up_get, Nat.reduceEqDiff, Int.reduceNeg, eqN_T, eqN_F]
    refine De.step ?_
    simp only [j_X11_isLetters_24]
    simp (disch := omega) only [b_X11_isLetters_24, Option.bind_some, xI, xU, xUt, xIt, J_lit, J_add, J_sub, J_mul, J_neg, J_ltc, J_lec, J_eqc, lt_T, lt_F, le_T, le_F, eq_T, eq_F, ↓reduceIte, ite_not, not_true_eq_false, not_false_eq_true, true_or, or_true, false_or, or_false, true_and, and_true, false_and, and_false, up_get, Nat.reduceEqDiff, Int.reduceNeg, eqN_T, eqN_F]
    exact De.ret _ _
theorem tok_wd (hb : B < n → -128 ≤ b B ∧ b B < 128) (Bn : B ≤ n) {k : Nat} (hk : k < 20) : tok b n B = k ↔ wd b B (rn b n 97 122 B) k = true := by
  have l2 : 2 ≤ (nmL k).length := (nmL_ok ⟨k, hk⟩).1
  have no : rn b n 97 122 B = B → ¬ wd b B (rn b n 97 122 B) k = true := fun e z => by
    have := ((wd_iff k).1 z).1
    omega
  unfold tok
  by_cases c : n ≤ B
  · rw [if_pos c]
    exact ⟨fun z => by omega, fun z => absurd z (no (rn_end c))⟩
  · rw [if_neg c]
    by_cases cd : 48 ≤ b B ∧ b B ≤ 57
    · rw [if_pos cd]
      exact ⟨fun z => by omega, fun z => absurd z (no (rn_no (by omega)))⟩
    · rw [if_neg cd]
      by_cases cl : 97 ≤ b B ∧ b B ≤ 122
      · rw [if_pos cl]
        exact nmF_wd hk
      · rw [if_neg cl]
        exact ⟨fun z => by omega, fun z => absurd z (no (rn_no cl))⟩
theorem ten_wd (Bn : B ≤ n) {k : Nat} (hk : k < 20) (h : tok b n B = k) : B < n ∧ ten b n B = rn b n 97 122 B ∧ B + 2 ≤ ten b n B ∧ ten b n B ≤ n := by
  have l2 : 2 ≤ (nmL k).length := (nmL_ok ⟨k, hk⟩).1
  unfold tok at h
  unfold ten
  by_cases c : n ≤ B
  · rw [if_pos c] at h
    omega
  · rw [if_neg c] at h ⊢
    by_cases cd : 48 ≤ b B ∧ b B ≤ 57
    · rw [if_pos cd] at h
      omega
    · rw [if_neg cd] at h ⊢
      by_cases cl : 97 ≤ b B ∧ b B ≤ 122
      · rw [if_pos cl] at h ⊢
        have := ((wd_iff k).1 ((nmF_wd hk).1 h)).1
        have := rn_ok (b := b) (lo := 97) (hi := 122) Bn
        omega
      · rw [if_neg cl] at h
        omega
theorem d_passes (hs : Sk S) (h : Rp m b n p) (k : Nat) (hk : k < 20) {t : Nat} (ht : t = txN k + 1) : ∃ m', De (fun n => f_X11_passes n 0 [.ref 136, .retAddr t] (hp S m q)) (.inl (some (.int (J (if tok b n (rn b n 32 32 p) = k then 1 else 0))))) (hp S m' q) ∧ Rp m' b n (if tok b n (rn b n 32 32 p) = k then ten b n (rn b n 32 32 p) else rn b n 32 32 p) ∧ m' 136 12 = rn b n 32 32 p ∧ Fr2 m m' := by
  obtain ⟨h1, h2, ⟨h3, h4, h5⟩, h6⟩ := id h
  obtain ⟨r1, r2, -, -⟩ := rn_ok (b := b) (lo := 32) (hi := 32) h4
  obtain ⟨B, eB⟩ : ∃ B, B = rn b n 32 32 p := ⟨_, rfl⟩
  obtain ⟨m1, D1, R1, B1, F1⟩ := d_letters (q := q) hs h
  rw [← eB] at r1 r2 R1 B1 ⊢
  obtain ⟨g1, g2, -, -⟩ := rn_ok (b := b) (lo := 97) (hi := 122) r2
  have D2 := d_isLet (q := q) (t := t) hs R1 B1 (by omega) g1 k hk ht
  have tw := tok_wd (b := b) (n := n) (B := B) (fun c => ⟨(h6 B (by omega) c).2.1, (h6 B (by omega) c).2.2⟩) r2 hk
  by_cases c : tok b n B = k
  · rw [if_pos c, if_pos c]
    rw [if_pos (tw.1 c)] at D2
    refine ⟨m1, ?_, by rw [(ten_wd r2 hk c).2.1]; exact R1, B1, F1⟩
    refine De.step ?_
    simp only [j_X11_passes_0]
    simp (disch := omega) only [b_X11_passes_0, x136_k hs, x136_i0 hs, x136_w0 hs, x136_r1 hs, x136_r2 hs, x136_r3 hs, x136_r4 hs, x136_i5 hs, x136_w5 hs, x136_i6 hs, x136_w6 hs, x136_i7 hs, x136_w7 hs, x136_r8 hs, x136_i9 hs, x136_w9 hs, x136_i10 hs, x136_w10 hs, x136_i11 hs, x136_w11 hs, x136_i12 hs, x136_w12 hs, x136_i13 hs, x136_w13 hs, x136_i14 hs, x136_w14 hs, x136_r15 hs, x136_i16 hs, x136_w16 hs, x136_r17 hs, x136_r18 hs, x136_r19 hs, x136_r20 hs, x136_r21 hs, x136_i22 hs, x136_w22 hs, x136_r23 hs, x136_r24 hs, x136_i25 hs, x136_w25 hs, x136_i26 hs, x136_w26 hs, x136_r27 hs, x136_r28 hs, x136_i29 hs, x136_w29 hs, Option.bind_some]
    refine De.call D1 ?_
    simp (disch := omega) only [x136_k hs, x136_i0 hs, x136_w0 hs, x136_r1 hs, x136_r2 hs, x136_r3 hs, x136_r4 hs, x136_i5 hs, x136_w5 hs, x136_i6 hs, x136_w6 hs, x136_i7 hs, x136_w7 hs, x136_r8 hs, x136_i9 hs, x136_w9 hs, x136_i10 hs, x136_w10 hs, x136_i11 hs, x136_w11 hs, x136_i12 hs, x136_w12 hs, x136_i13 hs, x136_w13 hs, x136_i14 hs, x136_w14 hs, x136_r15 hs, x136_i16 hs, x136_w16 hs, x136_r17 hs, x136_r18 hs, x136_r19 hs, x136_r20 hs, x136_r21 hs, x136_i22 hs, x136_w22 hs, x136_r23 hs, x136_r24 hs, x136_i25 hs, x136_w25 hs, x136_i26 hs, x136_w26 hs, x136_r27 hs, x136_r28 hs, x136_i29 hs, x136_w29 hs, Option.bind_some, xI, xU, xUt, xIt, J_lit, J_add, J_sub, J_mul, J_neg, J_ltc, J_lec, J_eqc, lt_T, lt_F, le_T, le_F, eq_T, eq_F, ↓reduceIte, ite_not, not_true_eq_false, not_false_eq_true, true_or, or_true, false_or, or_false, true_and, and_true, false_and, and_false, up_get, Nat.reduceEqDiff, Int.reduceNeg, eqN_T, eqN_F]
    refine De.call D2 ?_
    simp (disch := omega) only [Option.bind_some, xI, xU, xUt, xIt, J_lit, J_add, J_sub, J_mul, J_neg, J_ltc, J_lec, J_eqc, lt_T, lt_F, le_T, le_F, eq_T, eq_F, ↓reduceIte, ite_not, not_true_eq_false, not_false_eq_true, true_or, or_true, false_or, or_false, true_and, and_true, false_and, and_false, up_get, Nat.reduceEqDiff, Int.reduceNeg, eqN_T, eqN_F]
    exact De.ret _ _
  · rw [if_neg c, if_neg c]
    rw [if_neg (fun z => c (tw.2 z))] at D2
    refine ⟨up m1 136 10 B, ?_, R1.fr Fr2.u10 (up_at _ _ _ _) (by omega) r2, (up_i (by decide)).trans B1, F1.tr Fr2.u10⟩
    refine De.step ?_
    simp only [j_X11_passes_0]
    simp (disch := omega) only [b_X11_passes_0, x136_k hs, x136_i0 hs, x136_w0 hs, x136_r1 hs, x136_r2 hs, x136_r3 hs, x136_r4 hs, x136_i5 hs, x136_w5 hs, x136_i6 hs, x136_w6 hs, x136_i7 hs, x136_w7 hs, x136_r8 hs, x136_i9 hs, x136_w9 hs, x136_i10 hs, x136_w10 hs, x136_i11 hs, x136_w11 hs, x136_i12 hs, x136_w12 hs, x136_i13 hs, x136_w13 hs, x136_i14 hs, x136_w14 hs, x136_r15 hs, x136_i16 hs, x136_w16 hs, x136_r17 hs, x136_r18 hs, x136_r19 hs, x136_r20 hs, x136_r21 hs, x136_i22 hs, x136_w22 hs, x136_r23 hs, x136_r24 hs, x136_i25 hs, x136_w25 hs, x136_i26 hs, x136_w26 hs, x136_r27 hs, x136_r28 hs, x136_i29 hs, x136_w29 hs, Option.bind_some]
    refine De.call D1 ?_
    simp (disch := omega) only [x136_k hs, x136_i0 hs, x136_w0 hs, x136_r1 hs, x136_r2 hs, x136_r3 hs, x136_r4 hs, x136_i5 hs, x136_w5 hs, x136_i6 hs, x136_w6 hs, x136_i7 hs, x136_w7 hs, x136_r8 hs, x136_i9 hs, x136_w9 hs, x136_i10 hs, x136_w10 hs, x136_i11 hs, x136_w11 hs, x136_i12 hs, x136_w12 hs, x136_i13 hs, x136_w13 hs, x136_i14 hs, x136_w14 hs, x136_r15 hs, x136_i16 hs, x136_w16 hs, x136_r17 hs, x136_r18 hs, x136_r19 hs, x136_r20 hs, x136_r21 hs, x136_i22 hs, x136_w22 hs, x136_r23 hs, x136_r24 hs, x136_i25 hs, x136_w25 hs, x136_i26 hs, x136_w26 hs, x136_r27 hs, x136_r28 hs, x136_i29 hs, x136_w29 hs, Option.bind_some, xI, xU, xUt, xIt, J_lit, J_add, J_sub, J_mul, J_neg, J_ltc, J_lec, J_eqc, lt_T, lt_F, le_T, le_F, eq_T, eq_F, ↓reduceIte, ite_not, not_true_eq_false, not_false_eq_true, true_or, or_true, false_or, or_false, true_and, and_true, false_and, and_false, up_get, Nat.reduceEqDiff, Int.reduceNeg, eqN_T, eqN_F]
    refine De.call D2 ?_
    simp (disch := omega) only [x136_k hs, x136_i0 hs, x136_w0 hs, x136_r1 hs, x136_r2 hs, x136_r3 hs, x136_r4 hs, x136_i5 hs, x136_w5 hs, x136_i6 hs, x136_w6 hs, x136_i7 hs, x136_w7 hs, x136_r8 hs, x136_i9 hs, x136_w9 hs, x136_i10 hs, x136_w10 hs, x136_i11 hs, x136_w11 hs, x136_i12 hs, x136_w12 hs, x136_i13 hs, x136_w13 hs, x136_i14 hs, x136_w14 hs, x136_r15 hs, x136_i16 hs, x136_w16 hs, x136_r17 hs, x136_r18 hs, x136_r19 hs, x136_r20 hs, x136_r21 hs, x136_i22 hs, x136_w22 hs, x136_r23 hs, x136_r24 hs, x136_i25 hs, x136_w25 hs, x136_i26 hs, x136_w26 hs, x136_r27 hs, x136_r28 hs, x136_i29 hs, x136_w29 hs, B1, Option.bind_some, xI, xU, xUt, xIt, J_lit, J_add, J_sub, J_mul, J_neg, J_ltc, J_lec, J_eqc, lt_T, lt_F, le_T, le_F, eq_T, eq_F, ↓reduceIte, ite_not, not_true_eq_false, not_false_eq_true, true_or, or_true, false_or, or_false, true_and, and_true, false_and, and_false, up_get, Nat.reduceEqDiff, Int.reduceNeg, eqN_T, eqN_F]
    exact De.ret _ _
theorem tok_sign {c : Int} (hb : B < n → -128 ≤ b B ∧ b B < 128) (c0 : 0 ≤ c) (c1 : c ≤ 96) (c2 : c < 48 ∨ 57 < c) : (tok b n B = 100 + c ↔ B < n ∧ b B = c) ∧ (tok b n B = 100 + c → ten b n B = B + 1) := by
  unfold tok ten
  by_cases d : n ≤ B
  · rw [if_pos d, if_pos d]
    exact ⟨⟨fun z => by omega, fun z => by omega⟩, fun z => by omega⟩
  · rw [if_neg d, if_neg d]
    have bb := hb (by omega)
    by_cases cd : 48 ≤ b B ∧ b B ≤ 57
    · rw [if_pos cd, if_pos cd]
      exact ⟨⟨fun z => by omega, fun z => by omega⟩, fun z => by omega⟩
    · rw [if_neg cd, if_neg cd]
      by_cases cl : 97 ≤ b B ∧ b B ≤ 122
      · rw [if_pos cl, if_pos cl]
        have := nmF_rng (b := b) (B := B) (e := rn b n 97 122 B)
        exact ⟨⟨fun z => by omega, fun z => by omega⟩, fun z => by omega⟩
      · rw [if_neg cl, if_neg cl]
        exact ⟨⟨fun z => by omega, fun z => by omega⟩, fun z => rfl⟩
theorem d_sign (hs : Sk S) (h : Rp m b n p) {c : Int} (c0 : 0 ≤ c) (c1 : c ≤ 96) (c2 : c < 48 ∨ 57 < c) : ∃ m', De (fun n => f_X11_sign n 0 [.ref 136, .int (J c)] (hp S m q)) (.inl (some (.int (J (if tok b n (rn b n 32 32 p) = 100 + c then 1 else 0))))) (hp S m' q) ∧ Rp m' b n (if tok b n (rn b n 32 32 p) = 100 + c then ten b n (rn b n 32 32 p) else rn b n 32 32 p) ∧ m' 136 12 = rn b n 32 32 p ∧ Fr2 m m' := by
  obtain ⟨h1, h2, ⟨h3, h4, h5⟩, h6⟩ := id h
  obtain ⟨r1, r2, -, -⟩ := rn_ok (b := b) (lo := 32) (hi := 32) h4
  obtain ⟨B, eB⟩ : ∃ B, B = rn b n 32 32 p := ⟨_, rfl⟩
  obtain ⟨m1, D1, R1, B1, F1⟩ := d_blanks (q := q) hs h
  rw [← eB] at r1 r2 R1 B1 ⊢
  have D2 := d_isAt (q := q) (lo := c) (hi := c) hs R1 c0 (by omega) c0 (by omega)
  obtain ⟨t1, t2⟩ := tok_sign (b := b) (n := n) (B := B) (c := c) (fun z => ⟨(h6 B (by omega) z).2.1, (h6 B (by omega) z).2.2⟩) c0 c1 c2
  by_cases z : tok b n B = 100 + c
  · have z1 := t1.1 z
    rw [if_pos z, if_pos z]
    rw [if_pos ⟨z1.1, by omega, by omega⟩] at D2
    refine ⟨up m1 136 10 (B + 1), ?_, R1.fr Fr2.u10 ((up_at _ _ _ _).trans (t2 z).symm) (by rw [t2 z]; omega) (by rw [t2 z]; omega), (up_i (by decide)).trans B1, F1.tr Fr2.u10⟩
    refine De.step ?_
    simp only [j_X11_sign_0]
    simp (disch := omega) only [b_X11_sign_0, x136_k hs, x136_i0 hs, x136_w0 hs, x136_r1 hs, x136_r2 hs, x136_r3 hs, x136_r4 hs, x136_i5 hs, x136_w5 hs, x136_i6 hs, x136_w6 hs, x136_i7 hs, x136_w7 hs, x136_r8 hs, x136_i9 hs, x136_w9 hs, x136_i10 hs, x136_w10 hs, x136_i11 hs, x136_w11 hs, x136_i12 hs, x136_w12 hs, x136_i13 hs, x136_w13 hs, x136_i14 hs, x136_w14 hs, x136_r15 hs, x136_i16 hs, x136_w16 hs, x136_r17 hs, x136_r18 hs, x136_r19 hs, x136_r20 hs, x136_r21 hs, x136_i22 hs, x136_w22 hs, x136_r23 hs, x136_r24 hs, x136_i25 hs, x136_w25 hs, x136_i26 hs, x136_w26 hs, x136_r27 hs, x136_r28 hs, x136_i29 hs, x136_w29 hs, Option.bind_some]
    refine De.call D1 ?_
    simp (disch := omega) only [x136_k hs, x136_i0 hs, x136_w0 hs, x136_r1 hs, x136_r2 hs, x136_r3 hs, x136_r4 hs, x136_i5 hs, x136_w5 hs, x136_i6 hs, x136_w6 hs, x136_i7 hs, x136_w7 hs, x136_r8 hs, x136_i9 hs, x136_w9 hs, x136_i10 hs, x136_w10 hs, x136_i11 hs, x136_w11 hs, x136_i12 hs, x136_w12 hs, x136_i13 hs, x136_w13 hs, x136_i14 hs, x136_w14 hs, x136_r15 hs, x136_i16 hs, x136_w16 hs, x136_r17 hs, x136_r18 hs, x136_r19 hs, x136_r20 hs, x136_r21 hs, x136_i22 hs, x136_w22 hs, x136_r23 hs, x136_r24 hs, x136_i25 hs, x136_w25 hs, x136_i26 hs, x136_w26 hs, x136_r27 hs, x136_r28 hs, x136_i29 hs, x136_w29 hs, Option.bind_some, xI, xU, xUt, xIt, J_lit, J_add, J_sub, J_mul, J_neg, J_ltc, J_lec, J_eqc, lt_T, lt_F, le_T, le_F, eq_T, eq_F, ↓reduceIte, ite_not, not_true_eq_false, not_false_eq_true, true_or, or_true, false_or, or_false, true_and, and_true, false_and, and_false, up_get, Nat.reduceEqDiff, Int.reduceNeg, eqN_T, eqN_F]
    refine De.call D2 ?_
    simp (disch := omega) only [x136_k hs, x136_i0 hs, x136_w0 hs, x136_r1 hs, x136_r2 hs, x136_r3 hs, x136_r4 hs, x136_i5 hs, x136_w5 hs, x136_i6 hs, x136_w6 hs, x136_i7 hs, x136_w7 hs, x136_r8 hs, x136_i9 hs, x136_w9 hs, x136_i10 hs, x136_w10 hs, x136_i11 hs, x136_w11 hs, x136_i12 hs, x136_w12 hs, x136_i13 hs, x136_w13 hs, x136_i14 hs, x136_w14 hs, x136_r15 hs, x136_i16 hs, x136_w16 hs, x136_r17 hs, x136_r18 hs, x136_r19 hs, x136_r20 hs, x136_r21 hs, x136_i22 hs, x136_w22 hs, x136_r23 hs, x136_r24 hs, x136_i25 hs, x136_w25 hs, x136_i26 hs, x136_w26 hs, x136_r27 hs, x136_r28 hs, x136_i29 hs, x136_w29 hs, R1.1, Option.bind_some, xI, xU, xUt, xIt, J_lit, J_add, J_sub, J_mul, J_neg, J_ltc, J_lec, J_eqc, lt_T, lt_F, le_T, le_F, eq_T, eq_F, ↓reduceIte, ite_not, not_true_eq_false, not_false_eq_true, true_or, or_true, false_or, or_false, true_and, and_true, false_and, and_false, up_get, Nat.reduceEqDiff, Int.reduceNeg, eqN_T, eqN_F]
    exact De.ret _ _
  · rw [if_neg z, if_neg z]
    rw [if_neg (fun y => z (t1.2 ⟨y.1, by omega⟩))] at D2
    refine ⟨m1, ?_, R1, B1, F1⟩
    refine De.step ?_
    simp only [j_X11_sign_0]
    simp (disch := omega) only [b_X11_sign_0, x136_k hs, x136_i0 hs, x136_w0 hs, x136_r1 hs, x136_r2 hs, x136_r3 hs, x136_r4 hs, x136_i5 hs, x136_w5 hs, x136_i6 hs, x136_w6 hs, x136_i7 hs, x136_w7 hs, x136_r8 hs, x136_i9 hs, x136_w9 hs, x136_i10 hs, x136_w10 hs, x136_i11 hs, x136_w11 hs, x136_i12 hs, x136_w12 hs, x136_i13 hs, x136_w13 hs, x136_i14 hs, x136_w14 hs, x136_r15 hs, x136_i16 hs, x136_w16 hs, x136_r17 hs, x136_r18 hs, x136_r19 hs, x136_r20 hs, x136_r21 hs, x136_i22 hs, x136_w22 hs, x136_r23 hs, x136_r24 hs, x136_i25 hs, x136_w25 hs, x136_i26 hs, x136_w26 hs, x136_r27 hs, x136_r28 hs, x136_i29 hs, x136_w29 hs, Option.bind_some]
    refine De.call D1 ?_
    simp (disch := omega) only [x136_k hs, x136_i0 hs, x136_w0 hs, x136_r1 hs, x136_r2 hs, x136_r3 hs, x136_r4 hs, x136_i5 hs, x136_w5 hs, x136_i6 hs, x136_w6 hs, x136_i7 hs, x136_w7 hs, x136_r8 hs, x136_i9 hs, x136_w9 hs, x136_i10 hs, x136_w10 hs, x136_i11 hs, x136_w11 hs, x136_i12 hs, x136_w12 hs, x136_i13 hs, x136_w13 hs, x136_i14 hs, x136_w14 hs, x136_r15 hs, x136_i16 hs, x136_w16 hs, x136_r17 hs, x136_r18 hs, x136_r19 hs, x136_r20 hs, x136_r21 hs, x136_i22 hs, x136_w22 hs, x136_r23 hs, x136_r24 hs, x136_i25 hs, x136_w25 hs, x136_i26 hs, x136_w26 hs, x136_r27 hs, x136_r28 hs, x136_i29 hs, x136_w29 hs, Option.bind_some, xI, xU, xUt, xIt, J_lit, J_add, J_sub, J_mul, J_neg, J_ltc, J_lec, J_eqc, lt_T, lt_F, le_T, le_F, eq_T, eq_F, ↓reduceIte, ite_not, not_true_eq_false, not_false_eq_true, true_or, or_true, false_or, or_false, true_and, and_true, false_and, and_false, up_get, Nat.reduceEqDiff, Int.reduceNeg, eqN_T, eqN_F]
    refine De.call D2 ?_
    simp (disch := omega) only [Option.bind_some, xI, xU, xUt, xIt, J_lit, J_add, J_sub, J_mul, J_neg, J_ltc, J_lec, J_eqc, lt_T, lt_F, le_T, le_F, eq_T, eq_F, ↓reduceIte, ite_not, not_true_eq_false, not_false_eq_true, true_or, or_true, false_or, or_false, true_and, and_true, false_and, and_false, up_get, Nat.reduceEqDiff, Int.reduceNeg, eqN_T, eqN_F]
    exact De.ret _ _
/-- the reference's number: what is behind the fourth digit isn't looked at -/
def rvF (b : Int → Int) (B : Int) : Nat → Int
  | 0 => 0
  | j + 1 => if j < 4 then 10 * rvF b B j + b (B + j) - 48 else rvF b B j
theorem rvF_v : ∀ j : Nat, j ≤ 4 → rvF b B j = vlF b B j
  | 0, _ => rfl
  | j + 1, h => by rw [rvF, vlF, if_pos (by omega), if_pos (by omega), rvF_v j (by omega)]
theorem rvF_in (hd : ∀ j, B ≤ j → j < e → 48 ≤ b j ∧ b j ≤ 57) : ∀ j : Nat, B + j ≤ e → 0 ≤ rvF b B j ∧ rvF b B j < 10 ^ (min j 4)
  | 0, _ => ⟨Int.le_refl _, show (0 : Int) < 10 ^ (min 0 4) by decide⟩
  | j + 1, h => by
    have ih := rvF_in hd j (by omega)
    rw [rvF]
    by_cases c : j < 4
    · rw [if_pos c]
      have := hd (B + j) (by omega) (by omega)
      rw [show min (j + 1) 4 = min j 4 + 1 by omega, Int.pow_succ]
      omega
    · rw [if_neg c, show min (j + 1) 4 = min j 4 by omega]
      exact ih
theorem q_number6 (hs : Sk S) (B0 : 0 ≤ B) {high : Int} (hh0 : 0 ≤ high) (hh : high ≤ 9999) : ∀ (k : Nat) (i : Int) (m : Nat → Int → Int), (n - i).toNat = k → B ≤ i → (∀ j, B ≤ j → j < i → 48 ≤ b j ∧ b j ≤ 57) → Rp m b n i → m 136 12 = B → ∃ m', De (fun n => f_X11_number n 6 [.ref 136, .int (J high), .int (J (rvF b B (i - B).toNat))] (hp S m q)) (.inl (some (.int (J (if B < rn b n 48 57 i ∧ vlF b B (rn b n 48 57 i - B).toNat ≤ high then vlF b B (rn b n 48 57 i - B).toNat else -1))))) (hp S m' q) ∧ Rp m' b n (rn b n 48 57 i) ∧ m' 136 12 = B ∧ Fr2 m m' := by
  have stop : ∀ (i : Int) (m : Nat → Int → Int), B ≤ i → (∀ j, B ≤ j → j < i → 48 ≤ b j ∧ b j ≤ 57) → Rp m b n i → m 136 12 = B → De (fun n => f_X11_isAt n 0 [.ref 136, .int (J 48), .int (J 57)] (hp S m q)) (.inl (some (.int (J 0)))) (hp S m q) → De (fun n => f_X11_number n 6 [.ref 136, .int (J high), .int (J (rvF b B (i - B).toNat))] (hp S m q)) (.inl (some (.int (J (if B < i ∧ vlF b B (i - B).toNat ≤ high then vlF b B (i - B).toNat else -1))))) (hp S m q) := by
    intro i m Bi hd h h12 D
    obtain ⟨h1, h2, ⟨h3, h4, h5⟩, h6⟩ := id h
    by_cases c1 : B = i
    · rw [if_neg (by omega)]
      refine De.step ?_
      simp only [j_X11_number_6]
      simp (disch := omega) only [b_X11_number_6, x136_k hs, x136_i0 hs, x136_w0 hs, x136_r1 hs, x136_r2 hs, x136_r3 hs, x136_r4 hs, x136_i5 hs, x136_w5 hs, x136_i6 hs, x136_w6 hs, x136_i7 hs, x136_w7 hs, x136_r8 hs, x136_i9 hs, x136_w9 hs, x136_i10 hs, x136_w10 hs, x136_i11 hs, x136_w11 hs, x136_i12 hs, x136_w12 hs, x136_i13 hs, x136_w13 hs, x136_i14 hs, x136_w14 hs, x136_r15 hs, x136_i16 hs, x136_w16 hs, x136_r17 hs, x136_r18 hs, x136_r19 hs, x136_r20 hs, x136_r21 hs, x136_i22 hs, x136_w22 hs, x136_r23 hs, x136_r24 hs, x136_i25 hs, x136_w25 hs, x136_i26 hs, x136_w26 hs, x136_r27 hs, x136_r28 hs, x136_i29 hs, x136_w29 hs, J_lit, Option.bind_some]
      refine De.call D ?_
      simp (disch := omega) only [x136_k hs, x136_i0 hs, x136_w0 hs, x136_r1 hs, x136_r2 hs, x136_r3 hs, x136_r4 hs, x136_i5 hs, x136_w5 hs, x136_i6 hs, x136_w6 hs, x136_i7 hs, x136_w7 hs, x136_r8 hs, x136_i9 hs, x136_w9 hs, x136_i10 hs, x136_w10 hs, x136_i11 hs, x136_w11 hs, x136_i12 hs, x136_w12 hs, x136_i13 hs, x136_w13 hs, x136_i14 hs, x136_w14 hs, x136_r15 hs, x136_i16 hs, x136_w16 hs, x136_r17 hs, x136_r18 hs, x136_r19 hs, x136_r20 hs, x136_r21 hs, x136_i22 hs, x136_w22 hs, x136_r23 hs, x136_r24 hs, x136_i25 hs, x136_w25 hs, x136_i26 hs, x136_w26 hs, x136_r27 hs, x136_r28 hs, x136_i29 hs, x136_w29 hs, h1, h12, Option.bind_some, xI, xU, xUt, xIt, J_lit, J_add, J_sub, J_mul, J_neg, J_ltc, J_lec, J_eqc, lt_T, lt_F, le_T, le_F, eq_T, eq_F, ↓reduceIte, ite_not, not_true_eq_false, not_false_eq_true, true_or, or_true, false_or, or_false, true_and, and_true, false_and, and_false, up_get, Nat.reduceEqDiff, Int.reduceNeg, eqN_T, eqN_F]
      exact De.ret _ _
    · by_cases c2 : 4 < i - B
      · have v5 : vlF b B (i - B).toNat = 10000 := by
          rw [show (i - B).toNat = (i - B - 1).toNat + 1 by omega, vlF, if_neg (by omega)]
        rw [if_neg (by omega)]
        refine De.step ?_
        simp only [j_X11_number_6]
        simp (disch := omega) only [b_X11_number_6, x136_k hs, x136_i0 hs, x136_w0 hs, x136_r1 hs, x136_r2 hs, x136_r3 hs, x136_r4 hs, x136_i5 hs, x136_w5 hs, x136_i6 hs, x136_w6 hs, x136_i7 hs, x136_w7 hs, x136_r8 hs, x136_i9 hs, x136_w9 hs, x136_i10 hs, x136_w10 hs, x136_i11 hs, x136_w11 hs, x136_i12 hs, x136_w12 hs, x136_i13 hs, x136_w13 hs, x136_i14 hs, x136_w14 hs, x136_r15 hs, x136_i16 hs, x136_w16 hs, x136_r17 hs, x136_r18 hs, x136_r19 hs, x136_r20 hs, x136_r21 hs, x136_i22 hs, x136_w22 hs, x136_r23 hs, x136_r24 hs, x136_i25 hs, x136_w25 hs, x136_i26 hs, x136_w26 hs, x136_r27 hs, x136_r28 hs, x136_i29 hs, x136_w29 hs, J_lit, Option.bind_some]
        refine De.call D ?_
        simp (disch := omega) only [x136_k hs, x136_i0 hs, x136_w0 hs, x136_r1 hs, x136_r2 hs, x136_r3 hs, x136_r4 hs, x136_i5 hs, x136_w5 hs, x136_i6 hs, x136_w6 hs, x136_i7 hs, x136_w7 hs, x136_r8 hs, x136_i9 hs, x136_w9 hs, x136_i10 hs, x136_w10 hs, x136_i11 hs, x136_w11 hs, x136_i12 hs, x136_w12 hs, x136_i13 hs, x136_w13 hs, x136_i14 hs, x136_w14 hs, x136_r15 hs, x136_i16 hs, x136_w16 hs, x136_r17 hs, x136_r18 hs, x136_r19 hs, x136_r20 hs, x136_r21 hs, x136_i22 hs, x136_w22 hs, x136_r23 hs, x136_r24 hs, x136_i25 hs, x136_w25 hs, x136_i26 hs, x136_w26 hs, x136_r27 hs, x136_r28 hs, x136_i29 hs, x136_w29 hs, h1, h12, Option.bind_some, xI, xU, xUt, xIt, J_lit, J_add, J_sub, J_mul, J_neg, J_ltc, J_lec, J_eqc, lt_T, lt_F, le_T, le_F, eq_T, eq_F, ↓reduceIte, ite_not, not_true_eq_false, not_false_eq_true, true_or, or_true, false_or, or_false, true_and, and_true, false_and, and_false, up_get, Nat.reduceEqDiff, Int.reduceNeg, eqN_T, eqN_F]
        exact De.ret _ _
      · have ri := rvF_in (b := b) (B := B) (e := i) hd (i - B).toNat (by omega)
        have p4 : (10 : Int) ^ (min (i - B).toNat 4) ≤ 10000 := by
          rcases (show (i - B).toNat = 1 ∨ (i - B).toNat = 2 ∨ (i - B).toNat = 3 ∨ (i - B).toNat = 4 by omega) with z | z | z | z <;> rw [z] <;> decide
        rw [rvF_v _ (by omega)] at ri ⊢
        by_cases c3 : vlF b B (i - B).toNat ≤ high
        · rw [if_pos ⟨by omega, c3⟩]
          refine De.step ?_
          simp only [j_X11_number_6]
          simp (disch := omega) only [b_X11_number_6, x136_k hs, x136_i0 hs, x136_w0 hs, x136_r1 hs, x136_r2 hs, x136_r3 hs, x136_r4 hs, x136_i5 hs, x136_w5 hs, x136_i6 hs, x136_w6 hs, x136_i7 hs, x136_w7 hs, x136_r8 hs, x136_i9 hs, x136_w9 hs, x136_i10 hs, x136_w10 hs, x136_i11 hs, x136_w11 hs, x136_i12 hs, x136_w12 hs, x136_i13 hs, x136_w13 hs, x136_i14 hs, x136_w14 hs, x136_r15 hs, x136_i16 hs, x136_w16 hs, x136_r17 hs, x136_r18 hs, x136_r19 hs, x136_r20 hs, x136_r21 hs, x136_i22 hs, x136_w22 hs, x136_r23 hs, x136_r24 hs, x136_i25 hs, x136_w25 hs, x136_i26 hs, x136_w26 hs, x136_r27 hs, x136_r28 hs, x136_i29 hs, x136_w29 hs, J_lit, Option.bind_some]
          refine De.call D ?_
          simp (disch := omega) only [x136_k hs, x136_i0 hs, x136_w0 hs, x136_r1 hs, x136_r2 hs, x136_r3 hs, x136_r4 hs, x136_i5 hs, x136_w5 hs, x136_i6 hs, x136_w6 hs, x136_i7 hs, x136_w7 hs, x136_r8 hs, x136_i9 hs, x136_w9 hs, x136_i10 hs, x136_w10 hs, x136_i11 hs, x136_w11 hs, x136_i12 hs, x136_w12 hs, x136_i13 hs, x136_w13 hs, x136_i14 hs, x136_w14 hs, x136_r15 hs, x136_i16 hs, x136_w16 hs, x136_r17 hs, x136_r18 hs, x136_r19 hs, x136_r20 hs, x136_r21 hs, x136_i22 hs, x136_w22 hs, x136_r23 hs, x136_r24 hs, x136_i25 hs, x136_w25 hs, x136_i26 hs, x136_w26 hs, x136_r27 hs, x136_r28 hs, x136_i29 hs, x136_w29 hs, h1, h12, Option.bind_some, xI, xU, xUt, xIt, J_lit, J_add, J_sub, J_mul, J_neg, J_ltc, J_lec, J_eqc, lt_T, lt_F, le_T, le_F, eq_T, eq_F, ↓reduceIte, ite_not, not_true_eq_false, not_false_eq_true, true_or, or_true, false_or, or_false, true_and, and_true, false_and, and_false, up_get, Nat.reduceEqDiff, Int.reduceNeg, eqN_T, eqN_F]
          exact De.ret _ _
        · rw [if_neg (fun z => c3 z.2)]
          refine De.step ?_
          simp only [j_X11_number_6]
          simp (disch := omega) only [b_X11_number_6, x136_k hs, x136_i0 hs, x136_w0 hs, x136_r1 hs, x136_r2 hs, x136_r3 hs, x136_r4 hs, x136_i5 hs, x136_w5 hs, x136_i6 hs, x136_w6 hs, x136_i7 hs, x136_w7 hs, x136_r8 hs, x136_i9 hs, x136_w9 hs, x136_i10 hs, x136_w10 hs, x136_i11 hs, x136_w11 hs, x136_i12 hs, x136_w12 hs, x136_i13 hs, x136_w13 hs, x136_i14 hs, x136_w14 hs, x136_r15 hs, x136_i16 hs, x136_w16 hs, x136_r17 hs, x136_r18 hs, x136_r19 hs, x136_r20 hs, x136_r21 hs, x136_i22 hs, x136_w22 hs, x136_r23 hs, x136_r24 hs, x136_i25 hs, x136_w25 hs, x136_i26 hs, x136_w26 hs, x136_r27 hs, x136_r28 hs, x136_i29 hs, x136_w29 hs, J_lit, Option.bind_some]
          refine De.call D ?_
          simp (disch := omega) only [x136_k hs, x136_i0 hs, x136_w0 hs, x136_r1 hs, x136_r2 hs, x136_r3 hs, x136_r4 hs, x136_i5 hs, x136_w5 hs, x136_i6 hs, x136_w6 hs, x136_i7 hs, x136_w7 hs, x136_r8 hs, x136_i9 hs, x136_w9 hs, x136_i10 hs, x136_w10 hs, x136_i11 hs, x136_w11 hs, x136_i12 hs, x136_w12 hs, x136_i13 hs, x136_w13 hs, x136_i14 hs, x136_w14 hs, x136_r15 hs, x136_i16 hs, x136_w16 hs, x136_r17 hs, x136_r18 hs, x136_r19 hs, x136_r20 hs, x136_r21 hs, x136_i22 hs, x136_w22 hs, x136_r23 hs, x136_r24 hs, x136_i25 hs, x136_w25 hs, x136_i26 hs, x136_w26 hs, x136_r27 hs, x136_r28 hs, x136_i29 hs, x136_w29 hs, h1, h12, Option.bind_some, xI, xU, xUt, xIt, J_lit, J_add, J_sub, J_mul, J_neg, J_ltc, J_lec, J_eqc, lt_T, lt_F, le_T, le_F, eq_T, eq_F, ↓reduceIte, ite_not, not_true_eq_false, not_false_eq_true, true_or, or_true, false_or, or_false, true_and, and_true, false_and, and_false, up_get, Nat.reduceEqDiff, Int.reduceNeg, eqN_T, eqN_F]
          exact De.ret _ _
  intro k
  induction k with
  | zero =>
    intro i m hk Bi hd h h12
    obtain ⟨h1, h2, ⟨h3, h4, h5⟩, h6⟩ := id h
    have D := d_isAt (q := q) (lo := 48) (hi := 57) hs h (by decide) (by decide) (by decide) (by decide)
    rw [if_neg (by omega)] at D
    rw [rn_end (by omega)]
    exact ⟨m, stop i m Bi hd h h12 D, h, h12, fun _ _ _ => rfl⟩
  | succ k IH =>
    intro i m hk Bi hd h h12
    obtain ⟨h1, h2, ⟨h3, h4, h5⟩, h6⟩ := id h
    have D := d_isAt (q := q) (lo := 48) (hi := 57) hs h (by decide) (by decide) (by decide) (by decide)
    by_cases c : 48 ≤ b i ∧ b i ≤ 57
    · rw [if_pos ⟨by omega, c⟩] at D
      rw [rn_yes (by omega) c]
      obtain ⟨k1, k2, k3⟩ := h6 i h3 (by omega)
      obtain ⟨m', D', a1, a2, a3⟩ := IH (i + 1) (up m 136 10 (i + 1)) (by omega) (by omega) (fun j x y => by
        by_cases z : j = i
        · rw [z]
          exact c
        · exact hd j x (by omega)) (h.fr Fr2.u10 (up_at _ _ _ _) (by omega) (by omega)) ((up_i (by decide)).trans h12)
      have ev : rvF b B (i + 1 - B).toNat = if i - B < 4 then 10 * rvF b B (i - B).toNat + b i - 48 else rvF b B (i - B).toNat := by
        rw [show (i + 1 - B).toNat = (i - B).toNat + 1 by omega, rvF, show B + ((i - B).toNat : Int) = i by omega]
        by_cases d : i - B < 4
        · rw [if_pos d, if_pos (by omega)]
        · rw [if_neg d, if_neg (by omega)]
      rw [ev] at D'
      refine ⟨m', ?_, a1, a2, Fr2.u10.tr a3⟩
      by_cases d : i - B < 4
      · rw [if_pos d] at D'
        refine De.step ?_
        simp only [j_X11_number_6]
        simp (disch := omega) only [b_X11_number_6, x136_k hs, x136_i0 hs, x136_w0 hs, x136_r1 hs, x136_r2 hs, x136_r3 hs, x136_r4 hs, x136_i5 hs, x136_w5 hs, x136_i6 hs, x136_w6 hs, x136_i7 hs, x136_w7 hs, x136_r8 hs, x136_i9 hs, x136_w9 hs, x136_i10 hs, x136_w10 hs, x136_i11 hs, x136_w11 hs, x136_i12 hs, x136_w12 hs, x136_i13 hs, x136_w13 hs, x136_i14 hs, x136_w14 hs, x136_r15 hs, x136_i16 hs, x136_w16 hs, x136_r17 hs, x136_r18 hs, x136_r19 hs, x136_r20 hs, x136_r21 hs, x136_i22 hs, x136_w22 hs, x136_r23 hs, x136_r24 hs, x136_i25 hs, x136_w25 hs, x136_i26 hs, x136_w26 hs, x136_r27 hs, x136_r28 hs, x136_i29 hs, x136_w29 hs, J_lit, Option.bind_some]
        refine De.call D ?_
        simp (disch := omega) only [x136_k hs, x136_i0 hs, x136_w0 hs, x136_r1 hs, x136_r2 hs, x136_r3 hs, x136_r4 hs, x136_i5 hs, x136_w5 hs, x136_i6 hs, x136_w6 hs, x136_i7 hs, x136_w7 hs, x136_r8 hs, x136_i9 hs, x136_w9 hs, x136_i10 hs, x136_w10 hs, x136_i11 hs, x136_w11 hs, x136_i12 hs, x136_w12 hs, x136_i13 hs, x136_w13 hs, x136_i14 hs, x136_w14 hs, x136_r15 hs, x136_i16 hs, x136_w16 hs, x136_r17 hs, x136_r18 hs, x136_r19 hs, x136_r20 hs, x136_r21 hs, x136_i22 hs, x136_w22 hs, x136_r23 hs, x136_r24 hs, x136_i25 hs, x136_w25 hs, x136_i26 hs, x136_w26 hs, x136_r27 hs, x136_r28 hs, x136_i29 hs, x136_w29 hs, x141_g hs, x141_s hs, x141_l hs, h1, h12, k1, Option.bind_some, xI, xU, xUt, xIt, J_lit, J_add, J_sub, J_mul, J_neg, J_ltc, J_lec, J_eqc, lt_T, lt_F, le_T, le_F, eq_T, eq_F, ↓reduceIte, ite_not, not_true_eq_false, not_false_eq_true, true_or, or_true, false_or, or_false, true_and, and_true, false_and, and_false, up_get, Nat.reduceEqDiff, Int.reduceNeg, eqN_T, eqN_F]
        refine De.step ?_
        simp only [j_X11_number_51]
        simp (disch := omega) only [b_X11_number_51, x136_k hs, x136_i0 hs, x136_w0 hs, x136_r1 hs, x136_r2 hs, x136_r3 hs, x136_r4 hs, x136_i5 hs, x136_w5 hs, x136_i6 hs, x136_w6 hs, x136_i7 hs, x136_w7 hs, x136_r8 hs, x136_i9 hs, x136_w9 hs, x136_i10 hs, x136_w10 hs, x136_i11 hs, x136_w11 hs, x136_i12 hs, x136_w12 hs, x136_i13 hs, x136_w13 hs, x136_i14 hs, x136_w14 hs, x136_r15 hs, x136_i16 hs, x136_w16 hs, x136_r17 hs, x136_r18 hs, x136_r19 hs, x136_r20 hs, x136_r21 hs, x136_i22 hs, x136_w22 hs, x136_r23 hs, x136_r24 hs, x136_i25 hs, x136_w25 hs, x136_i26 hs, x136_w26 hs, x136_r27 hs, x136_r28 hs, x136_i29 hs, x136_w29 hs, h1, Option.bind_some, xI, xU, xUt, xIt, J_lit, J_add, J_sub, J_mul, J_neg, J_ltc, J_lec, J_eqc, lt_T, lt_F, le_T, le_F, eq_T, eq_F, ↓reduceIte, ite_not, not_true_eq_false, not_false_eq_true, true_or, or_true, false_or, or_false, true_and, and_true, false_and, and_false, up_get, Nat.reduceEqDiff, Int.reduceNeg, eqN_T, eqN_F]
        exact D'
      · rw [if_neg d] at D'
        refine De.step ?_
        simp only [j_X11_number_6]
        simp (disch := omega) only [b_X11_number_6, x136_k hs, x136_i0 hs, x136_w0 hs, x136_r1 hs, x136_r2 hs, x136_r3 hs, x136_r4 hs, x136_i5 hs, x136_w5 hs, x136_i6 hs, x136_w6 hs, x136_i7 hs, x136_w7 hs, x136_r8 hs, x136_i9 hs, x136_w9 hs, x136_i10 hs, x136_w10 hs, x136_i11 hs, x136_w11 hs, x136_i12 hs, x136_w12 hs, x136_i13 hs, x136_w13 hs, x136_i14 hs, x136_w14 hs, x136_r15 hs, x136_i16 hs, x136_w16 hs, x136_r17 hs, x136_r18 hs, x136_r19 hs, x136_r20 hs, x136_r21 hs, x136_i22 hs, x136_w22 hs, x136_r23 hs, x136_r24 hs, x136_i25 hs, x136_w25 hs, x136_i26 hs, x136_w26 hs, x136_r27 hs, x136_r28 hs, x136_i29 hs, x136_w29 hs, J_lit, Option.bind_some]
        refine De.call D ?_
        simp (disch := omega) only [x136_k hs, x136_i0 hs, x136_w0 hs, x136_r1 hs, x136_r2 hs, x136_r3 hs, x136_r4 hs, x136_i5 hs, x136_w5 hs, x136_i6 hs, x136_w6 hs, x136_i7 hs, x136_w7 hs, x136_r8 hs, x136_i9 hs, x136_w9 hs, x136_i10 hs, x136_w10 hs, x136_i11 hs, x136_w11 hs, x136_i12 hs, x136_w12 hs, x136_i13 hs, x136_w13 hs, x136_i14 hs, x136_w14 hs, x136_r15 hs, x136_i16 hs, x136_w16 hs, x136_r17 hs, x136_r18 hs, x136_r19 hs, x136_r20 hs, x136_r21 hs, x136_i22 hs, x136_w22 hs, x136_r23 hs, x136_r24 hs, x136_i25 hs, x136_w25 hs, x136_i26 hs, x136_w26 hs, x136_r27 hs, x136_r28 hs, x136_i29 hs, x136_w29 hs, x141_g hs, x141_s hs, x141_l hs, h1, h12, k1, Option.bind_some, xI, xU, xUt, xIt, J_lit, J_add, J_sub, J_mul, J_neg, J_ltc, J_lec, J_eqc, lt_T, lt_F, le_T, le_F, eq_T, eq_F, ↓reduceIte, ite_not, not_true_eq_false, not_false_eq_true, true_or, or_true, false_or, or_false, true_and, and_true, false_and, and_false, up_get, Nat.reduceEqDiff, Int.reduceNeg, eqN_T, eqN_F]
        refine De.step ?_
        simp only [j_X11_number_51]
        simp (disch := omega) only [b_X11_number_51, x136_k hs, x136_i0 hs, x136_w0 hs, x136_r1 hs, x136_r2 hs, x136_r3 hs, x136_r4 hs, x136_i5 hs, x136_w5 hs, x136_i6 hs, x136_w6 hs, x136_i7 hs, x136_w7 hs, x136_r8 hs, x136_i9 hs, x136_w9 hs, x136_i10 hs, x136_w10 hs, x136_i11 hs, x136_w11 hs, x136_i12 hs, x136_w12 hs, x136_i13 hs, x136_w13 hs, x136_i14 hs, x136_w14 hs, x136_r15 hs, x136_i16 hs, x136_w16 hs, x136_r17 hs, x136_r18 hs, x136_r19 hs, x136_r20 hs, x136_r21 hs, x136_i22 hs, x136_w22 hs, x136_r23 hs, x136_r24 hs, x136_i25 hs, x136_w25 hs, x136_i26 hs, x136_w26 hs, x136_r27 hs, x136_r28 hs, x136_i29 hs, x136_w29 hs, h1, Option.bind_some, xI, xU, xUt, xIt, J_lit, J_add, J_sub, J_mul, J_neg, J_ltc, J_lec, J_eqc, lt_T, lt_F, le_T, le_F, eq_T, eq_F, ↓reduceIte, ite_not, not_true_eq_false, not_false_eq_true, true_or, or_true, false_or, or_false, true_and, and_true, false_and, and_false, up_get, Nat.reduceEqDiff, Int.reduceNeg, eqN_T, eqN_F]
        exact D'
    · rw [if_neg (fun z => c z.2)] at D
      rw [rn_no c]
      exact ⟨m, stop i m Bi hd h h12 D, h, h12, fun _ _ _ => rfl⟩
theorem tok_20 : (tok b n B = 20 ↔ B < n ∧ 48 ≤ b B ∧ b B ≤ 57) ∧ (tok b n B = 20 → ten b n B = rn b n 48 57 B) := by
  unfold tok ten
  by_cases d : n ≤ B
  · rw [if_pos d, if_pos d]
    exact ⟨⟨fun z => by omega, fun z => by omega⟩, fun z => by omega⟩
  · rw [if_neg d, if_neg d]
    by_cases cd : 48 ≤ b B ∧ b B ≤ 57
    · rw [if_pos cd, if_pos cd]
      exact ⟨⟨fun z => by omega, fun z => rfl⟩, fun z => rfl⟩
    · rw [if_neg cd, if_neg cd]
      have no : ∀ z : Int, z = (if 97 ≤ b B ∧ b B ≤ 122 then nmF b B (rn b n 97 122 B) 20 else 100 + b B % 256) → z ≠ 20 := fun z hz => by
        by_cases cl : 97 ≤ b B ∧ b B ≤ 122
        · rw [if_pos cl] at hz
          rcases nmF_in (b := b) (B := B) (e := rn b n 97 122 B) 20 (by omega) with ⟨x1, -⟩ | ⟨x1, x2, x3, -⟩ <;> omega
        · rw [if_neg cl] at hz
          omega
      exact ⟨⟨fun z => absurd z (no _ rfl), fun z => absurd z.2 cd⟩, fun z => absurd z (no _ rfl)⟩
theorem d_number (hs : Sk S) (h : Rp m b n p) {high : Int} (hh0 : 0 ≤ high) (hh : high ≤ 9999) : ∃ m', De (fun n => f_X11_number n 0 [.ref 136, .int (J high)] (hp S m q)) (.inl (some (.int (J (if tok b n (rn b n 32 32 p) = 20 ∧ vlF b (rn b n 32 32 p) (ten b n (rn b n 32 32 p) - rn b n 32 32 p).toNat ≤ high then vlF b (rn b n 32 32 p) (ten b n (rn b n 32 32 p) - rn b n 32 32 p).toNat else -1))))) (hp S m' q) ∧ Rp m' b n (if tok b n (rn b n 32 32 p) = 20 then ten b n (rn b n 32 32 p) else rn b n 32 32 p) ∧ m' 136 12 = rn b n 32 32 p ∧ Fr2 m m' := by
  obtain ⟨h1, h2, ⟨h3, h4, h5⟩, h6⟩ := id h
  obtain ⟨r1, r2, -, -⟩ := rn_ok (b := b) (lo := 32) (hi := 32) h4
  obtain ⟨B, eB⟩ : ∃ B, B = rn b n 32 32 p := ⟨_, rfl⟩
  obtain ⟨m1, D1, R1, B1, F1⟩ := d_blanks (q := q) hs h
  rw [← eB] at r1 r2 R1 B1 ⊢
  obtain ⟨t1, t2⟩ := tok_20 (b := b) (n := n) (B := B)
  obtain ⟨m2, D2, R2, B2, F2⟩ := q_number6 (q := q) (b := b) (n := n) (B := B) hs (by omega) hh0 hh (n - B).toNat B m1 rfl (Int.le_refl _) (fun j x y => by omega) R1 B1
  rw [show (B - B).toNat = 0 by omega] at D2
  have Z : De (fun n => f_X11_number n 0 [.ref 136, .int (J high)] (hp S m q)) (.inl (some (.int (J (if B < rn b n 48 57 B ∧ vlF b B (rn b n 48 57 B - B).toNat ≤ high then vlF b B (rn b n 48 57 B - B).toNat else -1))))) (hp S m2 q) := by
    refine De.step ?_
    simp only [j_X11_number_0]
    simp (disch := omega) only [b_X11_number_0, x136_k hs, x136_i0 hs, x136_w0 hs, x136_r1 hs, x136_r2 hs, x136_r3 hs, x136_r4 hs, x136_i5 hs, x136_w5 hs, x136_i6 hs, x136_w6 hs, x136_i7 hs, x136_w7 hs, x136_r8 hs, x136_i9 hs, x136_w9 hs, x136_i10 hs, x136_w10 hs, x136_i11 hs, x136_w11 hs, x136_i12 hs, x136_w12 hs, x136_i13 hs, x136_w13 hs, x136_i14 hs, x136_w14 hs, x136_r15 hs, x136_i16 hs, x136_w16 hs, x136_r17 hs, x136_r18 hs, x136_r19 hs, x136_r20 hs, x136_r21 hs, x136_i22 hs, x136_w22 hs, x136_r23 hs, x136_r24 hs, x136_i25 hs, x136_w25 hs, x136_i26 hs, x136_w26 hs, x136_r27 hs, x136_r28 hs, x136_i29 hs, x136_w29 hs, Option.bind_some]
    refine De.call D1 ?_
    simp (disch := omega) only [Option.bind_some, xI, xU, xUt, xIt, J_lit, J_add, J_sub, J_mul, J_neg, J_ltc, J_lec, J_eqc, lt_T, lt_F, le_T, le_F, eq_T, eq_F, ↓reduceIte, ite_not, not_true_eq_false, not_false_eq_true, true_or, or_true, false_or, or_false, true_and, and_true, false_and, and_false, up_get, Nat.reduceEqDiff, Int.reduceNeg, eqN_T, eqN_F]
    exact D2
  by_cases c : tok b n B = 20
  · have c1 := t1.1 c
    have gt : B < rn b n 48 57 B := by
      rw [rn_yes c1.1 c1.2]
      have := (rn_ok (b := b) (lo := 48) (hi := 57) (show B + 1 ≤ n by omega)).1
      omega
    rw [if_pos c, t2 c]
    refine ⟨m2, ?_, R2, B2, F1.tr F2⟩
    by_cases d : vlF b B (rn b n 48 57 B - B).toNat ≤ high
    · rw [if_pos ⟨c, d⟩]
      rw [if_pos ⟨gt, d⟩] at Z
      exact Z
    · rw [if_neg (fun z => d z.2)]
      rw [if_neg (fun z => d z.2)] at Z
      exact Z
  · have e : rn b n 48 57 B = B := by
      by_cases d : B < n
      · exact rn_no (fun z => c (t1.2 ⟨d, z⟩))
      · exact rn_end (by omega)
    rw [e] at R2 Z
    rw [if_neg c, if_neg (fun z => c z.1)]
    rw [if_neg (by omega)] at Z
    exact ⟨m2, Z, R2, B2, F1.tr F2⟩
end LEXM
