/-! brackets and not -/
section ATOM3
variable {S : xH} {m m' m0 : Nat → Int → Int} {q : Nat → Int → Int64} {b g g' : Int → Int} {n B s s' B' L d A : Int} {ok : Bool}
/-- too deep -/
theorem at_deep (hB : Bok b n B) (c : tok b n B = 140 ∨ tok b n B = 7) (hd6 : d = 6) : ∃ (ok : Bool) (B' s' : Int) (g' : Int → Int), Fct b n B s g ok B' s' g' A ∧
  (∀ (dp : Nat), 1 ≤ dp → ∀ (S : xH) (m : Nat → Int → Int) (q : Nat → Int → Int64) (L : Int), Sk S → CPs m b n B s g L → ∃ m', De (fun k => F_X3_readEither k dp 1 [.ref 1, .int (J d)] (hp S m q)) (.inl (some (.int (J (bI ok))))) (hp S m' q) ∧ CRes m m' b n L ok B' s' g') ∧
  (∀ (dp : Nat), 1 ≤ dp → ∀ (S : xH) (m : Nat → Int → Int) (q : Nat → Int → Int64), Sk S → RPs m b n B s g d → ∃ m', De (fun k => F_X11_readCond k dp 2 [.ref 136] (hp S m q)) (.inl (some (.int (J (bI ok))))) (hp S m' q) ∧ RRes m m' b n d ok B' s' g') := by
  have h1 := hB.1
  refine ⟨false, B, s, g, ⟨fun z => absurd z (by decide), fun _ => ⟨h1.1, h1.2.1⟩⟩, fun dp hd S m q L hs h => ?_, fun dp hd S m q hs h => ?_⟩
  · obtain ⟨dp, rfl⟩ : ∃ e, dp = e + 1 := ⟨dp - 1, by omega⟩
    have tk := h.tk
    obtain ⟨DX, CR⟩ := c_failR (q := q) (s' := s) (g' := g) hs h
    refine ⟨up m 1 3 B, ?_, CR⟩
    have D34 : ∀ (x : Int32) (u : Nat → Nat), De (fun k => g_X3_readAtom (F_X3_readEither (u k) dp) k 34 [.ref 1, .int (J d), .int x] (hp S m q)) (.inl (some (.int (J (bI false))))) (hp S (up m 1 3 B) q) := by
      intro x u
      refine De.step ?_
      simp only [j_X3_readAtom_34]
      simp (disch := omega) only [b_X3_readAtom_34, x1_k hs, x1_r0 hs, x1_r1 hs, x1_i2 hs, x1_w2 hs, x1_i3 hs, x1_w3 hs, x1_i4 hs, x1_w4 hs, x1_i5 hs, x1_w5 hs, x1_i6 hs, x1_w6 hs, x1_i7 hs, x1_w7 hs, Option.bind_some, xI, xU, xUt, xIt, J_lit, J_add, J_sub, J_mul, J_neg, J_ltc, J_lec, J_eqc, lt_T, lt_F, le_T, le_F, eq_T, eq_F, ↓reduceIte, ite_not, not_true_eq_false, not_false_eq_true, true_or, or_true, false_or, or_false, true_and, and_true, false_and, and_false, up_get, Nat.reduceEqDiff, Int.reduceNeg, eqN_T, eqN_F]
      refine De.call DX ?_
      simp (disch := omega) only [bI_f, Option.bind_some, xI, xU, xUt, xIt, J_lit, J_add, J_sub, J_mul, J_neg, J_ltc, J_lec, J_eqc, lt_T, lt_F, le_T, le_F, eq_T, eq_F, ↓reduceIte, ite_not, not_true_eq_false, not_false_eq_true, true_or, or_true, false_or, or_false, true_and, and_true, false_and, and_false, up_get, Nat.reduceEqDiff, Int.reduceNeg, eqN_T, eqN_F]
      exact De.ret _ _
    simp only [FqA]
    rcases c with z | z
    · refine De.step ?_
      simp only [j_X3_readAtom_0]
      simp (disch := omega) only [b_X3_readAtom_0, x1_k hs, x1_r0 hs, x1_r1 hs, x1_i2 hs, x1_w2 hs, x1_i3 hs, x1_w3 hs, x1_i4 hs, x1_w4 hs, x1_i5 hs, x1_w5 hs, x1_i6 hs, x1_w6 hs, x1_i7 hs, x1_w7 hs, tk.1, z, Option.bind_some, xI, xU, xUt, xIt, J_lit, J_add, J_sub, J_mul, J_neg, J_ltc, J_lec, J_eqc, lt_T, lt_F, le_T, le_F, eq_T, eq_F, ↓reduceIte, ite_not, not_true_eq_false, not_false_eq_true, true_or, or_true, false_or, or_false, true_and, and_true, false_and, and_false, up_get, Nat.reduceEqDiff, Int.reduceNeg, eqN_T, eqN_F]
      refine De.step ?_
      simp only [j_X3_readAtom_15]
      simp (disch := omega) only [b_X3_readAtom_15, x1_k hs, x1_r0 hs, x1_r1 hs, x1_i2 hs, x1_w2 hs, x1_i3 hs, x1_w3 hs, x1_i4 hs, x1_w4 hs, x1_i5 hs, x1_w5 hs, x1_i6 hs, x1_w6 hs, x1_i7 hs, x1_w7 hs, tk.1, z, Option.bind_some, xI, xU, xUt, xIt, J_lit, J_add, J_sub, J_mul, J_neg, J_ltc, J_lec, J_eqc, lt_T, lt_F, le_T, le_F, eq_T, eq_F, ↓reduceIte, ite_not, not_true_eq_false, not_false_eq_true, true_or, or_true, false_or, or_false, true_and, and_true, false_and, and_false, up_get, Nat.reduceEqDiff, Int.reduceNeg, eqN_T, eqN_F]
      exact D34 _ (fun k => k + 1 + 1)
    · refine De.step ?_
      simp only [j_X3_readAtom_0]
      simp (disch := omega) only [b_X3_readAtom_0, x1_k hs, x1_r0 hs, x1_r1 hs, x1_i2 hs, x1_w2 hs, x1_i3 hs, x1_w3 hs, x1_i4 hs, x1_w4 hs, x1_i5 hs, x1_w5 hs, x1_i6 hs, x1_w6 hs, x1_i7 hs, x1_w7 hs, tk.1, z, Option.bind_some, xI, xU, xUt, xIt, J_lit, J_add, J_sub, J_mul, J_neg, J_ltc, J_lec, J_eqc, lt_T, lt_F, le_T, le_F, eq_T, eq_F, ↓reduceIte, ite_not, not_true_eq_false, not_false_eq_true, true_or, or_true, false_or, or_false, true_and, and_true, false_and, and_false, up_get, Nat.reduceEqDiff, Int.reduceNeg, eqN_T, eqN_F]
      refine De.step ?_
      simp only [j_X3_readAtom_15]
      simp (disch := omega) only [b_X3_readAtom_15, x1_k hs, x1_r0 hs, x1_r1 hs, x1_i2 hs, x1_w2 hs, x1_i3 hs, x1_w3 hs, x1_i4 hs, x1_w4 hs, x1_i5 hs, x1_w5 hs, x1_i6 hs, x1_w6 hs, x1_i7 hs, x1_w7 hs, tk.1, z, Option.bind_some, xI, xU, xUt, xIt, J_lit, J_add, J_sub, J_mul, J_neg, J_ltc, J_lec, J_eqc, lt_T, lt_F, le_T, le_F, eq_T, eq_F, ↓reduceIte, ite_not, not_true_eq_false, not_false_eq_true, true_or, or_true, false_or, or_false, true_and, and_true, false_and, and_false, up_get, Nat.reduceEqDiff, Int.reduceNeg, eqN_T, eqN_F]
      exact D34 _ (fun k => k + 1 + 1)
  · obtain ⟨dp, rfl⟩ : ∃ e, dp = e + 1 := ⟨dp - 1, by omega⟩
    have h13 : m 136 13 = 6 := h.2.1.trans hd6
    obtain ⟨ma, Da, RPa, Ba, Fa⟩ := r_sign (q := q) (c := 40) hs hB h (by decide) (by decide) (by decide)
    simp only [FqMA]
    rcases c with z | z
    · rw [if_pos (show tok b n B = 100 + 40 by omega)] at Da
      have a13 : ma 136 13 = 6 := (Fa 136 13 (by omega)).trans h13
      refine ⟨ma, ?_, Fa.r, fun z => absurd z (by decide), fun _ => Ba⟩
      refine De.step ?_
      simp only [j_X11_readAtom_0, ra_0 _ _ _ _ (x136_k hs), J_lit]
      refine De.call Da ?_
      simp (disch := omega) only [ra2, x136_k hs, x136_i0 hs, x136_w0 hs, x136_r1 hs, x136_r2 hs, x136_r3 hs, x136_r4 hs, x136_i5 hs, x136_w5 hs, x136_i6 hs, x136_w6 hs, x136_i7 hs, x136_w7 hs, x136_r8 hs, x136_i9 hs, x136_w9 hs, x136_i10 hs, x136_w10 hs, x136_i11 hs, x136_w11 hs, x136_i12 hs, x136_w12 hs, x136_i13 hs, x136_w13 hs, x136_i14 hs, x136_w14 hs, x136_r15 hs, x136_i16 hs, x136_w16 hs, x136_r17 hs, x136_r18 hs, x136_r19 hs, x136_r20 hs, x136_r21 hs, x136_i22 hs, x136_w22 hs, x136_r23 hs, x136_r24 hs, x136_i25 hs, x136_w25 hs, x136_i26 hs, x136_w26 hs, x136_r27 hs, x136_r28 hs, x136_i29 hs, x136_w29 hs, a13, bI_f, Option.bind_some, xI, xU, xUt, xIt, J_lit, J_add, J_sub, J_mul, J_neg, J_ltc, J_lec, J_eqc, lt_T, lt_F, le_T, le_F, eq_T, eq_F, ↓reduceIte, ite_not, not_true_eq_false, not_false_eq_true, true_or, or_true, false_or, or_false, true_and, and_true, false_and, and_false, up_get, Nat.reduceEqDiff, Int.reduceNeg, eqN_T, eqN_F]
      exact De.ret _ _
    · rw [if_neg (show ¬ tok b n B = 100 + 40 by omega)] at Da RPa
      obtain ⟨mb, Db, RPb, Bb, Fb⟩ := r_passes (q := q) (t := 11 + 1) hs hB RPa 7 (by decide) rfl
      rw [if_pos (show tok b n B = ((7 : Nat) : Int) by omega)] at Db
      have a13 : mb 136 13 = 6 := (Fb 136 13 (by omega)).trans ((Fa 136 13 (by omega)).trans h13)
      refine ⟨mb, ?_, Fa.r.tr Fb.r, fun z => absurd z (by decide), fun _ => Bb⟩
      refine De.step ?_
      simp only [j_X11_readAtom_0, ra_0 _ _ _ _ (x136_k hs), J_lit]
      refine De.call Da ?_
      simp (disch := omega) only [ra1, x136_k hs, x136_i0 hs, x136_w0 hs, x136_r1 hs, x136_r2 hs, x136_r3 hs, x136_r4 hs, x136_i5 hs, x136_w5 hs, x136_i6 hs, x136_w6 hs, x136_i7 hs, x136_w7 hs, x136_r8 hs, x136_i9 hs, x136_w9 hs, x136_i10 hs, x136_w10 hs, x136_i11 hs, x136_w11 hs, x136_i12 hs, x136_w12 hs, x136_i13 hs, x136_w13 hs, x136_i14 hs, x136_w14 hs, x136_r15 hs, x136_i16 hs, x136_w16 hs, x136_r17 hs, x136_r18 hs, x136_r19 hs, x136_r20 hs, x136_r21 hs, x136_i22 hs, x136_w22 hs, x136_r23 hs, x136_r24 hs, x136_i25 hs, x136_w25 hs, x136_i26 hs, x136_w26 hs, x136_r27 hs, x136_r28 hs, x136_i29 hs, x136_w29 hs, Option.bind_some, xI, xU, xUt, xIt, J_lit, J_add, J_sub, J_mul, J_neg, J_ltc, J_lec, J_eqc, lt_T, lt_F, le_T, le_F, eq_T, eq_F, ↓reduceIte, ite_not, not_true_eq_false, not_false_eq_true, true_or, or_true, false_or, or_false, true_and, and_true, false_and, and_false, up_get, Nat.reduceEqDiff, Int.reduceNeg, eqN_T, eqN_F]
      refine De.call Db ?_
      simp (disch := omega) only [ra4, x136_k hs, x136_i0 hs, x136_w0 hs, x136_r1 hs, x136_r2 hs, x136_r3 hs, x136_r4 hs, x136_i5 hs, x136_w5 hs, x136_i6 hs, x136_w6 hs, x136_i7 hs, x136_w7 hs, x136_r8 hs, x136_i9 hs, x136_w9 hs, x136_i10 hs, x136_w10 hs, x136_i11 hs, x136_w11 hs, x136_i12 hs, x136_w12 hs, x136_i13 hs, x136_w13 hs, x136_i14 hs, x136_w14 hs, x136_r15 hs, x136_i16 hs, x136_w16 hs, x136_r17 hs, x136_r18 hs, x136_r19 hs, x136_r20 hs, x136_r21 hs, x136_i22 hs, x136_w22 hs, x136_r23 hs, x136_r24 hs, x136_i25 hs, x136_w25 hs, x136_i26 hs, x136_w26 hs, x136_r27 hs, x136_r28 hs, x136_i29 hs, x136_w29 hs, a13, bI_f, Option.bind_some, xI, xU, xUt, xIt, J_lit, J_add, J_sub, J_mul, J_neg, J_ltc, J_lec, J_eqc, lt_T, lt_F, le_T, le_F, eq_T, eq_F, ↓reduceIte, ite_not, not_true_eq_false, not_false_eq_true, true_or, or_true, false_or, or_false, true_and, and_true, false_and, and_false, up_get, Nat.reduceEqDiff, Int.reduceNeg, eqN_T, eqN_F]
      exact De.ret _ _
theorem at_paren (hB : Bok b n B) (s0 : 0 ≤ s) (s2 : 2 * s ≤ B) (c : tok b n B = 140) (d0 : 0 ≤ d) (d6 : d < 6) {E : Int} (EA : E ≤ A) (PE : PEi b n (d + 1) E) : ∃ (ok : Bool) (B' s' : Int) (g' : Int → Int), Fct b n B s g ok B' s' g' A ∧
  (∀ (dp : Nat), 2 * (6 - d) + 1 ≤ dp → ∀ (S : xH) (m : Nat → Int → Int) (q : Nat → Int → Int64) (L : Int), Sk S → CPs m b n B s g L → ∃ m', De (fun k => F_X3_readEither k dp 1 [.ref 1, .int (J d)] (hp S m q)) (.inl (some (.int (J (bI ok))))) (hp S m' q) ∧ CRes m m' b n L ok B' s' g') ∧
  (∀ (dp : Nat), 3 * (6 - d) + 1 ≤ dp → ∀ (S : xH) (m : Nat → Int → Int) (q : Nat → Int → Int64), Sk S → RPs m b n B s g d → ∃ m', De (fun k => F_X11_readCond k dp 2 [.ref 136] (hp S m q)) (.inl (some (.int (J (bI ok))))) (hp S m' q) ∧ RRes m m' b n d ok B' s' g') := by
  have lt := tok_lt (show tok b n B ≠ 21 by omega)
  have h1 := hB.1
  obtain ⟨hB1, x1, x2⟩ := hB.nx lt
  obtain ⟨ok, B2, s3, g3, FC, CL, RE⟩ := PE (nxB b n B) s g hB1 s0 (by omega)
  have CC : ∀ (dp : Nat), 2 * (6 - d) + 1 ≤ (dp + 1 : Nat) → ∀ (S : xH) (m : Nat → Int → Int) (q : Nat → Int → Int64) (L : Int), Sk S → CPs m b n B s g L → ∃ m2, CRes m m2 b n L ok B2 s3 g3 ∧ ∃ m1, De (fun k => f_X3_next k 0 [.ref 1] (hp S m q)) (.inl none) (hp S m1 q) ∧ De (fun k => F_X3_readEither k dp 0 [.ref 1, .int (J (d + 1))] (hp S m1 q)) (.inl (some (.int (J (bI ok))))) (hp S m2 q) := by
    intro dp hd S m q L hs h
    obtain ⟨m1, D1, C1, F1⟩ := c_next (q := q) hs hB h lt
    obtain ⟨m2, D2, F2, t2, f2⟩ := CL dp (by omega) S m1 q L hs C1
    exact ⟨m2, ⟨F1.p.tr F2, fun z => ⟨(t2 z).1, (t2 z).2.trans (F1 1 3 (by omega))⟩, f2⟩, m1, D1, D2⟩
  have RR : ∀ (dp : Nat), 3 * (6 - d) + 1 ≤ (dp + 1 : Nat) → ∀ (S : xH) (m : Nat → Int → Int) (q : Nat → Int → Int64), Sk S → RPs m b n B s g d → ∃ m1, De (fun k => f_X11_sign k 0 [.ref 136, .int (J 40)] (hp S m q)) (.inl (some (.int (J 1)))) (hp S m1 q) ∧ m1 136 13 = d ∧ ∃ m2, De (fun k => F_X11_readCond k dp 0 [.ref 136] (hp S (up m1 136 13 (d + 1)) q)) (.inl (some (.int (J (bI ok))))) (hp S m2 q) ∧ RRes m m2 b n (d + 1) ok B2 s3 g3 := by
    intro dp hd S m q hs h
    obtain ⟨ma, Da, RPa, Ba, Fa⟩ := r_sign (q := q) (c := 40) hs hB h (by decide) (by decide) (by decide)
    rw [if_pos (show tok b n B = 100 + 40 by omega)] at Da RPa
    obtain ⟨m2, D2, F2, t2, f2⟩ := RE dp (by omega) S _ q hs (RPa.dp (d + 1))
    exact ⟨ma, Da, RPa.2.1, m2, D2, Fa.r.tr (FrRe.u13.tr F2), t2, f2⟩
  cases ok with
  | false =>
    refine ⟨false, B2, s3, g3, ⟨fun z => absurd z (by decide), FC.2⟩, fun dp hd S m q L hs h => ?_, fun dp hd S m q hs h => ?_⟩
    · obtain ⟨dp, rfl⟩ : ∃ e, dp = e + 1 := ⟨dp - 1, by omega⟩
      have tk := h.tk
      obtain ⟨m2, R2, m1, D1, D2⟩ := CC dp hd S m q L hs h
      refine ⟨m2, ?_, R2⟩
      simp only [FqA]
      refine De.step ?_
      simp only [j_X3_readAtom_0]
      simp (disch := omega) only [b_X3_readAtom_0, x1_k hs, x1_r0 hs, x1_r1 hs, x1_i2 hs, x1_w2 hs, x1_i3 hs, x1_w3 hs, x1_i4 hs, x1_w4 hs, x1_i5 hs, x1_w5 hs, x1_i6 hs, x1_w6 hs, x1_i7 hs, x1_w7 hs, tk.1, c, Option.bind_some, xI, xU, xUt, xIt, J_lit, J_add, J_sub, J_mul, J_neg, J_ltc, J_lec, J_eqc, lt_T, lt_F, le_T, le_F, eq_T, eq_F, ↓reduceIte, ite_not, not_true_eq_false, not_false_eq_true, true_or, or_true, false_or, or_false, true_and, and_true, false_and, and_false, up_get, Nat.reduceEqDiff, Int.reduceNeg, eqN_T, eqN_F]
      refine De.step ?_
      simp only [j_X3_readAtom_15]
      simp (disch := omega) only [b_X3_readAtom_15, x1_k hs, x1_r0 hs, x1_r1 hs, x1_i2 hs, x1_w2 hs, x1_i3 hs, x1_w3 hs, x1_i4 hs, x1_w4 hs, x1_i5 hs, x1_w5 hs, x1_i6 hs, x1_w6 hs, x1_i7 hs, x1_w7 hs, tk.1, c, Option.bind_some, xI, xU, xUt, xIt, J_lit, J_add, J_sub, J_mul, J_neg, J_ltc, J_lec, J_eqc, lt_T, lt_F, le_T, le_F, eq_T, eq_F, ↓reduceIte, ite_not, not_true_eq_false, not_false_eq_true, true_or, or_true, false_or, or_false, true_and, and_true, false_and, and_false, up_get, Nat.reduceEqDiff, Int.reduceNeg, eqN_T, eqN_F]
      refine De.step ?_
      simp only [j_X3_readAtom_34]
      simp (disch := omega) only [b_X3_readAtom_34, x1_k hs, x1_r0 hs, x1_r1 hs, x1_i2 hs, x1_w2 hs, x1_i3 hs, x1_w3 hs, x1_i4 hs, x1_w4 hs, x1_i5 hs, x1_w5 hs, x1_i6 hs, x1_w6 hs, x1_i7 hs, x1_w7 hs, Option.bind_some, xI, xU, xUt, xIt, J_lit, J_add, J_sub, J_mul, J_neg, J_ltc, J_lec, J_eqc, lt_T, lt_F, le_T, le_F, eq_T, eq_F, ↓reduceIte, ite_not, not_true_eq_false, not_false_eq_true, true_or, or_true, false_or, or_false, true_and, and_true, false_and, and_false, up_get, Nat.reduceEqDiff, Int.reduceNeg, eqN_T, eqN_F]
      refine De.call D1 ?_
      simp (disch := omega) only [x1_k hs, x1_r0 hs, x1_r1 hs, x1_i2 hs, x1_w2 hs, x1_i3 hs, x1_w3 hs, x1_i4 hs, x1_w4 hs, x1_i5 hs, x1_w5 hs, x1_i6 hs, x1_w6 hs, x1_i7 hs, x1_w7 hs, Option.bind_some, xI, xU, xUt, xIt, J_lit, J_add, J_sub, J_mul, J_neg, J_ltc, J_lec, J_eqc, lt_T, lt_F, le_T, le_F, eq_T, eq_F, ↓reduceIte, ite_not, not_true_eq_false, not_false_eq_true, true_or, or_true, false_or, or_false, true_and, and_true, false_and, and_false, up_get, Nat.reduceEqDiff, Int.reduceNeg, eqN_T, eqN_F]
      refine De.call (De.at (fun k => k + 1 + 1 + 1) (fun k => by omega) D2) ?_
      simp (disch := omega) only [bI_f, Option.bind_some, xI, xU, xUt, xIt, J_lit, J_add, J_sub, J_mul, J_neg, J_ltc, J_lec, J_eqc, lt_T, lt_F, le_T, le_F, eq_T, eq_F, ↓reduceIte, ite_not, not_true_eq_false, not_false_eq_true, true_or, or_true, false_or, or_false, true_and, and_true, false_and, and_false, up_get, Nat.reduceEqDiff, Int.reduceNeg, eqN_T, eqN_F]
      exact De.ret _ _
    · obtain ⟨dp, rfl⟩ : ∃ e, dp = e + 1 := ⟨dp - 1, by omega⟩
      obtain ⟨m1, D1, h13, m2, D2, R2⟩ := RR dp hd S m q hs h
      refine ⟨m2, ?_, R2.1, fun z => absurd z (by decide), R2.2.2⟩
      simp only [FqMA]
      refine De.step ?_
      simp only [j_X11_readAtom_0, ra_0 _ _ _ _ (x136_k hs), J_lit]
      refine De.call D1 ?_
      simp (disch := omega) only [ra2, x136_k hs, x136_i0 hs, x136_w0 hs, x136_r1 hs, x136_r2 hs, x136_r3 hs, x136_r4 hs, x136_i5 hs, x136_w5 hs, x136_i6 hs, x136_w6 hs, x136_i7 hs, x136_w7 hs, x136_r8 hs, x136_i9 hs, x136_w9 hs, x136_i10 hs, x136_w10 hs, x136_i11 hs, x136_w11 hs, x136_i12 hs, x136_w12 hs, x136_i13 hs, x136_w13 hs, x136_i14 hs, x136_w14 hs, x136_r15 hs, x136_i16 hs, x136_w16 hs, x136_r17 hs, x136_r18 hs, x136_r19 hs, x136_r20 hs, x136_r21 hs, x136_i22 hs, x136_w22 hs, x136_r23 hs, x136_r24 hs, x136_i25 hs, x136_w25 hs, x136_i26 hs, x136_w26 hs, x136_r27 hs, x136_r28 hs, x136_i29 hs, x136_w29 hs, h13, Option.bind_some, xI, xU, xUt, xIt, J_lit, J_add, J_sub, J_mul, J_neg, J_ltc, J_lec, J_eqc, lt_T, lt_F, le_T, le_F, eq_T, eq_F, ↓reduceIte, ite_not, not_true_eq_false, not_false_eq_true, true_or, or_true, false_or, or_false, true_and, and_true, false_and, and_false, up_get, Nat.reduceEqDiff, Int.reduceNeg, eqN_T, eqN_F]
      refine De.call (De.at (fun k => k + 1) (fun k => by omega) D2) ?_
      simp (disch := omega) only [bI_f, Option.bind_some, xI, xU, xUt, xIt, J_lit, J_add, J_sub, J_mul, J_neg, J_ltc, J_lec, J_eqc, lt_T, lt_F, le_T, le_F, eq_T, eq_F, ↓reduceIte, ite_not, not_true_eq_false, not_false_eq_true, true_or, or_true, false_or, or_false, true_and, and_true, false_and, and_false, up_get, Nat.reduceEqDiff, Int.reduceNeg, eqN_T, eqN_F]
      exact De.ret _ _
  | true =>
    obtain ⟨hB2, y1, y2, y3, y4, y5⟩ := FC.1 rfl
    have tr2 := tok_rng hB2
    by_cases cp : tok b n B2 = 141
    · have lt2 := tok_lt (show tok b n B2 ≠ 21 by omega)
      obtain ⟨hB3, z1, z2⟩ := hB2.nx lt2
      refine ⟨true, nxB b n B2, s3, g3, ⟨fun _ => ⟨hB3, by omega, y2, by omega, y4, y5.mono EA⟩, fun z => absurd z (by decide)⟩, fun dp hd S m q L hs h => ?_, fun dp hd S m q hs h => ?_⟩
      · obtain ⟨dp, rfl⟩ : ∃ e, dp = e + 1 := ⟨dp - 1, by omega⟩
        have tk := h.tk
        obtain ⟨m2, R2, m1, D1, D2⟩ := CC dp hd S m q L hs h
        obtain ⟨C2, w2⟩ := R2.2.1 rfl
        have tk2 := C2.tk
        obtain ⟨m3, D3, C3, F3⟩ := c_next (q := q) hs hB2 C2 lt2
        refine ⟨m3, ?_, R2.1.tr F3.p, fun _ => ⟨C3, (F3 1 3 (by omega)).trans w2⟩, fun z => absurd z (by decide)⟩
        simp only [FqA]
        refine De.step ?_
        simp only [j_X3_readAtom_0]
        simp (disch := omega) only [b_X3_readAtom_0, x1_k hs, x1_r0 hs, x1_r1 hs, x1_i2 hs, x1_w2 hs, x1_i3 hs, x1_w3 hs, x1_i4 hs, x1_w4 hs, x1_i5 hs, x1_w5 hs, x1_i6 hs, x1_w6 hs, x1_i7 hs, x1_w7 hs, tk.1, c, Option.bind_some, xI, xU, xUt, xIt, J_lit, J_add, J_sub, J_mul, J_neg, J_ltc, J_lec, J_eqc, lt_T, lt_F, le_T, le_F, eq_T, eq_F, ↓reduceIte, ite_not, not_true_eq_false, not_false_eq_true, true_or, or_true, false_or, or_false, true_and, and_true, false_and, and_false, up_get, Nat.reduceEqDiff, Int.reduceNeg, eqN_T, eqN_F]
        refine De.step ?_
        simp only [j_X3_readAtom_15]
        simp (disch := omega) only [b_X3_readAtom_15, x1_k hs, x1_r0 hs, x1_r1 hs, x1_i2 hs, x1_w2 hs, x1_i3 hs, x1_w3 hs, x1_i4 hs, x1_w4 hs, x1_i5 hs, x1_w5 hs, x1_i6 hs, x1_w6 hs, x1_i7 hs, x1_w7 hs, tk.1, c, Option.bind_some, xI, xU, xUt, xIt, J_lit, J_add, J_sub, J_mul, J_neg, J_ltc, J_lec, J_eqc, lt_T, lt_F, le_T, le_F, eq_T, eq_F, ↓reduceIte, ite_not, not_true_eq_false, not_false_eq_true, true_or, or_true, false_or, or_false, true_and, and_true, false_and, and_false, up_get, Nat.reduceEqDiff, Int.reduceNeg, eqN_T, eqN_F]
        refine De.step ?_
        simp only [j_X3_readAtom_34]
        simp (disch := omega) only [b_X3_readAtom_34, x1_k hs, x1_r0 hs, x1_r1 hs, x1_i2 hs, x1_w2 hs, x1_i3 hs, x1_w3 hs, x1_i4 hs, x1_w4 hs, x1_i5 hs, x1_w5 hs, x1_i6 hs, x1_w6 hs, x1_i7 hs, x1_w7 hs, Option.bind_some, xI, xU, xUt, xIt, J_lit, J_add, J_sub, J_mul, J_neg, J_ltc, J_lec, J_eqc, lt_T, lt_F, le_T, le_F, eq_T, eq_F, ↓reduceIte, ite_not, not_true_eq_false, not_false_eq_true, true_or, or_true, false_or, or_false, true_and, and_true, false_and, and_false, up_get, Nat.reduceEqDiff, Int.reduceNeg, eqN_T, eqN_F]
        refine De.call D1 ?_
        simp (disch := omega) only [x1_k hs, x1_r0 hs, x1_r1 hs, x1_i2 hs, x1_w2 hs, x1_i3 hs, x1_w3 hs, x1_i4 hs, x1_w4 hs, x1_i5 hs, x1_w5 hs, x1_i6 hs, x1_w6 hs, x1_i7 hs, x1_w7 hs, Option.bind_some, xI, xU, xUt, xIt, J_lit, J_add, J_sub, J_mul, J_neg, J_ltc, J_lec, J_eqc, lt_T, lt_F, le_T, le_F, eq_T, eq_F, ↓reduceIte, ite_not, not_true_eq_false, not_false_eq_true, true_or, or_true, false_or, or_false, true_and, and_true, false_and, and_false, up_get, Nat.reduceEqDiff, Int.reduceNeg, eqN_T, eqN_F]
        refine De.call (De.at (fun k => k + 1 + 1 + 1) (fun k => by omega) D2) ?_
        simp (disch := omega) only [bI_t, x1_k hs, x1_r0 hs, x1_r1 hs, x1_i2 hs, x1_w2 hs, x1_i3 hs, x1_w3 hs, x1_i4 hs, x1_w4 hs, x1_i5 hs, x1_w5 hs, x1_i6 hs, x1_w6 hs, x1_i7 hs, x1_w7 hs, tk2.1, cp, Option.bind_some, xI, xU, xUt, xIt, J_lit, J_add, J_sub, J_mul, J_neg, J_ltc, J_lec, J_eqc, lt_T, lt_F, le_T, le_F, eq_T, eq_F, ↓reduceIte, ite_not, not_true_eq_false, not_false_eq_true, true_or, or_true, false_or, or_false, true_and, and_true, false_and, and_false, up_get, Nat.reduceEqDiff, Int.reduceNeg, eqN_T, eqN_F]
        refine De.call D3 ?_
        simp (disch := omega) only [Option.bind_some, xI, xU, xUt, xIt, J_lit, J_add, J_sub, J_mul, J_neg, J_ltc, J_lec, J_eqc, lt_T, lt_F, le_T, le_F, eq_T, eq_F, ↓reduceIte, ite_not, not_true_eq_false, not_false_eq_true, true_or, or_true, false_or, or_false, true_and, and_true, false_and, and_false, up_get, Nat.reduceEqDiff, Int.reduceNeg, eqN_T, eqN_F]
        exact De.ret _ _
      · obtain ⟨dp, rfl⟩ : ∃ e, dp = e + 1 := ⟨dp - 1, by omega⟩
        obtain ⟨m1, D1, h13, m2, D2, R2⟩ := RR dp hd S m q hs h
        have RP2 := R2.2.1 rfl
        have k13 : m2 136 13 = d + 1 := RP2.2.1
        have RP3 := RP2.dp d
        obtain ⟨m3, D3, RP4, B3, F3⟩ := r_sign (q := q) (c := 41) hs hB2 RP3 (by decide) (by decide) (by decide)
        rw [if_pos (show tok b n B2 = 100 + 41 by omega)] at D3 RP4
        refine ⟨m3, ?_, R2.1.tr (FrRe.u13.tr F3.r), fun _ => RP4, fun z => absurd z (by decide)⟩
        have ed : d + 1 - 1 = d := by omega
        simp only [FqMA]
        refine De.step ?_
        simp only [j_X11_readAtom_0, ra_0 _ _ _ _ (x136_k hs), J_lit]
        refine De.call D1 ?_
        simp (disch := omega) only [ra2, x136_k hs, x136_i0 hs, x136_w0 hs, x136_r1 hs, x136_r2 hs, x136_r3 hs, x136_r4 hs, x136_i5 hs, x136_w5 hs, x136_i6 hs, x136_w6 hs, x136_i7 hs, x136_w7 hs, x136_r8 hs, x136_i9 hs, x136_w9 hs, x136_i10 hs, x136_w10 hs, x136_i11 hs, x136_w11 hs, x136_i12 hs, x136_w12 hs, x136_i13 hs, x136_w13 hs, x136_i14 hs, x136_w14 hs, x136_r15 hs, x136_i16 hs, x136_w16 hs, x136_r17 hs, x136_r18 hs, x136_r19 hs, x136_r20 hs, x136_r21 hs, x136_i22 hs, x136_w22 hs, x136_r23 hs, x136_r24 hs, x136_i25 hs, x136_w25 hs, x136_i26 hs, x136_w26 hs, x136_r27 hs, x136_r28 hs, x136_i29 hs, x136_w29 hs, h13, Option.bind_some, xI, xU, xUt, xIt, J_lit, J_add, J_sub, J_mul, J_neg, J_ltc, J_lec, J_eqc, lt_T, lt_F, le_T, le_F, eq_T, eq_F, ↓reduceIte, ite_not, not_true_eq_false, not_false_eq_true, true_or, or_true, false_or, or_false, true_and, and_true, false_and, and_false, up_get, Nat.reduceEqDiff, Int.reduceNeg, eqN_T, eqN_F]
        refine De.call (De.at (fun k => k + 1) (fun k => by omega) D2) ?_
        simp (disch := omega) only [bI_t, x136_k hs, x136_i0 hs, x136_w0 hs, x136_r1 hs, x136_r2 hs, x136_r3 hs, x136_r4 hs, x136_i5 hs, x136_w5 hs, x136_i6 hs, x136_w6 hs, x136_i7 hs, x136_w7 hs, x136_r8 hs, x136_i9 hs, x136_w9 hs, x136_i10 hs, x136_w10 hs, x136_i11 hs, x136_w11 hs, x136_i12 hs, x136_w12 hs, x136_i13 hs, x136_w13 hs, x136_i14 hs, x136_w14 hs, x136_r15 hs, x136_i16 hs, x136_w16 hs, x136_r17 hs, x136_r18 hs, x136_r19 hs, x136_r20 hs, x136_r21 hs, x136_i22 hs, x136_w22 hs, x136_r23 hs, x136_r24 hs, x136_i25 hs, x136_w25 hs, x136_i26 hs, x136_w26 hs, x136_r27 hs, x136_r28 hs, x136_i29 hs, x136_w29 hs, k13, ed, Option.bind_some, xI, xU, xUt, xIt, J_lit, J_add, J_sub, J_mul, J_neg, J_ltc, J_lec, J_eqc, lt_T, lt_F, le_T, le_F, eq_T, eq_F, ↓reduceIte, ite_not, not_true_eq_false, not_false_eq_true, true_or, or_true, false_or, or_false, true_and, and_true, false_and, and_false, up_get, Nat.reduceEqDiff, Int.reduceNeg, eqN_T, eqN_F]
        refine De.call D3 ?_
        simp (disch := omega) only [Option.bind_some, xI, xU, xUt, xIt, J_lit, J_add, J_sub, J_mul, J_neg, J_ltc, J_lec, J_eqc, lt_T, lt_F, le_T, le_F, eq_T, eq_F, ↓reduceIte, ite_not, not_true_eq_false, not_false_eq_true, true_or, or_true, false_or, or_false, true_and, and_true, false_and, and_false, up_get, Nat.reduceEqDiff, Int.reduceNeg, eqN_T, eqN_F]
        exact De.ret _ _
    · refine ⟨false, B2, s3, g3, ⟨fun z => absurd z (by decide), fun _ => ⟨hB2.1.1, hB2.1.2.1⟩⟩, fun dp hd S m q L hs h => ?_, fun dp hd S m q hs h => ?_⟩
      · obtain ⟨dp, rfl⟩ : ∃ e, dp = e + 1 := ⟨dp - 1, by omega⟩
        have tk := h.tk
        obtain ⟨m2, R2, m1, D1, D2⟩ := CC dp hd S m q L hs h
        obtain ⟨C2, w2⟩ := R2.2.1 rfl
        have tk2 := C2.tk
        obtain ⟨DX, CR⟩ := c_failR (q := q) (s' := s3) (g' := g3) hs C2
        refine ⟨up m2 1 3 B2, ?_, R2.1.tr CR.1, fun z => absurd z (by decide), CR.2.2⟩
        simp only [FqA]
        refine De.step ?_
        simp only [j_X3_readAtom_0]
        simp (disch := omega) only [b_X3_readAtom_0, x1_k hs, x1_r0 hs, x1_r1 hs, x1_i2 hs, x1_w2 hs, x1_i3 hs, x1_w3 hs, x1_i4 hs, x1_w4 hs, x1_i5 hs, x1_w5 hs, x1_i6 hs, x1_w6 hs, x1_i7 hs, x1_w7 hs, tk.1, c, Option.bind_some, xI, xU, xUt, xIt, J_lit, J_add, J_sub, J_mul, J_neg, J_ltc, J_lec, J_eqc, lt_T, lt_F, le_T, le_F, eq_T, eq_F, ↓reduceIte, ite_not, not_true_eq_false, not_false_eq_true, true_or, or_true, false_or, or_false, true_and, and_true, false_and, and_false, up_get, Nat.reduceEqDiff, Int.reduceNeg, eqN_T, eqN_F]
        refine De.step ?_
        simp only [j_X3_readAtom_15]
        simp (disch := omega) only [b_X3_readAtom_15, x1_k hs, x1_r0 hs, x1_r1 hs, x1_i2 hs, x1_w2 hs, x1_i3 hs, x1_w3 hs, x1_i4 hs, x1_w4 hs, x1_i5 hs, x1_w5 hs, x1_i6 hs, x1_w6 hs, x1_i7 hs, x1_w7 hs, tk.1, c, Option.bind_some, xI, xU, xUt, xIt, J_lit, J_add, J_sub, J_mul, J_neg, J_ltc, J_lec, J_eqc, lt_T, lt_F, le_T, le_F, eq_T, eq_F, ↓reduceIte, ite_not, not_true_eq_false, not_false_eq_true, true_or, or_true, false_or, or_false, true_and, and_true, false_and, and_false, up_get, Nat.reduceEqDiff, Int.reduceNeg, eqN_T, eqN_F]
        refine De.step ?_
        simp only [j_X3_readAtom_34]
        simp (disch := omega) only [b_X3_readAtom_34, x1_k hs, x1_r0 hs, x1_r1 hs, x1_i2 hs, x1_w2 hs, x1_i3 hs, x1_w3 hs, x1_i4 hs, x1_w4 hs, x1_i5 hs, x1_w5 hs, x1_i6 hs, x1_w6 hs, x1_i7 hs, x1_w7 hs, Option.bind_some, xI, xU, xUt, xIt, J_lit, J_add, J_sub, J_mul, J_neg, J_ltc, J_lec, J_eqc, lt_T, lt_F, le_T, le_F, eq_T, eq_F, ↓reduceIte, ite_not, not_true_eq_false, not_false_eq_true, true_or, or_true, false_or, or_false, true_and, and_true, false_and, and_false, up_get, Nat.reduceEqDiff, Int.reduceNeg, eqN_T, eqN_F]
        refine De.call D1 ?_
        simp (disch := omega) only [x1_k hs, x1_r0 hs, x1_r1 hs, x1_i2 hs, x1_w2 hs, x1_i3 hs, x1_w3 hs, x1_i4 hs, x1_w4 hs, x1_i5 hs, x1_w5 hs, x1_i6 hs, x1_w6 hs, x1_i7 hs, x1_w7 hs, Option.bind_some, xI, xU, xUt, xIt, J_lit, J_add, J_sub, J_mul, J_neg, J_ltc, J_lec, J_eqc, lt_T, lt_F, le_T, le_F, eq_T, eq_F, ↓reduceIte, ite_not, not_true_eq_false, not_false_eq_true, true_or, or_true, false_or, or_false, true_and, and_true, false_and, and_false, up_get, Nat.reduceEqDiff, Int.reduceNeg, eqN_T, eqN_F]
        refine De.call (De.at (fun k => k + 1 + 1 + 1) (fun k => by omega) D2) ?_
        simp (disch := omega) only [bI_t, bI_f, x1_k hs, x1_r0 hs, x1_r1 hs, x1_i2 hs, x1_w2 hs, x1_i3 hs, x1_w3 hs, x1_i4 hs, x1_w4 hs, x1_i5 hs, x1_w5 hs, x1_i6 hs, x1_w6 hs, x1_i7 hs, x1_w7 hs, tk2.1, Option.bind_some, xI, xU, xUt, xIt, J_lit, J_add, J_sub, J_mul, J_neg, J_ltc, J_lec, J_eqc, lt_T, lt_F, le_T, le_F, eq_T, eq_F, ↓reduceIte, ite_not, not_true_eq_false, not_false_eq_true, true_or, or_true, false_or, or_false, true_and, and_true, false_and, and_false, up_get, Nat.reduceEqDiff, Int.reduceNeg, eqN_T, eqN_F]
        refine De.call DX ?_
        simp (disch := omega) only [Option.bind_some, xI, xU, xUt, xIt, J_lit, J_add, J_sub, J_mul, J_neg, J_ltc, J_lec, J_eqc, lt_T, lt_F, le_T, le_F, eq_T, eq_F, ↓reduceIte, ite_not, not_true_eq_false, not_false_eq_true, true_or, or_true, false_or, or_false, true_and, and_true, false_and, and_false, up_get, Nat.reduceEqDiff, Int.reduceNeg, eqN_T, eqN_F]
        exact De.ret _ _
      · obtain ⟨dp, rfl⟩ : ∃ e, dp = e + 1 := ⟨dp - 1, by omega⟩
        obtain ⟨m1, D1, h13, m2, D2, R2⟩ := RR dp hd S m q hs h
        have RP2 := R2.2.1 rfl
        have k13 : m2 136 13 = d + 1 := RP2.2.1
        have RP3 := RP2.dp d
        obtain ⟨m3, D3, RP4, B3, F3⟩ := r_sign (q := q) (c := 41) hs hB2 RP3 (by decide) (by decide) (by decide)
        rw [if_neg (show ¬ tok b n B2 = 100 + 41 by omega)] at D3
        refine ⟨m3, ?_, R2.1.tr (FrRe.u13.tr F3.r), fun z => absurd z (by decide), fun _ => B3⟩
        have ed : d + 1 - 1 = d := by omega
        simp only [FqMA]
        refine De.step ?_
        simp only [j_X11_readAtom_0, ra_0 _ _ _ _ (x136_k hs), J_lit]
        refine De.call D1 ?_
        simp (disch := omega) only [ra2, x136_k hs, x136_i0 hs, x136_w0 hs, x136_r1 hs, x136_r2 hs, x136_r3 hs, x136_r4 hs, x136_i5 hs, x136_w5 hs, x136_i6 hs, x136_w6 hs, x136_i7 hs, x136_w7 hs, x136_r8 hs, x136_i9 hs, x136_w9 hs, x136_i10 hs, x136_w10 hs, x136_i11 hs, x136_w11 hs, x136_i12 hs, x136_w12 hs, x136_i13 hs, x136_w13 hs, x136_i14 hs, x136_w14 hs, x136_r15 hs, x136_i16 hs, x136_w16 hs, x136_r17 hs, x136_r18 hs, x136_r19 hs, x136_r20 hs, x136_r21 hs, x136_i22 hs, x136_w22 hs, x136_r23 hs, x136_r24 hs, x136_i25 hs, x136_w25 hs, x136_i26 hs, x136_w26 hs, x136_r27 hs, x136_r28 hs, x136_i29 hs, x136_w29 hs, h13, Option.bind_some, xI, xU, xUt, xIt, J_lit, J_add, J_sub, J_mul, J_neg, J_ltc, J_lec, J_eqc, lt_T, lt_F, le_T, le_F, eq_T, eq_F, ↓reduceIte, ite_not, not_true_eq_false, not_false_eq_true, true_or, or_true, false_or, or_false, true_and, and_true, false_and, and_false, up_get, Nat.reduceEqDiff, Int.reduceNeg, eqN_T, eqN_F]
        refine De.call (De.at (fun k => k + 1) (fun k => by omega) D2) ?_
        simp (disch := omega) only [bI_t, bI_f, x136_k hs, x136_i0 hs, x136_w0 hs, x136_r1 hs, x136_r2 hs, x136_r3 hs, x136_r4 hs, x136_i5 hs, x136_w5 hs, x136_i6 hs, x136_w6 hs, x136_i7 hs, x136_w7 hs, x136_r8 hs, x136_i9 hs, x136_w9 hs, x136_i10 hs, x136_w10 hs, x136_i11 hs, x136_w11 hs, x136_i12 hs, x136_w12 hs, x136_i13 hs, x136_w13 hs, x136_i14 hs, x136_w14 hs, x136_r15 hs, x136_i16 hs, x136_w16 hs, x136_r17 hs, x136_r18 hs, x136_r19 hs, x136_r20 hs, x136_r21 hs, x136_i22 hs, x136_w22 hs, x136_r23 hs, x136_r24 hs, x136_i25 hs, x136_w25 hs, x136_i26 hs, x136_w26 hs, x136_r27 hs, x136_r28 hs, x136_i29 hs, x136_w29 hs, k13, ed, Option.bind_some, xI, xU, xUt, xIt, J_lit, J_add, J_sub, J_mul, J_neg, J_ltc, J_lec, J_eqc, lt_T, lt_F, le_T, le_F, eq_T, eq_F, ↓reduceIte, ite_not, not_true_eq_false, not_false_eq_true, true_or, or_true, false_or, or_false, true_and, and_true, false_and, and_false, up_get, Nat.reduceEqDiff, Int.reduceNeg, eqN_T, eqN_F]
        refine De.call D3 ?_
        simp (disch := omega) only [Option.bind_some, xI, xU, xUt, xIt, J_lit, J_add, J_sub, J_mul, J_neg, J_ltc, J_lec, J_eqc, lt_T, lt_F, le_T, le_F, eq_T, eq_F, ↓reduceIte, ite_not, not_true_eq_false, not_false_eq_true, true_or, or_true, false_or, or_false, true_and, and_true, false_and, and_false, up_get, Nat.reduceEqDiff, Int.reduceNeg, eqN_T, eqN_F]
        exact De.ret _ _
theorem at_not (hB : Bok b n B) (s0 : 0 ≤ s) (s2 : 2 * s ≤ B) (c : tok b n B = 7) (d0 : 0 ≤ d) (d6 : d < 6) {E : Int} (EA : E ≤ A) (PA : PAt b n (d + 1) E) : ∃ (ok : Bool) (B' s' : Int) (g' : Int → Int), Fct b n B s g ok B' s' g' A ∧
  (∀ (dp : Nat), 2 * (6 - d) + 1 ≤ dp → ∀ (S : xH) (m : Nat → Int → Int) (q : Nat → Int → Int64) (L : Int), Sk S → CPs m b n B s g L → ∃ m', De (fun k => F_X3_readEither k dp 1 [.ref 1, .int (J d)] (hp S m q)) (.inl (some (.int (J (bI ok))))) (hp S m' q) ∧ CRes m m' b n L ok B' s' g') ∧
  (∀ (dp : Nat), 3 * (6 - d) + 1 ≤ dp → ∀ (S : xH) (m : Nat → Int → Int) (q : Nat → Int → Int64), Sk S → RPs m b n B s g d → ∃ m', De (fun k => F_X11_readCond k dp 2 [.ref 136] (hp S m q)) (.inl (some (.int (J (bI ok))))) (hp S m' q) ∧ RRes m m' b n d ok B' s' g') := by
  have lt := tok_lt (show tok b n B ≠ 21 by omega)
  have h1 := hB.1
  have tw := ten_wd (k := 7) h1.2.1 (by decide) c
  obtain ⟨hB1, x1, x2⟩ := hB.nx lt
  obtain ⟨ok, B2, s3, g3, FC, CL, RE⟩ := PA (nxB b n B) s g hB1 s0 (by omega)
  have CC : ∀ (dp : Nat), 2 * (6 - d) + 1 ≤ (dp + 1 : Nat) → ∀ (S : xH) (m : Nat → Int → Int) (q : Nat → Int → Int64) (L : Int), Sk S → CPs m b n B s g L → ∃ m2, CRes m m2 b n L ok B2 s3 g3 ∧ ∃ m1, De (fun k => f_X3_next k 0 [.ref 1] (hp S m q)) (.inl none) (hp S m1 q) ∧ De (fun k => F_X3_readEither k dp 1 [.ref 1, .int (J (d + 1))] (hp S m1 q)) (.inl (some (.int (J (bI ok))))) (hp S m2 q) := by
    intro dp hd S m q L hs h
    obtain ⟨m1, D1, C1, F1⟩ := c_next (q := q) hs hB h lt
    obtain ⟨m2, D2, F2, t2, f2⟩ := CL dp (by omega) S m1 q L hs C1
    exact ⟨m2, ⟨F1.p.tr F2, fun z => ⟨(t2 z).1, (t2 z).2.trans (F1 1 3 (by omega))⟩, f2⟩, m1, D1, D2⟩
  have RR : ∀ (dp : Nat), 3 * (6 - d) + 1 ≤ (dp + 1 : Nat) → ∀ (S : xH) (m : Nat → Int → Int) (q : Nat → Int → Int64), Sk S → RPs m b n B s g d → ∃ ma mb, De (fun k => f_X11_sign k 0 [.ref 136, .int (J 40)] (hp S m q)) (.inl (some (.int (J 0)))) (hp S ma q) ∧ De (fun k => f_X11_passes k 0 [.ref 136, .retAddr (11 + 1)] (hp S ma q)) (.inl (some (.int (J 1)))) (hp S mb q) ∧ mb 136 13 = d ∧ ∃ m2, De (fun k => F_X11_readCond k dp 2 [.ref 136] (hp S (up mb 136 13 (d + 1)) q)) (.inl (some (.int (J (bI ok))))) (hp S m2 q) ∧ RRes m m2 b n (d + 1) ok B2 s3 g3 := by
    intro dp hd S m q hs h
    obtain ⟨ma, Da, RPa, Ba, Fa⟩ := r_sign (q := q) (c := 40) hs hB h (by decide) (by decide) (by decide)
    rw [if_neg (show ¬ tok b n B = 100 + 40 by omega)] at Da RPa
    obtain ⟨mb, Db, RPb, Bb, Fb⟩ := r_passes (q := q) (t := 11 + 1) hs hB RPa 7 (by decide) rfl
    rw [if_pos (show tok b n B = ((7 : Nat) : Int) by omega)] at Db RPb
    obtain ⟨m2, D2, F2, t2, f2⟩ := RE dp (by omega) S _ q hs (RPb.dp (d + 1))
    exact ⟨ma, mb, Da, Db, RPb.2.1, m2, D2, Fa.r.tr (Fb.r.tr (FrRe.u13.tr F2)), t2, f2⟩
  cases ok with
  | false =>
    refine ⟨false, B2, s3, g3, ⟨fun z => absurd z (by decide), FC.2⟩, fun dp hd S m q L hs h => ?_, fun dp hd S m q hs h => ?_⟩
    · obtain ⟨dp, rfl⟩ : ∃ e, dp = e + 1 := ⟨dp - 1, by omega⟩
      have tk := h.tk
      obtain ⟨m2, R2, m1, D1, D2⟩ := CC dp hd S m q L hs h
      have fl := R2.2.2 rfl
      have L3 : m2 2 3 = L := (R2.1 2 3 (by decide) (by decide) (by decide) (by omega)).trans h.2.2.2.1.1
      obtain ⟨m3, D3, F3, v3, w3⟩ := c_any (q := q) (op := 3) hs L3 h.2.2.2.1.2.1 h.2.2.2.1.2.2 fl.2 (by decide) (by decide)
      refine ⟨m3, ?_, R2.1.tr F3, fun z => absurd z (by decide), fun _ => ⟨(w3 3).trans fl.1, v3⟩⟩
      simp only [FqA]
      refine De.step ?_
      simp only [j_X3_readAtom_0]
      simp (disch := omega) only [b_X3_readAtom_0, x1_k hs, x1_r0 hs, x1_r1 hs, x1_i2 hs, x1_w2 hs, x1_i3 hs, x1_w3 hs, x1_i4 hs, x1_w4 hs, x1_i5 hs, x1_w5 hs, x1_i6 hs, x1_w6 hs, x1_i7 hs, x1_w7 hs, tk.1, c, Option.bind_some, xI, xU, xUt, xIt, J_lit, J_add, J_sub, J_mul, J_neg, J_ltc, J_lec, J_eqc, lt_T, lt_F, le_T, le_F, eq_T, eq_F, ↓reduceIte, ite_not, not_true_eq_false, not_false_eq_true, true_or, or_true, false_or, or_false, true_and, and_true, false_and, and_false, up_get, Nat.reduceEqDiff, Int.reduceNeg, eqN_T, eqN_F]
      refine De.step ?_
      simp only [j_X3_readAtom_15]
      simp (disch := omega) only [b_X3_readAtom_15, x1_k hs, x1_r0 hs, x1_r1 hs, x1_i2 hs, x1_w2 hs, x1_i3 hs, x1_w3 hs, x1_i4 hs, x1_w4 hs, x1_i5 hs, x1_w5 hs, x1_i6 hs, x1_w6 hs, x1_i7 hs, x1_w7 hs, tk.1, c, Option.bind_some, xI, xU, xUt, xIt, J_lit, J_add, J_sub, J_mul, J_neg, J_ltc, J_lec, J_eqc, lt_T, lt_F, le_T, le_F, eq_T, eq_F, ↓reduceIte, ite_not, not_true_eq_false, not_false_eq_true, true_or, or_true, false_or, or_false, true_and, and_true, false_and, and_false, up_get, Nat.reduceEqDiff, Int.reduceNeg, eqN_T, eqN_F]
      refine De.step ?_
      simp only [j_X3_readAtom_34]
      simp (disch := omega) only [b_X3_readAtom_34, x1_k hs, x1_r0 hs, x1_r1 hs, x1_i2 hs, x1_w2 hs, x1_i3 hs, x1_w3 hs, x1_i4 hs, x1_w4 hs, x1_i5 hs, x1_w5 hs, x1_i6 hs, x1_w6 hs, x1_i7 hs, x1_w7 hs, Option.bind_some, xI, xU, xUt, xIt, J_lit, J_add, J_sub, J_mul, J_neg, J_ltc, J_lec, J_eqc, lt_T, lt_F, le_T, le_F, eq_T, eq_F, ↓reduceIte, ite_not, not_true_eq_false, not_false_eq_true, true_or, or_true, false_or, or_false, true_and, and_true, false_and, and_false, up_get, Nat.reduceEqDiff, Int.reduceNeg, eqN_T, eqN_F]
      refine De.call D1 ?_
      simp (disch := omega) only [x1_k hs, x1_r0 hs, x1_r1 hs, x1_i2 hs, x1_w2 hs, x1_i3 hs, x1_w3 hs, x1_i4 hs, x1_w4 hs, x1_i5 hs, x1_w5 hs, x1_i6 hs, x1_w6 hs, x1_i7 hs, x1_w7 hs, Option.bind_some, xI, xU, xUt, xIt, J_lit, J_add, J_sub, J_mul, J_neg, J_ltc, J_lec, J_eqc, lt_T, lt_F, le_T, le_F, eq_T, eq_F, ↓reduceIte, ite_not, not_true_eq_false, not_false_eq_true, true_or, or_true, false_or, or_false, true_and, and_true, false_and, and_false, up_get, Nat.reduceEqDiff, Int.reduceNeg, eqN_T, eqN_F]
      refine De.call (De.at (fun k => k + 1 + 1 + 1) (fun k => by omega) D2) ?_
      simp (disch := omega) only [bI_f, x1_k hs, x1_r0 hs, x1_r1 hs, x1_i2 hs, x1_w2 hs, x1_i3 hs, x1_w3 hs, x1_i4 hs, x1_w4 hs, x1_i5 hs, x1_w5 hs, x1_i6 hs, x1_w6 hs, x1_i7 hs, x1_w7 hs, x2_k hs, x2_r0 hs, x2_r1 hs, x2_r2 hs, x2_i3 hs, x2_w3 hs, x2_r4 hs, x2_i5 hs, x2_w5 hs, x2_r6 hs, x2_i7 hs, x2_w7 hs, Option.bind_some, xI, xU, xUt, xIt, J_lit, J_add, J_sub, J_mul, J_neg, J_ltc, J_lec, J_eqc, lt_T, lt_F, le_T, le_F, eq_T, eq_F, ↓reduceIte, ite_not, not_true_eq_false, not_false_eq_true, true_or, or_true, false_or, or_false, true_and, and_true, false_and, and_false, up_get, Nat.reduceEqDiff, Int.reduceNeg, eqN_T, eqN_F]
      refine De.call D3 ?_
      simp (disch := omega) only [Option.bind_some, xI, xU, xUt, xIt, J_lit, J_add, J_sub, J_mul, J_neg, J_ltc, J_lec, J_eqc, lt_T, lt_F, le_T, le_F, eq_T, eq_F, ↓reduceIte, ite_not, not_true_eq_false, not_false_eq_true, true_or, or_true, false_or, or_false, true_and, and_true, false_and, and_false, up_get, Nat.reduceEqDiff, Int.reduceNeg, eqN_T, eqN_F]
      exact De.ret _ _
    · obtain ⟨dp, rfl⟩ : ∃ e, dp = e + 1 := ⟨dp - 1, by omega⟩
      obtain ⟨ma, mb, Da, Db, h13, m2, D2, R2⟩ := RR dp hd S m q hs h
      refine ⟨m2, ?_, R2.1, fun z => absurd z (by decide), R2.2.2⟩
      simp only [FqMA]
      refine De.step ?_
      simp only [j_X11_readAtom_0, ra_0 _ _ _ _ (x136_k hs), J_lit]
      refine De.call Da ?_
      simp (disch := omega) only [ra1, x136_k hs, x136_i0 hs, x136_w0 hs, x136_r1 hs, x136_r2 hs, x136_r3 hs, x136_r4 hs, x136_i5 hs, x136_w5 hs, x136_i6 hs, x136_w6 hs, x136_i7 hs, x136_w7 hs, x136_r8 hs, x136_i9 hs, x136_w9 hs, x136_i10 hs, x136_w10 hs, x136_i11 hs, x136_w11 hs, x136_i12 hs, x136_w12 hs, x136_i13 hs, x136_w13 hs, x136_i14 hs, x136_w14 hs, x136_r15 hs, x136_i16 hs, x136_w16 hs, x136_r17 hs, x136_r18 hs, x136_r19 hs, x136_r20 hs, x136_r21 hs, x136_i22 hs, x136_w22 hs, x136_r23 hs, x136_r24 hs, x136_i25 hs, x136_w25 hs, x136_i26 hs, x136_w26 hs, x136_r27 hs, x136_r28 hs, x136_i29 hs, x136_w29 hs, Option.bind_some, xI, xU, xUt, xIt, J_lit, J_add, J_sub, J_mul, J_neg, J_ltc, J_lec, J_eqc, lt_T, lt_F, le_T, le_F, eq_T, eq_F, ↓reduceIte, ite_not, not_true_eq_false, not_false_eq_true, true_or, or_true, false_or, or_false, true_and, and_true, false_and, and_false, up_get, Nat.reduceEqDiff, Int.reduceNeg, eqN_T, eqN_F]
      refine De.call Db ?_
      simp (disch := omega) only [ra4, x136_k hs, x136_i0 hs, x136_w0 hs, x136_r1 hs, x136_r2 hs, x136_r3 hs, x136_r4 hs, x136_i5 hs, x136_w5 hs, x136_i6 hs, x136_w6 hs, x136_i7 hs, x136_w7 hs, x136_r8 hs, x136_i9 hs, x136_w9 hs, x136_i10 hs, x136_w10 hs, x136_i11 hs, x136_w11 hs, x136_i12 hs, x136_w12 hs, x136_i13 hs, x136_w13 hs, x136_i14 hs, x136_w14 hs, x136_r15 hs, x136_i16 hs, x136_w16 hs, x136_r17 hs, x136_r18 hs, x136_r19 hs, x136_r20 hs, x136_r21 hs, x136_i22 hs, x136_w22 hs, x136_r23 hs, x136_r24 hs, x136_i25 hs, x136_w25 hs, x136_i26 hs, x136_w26 hs, x136_r27 hs, x136_r28 hs, x136_i29 hs, x136_w29 hs, h13, Option.bind_some, xI, xU, xUt, xIt, J_lit, J_add, J_sub, J_mul, J_neg, J_ltc, J_lec, J_eqc, lt_T, lt_F, le_T, le_F, eq_T, eq_F, ↓reduceIte, ite_not, not_true_eq_false, not_false_eq_true, true_or, or_true, false_or, or_false, true_and, and_true, false_and, and_false, up_get, Nat.reduceEqDiff, Int.reduceNeg, eqN_T, eqN_F]
      refine De.call (De.at (fun k => k + 1) (fun k => by omega) D2) ?_
      simp (disch := omega) only [bI_f, Option.bind_some, xI, xU, xUt, xIt, J_lit, J_add, J_sub, J_mul, J_neg, J_ltc, J_lec, J_eqc, lt_T, lt_F, le_T, le_F, eq_T, eq_F, ↓reduceIte, ite_not, not_true_eq_false, not_false_eq_true, true_or, or_true, false_or, or_false, true_and, and_true, false_and, and_false, up_get, Nat.reduceEqDiff, Int.reduceNeg, eqN_T, eqN_F]
      exact De.ret _ _
  | true =>
    obtain ⟨hB2, y1, y2, y3, y4, y5⟩ := FC.1 rfl
    have b2 := hB2.1
    refine ⟨true, B2, s3 + 1, em g3 s3 300 0, ⟨fun _ => ⟨hB2, by omega, by omega, by omega, fun i hi => (em_o (by omega)).trans (y4 i hi), (y5.not (by omega)).mono EA⟩, fun z => absurd z (by decide)⟩, fun dp hd S m q L hs h => ?_, fun dp hd S m q hs h => ?_⟩
    · obtain ⟨dp, rfl⟩ : ∃ e, dp = e + 1 := ⟨dp - 1, by omega⟩
      have tk := h.tk
      obtain ⟨m2, R2, m1, D1, D2⟩ := CC dp hd S m q L hs h
      obtain ⟨C2, w2⟩ := R2.2.1 rfl
      obtain ⟨m3, D3, C3, F3, w3⟩ := c_add (q := q) (op := 3) (wh := 0) (th := 0) (st := 300) (nn := 0) hs C2 (by omega) (by decide) (by decide) (by decide) (by decide) (by decide) (by decide) (by decide)
      refine ⟨m3, ?_, R2.1.tr F3, fun _ => ⟨C3, w3.trans w2⟩, fun z => absurd z (by decide)⟩
      simp only [FqA]
      refine De.step ?_
      simp only [j_X3_readAtom_0]
      simp (disch := omega) only [b_X3_readAtom_0, x1_k hs, x1_r0 hs, x1_r1 hs, x1_i2 hs, x1_w2 hs, x1_i3 hs, x1_w3 hs, x1_i4 hs, x1_w4 hs, x1_i5 hs, x1_w5 hs, x1_i6 hs, x1_w6 hs, x1_i7 hs, x1_w7 hs, tk.1, c, Option.bind_some, xI, xU, xUt, xIt, J_lit, J_add, J_sub, J_mul, J_neg, J_ltc, J_lec, J_eqc, lt_T, lt_F, le_T, le_F, eq_T, eq_F, ↓reduceIte, ite_not, not_true_eq_false, not_false_eq_true, true_or, or_true, false_or, or_false, true_and, and_true, false_and, and_false, up_get, Nat.reduceEqDiff, Int.reduceNeg, eqN_T, eqN_F]
      refine De.step ?_
      simp only [j_X3_readAtom_15]
      simp (disch := omega) only [b_X3_readAtom_15, x1_k hs, x1_r0 hs, x1_r1 hs, x1_i2 hs, x1_w2 hs, x1_i3 hs, x1_w3 hs, x1_i4 hs, x1_w4 hs, x1_i5 hs, x1_w5 hs, x1_i6 hs, x1_w6 hs, x1_i7 hs, x1_w7 hs, tk.1, c, Option.bind_some, xI, xU, xUt, xIt, J_lit, J_add, J_sub, J_mul, J_neg, J_ltc, J_lec, J_eqc, lt_T, lt_F, le_T, le_F, eq_T, eq_F, ↓reduceIte, ite_not, not_true_eq_false, not_false_eq_true, true_or, or_true, false_or, or_false, true_and, and_true, false_and, and_false, up_get, Nat.reduceEqDiff, Int.reduceNeg, eqN_T, eqN_F]
      refine De.step ?_
      simp only [j_X3_readAtom_34]
      simp (disch := omega) only [b_X3_readAtom_34, x1_k hs, x1_r0 hs, x1_r1 hs, x1_i2 hs, x1_w2 hs, x1_i3 hs, x1_w3 hs, x1_i4 hs, x1_w4 hs, x1_i5 hs, x1_w5 hs, x1_i6 hs, x1_w6 hs, x1_i7 hs, x1_w7 hs, Option.bind_some, xI, xU, xUt, xIt, J_lit, J_add, J_sub, J_mul, J_neg, J_ltc, J_lec, J_eqc, lt_T, lt_F, le_T, le_F, eq_T, eq_F, ↓reduceIte, ite_not, not_true_eq_false, not_false_eq_true, true_or, or_true, false_or, or_false, true_and, and_true, false_and, and_false, up_get, Nat.reduceEqDiff, Int.reduceNeg, eqN_T, eqN_F]
      refine De.call D1 ?_
      simp (disch := omega) only [x1_k hs, x1_r0 hs, x1_r1 hs, x1_i2 hs, x1_w2 hs, x1_i3 hs, x1_w3 hs, x1_i4 hs, x1_w4 hs, x1_i5 hs, x1_w5 hs, x1_i6 hs, x1_w6 hs, x1_i7 hs, x1_w7 hs, Option.bind_some, xI, xU, xUt, xIt, J_lit, J_add, J_sub, J_mul, J_neg, J_ltc, J_lec, J_eqc, lt_T, lt_F, le_T, le_F, eq_T, eq_F, ↓reduceIte, ite_not, not_true_eq_false, not_false_eq_true, true_or, or_true, false_or, or_false, true_and, and_true, false_and, and_false, up_get, Nat.reduceEqDiff, Int.reduceNeg, eqN_T, eqN_F]
      refine De.call (De.at (fun k => k + 1 + 1 + 1) (fun k => by omega) D2) ?_
      simp (disch := omega) only [bI_t, x1_k hs, x1_r0 hs, x1_r1 hs, x1_i2 hs, x1_w2 hs, x1_i3 hs, x1_w3 hs, x1_i4 hs, x1_w4 hs, x1_i5 hs, x1_w5 hs, x1_i6 hs, x1_w6 hs, x1_i7 hs, x1_w7 hs, x2_k hs, x2_r0 hs, x2_r1 hs, x2_r2 hs, x2_i3 hs, x2_w3 hs, x2_r4 hs, x2_i5 hs, x2_w5 hs, x2_r6 hs, x2_i7 hs, x2_w7 hs, Option.bind_some, xI, xU, xUt, xIt, J_lit, J_add, J_sub, J_mul, J_neg, J_ltc, J_lec, J_eqc, lt_T, lt_F, le_T, le_F, eq_T, eq_F, ↓reduceIte, ite_not, not_true_eq_false, not_false_eq_true, true_or, or_true, false_or, or_false, true_and, and_true, false_and, and_false, up_get, Nat.reduceEqDiff, Int.reduceNeg, eqN_T, eqN_F]
      refine De.call D3 ?_
      simp (disch := omega) only [Option.bind_some, xI, xU, xUt, xIt, J_lit, J_add, J_sub, J_mul, J_neg, J_ltc, J_lec, J_eqc, lt_T, lt_F, le_T, le_F, eq_T, eq_F, ↓reduceIte, ite_not, not_true_eq_false, not_false_eq_true, true_or, or_true, false_or, or_false, true_and, and_true, false_and, and_false, up_get, Nat.reduceEqDiff, Int.reduceNeg, eqN_T, eqN_F]
      exact De.ret _ _
    · obtain ⟨dp, rfl⟩ : ∃ e, dp = e + 1 := ⟨dp - 1, by omega⟩
      obtain ⟨ma, mb, Da, Db, h13, m2, D2, R2⟩ := RR dp hd S m q hs h
      have RP2 := R2.2.1 rfl
      have k13 : m2 136 13 = d + 1 := RP2.2.1
      obtain ⟨m3, D3, RP4, F3, -⟩ := r_emits (q := q) hs (RP2.dp d) (by omega) (by omega) 300 0
      have ed : d + 1 - 1 = d := by omega
      refine ⟨m3, ?_, R2.1.tr (FrRe.u13.tr F3), fun _ => RP4, fun z => absurd z (by decide)⟩
      simp only [FqMA]
      refine De.step ?_
      simp only [j_X11_readAtom_0, ra_0 _ _ _ _ (x136_k hs), J_lit]
      refine De.call Da ?_
      simp (disch := omega) only [ra1, x136_k hs, x136_i0 hs, x136_w0 hs, x136_r1 hs, x136_r2 hs, x136_r3 hs, x136_r4 hs, x136_i5 hs, x136_w5 hs, x136_i6 hs, x136_w6 hs, x136_i7 hs, x136_w7 hs, x136_r8 hs, x136_i9 hs, x136_w9 hs, x136_i10 hs, x136_w10 hs, x136_i11 hs, x136_w11 hs, x136_i12 hs, x136_w12 hs, x136_i13 hs, x136_w13 hs, x136_i14 hs, x136_w14 hs, x136_r15 hs, x136_i16 hs, x136_w16 hs, x136_r17 hs, x136_r18 hs, x136_r19 hs, x136_r20 hs, x136_r21 hs, x136_i22 hs, x136_w22 hs, x136_r23 hs, x136_r24 hs, x136_i25 hs, x136_w25 hs, x136_i26 hs, x136_w26 hs, x136_r27 hs, x136_r28 hs, x136_i29 hs, x136_w29 hs, Option.bind_some, xI, xU, xUt, xIt, J_lit, J_add, J_sub, J_mul, J_neg, J_ltc, J_lec, J_eqc, lt_T, lt_F, le_T, le_F, eq_T, eq_F, ↓reduceIte, ite_not, not_true_eq_false, not_false_eq_true, true_or, or_true, false_or, or_false, true_and, and_true, false_and, and_false, up_get, Nat.reduceEqDiff, Int.reduceNeg, eqN_T, eqN_F]
      refine De.call Db ?_
      simp (disch := omega) only [ra4, x136_k hs, x136_i0 hs, x136_w0 hs, x136_r1 hs, x136_r2 hs, x136_r3 hs, x136_r4 hs, x136_i5 hs, x136_w5 hs, x136_i6 hs, x136_w6 hs, x136_i7 hs, x136_w7 hs, x136_r8 hs, x136_i9 hs, x136_w9 hs, x136_i10 hs, x136_w10 hs, x136_i11 hs, x136_w11 hs, x136_i12 hs, x136_w12 hs, x136_i13 hs, x136_w13 hs, x136_i14 hs, x136_w14 hs, x136_r15 hs, x136_i16 hs, x136_w16 hs, x136_r17 hs, x136_r18 hs, x136_r19 hs, x136_r20 hs, x136_r21 hs, x136_i22 hs, x136_w22 hs, x136_r23 hs, x136_r24 hs, x136_i25 hs, x136_w25 hs, x136_i26 hs, x136_w26 hs, x136_r27 hs, x136_r28 hs, x136_i29 hs, x136_w29 hs, h13, Option.bind_some, xI, xU, xUt, xIt, J_lit, J_add, J_sub, J_mul, J_neg, J_ltc, J_lec, J_eqc, lt_T, lt_F, le_T, le_F, eq_T, eq_F, ↓reduceIte, ite_not, not_true_eq_false, not_false_eq_true, true_or, or_true, false_or, or_false, true_and, and_true, false_and, and_false, up_get, Nat.reduceEqDiff, Int.reduceNeg, eqN_T, eqN_F]
      refine De.call (De.at (fun k => k + 1) (fun k => by omega) D2) ?_
      simp (disch := omega) only [bI_t, x136_k hs, x136_i0 hs, x136_w0 hs, x136_r1 hs, x136_r2 hs, x136_r3 hs, x136_r4 hs, x136_i5 hs, x136_w5 hs, x136_i6 hs, x136_w6 hs, x136_i7 hs, x136_w7 hs, x136_r8 hs, x136_i9 hs, x136_w9 hs, x136_i10 hs, x136_w10 hs, x136_i11 hs, x136_w11 hs, x136_i12 hs, x136_w12 hs, x136_i13 hs, x136_w13 hs, x136_i14 hs, x136_w14 hs, x136_r15 hs, x136_i16 hs, x136_w16 hs, x136_r17 hs, x136_r18 hs, x136_r19 hs, x136_r20 hs, x136_r21 hs, x136_i22 hs, x136_w22 hs, x136_r23 hs, x136_r24 hs, x136_i25 hs, x136_w25 hs, x136_i26 hs, x136_w26 hs, x136_r27 hs, x136_r28 hs, x136_i29 hs, x136_w29 hs, k13, ed, Option.bind_some, xI, xU, xUt, xIt, J_lit, J_add, J_sub, J_mul, J_neg, J_ltc, J_lec, J_eqc, lt_T, lt_F, le_T, le_F, eq_T, eq_F, ↓reduceIte, ite_not, not_true_eq_false, not_false_eq_true, true_or, or_true, false_or, or_false, true_and, and_true, false_and, and_false, up_get, Nat.reduceEqDiff, Int.reduceNeg, eqN_T, eqN_F]
      refine De.call D3 ?_
      simp (disch := omega) only [Option.bind_some, xI, xU, xUt, xIt, J_lit, J_add, J_sub, J_mul, J_neg, J_ltc, J_lec, J_eqc, lt_T, lt_F, le_T, le_F, eq_T, eq_F, ↓reduceIte, ite_not, not_true_eq_false, not_false_eq_true, true_or, or_true, false_or, or_false, true_and, and_true, false_and, and_false, up_get, Nat.reduceEqDiff, Int.reduceNeg, eqN_T, eqN_F]
      exact De.ret _ _
/-- an atom, whatever stands there -/
theorem at_all (d0 : 0 ≤ d) (d6 : d ≤ 6) (A1 : 1 ≤ A) {E : Int} (EA : E ≤ A) (PE : d < 6 → PEi b n (d + 1) E ∧ PAt b n (d + 1) E) : PAt b n d A := by
  intro B s g hB s0 s2
  have tr := tok_rng hB
  have wk : (∃ (ok : Bool) (B' s' : Int) (g' : Int → Int), Fct b n B s g ok B' s' g' A ∧
  (∀ (dp : Nat), 1 ≤ dp → ∀ (S : xH) (m : Nat → Int → Int) (q : Nat → Int → Int64) (L : Int), Sk S → CPs m b n B s g L → ∃ m', De (fun k => F_X3_readEither k dp 1 [.ref 1, .int (J d)] (hp S m q)) (.inl (some (.int (J (bI ok))))) (hp S m' q) ∧ CRes m m' b n L ok B' s' g') ∧
  (∀ (dp : Nat), 1 ≤ dp → ∀ (S : xH) (m : Nat → Int → Int) (q : Nat → Int → Int64), Sk S → RPs m b n B s g d → ∃ m', De (fun k => F_X11_readCond k dp 2 [.ref 136] (hp S m q)) (.inl (some (.int (J (bI ok))))) (hp S m' q) ∧ RRes m m' b n d ok B' s' g')) → ∃ (ok : Bool) (B' s' : Int) (g' : Int → Int), Fct b n B s g ok B' s' g' A ∧
  (∀ (dp : Nat), 2 * (6 - d) + 1 ≤ dp → ∀ (S : xH) (m : Nat → Int → Int) (q : Nat → Int → Int64) (L : Int), Sk S → CPs m b n B s g L → ∃ m', De (fun k => F_X3_readEither k dp 1 [.ref 1, .int (J d)] (hp S m q)) (.inl (some (.int (J (bI ok))))) (hp S m' q) ∧ CRes m m' b n L ok B' s' g') ∧
  (∀ (dp : Nat), 3 * (6 - d) + 1 ≤ dp → ∀ (S : xH) (m : Nat → Int → Int) (q : Nat → Int → Int64), Sk S → RPs m b n B s g d → ∃ m', De (fun k => F_X11_readCond k dp 2 [.ref 136] (hp S m q)) (.inl (some (.int (J (bI ok))))) (hp S m' q) ∧ RRes m m' b n d ok B' s' g') := fun ⟨ok, B', s', g', h1, h2, h3⟩ => ⟨ok, B', s', g', h1, fun dp hd => h2 dp (by omega), fun dp hd => h3 dp (by omega)⟩
  by_cases c1 : tok b n B = 140
  · by_cases c2 : d = 6
    · exact wk (at_deep hB (Or.inl c1) c2)
    · exact at_paren hB s0 s2 c1 d0 (by omega) EA (PE (by omega)).1
  · by_cases c3 : tok b n B = 7
    · by_cases c2 : d = 6
      · exact wk (at_deep hB (Or.inr c3) c2)
      · exact at_not hB s0 s2 c3 d0 (by omega) EA (PE (by omega)).2
    · by_cases c4 : 8 ≤ tok b n B ∧ tok b n B ≤ 14
      · exact wk (at_tag hB s0 s2 c4.1 c4.2 A1)
      · by_cases c5 : 15 ≤ tok b n B ∧ tok b n B ≤ 19
        · exact wk (at_fact hB s0 s2 c5.1 c5.2 A1)
        · exact wk (at_none hB (by omega) c1)
end ATOM3
