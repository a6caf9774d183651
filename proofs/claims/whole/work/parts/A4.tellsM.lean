/-! a word is told, by the reference -/
section TELLM
variable {S : xH} {m m' m0 : Nat → Int → Int} {q q' : Nat → Int → Int64} {told p x y nu ho fr wy mo ln sp : Int} {w v v' g kd nm bg so : Int → Int}
theorem row_up (m : Nat → Int → Int) (b : Nat) (i z : Int) : up m b i z b = ups (m b) i z := funext fun j => by
  by_cases c : j = i
  · rw [c, up_at, ups_at]
  · rw [up_i c, ups_ne c]
theorem up_same {m : Nat → Int → Int} {b : Nat} {i z : Int} (h : m b i = z) : up m b i z = m := funext fun c => funext fun j => by
  rw [up_get]
  split
  · rename_i e
    rw [e.1, e.2, h]
  · rfl
theorem d_phones (hs : Sk S) : De (fun n => f_X11_phones n 0 [.ref 136] (hp S m q)) (.inl (some (.int (J (m 139 0))))) (hp S m q) := De.eq 1 (fun n => e_phones hs n)
theorem d_tick (hs : Sk S) : De (fun n => f_X11_tick n 0 [.ref 136] (hp S m q)) (.inl (some (.int (J (m 137 0))))) (hp S m q) := De.eq 1 (fun n => e_tick hs n)
theorem d_of (hs : Sk S) {k : Int} (x0 : 0 ≤ x) (x1 : x < 30) (k0 : 0 ≤ k) (k1 : k < 10) : De (fun n => f_X11_of n 0 [.ref 136, .int (J x), .int (J k)] (hp S m q)) (.inl (some (.int (J (m 139 (761 + 10 * x + k)))))) (hp S m q) := De.eq 1 (fun n => e_of hs x0 x1 k0 k1 n)
theorem d_copyAt (p x k : Int) (P : xH) : De (fun n => f_X11_copyAt n 0 [.int (J p), .int (J x), .int (J k)] P) (.inl (some (.int (J (51 + 7 * (30 * p + x) + k))))) P := De.eq 1 (fun n => e_copyAt n p x k P)
theorem d_phoneAt (p k : Int) (P : xH) : De (fun n => f_X11_phoneAt n 0 [.int (J p), .int (J k)] P) (.inl (some (.int (J (1 + 5 * p + k))))) P := De.eq 1 (fun n => e_phoneAt n p k P)
theorem d_hadAt (x k : Int) (P : xH) : De (fun n => f_X11_hadAt n 0 [.int (J x), .int (J k)] P) (.inl (some (.int (J (2151 + 5 * x + k))))) P := De.eq 1 (fun n => e_hadAt n x k P)
theorem q_givesM (hs : Sk S) (p0 : 0 ≤ p) (p1 : p < 10) (x0 : 0 ≤ x) (x1 : x < 30) : ∃ m', De (fun n => f_X11_givesAway n 0 [.ref 136, .int (J p), .int (J x)] (hp S m q)) (.inl none) (hp S m' q) ∧ m' 137 = gvS (m 137) p x ∧ ∀ b i, b ≠ 137 → m' b i = m b i := by
  refine ⟨up (up m 137 (51 + 7 * (30 * p + x) + 0) 0) 137 (1 + 5 * p + 4) (m 137 (1 + 5 * p + 4) + 1), De.eq 2 (fun n => ?_), ?_, fun b i hb => by rw [up_a hb, up_a hb]⟩
  · rw [j_X11_givesAway_0]
    simp (disch := omega) only [b_X11_givesAway_0, e_copyAt, e_phoneAt, x136_k hs, x136_i0 hs, x136_w0 hs, x136_r1 hs, x136_r2 hs, x136_r3 hs, x136_r4 hs, x136_i5 hs, x136_w5 hs, x136_i6 hs, x136_w6 hs, x136_i7 hs, x136_w7 hs, x136_r8 hs, x136_i9 hs, x136_w9 hs, x136_i10 hs, x136_w10 hs, x136_i11 hs, x136_w11 hs, x136_i12 hs, x136_w12 hs, x136_i13 hs, x136_w13 hs, x136_i14 hs, x136_w14 hs, x136_r15 hs, x136_i16 hs, x136_w16 hs, x136_r17 hs, x136_r18 hs, x136_r19 hs, x136_r20 hs, x136_r21 hs, x136_i22 hs, x136_w22 hs, x136_r23 hs, x136_r24 hs, x136_i25 hs, x136_w25 hs, x136_i26 hs, x136_w26 hs, x136_r27 hs, x136_r28 hs, x136_i29 hs, x136_w29 hs, x137_g hs, x137_s hs, x137_l hs, up_i, ne_eq, Option.bind_some, xI, xU, xUt, xIt, J_lit, J_add, J_sub, J_mul, J_neg, J_ltc, J_lec, J_eqc, lt_T, lt_F, le_T, le_F, eq_T, eq_F, ↓reduceIte, ite_not, not_true_eq_false, not_false_eq_true, true_or, or_true, false_or, or_false, true_and, and_true, false_and, and_false, up_get, Nat.reduceEqDiff, Int.reduceNeg, eqN_T, eqN_F]
  · rw [row_up, row_up]
    rfl
theorem q_comes115 (hs : Sk S) (p0 : 0 ≤ p) (p1 : p < 10) (x0 : 0 ≤ x) (x1 : x < 30) (hh : -1 ≤ m 137 (2151 + 5 * x + 0) ∧ m 137 (2151 + 5 * x + 0) ≤ 400) (z : Int32) : ∃ m', De (fun n => f_X11_comes n 115 [.ref 136, .int (J p), .int (J x), .int (J nu), .int (J ho), .int (J fr), .int (J wy), .int (J mo), .int z] (hp S m q)) (.inl none) (hp S m' q) ∧ m' 137 = (if p = 0 ∧ m 137 (2151 + 5 * x + 0) < 0 then hdS (m 137) x nu ho wy mo else m 137) ∧ ∀ b i, b ≠ 137 → m' b i = m b i := by
  by_cases c : p = 0 ∧ m 137 (2151 + 5 * x + 0) < 0
  · obtain ⟨c1, c2⟩ := c
    refine ⟨up (up (up (up (up m 137 (2151 + 5 * x + 0) (m 137 0)) 137 (2151 + 5 * x + 1) nu) 137 (2151 + 5 * x + 2) wy) 137 (2151 + 5 * x + 3) mo) 137 (2151 + 5 * x + 4) ho, De.eq 2 (fun n => ?_), ?_, fun b i hb => by rw [up_a hb, up_a hb, up_a hb, up_a hb, up_a hb]⟩
    · rw [j_X11_comes_115]
      simp (disch := omega) only [b_X11_comes_115, e_hadAt, e_tick hs, x136_k hs, x136_i0 hs, x136_w0 hs, x136_r1 hs, x136_r2 hs, x136_r3 hs, x136_r4 hs, x136_i5 hs, x136_w5 hs, x136_i6 hs, x136_w6 hs, x136_i7 hs, x136_w7 hs, x136_r8 hs, x136_i9 hs, x136_w9 hs, x136_i10 hs, x136_w10 hs, x136_i11 hs, x136_w11 hs, x136_i12 hs, x136_w12 hs, x136_i13 hs, x136_w13 hs, x136_i14 hs, x136_w14 hs, x136_r15 hs, x136_i16 hs, x136_w16 hs, x136_r17 hs, x136_r18 hs, x136_r19 hs, x136_r20 hs, x136_r21 hs, x136_i22 hs, x136_w22 hs, x136_r23 hs, x136_r24 hs, x136_i25 hs, x136_w25 hs, x136_i26 hs, x136_w26 hs, x136_r27 hs, x136_r28 hs, x136_i29 hs, x136_w29 hs, x137_g hs, x137_s hs, x137_l hs, up_i, ne_eq, Option.bind_some, xI, xU, xUt, xIt, J_lit, J_add, J_sub, J_mul, J_neg, J_ltc, J_lec, J_eqc, lt_T, lt_F, le_T, le_F, eq_T, eq_F, ↓reduceIte, ite_not, not_true_eq_false, not_false_eq_true, true_or, or_true, false_or, or_false, true_and, and_true, false_and, and_false, up_get, Nat.reduceEqDiff, Int.reduceNeg, eqN_T, eqN_F]
    · rw [if_pos ⟨c1, c2⟩]
      funext i
      unfold hdS
      simp only [up_get, true_and]
      repeat' split
      all_goals first | rfl | (exfalso; omega)
  · refine ⟨m, De.eq 2 (fun n => ?_), by rw [if_neg c], fun _ _ _ => rfl⟩
    rw [j_X11_comes_115]
    by_cases c1 : p = 0
    · simp (disch := omega) only [b_X11_comes_115, e_hadAt, x136_k hs, x136_i0 hs, x136_w0 hs, x136_r1 hs, x136_r2 hs, x136_r3 hs, x136_r4 hs, x136_i5 hs, x136_w5 hs, x136_i6 hs, x136_w6 hs, x136_i7 hs, x136_w7 hs, x136_r8 hs, x136_i9 hs, x136_w9 hs, x136_i10 hs, x136_w10 hs, x136_i11 hs, x136_w11 hs, x136_i12 hs, x136_w12 hs, x136_i13 hs, x136_w13 hs, x136_i14 hs, x136_w14 hs, x136_r15 hs, x136_i16 hs, x136_w16 hs, x136_r17 hs, x136_r18 hs, x136_r19 hs, x136_r20 hs, x136_r21 hs, x136_i22 hs, x136_w22 hs, x136_r23 hs, x136_r24 hs, x136_i25 hs, x136_w25 hs, x136_i26 hs, x136_w26 hs, x136_r27 hs, x136_r28 hs, x136_i29 hs, x136_w29 hs, x137_g hs, x137_s hs, x137_l hs, Option.bind_some, xI, xU, xUt, xIt, J_lit, J_add, J_sub, J_mul, J_neg, J_ltc, J_lec, J_eqc, lt_T, lt_F, le_T, le_F, eq_T, eq_F, ↓reduceIte, ite_not, not_true_eq_false, not_false_eq_true, true_or, or_true, false_or, or_false, true_and, and_true, false_and, and_false, up_get, Nat.reduceEqDiff, Int.reduceNeg, eqN_T, eqN_F]
    · simp (disch := omega) only [b_X11_comes_115, Option.bind_some, xI, xU, xUt, xIt, J_lit, J_add, J_sub, J_mul, J_neg, J_ltc, J_lec, J_eqc, lt_T, lt_F, le_T, le_F, eq_T, eq_F, ↓reduceIte, ite_not, not_true_eq_false, not_false_eq_true, true_or, or_true, false_or, or_false, true_and, and_true, false_and, and_false, up_get, Nat.reduceEqDiff, Int.reduceNeg, eqN_T, eqN_F]
theorem q_comesM (hs : Sk S) (W : Wok (m 139)) (p0 : 0 ≤ p) (p1 : p < m 139 0) (x0 : 0 ≤ x) (x1 : x < m 139 1) (hh : -1 ≤ m 137 (2151 + 5 * x + 0) ∧ m 137 (2151 + 5 * x + 0) ≤ 400) : ∃ m', De (fun n => f_X11_comes n 0 [.ref 136, .int (J p), .int (J x), .int (J nu), .int (J ho), .int (J fr), .int (J wy), .int (J mo)] (hp S m q)) (.inl none) (hp S m' q) ∧ m' 137 = cmS (unS (m 139) (m 137) p x) p x nu ho fr wy mo ∧ ∀ b i, b ≠ 137 → m' b i = m b i := by
  have tw := W.1.2.1
  have w1 := W.2.1
  have u := (W.2.2 x x0 x1).2.2
  have DA : ∀ P : xH, De (fun n => f_X11_copyAt n 0 [.int (J p), .int (J x), .int (J 0)] P) (.inl (some (.int (J (51 + 7 * (30 * p + x) + 0))))) P := fun P => De.eq 1 (fun n => e_copyAt n p x 0 P)
  have eU : unS (m 139) (m 137) p x (2151 + 5 * x + 0) = m 137 (2151 + 5 * x + 0) := unS_o (by omega) W p0 (by omega) x0 x1
  by_cases c : 0 ≤ m 139 (761 + 10 * x + 8)
  · obtain ⟨M, hM⟩ : ∃ M, M = up (up (up (up (up (up (up (up m 137 (51 + 7 * (30 * p + x) + 0 + 0) 1) 137 (51 + 7 * (30 * p + x) + 0 + 1) nu) 137 (51 + 7 * (30 * p + x) + 0 + 2) ho) 137 (51 + 7 * (30 * p + x) + 0 + 3) fr) 137 (51 + 7 * (30 * p + x) + 0 + 4) (m 137 0)) 137 (51 + 7 * (30 * p + x) + 0 + 5) wy) 137 (51 + 7 * (30 * p + x) + 0 + 5 + 1) mo) 137 (51 + 7 * (30 * p + m 139 (761 + 10 * x + 8)) + 0) 0 := ⟨_, rfl⟩
    have e7 : M 137 = ppS (unS (m 139) (m 137) p x) p x nu ho fr wy mo := by
      have e0 : unS (m 139) (m 137) p x 0 = m 137 0 := unS_o (by omega) W p0 (by omega) x0 x1
      funext i
      rw [hM]
      unfold ppS
      rw [e0]
      unfold unS loS ups
      rw [if_pos c]
      simp only [up_get, true_and]
      repeat' split
      all_goals first | rfl | (exfalso; omega)
    have hM1 : M 137 (2151 + 5 * x + 0) = m 137 (2151 + 5 * x + 0) := by rw [e7, ppS_o (by omega), eU]
    obtain ⟨m', D, A, F⟩ := q_comes115 (q := q) (m := M) (p := p) (nu := nu) (ho := ho) (fr := fr) (wy := wy) (mo := mo) hs p0 (by omega) x0 (by omega) (by rw [hM1]; exact hh) (J (51 + 7 * (30 * p + x) + 0))
    refine ⟨m', ?_, ?_, fun b i hb => (F b i hb).trans (by rw [hM, up_a hb, up_a hb, up_a hb, up_a hb, up_a hb, up_a hb, up_a hb, up_a hb])⟩
    · rw [hM] at D
      refine De.step ?_
      simp only [j_X11_comes_0]
      simp (disch := omega) only [b_X11_comes_0, J_lit]
      refine De.call (d_copyAt p x 0 _) ?_
      simp (disch := omega) only [x136_k hs, x136_i0 hs, x136_w0 hs, x136_r1 hs, x136_r2 hs, x136_r3 hs, x136_r4 hs, x136_i5 hs, x136_w5 hs, x136_i6 hs, x136_w6 hs, x136_i7 hs, x136_w7 hs, x136_r8 hs, x136_i9 hs, x136_w9 hs, x136_i10 hs, x136_w10 hs, x136_i11 hs, x136_w11 hs, x136_i12 hs, x136_w12 hs, x136_i13 hs, x136_w13 hs, x136_i14 hs, x136_w14 hs, x136_r15 hs, x136_i16 hs, x136_w16 hs, x136_r17 hs, x136_r18 hs, x136_r19 hs, x136_r20 hs, x136_r21 hs, x136_i22 hs, x136_w22 hs, x136_r23 hs, x136_r24 hs, x136_i25 hs, x136_w25 hs, x136_i26 hs, x136_w26 hs, x136_r27 hs, x136_r28 hs, x136_i29 hs, x136_w29 hs, x137_g hs, x137_s hs, x137_l hs, Option.bind_some, xI, xU, xUt, xIt, J_lit, J_add, J_sub, J_mul, J_neg, J_ltc, J_lec, J_eqc, lt_T, lt_F, le_T, le_F, eq_T, eq_F, ↓reduceIte, ite_not, not_true_eq_false, not_false_eq_true, true_or, or_true, false_or, or_false, true_and, and_true, false_and, and_false, up_get, Nat.reduceEqDiff, Int.reduceNeg, eqN_T, eqN_F]
      refine De.call (d_tick hs) ?_
      simp (disch := omega) only [x136_k hs, x136_i0 hs, x136_w0 hs, x136_r1 hs, x136_r2 hs, x136_r3 hs, x136_r4 hs, x136_i5 hs, x136_w5 hs, x136_i6 hs, x136_w6 hs, x136_i7 hs, x136_w7 hs, x136_r8 hs, x136_i9 hs, x136_w9 hs, x136_i10 hs, x136_w10 hs, x136_i11 hs, x136_w11 hs, x136_i12 hs, x136_w12 hs, x136_i13 hs, x136_w13 hs, x136_i14 hs, x136_w14 hs, x136_r15 hs, x136_i16 hs, x136_w16 hs, x136_r17 hs, x136_r18 hs, x136_r19 hs, x136_r20 hs, x136_r21 hs, x136_i22 hs, x136_w22 hs, x136_r23 hs, x136_r24 hs, x136_i25 hs, x136_w25 hs, x136_i26 hs, x136_w26 hs, x136_r27 hs, x136_r28 hs, x136_i29 hs, x136_w29 hs, x137_g hs, x137_s hs, x137_l hs, up_i, ne_eq, Option.bind_some, xI, xU, xUt, xIt, J_lit, J_add, J_sub, J_mul, J_neg, J_ltc, J_lec, J_eqc, lt_T, lt_F, le_T, le_F, eq_T, eq_F, ↓reduceIte, ite_not, not_true_eq_false, not_false_eq_true, true_or, or_true, false_or, or_false, true_and, and_true, false_and, and_false, up_get, Nat.reduceEqDiff, Int.reduceNeg, eqN_T, eqN_F]
      refine De.call (d_of (x := x) (k := 8) hs x0 (by omega) (by decide) (by decide)) ?_
      simp (disch := omega) only [x136_k hs, x136_i0 hs, x136_w0 hs, x136_r1 hs, x136_r2 hs, x136_r3 hs, x136_r4 hs, x136_i5 hs, x136_w5 hs, x136_i6 hs, x136_w6 hs, x136_i7 hs, x136_w7 hs, x136_r8 hs, x136_i9 hs, x136_w9 hs, x136_i10 hs, x136_w10 hs, x136_i11 hs, x136_w11 hs, x136_i12 hs, x136_w12 hs, x136_i13 hs, x136_w13 hs, x136_i14 hs, x136_w14 hs, x136_r15 hs, x136_i16 hs, x136_w16 hs, x136_r17 hs, x136_r18 hs, x136_r19 hs, x136_r20 hs, x136_r21 hs, x136_i22 hs, x136_w22 hs, x136_r23 hs, x136_r24 hs, x136_i25 hs, x136_w25 hs, x136_i26 hs, x136_w26 hs, x136_r27 hs, x136_r28 hs, x136_i29 hs, x136_w29 hs, x137_g hs, x137_s hs, x137_l hs, up_a, ne_eq, Option.bind_some, xI, xU, xUt, xIt, J_lit, J_add, J_sub, J_mul, J_neg, J_ltc, J_lec, J_eqc, lt_T, lt_F, le_T, le_F, eq_T, eq_F, ↓reduceIte, ite_not, not_true_eq_false, not_false_eq_true, true_or, or_true, false_or, or_false, true_and, and_true, false_and, and_false, up_get, Nat.reduceEqDiff, Int.reduceNeg, eqN_T, eqN_F]
      refine De.call (d_of (x := x) (k := 8) hs x0 (by omega) (by decide) (by decide)) ?_
      simp (disch := omega) only [up_a, ne_eq, Option.bind_some, xI, xU, xUt, xIt, J_lit, J_add, J_sub, J_mul, J_neg, J_ltc, J_lec, J_eqc, lt_T, lt_F, le_T, le_F, eq_T, eq_F, ↓reduceIte, ite_not, not_true_eq_false, not_false_eq_true, true_or, or_true, false_or, or_false, true_and, and_true, false_and, and_false, up_get, Nat.reduceEqDiff, Int.reduceNeg, eqN_T, eqN_F]
      refine De.call (d_copyAt p (m 139 (761 + 10 * x + 8)) 0 _) ?_
      simp (disch := omega) only [x136_k hs, x136_i0 hs, x136_w0 hs, x136_r1 hs, x136_r2 hs, x136_r3 hs, x136_r4 hs, x136_i5 hs, x136_w5 hs, x136_i6 hs, x136_w6 hs, x136_i7 hs, x136_w7 hs, x136_r8 hs, x136_i9 hs, x136_w9 hs, x136_i10 hs, x136_w10 hs, x136_i11 hs, x136_w11 hs, x136_i12 hs, x136_w12 hs, x136_i13 hs, x136_w13 hs, x136_i14 hs, x136_w14 hs, x136_r15 hs, x136_i16 hs, x136_w16 hs, x136_r17 hs, x136_r18 hs, x136_r19 hs, x136_r20 hs, x136_r21 hs, x136_i22 hs, x136_w22 hs, x136_r23 hs, x136_r24 hs, x136_i25 hs, x136_w25 hs, x136_i26 hs, x136_w26 hs, x136_r27 hs, x136_r28 hs, x136_i29 hs, x136_w29 hs, x137_g hs, x137_s hs, x137_l hs, Option.bind_some, xI, xU, xUt, xIt, J_lit, J_add, J_sub, J_mul, J_neg, J_ltc, J_lec, J_eqc, lt_T, lt_F, le_T, le_F, eq_T, eq_F, ↓reduceIte, ite_not, not_true_eq_false, not_false_eq_true, true_or, or_true, false_or, or_false, true_and, and_true, false_and, and_false, up_get, Nat.reduceEqDiff, Int.reduceNeg, eqN_T, eqN_F]
      exact D
    · rw [A, hM1, e7]
      unfold cmS
      rw [eU]
  · obtain ⟨M, hM⟩ : ∃ M, M = up (up (up (up (up (up (up m 137 (51 + 7 * (30 * p + x) + 0 + 0) 1) 137 (51 + 7 * (30 * p + x) + 0 + 1) nu) 137 (51 + 7 * (30 * p + x) + 0 + 2) ho) 137 (51 + 7 * (30 * p + x) + 0 + 3) fr) 137 (51 + 7 * (30 * p + x) + 0 + 4) (m 137 0)) 137 (51 + 7 * (30 * p + x) + 0 + 5) wy) 137 (51 + 7 * (30 * p + x) + 0 + 5 + 1) mo := ⟨_, rfl⟩
    have e7 : M 137 = ppS (unS (m 139) (m 137) p x) p x nu ho fr wy mo := by
      have e0 : unS (m 139) (m 137) p x 0 = m 137 0 := unS_o (by omega) W p0 (by omega) x0 x1
      funext i
      rw [hM]
      unfold ppS
      rw [e0]
      unfold unS
      rw [if_neg c]
      simp only [up_get, true_and]
      repeat' split
      all_goals first | rfl | (exfalso; omega)
    have hM1 : M 137 (2151 + 5 * x + 0) = m 137 (2151 + 5 * x + 0) := by rw [e7, ppS_o (by omega), eU]
    obtain ⟨m', D, A, F⟩ := q_comes115 (q := q) (m := M) (p := p) (nu := nu) (ho := ho) (fr := fr) (wy := wy) (mo := mo) hs p0 (by omega) x0 (by omega) (by rw [hM1]; exact hh) (J (51 + 7 * (30 * p + x) + 0))
    refine ⟨m', ?_, ?_, fun b i hb => (F b i hb).trans (by rw [hM, up_a hb, up_a hb, up_a hb, up_a hb, up_a hb, up_a hb, up_a hb])⟩
    · rw [hM] at D
      refine De.step ?_
      simp only [j_X11_comes_0]
      simp (disch := omega) only [b_X11_comes_0, J_lit]
      refine De.call (d_copyAt p x 0 _) ?_
      simp (disch := omega) only [x136_k hs, x136_i0 hs, x136_w0 hs, x136_r1 hs, x136_r2 hs, x136_r3 hs, x136_r4 hs, x136_i5 hs, x136_w5 hs, x136_i6 hs, x136_w6 hs, x136_i7 hs, x136_w7 hs, x136_r8 hs, x136_i9 hs, x136_w9 hs, x136_i10 hs, x136_w10 hs, x136_i11 hs, x136_w11 hs, x136_i12 hs, x136_w12 hs, x136_i13 hs, x136_w13 hs, x136_i14 hs, x136_w14 hs, x136_r15 hs, x136_i16 hs, x136_w16 hs, x136_r17 hs, x136_r18 hs, x136_r19 hs, x136_r20 hs, x136_r21 hs, x136_i22 hs, x136_w22 hs, x136_r23 hs, x136_r24 hs, x136_i25 hs, x136_w25 hs, x136_i26 hs, x136_w26 hs, x136_r27 hs, x136_r28 hs, x136_i29 hs, x136_w29 hs, x137_g hs, x137_s hs, x137_l hs, Option.bind_some, xI, xU, xUt, xIt, J_lit, J_add, J_sub, J_mul, J_neg, J_ltc, J_lec, J_eqc, lt_T, lt_F, le_T, le_F, eq_T, eq_F, ↓reduceIte, ite_not, not_true_eq_false, not_false_eq_true, true_or, or_true, false_or, or_false, true_and, and_true, false_and, and_false, up_get, Nat.reduceEqDiff, Int.reduceNeg, eqN_T, eqN_F]
      refine De.call (d_tick hs) ?_
      simp (disch := omega) only [x136_k hs, x136_i0 hs, x136_w0 hs, x136_r1 hs, x136_r2 hs, x136_r3 hs, x136_r4 hs, x136_i5 hs, x136_w5 hs, x136_i6 hs, x136_w6 hs, x136_i7 hs, x136_w7 hs, x136_r8 hs, x136_i9 hs, x136_w9 hs, x136_i10 hs, x136_w10 hs, x136_i11 hs, x136_w11 hs, x136_i12 hs, x136_w12 hs, x136_i13 hs, x136_w13 hs, x136_i14 hs, x136_w14 hs, x136_r15 hs, x136_i16 hs, x136_w16 hs, x136_r17 hs, x136_r18 hs, x136_r19 hs, x136_r20 hs, x136_r21 hs, x136_i22 hs, x136_w22 hs, x136_r23 hs, x136_r24 hs, x136_i25 hs, x136_w25 hs, x136_i26 hs, x136_w26 hs, x136_r27 hs, x136_r28 hs, x136_i29 hs, x136_w29 hs, x137_g hs, x137_s hs, x137_l hs, up_i, ne_eq, Option.bind_some, xI, xU, xUt, xIt, J_lit, J_add, J_sub, J_mul, J_neg, J_ltc, J_lec, J_eqc, lt_T, lt_F, le_T, le_F, eq_T, eq_F, ↓reduceIte, ite_not, not_true_eq_false, not_false_eq_true, true_or, or_true, false_or, or_false, true_and, and_true, false_and, and_false, up_get, Nat.reduceEqDiff, Int.reduceNeg, eqN_T, eqN_F]
      refine De.call (d_of (x := x) (k := 8) hs x0 (by omega) (by decide) (by decide)) ?_
      simp (disch := omega) only [x136_k hs, x136_i0 hs, x136_w0 hs, x136_r1 hs, x136_r2 hs, x136_r3 hs, x136_r4 hs, x136_i5 hs, x136_w5 hs, x136_i6 hs, x136_w6 hs, x136_i7 hs, x136_w7 hs, x136_r8 hs, x136_i9 hs, x136_w9 hs, x136_i10 hs, x136_w10 hs, x136_i11 hs, x136_w11 hs, x136_i12 hs, x136_w12 hs, x136_i13 hs, x136_w13 hs, x136_i14 hs, x136_w14 hs, x136_r15 hs, x136_i16 hs, x136_w16 hs, x136_r17 hs, x136_r18 hs, x136_r19 hs, x136_r20 hs, x136_r21 hs, x136_i22 hs, x136_w22 hs, x136_r23 hs, x136_r24 hs, x136_i25 hs, x136_w25 hs, x136_i26 hs, x136_w26 hs, x136_r27 hs, x136_r28 hs, x136_i29 hs, x136_w29 hs, x137_g hs, x137_s hs, x137_l hs, up_a, ne_eq, Option.bind_some, xI, xU, xUt, xIt, J_lit, J_add, J_sub, J_mul, J_neg, J_ltc, J_lec, J_eqc, lt_T, lt_F, le_T, le_F, eq_T, eq_F, ↓reduceIte, ite_not, not_true_eq_false, not_false_eq_true, true_or, or_true, false_or, or_false, true_and, and_true, false_and, and_false, up_get, Nat.reduceEqDiff, Int.reduceNeg, eqN_T, eqN_F]
      exact D
    · rw [A, hM1, e7]
      unfold cmS
      rw [eU]
/-- nothing but now, tags, facts and the pile has changed -/
def Fr4 (m0 m : Nat → Int → Int) : Prop := ∀ b i, b ≠ 137 → b ≠ 143 → b ≠ 144 → b ≠ 145 → m b i = m0 b i
theorem q_tells20 (hs : Sk S) (tw : m 139 0 ≤ 10) (x0 : 0 ≤ x) (x1 : x < 30) (hz : ∀ k : Int, 0 ≤ k → k < m 139 0 → m 137 (51 + 7 * (30 * k + x) + 0) = 0) {R : xR} {P : xH} (D : De (fun n => f_X11_tells n 20 [.ref 136, .int (J x), .int (J p), .int (J (m 139 0))] (hp S m q)) R P) : ∀ (k : Nat) (i : Int), 0 ≤ i → i + k = m 139 0 → De (fun n => f_X11_tells n 20 [.ref 136, .int (J x), .int (J p), .int (J i)] (hp S m q)) R P := by
  intro k
  induction k with
  | zero =>
    intro i i0 hi
    rw [show i = m 139 0 by omega]
    exact D
  | succ k IH =>
    intro i i0 hi
    have us : up m 137 (51 + 7 * (30 * i + x) + 0) 0 = m := up_same (hz i i0 (by omega))
    have ih := IH (i + 1) (by omega) (by omega)
    refine De.cg 2 (fun n => ?_) (De.sh 1 ih)
    rw [j_X11_tells_20]
    simp (disch := omega) only [b_X11_tells_20, e_phones hs, e_copyAt, x136_k hs, x136_i0 hs, x136_w0 hs, x136_r1 hs, x136_r2 hs, x136_r3 hs, x136_r4 hs, x136_i5 hs, x136_w5 hs, x136_i6 hs, x136_w6 hs, x136_i7 hs, x136_w7 hs, x136_r8 hs, x136_i9 hs, x136_w9 hs, x136_i10 hs, x136_w10 hs, x136_i11 hs, x136_w11 hs, x136_i12 hs, x136_w12 hs, x136_i13 hs, x136_w13 hs, x136_i14 hs, x136_w14 hs, x136_r15 hs, x136_i16 hs, x136_w16 hs, x136_r17 hs, x136_r18 hs, x136_r19 hs, x136_r20 hs, x136_r21 hs, x136_i22 hs, x136_w22 hs, x136_r23 hs, x136_r24 hs, x136_i25 hs, x136_w25 hs, x136_i26 hs, x136_w26 hs, x136_r27 hs, x136_r28 hs, x136_i29 hs, x136_w29 hs, x137_g hs, x137_s hs, x137_l hs, us, Option.bind_some, xI, xU, xUt, xIt, J_lit, J_add, J_sub, J_mul, J_neg, J_ltc, J_lec, J_eqc, lt_T, lt_F, le_T, le_F, eq_T, eq_F, ↓reduceIte, ite_not, not_true_eq_false, not_false_eq_true, true_or, or_true, false_or, or_false, true_and, and_true, false_and, and_false, up_get, Nat.reduceEqDiff, Int.reduceNeg, eqN_T, eqN_F]
theorem q_tells98 (hs : Sk S) (W : Wok (m 139)) (p0 : 0 ≤ p) (p1 : p < m 139 0) (x0 : 0 ≤ x) (x1 : x < m 139 1) (hh : -1 ≤ m 137 (2151 + 5 * x + 0) ∧ m 137 (2151 + 5 * x + 0) ≤ 400) (z : Int32) : ∃ m', De (fun n => f_X11_tells n 98 [.ref 136, .int (J x), .int (J p), .int z] (hp S m q)) (.inl none) (hp S m' q) ∧ m' 137 = cmS (unS (m 139) (m 137) p x) p x (m 139 (761 + 10 * x + 7)) 0 (-1) 0 0 ∧ ∀ b i, b ≠ 137 → m' b i = m b i := by
  have w1 := W.2.1
  obtain ⟨m', D, A, F⟩ := q_comesM (q := q) (nu := m 139 (761 + 10 * x + 7)) (ho := 0) (fr := -1) (wy := 0) (mo := 0) hs W p0 p1 x0 x1 hh
  refine ⟨m', ?_, A, F⟩
  refine De.step ?_
  simp only [j_X11_tells_98]
  simp (disch := omega) only [b_X11_tells_98, x136_k hs, x136_i0 hs, x136_w0 hs, x136_r1 hs, x136_r2 hs, x136_r3 hs, x136_r4 hs, x136_i5 hs, x136_w5 hs, x136_i6 hs, x136_w6 hs, x136_i7 hs, x136_w7 hs, x136_r8 hs, x136_i9 hs, x136_w9 hs, x136_i10 hs, x136_w10 hs, x136_i11 hs, x136_w11 hs, x136_i12 hs, x136_w12 hs, x136_i13 hs, x136_w13 hs, x136_i14 hs, x136_w14 hs, x136_r15 hs, x136_i16 hs, x136_w16 hs, x136_r17 hs, x136_r18 hs, x136_r19 hs, x136_r20 hs, x136_r21 hs, x136_i22 hs, x136_w22 hs, x136_r23 hs, x136_r24 hs, x136_i25 hs, x136_w25 hs, x136_i26 hs, x136_w26 hs, x136_r27 hs, x136_r28 hs, x136_i29 hs, x136_w29 hs, J_lit, J_neg, Option.bind_some]
  refine De.call (De.eq 1 (fun n => e_of (k := 7) hs x0 (by omega) (by decide) (by decide) n)) ?_
  simp (disch := omega) only [x136_k hs, x136_i0 hs, x136_w0 hs, x136_r1 hs, x136_r2 hs, x136_r3 hs, x136_r4 hs, x136_i5 hs, x136_w5 hs, x136_i6 hs, x136_w6 hs, x136_i7 hs, x136_w7 hs, x136_r8 hs, x136_i9 hs, x136_w9 hs, x136_i10 hs, x136_w10 hs, x136_i11 hs, x136_w11 hs, x136_i12 hs, x136_w12 hs, x136_i13 hs, x136_w13 hs, x136_i14 hs, x136_w14 hs, x136_r15 hs, x136_i16 hs, x136_w16 hs, x136_r17 hs, x136_r18 hs, x136_r19 hs, x136_r20 hs, x136_r21 hs, x136_i22 hs, x136_w22 hs, x136_r23 hs, x136_r24 hs, x136_i25 hs, x136_w25 hs, x136_i26 hs, x136_w26 hs, x136_r27 hs, x136_r28 hs, x136_i29 hs, x136_w29 hs, Option.bind_some, xI, xU, xUt, xIt, J_lit, J_add, J_sub, J_mul, J_neg, J_ltc, J_lec, J_eqc, lt_T, lt_F, le_T, le_F, eq_T, eq_F, ↓reduceIte, ite_not, not_true_eq_false, not_false_eq_true, true_or, or_true, false_or, or_false, true_and, and_true, false_and, and_false, up_get, Nat.reduceEqDiff, Int.reduceNeg, eqN_T, eqN_F]
  refine De.call D ?_
  simp only [xU]
  exact De.ret _ _
theorem unS_twice {l : Int} (h : 0 ≤ w (761 + 10 * x + 8) → v (51 + 7 * (30 * p + w (761 + 10 * x + 8)) + 0) = 0) : unS w v p x = v := by
  unfold unS
  split
  · rename_i c
    funext i
    unfold loS ups
    split
    · rename_i e
      rw [e, h c]
    · rfl
  · rfl
theorem tellsU (hs : Sk S) (W : Wok (m 139)) (p0 : 0 ≤ p) (p1 : p < m 139 0) (x0 : 0 ≤ x) (x1 : x < m 139 1) : ∃ mb : Nat → Int → Int, mb 137 = unS (m 139) (m 137) p x ∧ (∀ b i, b ≠ 137 → mb b i = m b i) ∧ ∀ {r' : xR} {P' : xH}, De (fun n => f_X11_tells n 74 [.ref 136, .int (J x), .int (J p), .int (J (m 139 0))] (hp S mb q)) r' P' → De (fun n => f_X11_tells n 20 [.ref 136, .int (J x), .int (J p), .int (J (m 139 0))] (hp S m q)) r' P' := by
  have tw := W.1.2.1
  have w1 := W.2.1
  have wx := (W.2.2 x x0 x1).2.2
  unfold unS
  by_cases c : 0 ≤ m 139 (761 + 10 * x + 8)
  · refine ⟨up m 137 (51 + 7 * (30 * p + m 139 (761 + 10 * x + 8)) + 0) 0, ?_, fun b i hb => up_a hb, fun D => ?_⟩
    · rw [row_up, if_pos c]
      rfl
    · refine De.step ?_
      simp only [j_X11_tells_20]
      simp (disch := omega) only [b_X11_tells_20, x136_k hs, x136_i0 hs, x136_w0 hs, x136_r1 hs, x136_r2 hs, x136_r3 hs, x136_r4 hs, x136_i5 hs, x136_w5 hs, x136_i6 hs, x136_w6 hs, x136_i7 hs, x136_w7 hs, x136_r8 hs, x136_i9 hs, x136_w9 hs, x136_i10 hs, x136_w10 hs, x136_i11 hs, x136_w11 hs, x136_i12 hs, x136_w12 hs, x136_i13 hs, x136_w13 hs, x136_i14 hs, x136_w14 hs, x136_r15 hs, x136_i16 hs, x136_w16 hs, x136_r17 hs, x136_r18 hs, x136_r19 hs, x136_r20 hs, x136_r21 hs, x136_i22 hs, x136_w22 hs, x136_r23 hs, x136_r24 hs, x136_i25 hs, x136_w25 hs, x136_i26 hs, x136_w26 hs, x136_r27 hs, x136_r28 hs, x136_i29 hs, x136_w29 hs, Option.bind_some]
      refine De.call (d_phones hs) ?_
      simp (disch := omega) only [x136_k hs, x136_i0 hs, x136_w0 hs, x136_r1 hs, x136_r2 hs, x136_r3 hs, x136_r4 hs, x136_i5 hs, x136_w5 hs, x136_i6 hs, x136_w6 hs, x136_i7 hs, x136_w7 hs, x136_r8 hs, x136_i9 hs, x136_w9 hs, x136_i10 hs, x136_w10 hs, x136_i11 hs, x136_w11 hs, x136_i12 hs, x136_w12 hs, x136_i13 hs, x136_w13 hs, x136_i14 hs, x136_w14 hs, x136_r15 hs, x136_i16 hs, x136_w16 hs, x136_r17 hs, x136_r18 hs, x136_r19 hs, x136_r20 hs, x136_r21 hs, x136_i22 hs, x136_w22 hs, x136_r23 hs, x136_r24 hs, x136_i25 hs, x136_w25 hs, x136_i26 hs, x136_w26 hs, x136_r27 hs, x136_r28 hs, x136_i29 hs, x136_w29 hs, Option.bind_some, xI, xU, xUt, xIt, J_lit, J_add, J_sub, J_mul, J_neg, J_ltc, J_lec, J_eqc, lt_T, lt_F, le_T, le_F, eq_T, eq_F, ↓reduceIte, ite_not, not_true_eq_false, not_false_eq_true, true_or, or_true, false_or, or_false, true_and, and_true, false_and, and_false, up_get, Nat.reduceEqDiff, Int.reduceNeg, eqN_T, eqN_F]
      refine De.call (d_of (x := x) (k := 8) hs x0 (by omega) (by decide) (by decide)) ?_
      simp (disch := omega) only [x136_k hs, x136_i0 hs, x136_w0 hs, x136_r1 hs, x136_r2 hs, x136_r3 hs, x136_r4 hs, x136_i5 hs, x136_w5 hs, x136_i6 hs, x136_w6 hs, x136_i7 hs, x136_w7 hs, x136_r8 hs, x136_i9 hs, x136_w9 hs, x136_i10 hs, x136_w10 hs, x136_i11 hs, x136_w11 hs, x136_i12 hs, x136_w12 hs, x136_i13 hs, x136_w13 hs, x136_i14 hs, x136_w14 hs, x136_r15 hs, x136_i16 hs, x136_w16 hs, x136_r17 hs, x136_r18 hs, x136_r19 hs, x136_r20 hs, x136_r21 hs, x136_i22 hs, x136_w22 hs, x136_r23 hs, x136_r24 hs, x136_i25 hs, x136_w25 hs, x136_i26 hs, x136_w26 hs, x136_r27 hs, x136_r28 hs, x136_i29 hs, x136_w29 hs, x137_g hs, x137_s hs, x137_l hs, Option.bind_some, xI, xU, xUt, xIt, J_lit, J_add, J_sub, J_mul, J_neg, J_ltc, J_lec, J_eqc, lt_T, lt_F, le_T, le_F, eq_T, eq_F, ↓reduceIte, ite_not, not_true_eq_false, not_false_eq_true, true_or, or_true, false_or, or_false, true_and, and_true, false_and, and_false, up_get, Nat.reduceEqDiff, Int.reduceNeg, eqN_T, eqN_F]
      refine De.call (d_of (x := x) (k := 8) hs x0 (by omega) (by decide) (by decide)) ?_
      simp (disch := omega) only [Option.bind_some, xI, xU, xUt, xIt, J_lit, J_add, J_sub, J_mul, J_neg, J_ltc, J_lec, J_eqc, lt_T, lt_F, le_T, le_F, eq_T, eq_F, ↓reduceIte, ite_not, not_true_eq_false, not_false_eq_true, true_or, or_true, false_or, or_false, true_and, and_true, false_and, and_false, up_get, Nat.reduceEqDiff, Int.reduceNeg, eqN_T, eqN_F]
      refine De.call (d_copyAt p (m 139 (761 + 10 * x + 8)) 0 _) ?_
      simp (disch := omega) only [x136_k hs, x136_i0 hs, x136_w0 hs, x136_r1 hs, x136_r2 hs, x136_r3 hs, x136_r4 hs, x136_i5 hs, x136_w5 hs, x136_i6 hs, x136_w6 hs, x136_i7 hs, x136_w7 hs, x136_r8 hs, x136_i9 hs, x136_w9 hs, x136_i10 hs, x136_w10 hs, x136_i11 hs, x136_w11 hs, x136_i12 hs, x136_w12 hs, x136_i13 hs, x136_w13 hs, x136_i14 hs, x136_w14 hs, x136_r15 hs, x136_i16 hs, x136_w16 hs, x136_r17 hs, x136_r18 hs, x136_r19 hs, x136_r20 hs, x136_r21 hs, x136_i22 hs, x136_w22 hs, x136_r23 hs, x136_r24 hs, x136_i25 hs, x136_w25 hs, x136_i26 hs, x136_w26 hs, x136_r27 hs, x136_r28 hs, x136_i29 hs, x136_w29 hs, x137_g hs, x137_s hs, x137_l hs, Option.bind_some, xI, xU, xUt, xIt, J_lit, J_add, J_sub, J_mul, J_neg, J_ltc, J_lec, J_eqc, lt_T, lt_F, le_T, le_F, eq_T, eq_F, ↓reduceIte, ite_not, not_true_eq_false, not_false_eq_true, true_or, or_true, false_or, or_false, true_and, and_true, false_and, and_false, up_get, Nat.reduceEqDiff, Int.reduceNeg, eqN_T, eqN_F]
      exact D
  · refine ⟨m, by rw [if_neg c], fun b i hb => rfl, fun D => ?_⟩
    refine De.step ?_
    simp only [j_X11_tells_20]
    simp (disch := omega) only [b_X11_tells_20, x136_k hs, x136_i0 hs, x136_w0 hs, x136_r1 hs, x136_r2 hs, x136_r3 hs, x136_r4 hs, x136_i5 hs, x136_w5 hs, x136_i6 hs, x136_w6 hs, x136_i7 hs, x136_w7 hs, x136_r8 hs, x136_i9 hs, x136_w9 hs, x136_i10 hs, x136_w10 hs, x136_i11 hs, x136_w11 hs, x136_i12 hs, x136_w12 hs, x136_i13 hs, x136_w13 hs, x136_i14 hs, x136_w14 hs, x136_r15 hs, x136_i16 hs, x136_w16 hs, x136_r17 hs, x136_r18 hs, x136_r19 hs, x136_r20 hs, x136_r21 hs, x136_i22 hs, x136_w22 hs, x136_r23 hs, x136_r24 hs, x136_i25 hs, x136_w25 hs, x136_i26 hs, x136_w26 hs, x136_r27 hs, x136_r28 hs, x136_i29 hs, x136_w29 hs, Option.bind_some]
    refine De.call (d_phones hs) ?_
    simp (disch := omega) only [x136_k hs, x136_i0 hs, x136_w0 hs, x136_r1 hs, x136_r2 hs, x136_r3 hs, x136_r4 hs, x136_i5 hs, x136_w5 hs, x136_i6 hs, x136_w6 hs, x136_i7 hs, x136_w7 hs, x136_r8 hs, x136_i9 hs, x136_w9 hs, x136_i10 hs, x136_w10 hs, x136_i11 hs, x136_w11 hs, x136_i12 hs, x136_w12 hs, x136_i13 hs, x136_w13 hs, x136_i14 hs, x136_w14 hs, x136_r15 hs, x136_i16 hs, x136_w16 hs, x136_r17 hs, x136_r18 hs, x136_r19 hs, x136_r20 hs, x136_r21 hs, x136_i22 hs, x136_w22 hs, x136_r23 hs, x136_r24 hs, x136_i25 hs, x136_w25 hs, x136_i26 hs, x136_w26 hs, x136_r27 hs, x136_r28 hs, x136_i29 hs, x136_w29 hs, Option.bind_some, xI, xU, xUt, xIt, J_lit, J_add, J_sub, J_mul, J_neg, J_ltc, J_lec, J_eqc, lt_T, lt_F, le_T, le_F, eq_T, eq_F, ↓reduceIte, ite_not, not_true_eq_false, not_false_eq_true, true_or, or_true, false_or, or_false, true_and, and_true, false_and, and_false, up_get, Nat.reduceEqDiff, Int.reduceNeg, eqN_T, eqN_F]
    refine De.call (d_of (x := x) (k := 8) hs x0 (by omega) (by decide) (by decide)) ?_
    simp (disch := omega) only [Option.bind_some, xI, xU, xUt, xIt, J_lit, J_add, J_sub, J_mul, J_neg, J_ltc, J_lec, J_eqc, lt_T, lt_F, le_T, le_F, eq_T, eq_F, ↓reduceIte, ite_not, not_true_eq_false, not_false_eq_true, true_or, or_true, false_or, or_false, true_and, and_true, false_and, and_false, up_get, Nat.reduceEqDiff, Int.reduceNeg, eqN_T, eqN_F]
    exact D
theorem d_toldOf (hs : Sk S) {k : Int} (p0 : 0 ≤ p) (p1 : p < 10) (k0 : 0 ≤ k) (k1 : k < 3) : De (fun n => f_X11_toldOf n 0 [.ref 136, .int (J p), .int (J k)] (hp S m q)) (.inl (some (.int (J (m 139 (11 + 3 * p + k)))))) (hp S m q) := De.eq 1 (fun n => e_toldOf hs p0 p1 k0 k1 n)
theorem d_copies (hs : Sk S) (W : Wok (m 139)) (V : Vok told (m 139) (m 137)) (p0 : 0 ≤ p) (p1 : p < 10) : De (fun n => f_X11_copies n 0 [.ref 136, .int (J p)] (hp S m q)) (.inl (some (.int (J (cntw (m 137) p 30))))) (hp S m q) := by
  have w1 := W.2.1
  have v1 := V.1
  have DC := q_copies (q := q) (m := m) (p := p) hs p0 p1 (fun z z0 z1 => (V.2.2 p z p0 p1 z0 z1).1) w1.2 (m 139 1).toNat (by omega) (by omega)
  have := cntw_stop (v := m 137) (p := p) (m 139 1).toNat (30 - (m 139 1).toNat) (fun z a b c => by
    have := ((V.2.2 p z p0 p1 (by omega) (by omega)).2 c).1
    omega)
  rw [show (m 139 1).toNat + (30 - (m 139 1).toNat) = 30 by omega] at this
  rw [this]
  exact DC
theorem q_tells74 (hs : Sk S) (W : Wok (m 139)) (V : Vok told (m 139) (m 137)) (M : RulM m y g) (R : Rrul ln sp kd nm bg so g) (p0 : 0 ≤ p) (p1 : p < m 139 0) (x0 : 0 ≤ x) (x1 : x < m 139 1) (h1 : m 137 (2151 + 5 * x + 0) = -1) (hu : 0 ≤ m 139 (761 + 10 * x + 8) → m 137 (51 + 7 * (30 * p + m 139 (761 + 10 * x + 8)) + 0) = 0) (z : Int32) : ∃ m', De (fun n => f_X11_tells n 74 [.ref 136, .int (J x), .int (J p), .int z] (hp S m q)) (.inl none) (hp S m' q) ∧ m' 137 = cmS (if m 139 (11 + 3 * p + 1) ≤ cntw (m 137) p 30 then gvS (m 137) p (lsO (m 139) (m 137) g p 30).1 else m 137) p x (m 139 (761 + 10 * x + 7)) 0 (-1) 0 0 ∧ Fr4 m m' := by
  have tw := W.1.2.1
  have w1 := W.2.1
  have wx := (W.2.2 x x0 x1).2.2
  have rm := W.1.2.2 p p0 p1
  have DC := d_copies (q := q) hs W V p0 (by omega)
  have DT := d_toldOf (q := q) (m := m) (p := p) (k := 1) hs p0 (by omega) (by decide) (by decide)
  have cb := cntw_in (m 137) p 30
  by_cases c : m 139 (11 + 3 * p + 1) ≤ cntw (m 137) p 30
  · obtain ⟨mc, Dc, Fc⟩ := q_leastM (q := q) (p := p) hs W V M R p0 p1
    have c9 : mc 139 = m 139 := Fc.row (by decide) (by decide) (by decide)
    have c7 : mc 137 = m 137 := Fc.row (by decide) (by decide) (by decide)
    have L := lsO_in (w := m 139) (v := m 137) (p := p) R 30
    have ex := lsO_ex (w := m 139) (v := m 137) (g := g) (p := p) 30 (by omega)
    have l30 := L.2.1
    obtain ⟨md, Dd, A2, F2⟩ := q_givesM (q := q) (m := mc) (p := p) (x := (lsO (m 139) (m 137) g p 30).1) hs p0 (by omega) ex l30
    rw [c7] at A2
    have d9 : md 139 = m 139 := (funext fun i => F2 139 i (by decide)).trans c9
    have h2 : gvS (m 137) p (lsO (m 139) (m 137) g p 30).1 (2151 + 5 * x + 0) = -1 := by
      unfold gvS loS
      rw [ups_ne (by omega), ups_ne (by omega), h1]
    have hu2 : 0 ≤ m 139 (761 + 10 * x + 8) → gvS (m 137) p (lsO (m 139) (m 137) g p 30).1 (51 + 7 * (30 * p + m 139 (761 + 10 * x + 8)) + 0) = 0 := fun z => by
      by_cases e : m 139 (761 + 10 * x + 8) = (lsO (m 139) (m 137) g p 30).1
      · rw [e]
        unfold gvS loS
        rw [ups_ne (by omega), ups_at]
      · rw [gvS_o p0 (by omega) ex l30 p0 (by omega) z (by omega) (by decide) (by decide) (by omega)]
        exact hu z
    obtain ⟨m', D, A, F⟩ := q_tells98 (q := q) (m := md) (p := p) (x := x) hs (by rw [d9]; exact W) p0 (by rw [d9]; omega) x0 (by rw [d9]; exact x1) (by rw [A2, h2]; omega) z
    rw [d9, A2, unS_twice (l := 0) hu2] at A
    refine ⟨m', ?_, by rw [if_pos c]; exact A, fun b i b1 b2 b3 b4 => (F b i b1).trans ((F2 b i b1).trans (Fc b i b2 b3 b4))⟩
    refine De.step ?_
    simp only [j_X11_tells_74]
    simp (disch := omega) only [b_X11_tells_74, x136_k hs, x136_i0 hs, x136_w0 hs, x136_r1 hs, x136_r2 hs, x136_r3 hs, x136_r4 hs, x136_i5 hs, x136_w5 hs, x136_i6 hs, x136_w6 hs, x136_i7 hs, x136_w7 hs, x136_r8 hs, x136_i9 hs, x136_w9 hs, x136_i10 hs, x136_w10 hs, x136_i11 hs, x136_w11 hs, x136_i12 hs, x136_w12 hs, x136_i13 hs, x136_w13 hs, x136_i14 hs, x136_w14 hs, x136_r15 hs, x136_i16 hs, x136_w16 hs, x136_r17 hs, x136_r18 hs, x136_r19 hs, x136_r20 hs, x136_r21 hs, x136_i22 hs, x136_w22 hs, x136_r23 hs, x136_r24 hs, x136_i25 hs, x136_w25 hs, x136_i26 hs, x136_w26 hs, x136_r27 hs, x136_r28 hs, x136_i29 hs, x136_w29 hs, J_lit, Option.bind_some]
    refine De.call DC ?_
    simp (disch := omega) only [x136_k hs, x136_i0 hs, x136_w0 hs, x136_r1 hs, x136_r2 hs, x136_r3 hs, x136_r4 hs, x136_i5 hs, x136_w5 hs, x136_i6 hs, x136_w6 hs, x136_i7 hs, x136_w7 hs, x136_r8 hs, x136_i9 hs, x136_w9 hs, x136_i10 hs, x136_w10 hs, x136_i11 hs, x136_w11 hs, x136_i12 hs, x136_w12 hs, x136_i13 hs, x136_w13 hs, x136_i14 hs, x136_w14 hs, x136_r15 hs, x136_i16 hs, x136_w16 hs, x136_r17 hs, x136_r18 hs, x136_r19 hs, x136_r20 hs, x136_r21 hs, x136_i22 hs, x136_w22 hs, x136_r23 hs, x136_r24 hs, x136_i25 hs, x136_w25 hs, x136_i26 hs, x136_w26 hs, x136_r27 hs, x136_r28 hs, x136_i29 hs, x136_w29 hs, Option.bind_some, xI, xU, xUt, xIt, J_lit, J_add, J_sub, J_mul, J_neg, J_ltc, J_lec, J_eqc, lt_T, lt_F, le_T, le_F, eq_T, eq_F, ↓reduceIte, ite_not, not_true_eq_false, not_false_eq_true, true_or, or_true, false_or, or_false, true_and, and_true, false_and, and_false, up_get, Nat.reduceEqDiff, Int.reduceNeg, eqN_T, eqN_F]
    refine De.call DT ?_
    simp (disch := omega) only [x136_k hs, x136_i0 hs, x136_w0 hs, x136_r1 hs, x136_r2 hs, x136_r3 hs, x136_r4 hs, x136_i5 hs, x136_w5 hs, x136_i6 hs, x136_w6 hs, x136_i7 hs, x136_w7 hs, x136_r8 hs, x136_i9 hs, x136_w9 hs, x136_i10 hs, x136_w10 hs, x136_i11 hs, x136_w11 hs, x136_i12 hs, x136_w12 hs, x136_i13 hs, x136_w13 hs, x136_i14 hs, x136_w14 hs, x136_r15 hs, x136_i16 hs, x136_w16 hs, x136_r17 hs, x136_r18 hs, x136_r19 hs, x136_r20 hs, x136_r21 hs, x136_i22 hs, x136_w22 hs, x136_r23 hs, x136_r24 hs, x136_i25 hs, x136_w25 hs, x136_i26 hs, x136_w26 hs, x136_r27 hs, x136_r28 hs, x136_i29 hs, x136_w29 hs, Option.bind_some, xI, xU, xUt, xIt, J_lit, J_add, J_sub, J_mul, J_neg, J_ltc, J_lec, J_eqc, lt_T, lt_F, le_T, le_F, eq_T, eq_F, ↓reduceIte, ite_not, not_true_eq_false, not_false_eq_true, true_or, or_true, false_or, or_false, true_and, and_true, false_and, and_false, up_get, Nat.reduceEqDiff, Int.reduceNeg, eqN_T, eqN_F]
    refine De.call Dc ?_
    simp (disch := omega) only [x136_k hs, x136_i0 hs, x136_w0 hs, x136_r1 hs, x136_r2 hs, x136_r3 hs, x136_r4 hs, x136_i5 hs, x136_w5 hs, x136_i6 hs, x136_w6 hs, x136_i7 hs, x136_w7 hs, x136_r8 hs, x136_i9 hs, x136_w9 hs, x136_i10 hs, x136_w10 hs, x136_i11 hs, x136_w11 hs, x136_i12 hs, x136_w12 hs, x136_i13 hs, x136_w13 hs, x136_i14 hs, x136_w14 hs, x136_r15 hs, x136_i16 hs, x136_w16 hs, x136_r17 hs, x136_r18 hs, x136_r19 hs, x136_r20 hs, x136_r21 hs, x136_i22 hs, x136_w22 hs, x136_r23 hs, x136_r24 hs, x136_i25 hs, x136_w25 hs, x136_i26 hs, x136_w26 hs, x136_r27 hs, x136_r28 hs, x136_i29 hs, x136_w29 hs, Option.bind_some, xI, xU, xUt, xIt, J_lit, J_add, J_sub, J_mul, J_neg, J_ltc, J_lec, J_eqc, lt_T, lt_F, le_T, le_F, eq_T, eq_F, ↓reduceIte, ite_not, not_true_eq_false, not_false_eq_true, true_or, or_true, false_or, or_false, true_and, and_true, false_and, and_false, up_get, Nat.reduceEqDiff, Int.reduceNeg, eqN_T, eqN_F]
    refine De.call Dd ?_
    simp only [xU]
    exact D
  · obtain ⟨m', D, A, F⟩ := q_tells98 (q := q) (m := m) (p := p) (x := x) hs W p0 p1 x0 x1 (by rw [h1]; omega) z
    rw [unS_twice (l := 0) hu] at A
    refine ⟨m', ?_, by rw [if_neg c]; exact A, fun b i b1 b2 b3 b4 => F b i b1⟩
    refine De.step ?_
    simp only [j_X11_tells_74]
    simp (disch := omega) only [b_X11_tells_74, x136_k hs, x136_i0 hs, x136_w0 hs, x136_r1 hs, x136_r2 hs, x136_r3 hs, x136_r4 hs, x136_i5 hs, x136_w5 hs, x136_i6 hs, x136_w6 hs, x136_i7 hs, x136_w7 hs, x136_r8 hs, x136_i9 hs, x136_w9 hs, x136_i10 hs, x136_w10 hs, x136_i11 hs, x136_w11 hs, x136_i12 hs, x136_w12 hs, x136_i13 hs, x136_w13 hs, x136_i14 hs, x136_w14 hs, x136_r15 hs, x136_i16 hs, x136_w16 hs, x136_r17 hs, x136_r18 hs, x136_r19 hs, x136_r20 hs, x136_r21 hs, x136_i22 hs, x136_w22 hs, x136_r23 hs, x136_r24 hs, x136_i25 hs, x136_w25 hs, x136_i26 hs, x136_w26 hs, x136_r27 hs, x136_r28 hs, x136_i29 hs, x136_w29 hs, J_lit, Option.bind_some]
    refine De.call DC ?_
    simp (disch := omega) only [x136_k hs, x136_i0 hs, x136_w0 hs, x136_r1 hs, x136_r2 hs, x136_r3 hs, x136_r4 hs, x136_i5 hs, x136_w5 hs, x136_i6 hs, x136_w6 hs, x136_i7 hs, x136_w7 hs, x136_r8 hs, x136_i9 hs, x136_w9 hs, x136_i10 hs, x136_w10 hs, x136_i11 hs, x136_w11 hs, x136_i12 hs, x136_w12 hs, x136_i13 hs, x136_w13 hs, x136_i14 hs, x136_w14 hs, x136_r15 hs, x136_i16 hs, x136_w16 hs, x136_r17 hs, x136_r18 hs, x136_r19 hs, x136_r20 hs, x136_r21 hs, x136_i22 hs, x136_w22 hs, x136_r23 hs, x136_r24 hs, x136_i25 hs, x136_w25 hs, x136_i26 hs, x136_w26 hs, x136_r27 hs, x136_r28 hs, x136_i29 hs, x136_w29 hs, Option.bind_some, xI, xU, xUt, xIt, J_lit, J_add, J_sub, J_mul, J_neg, J_ltc, J_lec, J_eqc, lt_T, lt_F, le_T, le_F, eq_T, eq_F, ↓reduceIte, ite_not, not_true_eq_false, not_false_eq_true, true_or, or_true, false_or, or_false, true_and, and_true, false_and, and_false, up_get, Nat.reduceEqDiff, Int.reduceNeg, eqN_T, eqN_F]
    refine De.call DT ?_
    simp (disch := omega) only [Option.bind_some, xI, xU, xUt, xIt, J_lit, J_add, J_sub, J_mul, J_neg, J_ltc, J_lec, J_eqc, lt_T, lt_F, le_T, le_F, eq_T, eq_F, ↓reduceIte, ite_not, not_true_eq_false, not_false_eq_true, true_or, or_true, false_or, or_false, true_and, and_true, false_and, and_false, up_get, Nat.reduceEqDiff, Int.reduceNeg, eqN_T, eqN_F]
    exact D
theorem q_tells0 (hs : Sk S) (x0 : 0 ≤ x) (x1 : x < 30) {r' : xR} {P' : xH} (D : De (fun n => f_X11_tells n 20 [.ref 136, .int (J x), .int (J (m 139 (761 + 10 * x + 1))), .int (J 0)] (hp S (up m 137 (2151 + 5 * x + 0) (-1)) q)) r' P') : De (fun n => f_X11_tells n 0 [.ref 136, .int (J x)] (hp S m q)) r' P' := by
  refine De.cg 2 (fun n => ?_) (De.sh 1 D)
  rw [j_X11_tells_0]
  simp (disch := omega) only [b_X11_tells_0, e_of hs, e_hadAt, x136_k hs, x136_i0 hs, x136_w0 hs, x136_r1 hs, x136_r2 hs, x136_r3 hs, x136_r4 hs, x136_i5 hs, x136_w5 hs, x136_i6 hs, x136_w6 hs, x136_i7 hs, x136_w7 hs, x136_r8 hs, x136_i9 hs, x136_w9 hs, x136_i10 hs, x136_w10 hs, x136_i11 hs, x136_w11 hs, x136_i12 hs, x136_w12 hs, x136_i13 hs, x136_w13 hs, x136_i14 hs, x136_w14 hs, x136_r15 hs, x136_i16 hs, x136_w16 hs, x136_r17 hs, x136_r18 hs, x136_r19 hs, x136_r20 hs, x136_r21 hs, x136_i22 hs, x136_w22 hs, x136_r23 hs, x136_r24 hs, x136_i25 hs, x136_w25 hs, x136_i26 hs, x136_w26 hs, x136_r27 hs, x136_r28 hs, x136_i29 hs, x136_w29 hs, x137_g hs, x137_s hs, x137_l hs, Option.bind_some, xI, xU, xUt, xIt, J_lit, J_add, J_sub, J_mul, J_neg, J_ltc, J_lec, J_eqc, lt_T, lt_F, le_T, le_F, eq_T, eq_F, ↓reduceIte, ite_not, not_true_eq_false, not_false_eq_true, true_or, or_true, false_or, or_false, true_and, and_true, false_and, and_false, up_get, Nat.reduceEqDiff, Int.reduceNeg, eqN_T, eqN_F]
theorem q_tellsM (hs : Sk S) (W : Wok (m 139)) (V : Vok told (m 139) (m 137)) (M : RulM m y g) (R : Rrul ln sp kd nm bg so g) (hx : told = x) (x1 : x < m 139 1) : ∃ m', De (fun n => f_X11_tells n 0 [.ref 136, .int (J x)] (hp S m q)) (.inl none) (hp S m' q) ∧ m' 137 = tlS (m 139) (m 137) g x ∧ Fr4 m m' := by
  have tw := W.1.2.1
  have w1 := W.2.1
  have v1 := V.1
  have x0 : 0 ≤ x := by omega
  have wx := W.2.2 x x0 x1
  have hz0 : ∀ k : Int, 0 ≤ k → k < m 139 0 → m 137 (51 + 7 * (30 * k + x) + 0) = 0 := fun k k0 k1 => by
    have h := V.2.2 k x k0 (by omega) x0 (by omega)
    by_cases c : m 137 (51 + 7 * (30 * k + x) + 0) = 1
    · have := (h.2 c).1
      omega
    · omega
  have a7 : up m 137 (2151 + 5 * x + 0) (-1) 137 = ups (m 137) (2151 + 5 * x + 0) (-1) := row_up _ _ _ _
  have a9 : up m 137 (2151 + 5 * x + 0) (-1) 139 = m 139 := funext fun i => up_a (by decide)
  obtain ⟨mb, hb7, hb, Db⟩ := tellsU (q := q) (m := up m 137 (2151 + 5 * x + 0) (-1)) (p := m 139 (761 + 10 * x + 1)) (x := x) hs (by rw [a9]; exact W) (by omega) (by rw [a9]; omega) x0 (by rw [a9]; exact x1)
  rw [a9, a7] at hb7
  have hb' : ∀ b i, b ≠ 137 → mb b i = m b i := fun b i h => (hb b i h).trans (up_a h)
  have b9 : mb 139 = m 139 := funext fun i => hb' 139 i (by decide)
  have b7 : mb 137 = t1S (m 139) (m 137) x := hb7
  have V0 : Vok told (m 139) (ups (m 137) (2151 + 5 * x + 0) (-1)) := V.hi tw (fun i hi => ups_ne (by omega))
  have V1 : Vok told (m 139) (t1S (m 139) (m 137) x) := V0.un W (by omega) (by omega) x0 x1
  have h1 : t1S (m 139) (m 137) x (2151 + 5 * x + 0) = -1 := by
    unfold t1S
    rw [unS_o (by omega) W (by omega) (by omega) x0 x1, ups_at]
  have hu : 0 ≤ m 139 (761 + 10 * x + 8) → t1S (m 139) (m 137) x (51 + 7 * (30 * m 139 (761 + 10 * x + 1) + m 139 (761 + 10 * x + 8)) + 0) = 0 := fun c => by
    unfold t1S unS loS
    rw [if_pos c, ups_at]
  obtain ⟨m', D, A, F⟩ := q_tells74 (q := q) (m := mb) (p := m 139 (761 + 10 * x + 1)) (x := x) hs (by rw [b9]; exact W) (by rw [b9, b7]; exact V1) (M.cg (hb' 136 6 (by decide)) (fun i => hb' 139 i (by decide))) R (by omega) (by rw [b9]; omega) x0 (by rw [b9]; exact x1) (by rw [b7]; exact h1) (by rw [b9, b7]; exact hu) (J (m 139 0))
  rw [b9, b7] at A
  refine ⟨m', ?_, A, fun b i b1 b2 b3 b4 => (F b i b1 b2 b3 b4).trans (hb' b i b1)⟩
  refine q_tells0 hs x0 (by omega) ?_
  refine q_tells20 hs (by rw [a9]; exact tw) x0 (by omega) (fun k k0 k1 => ?_) (Db (by rw [a9]; exact D)) (m 139 0).toNat 0 (by decide) (by rw [a9]; omega)
  rw [a9] at k1
  rw [a7, ups_ne (by omega)]
  exact hz0 k k0 k1
end TELLM
