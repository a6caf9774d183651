/-! the whole text, by both -/
def FrTx (m m' : Nat → Int → Int) : Prop := ∀ c j, ¬ (c = 1 ∧ 2 ≤ j ∧ j ≤ 7) → ¬ (c = 2 ∧ (j = 3 ∨ j = 5)) → c ≠ 3 → c ≠ 4 → ¬ (c = 5 ∧ 1 ≤ j) → c ≠ 6 → m' c j = m c j
theorem FrL.m {m m1 : Nat → Int → Int} (h : FrL m m1) : FrTx m m1 := fun c j a b d e f g => h c j (by omega) b d e f g
theorem FrTx.tr {m m1 m2 : Nat → Int → Int} (h1 : FrTx m m1) (h2 : FrTx m1 m2) : FrTx m m2 := fun c j a b d e f g => (h2 c j a b d e f g).trans (h1 c j a b d e f g)
def Cfn (m : Nat → Int → Int) (g : Int → Int) (L s : Int) : Prop := Lrw m g L ∧ m 2 3 = L ∧ m 2 5 = s ∧ ∀ i : Int, 0 ≤ i → i < s → m 6 i = encS (g (41 + 2 * i)) (g (41 + 2 * i + 1))
section TEXT
variable {S : xH} {m m' m0 : Nat → Int → Int} {q : Nat → Int → Int64} {b g g' g2 : Int → Int} {n B s s' B' L d t nb e : Int}
theorem CLs.fn (h : CLs m b n B s g L) : Cfn m g L s := ⟨h.2, h.1.2.2.2.1.1, h.1.2.2.2.2.1.1, h.1.2.2.2.2.2⟩
theorem Cfn.up2 (h : Cfn m g L s) (x : Int) : Cfn (up m 1 2 x) g L s := ⟨⟨(up_a (by decide)).trans h.1.1, fun j j0 j1 => by rw [up_a (by decide), up_a (by decide), up_a (by decide), up_a (by decide)]; exact h.1.2 j j0 j1⟩, (up_a (by decide)).trans h.2.1, (up_a (by decide)).trans h.2.2.1, fun i i0 i1 => by rw [up_a (by decide)]; exact h.2.2.2 i i0 i1⟩
/-- the rules that the draft holds -/
theorem Cfn.rul (h : Cfn m g L s) (P : PLn g L s) (L0 : 0 ≤ L) (L1 : L ≤ 10) (s0 : 0 ≤ s) (s1 : s ≤ 200) : RulC m 2 (ups g 0 L) := by
  obtain ⟨⟨hz, hr⟩, h1, h2, h3⟩ := h
  have e0 : ups g 0 L 0 = L := ups_at _ _ _
  refine ⟨by rw [e0]; exact h1, by omega, by omega, by omega, by omega, fun j j0 j1 => ?_, fun i i0 i1 => ?_⟩
  · rw [e0] at j1
    obtain ⟨a1, a2, a3, a4⟩ := hr j j0 j1
    obtain ⟨b1, b2, b3⟩ := P.1 j j0 j1
    show (m 3 j = _ ∧ m 4 j = _ ∧ m 5 j = _ ∧ m 5 (j + 1) = _) ∧ (0 ≤ m 3 j ∧ m 3 j ≤ 3 ∧ 0 ≤ m 4 j ∧ m 4 j ≤ 9999 ∧ (m 3 j = 2 → m 4 j ≤ 100) ∧ 0 ≤ m 5 j ∧ m 5 j ≤ m 5 (j + 1) ∧ m 5 (j + 1) ≤ m 2 5) ∧ (m 5 j < m 5 (j + 1) → wfS (ups g 0 L) (m 5 j) (m 5 (j + 1) - m 5 j).toNat 0 = some 1)
    rw [a1, a2, a3, a4, h2, ups_ne (by omega), ups_ne (by omega), ups_ne (by omega), ups_ne (by omega)]
    refine ⟨⟨rfl, rfl, rfl, rfl⟩, by omega, fun z => ?_⟩
    rw [wfS_congr _ _ _ (fun k k0 k1 => ups_ne (by omega))]
    exact b3 z
  · have i1' : i < s := by rw [← h2]; exact i1
    show m 6 i = _ ∧ _
    rw [h3 i i0 i1', ups_ne (by omega), ups_ne (by omega)]
    have := P.2 i i0 i1'
    exact ⟨rfl, this.1.1, this.1.2, this.2⟩
theorem c_r68 (hs : Sk S) (x y : Int32) {z : Int} (hz : m 1 3 = z) (z0 : -1 ≤ z) (z1 : z ≤ 400) : De (fun k => f_X3_read k 68 [.ref 1, .int x, .int y] (hp S m q)) (.inl (some (.int (J (if z = -1 then 1 else 0))))) (hp S (up m 1 2 0) q) := by
  by_cases c : z = -1
  · rw [if_pos c]
    rw [c] at hz
    refine De.step ?_
    simp only [j_X3_read_68]
    simp (disch := omega) only [b_X3_read_68, x1_k hs, x1_r0 hs, x1_r1 hs, x1_i2 hs, x1_w2 hs, x1_i3 hs, x1_w3 hs, x1_i4 hs, x1_w4 hs, x1_i5 hs, x1_w5 hs, x1_i6 hs, x1_w6 hs, x1_i7 hs, x1_w7 hs, hz, Option.bind_some, xI, xU, xUt, xIt, J_lit, J_add, J_sub, J_mul, J_neg, J_ltc, J_lec, J_eqc, lt_T, lt_F, le_T, le_F, eq_T, eq_F, ↓reduceIte, ite_not, not_true_eq_false, not_false_eq_true, true_or, or_true, false_or, or_false, true_and, and_true, false_and, and_false, up_get, Nat.reduceEqDiff, Int.reduceNeg, eqN_T, eqN_F]
    exact De.ret _ _
  · rw [if_neg c]
    refine De.step ?_
    simp only [j_X3_read_68]
    simp (disch := omega) only [b_X3_read_68, x1_k hs, x1_r0 hs, x1_r1 hs, x1_i2 hs, x1_w2 hs, x1_i3 hs, x1_w3 hs, x1_i4 hs, x1_w4 hs, x1_i5 hs, x1_w5 hs, x1_i6 hs, x1_w6 hs, x1_i7 hs, x1_w7 hs, hz, Option.bind_some, xI, xU, xUt, xIt, J_lit, J_add, J_sub, J_mul, J_neg, J_ltc, J_lec, J_eqc, lt_T, lt_F, le_T, le_F, eq_T, eq_F, ↓reduceIte, ite_not, not_true_eq_false, not_false_eq_true, true_or, or_true, false_or, or_false, true_and, and_true, false_and, and_false, up_get, Nat.reduceEqDiff, Int.reduceNeg, eqN_T, eqN_F]
    exact De.ret _ _
/-- no line must come any more -/
theorem c_r38z (hs : Sk S) (L0 : 0 ≤ L) (L1 : L ≤ 11) {R : xR} {P : xH} (D : ∀ x y : Int32, De (fun k => f_X3_read k 68 [.ref 1, .int x, .int y] (hp S m q)) R P) : De (fun k => f_X3_read k 38 [.ref 1, .int (J 0), .int (J L)] (hp S m q)) R P := by
  have D59 : De (fun k => f_X3_read k 59 [.ref 1, .int (J 0), .int (J L)] (hp S m q)) R P := by
    refine De.step ?_
    simp only [j_X3_read_59]
    simp (disch := omega) only [b_X3_read_59, Option.bind_some, xI, xU, xUt, xIt, J_lit, J_add, J_sub, J_mul, J_neg, J_ltc, J_lec, J_eqc, lt_T, lt_F, le_T, le_F, eq_T, eq_F, ↓reduceIte, ite_not, not_true_eq_false, not_false_eq_true, true_or, or_true, false_or, or_false, true_and, and_true, false_and, and_false, up_get, Nat.reduceEqDiff, Int.reduceNeg, eqN_T, eqN_F]
    exact D _ _
  by_cases c : 10 ≤ L
  · refine De.step ?_
    simp only [j_X3_read_38]
    simp (disch := omega) only [b_X3_read_38, Option.bind_some, xI, xU, xUt, xIt, J_lit, J_add, J_sub, J_mul, J_neg, J_ltc, J_lec, J_eqc, lt_T, lt_F, le_T, le_F, eq_T, eq_F, ↓reduceIte, ite_not, not_true_eq_false, not_false_eq_true, true_or, or_true, false_or, or_false, true_and, and_true, false_and, and_false, up_get, Nat.reduceEqDiff, Int.reduceNeg, eqN_T, eqN_F]
    exact D59
  · refine De.step ?_
    simp only [j_X3_read_38]
    simp (disch := omega) only [b_X3_read_38, Option.bind_some, xI, xU, xUt, xIt, J_lit, J_add, J_sub, J_mul, J_neg, J_ltc, J_lec, J_eqc, lt_T, lt_F, le_T, le_F, eq_T, eq_F, ↓reduceIte, ite_not, not_true_eq_false, not_false_eq_true, true_or, or_true, false_or, or_false, true_and, and_true, false_and, and_false, up_get, Nat.reduceEqDiff, Int.reduceNeg, eqN_T, eqN_F]
    exact D59
/-- the reference behind a line that is good -/
theorem r_tail (hs : Sk S) (hB : Bok b n B) (h : RLs m b n B s g) : ∃ m1, De (fun k => f_X11_blanks k 0 [.ref 136] (hp S m q)) (.inl none) (hp S m1 q) ∧ RLs m1 b n B s g ∧ m1 136 10 = B ∧ m1 136 11 = n ∧ m1 136 12 = B ∧ FrRe m m1 ∧ Rp m1 b n B := by
  obtain ⟨d, h⟩ := h
  obtain ⟨p, R, e⟩ := h.1
  obtain ⟨m1, D1, R1, B1, F1⟩ := d_blanks (q := q) hs R
  rw [e] at R1 B1
  exact ⟨m1, D1, ⟨d, h.fr F1 R1 hB.2.1⟩, R1.1, R1.2.1, B1, F1.r, R1⟩
theorem rd_loop : ∀ (k : Nat) (L B s : Int) (g : Int → Int), L + k = 10 → 0 ≤ L → Bok b n B → 0 ≤ s → 2 * s ≤ B → PLn g L s →
  ∃ (good : Bool) (F Lf sf : Int) (gf : Int → Int), ((good = true → (0 ≤ Lf ∧ Lf ≤ 10) ∧ (0 ≤ sf ∧ sf ≤ 200) ∧ PLn gf Lf sf) ∧ (good = false → 0 ≤ F ∧ F ≤ n)) ∧
  (∀ (S : xH) (m : Nat → Int → Int) (q : Nat → Int → Int64), Sk S → CLs m b n B s g L → m 1 3 = -1 → ∃ m', De (fun k => f_X3_read k 38 [.ref 1, .int (J 1), .int (J L)] (hp S m q)) (.inl (some (.int (J (bI good))))) (hp S m' q) ∧ FrTx m m' ∧ m' 1 2 = 0 ∧ (good = true → m' 1 3 = -1 ∧ Cfn m' gf Lf sf) ∧ (good = false → m' 1 3 = F)) ∧
  (∀ (S : xH) (m : Nat → Int → Int) (q : Nat → Int → Int64), Sk S → RLs m b n B s g → ∃ m', De (fun k => f_X11_readAll k 24 [.ref 136, .int (J L)] (hp S m q)) (.inl (some (.int (J (if good = true then Lf else -1))))) (hp S m' q) ∧ FrRe m m' ∧ (good = true → ∀ i : Int, 0 ≤ i → i < 841 → m' 139 (5080 + i) = gf i) ∧ (good = false → m' 136 12 = F)) := by
  intro k
  induction k with
  | zero =>
    intro L B s g hk L0 hB s0 s2 PL
    have h1 := hB.1
    refine ⟨false, B, L, s, g, ⟨fun z => absurd z (by decide), fun _ => ⟨h1.1, h1.2.1⟩⟩, fun S m q hs h hw => ?_, fun S m q hs h => ?_⟩
    · have tk := h.1.tk
      have DX := c_fail (q := q) hs tk.2
      have D68 := c_r68 (q := q) (m := up m 1 3 B) hs (J 1) (J L) (up_at _ _ _ _) (by omega) (by omega)
      rw [if_neg (by omega)] at D68
      refine ⟨up (up m 1 3 B) 1 2 0, ?_, fun c j a _ _ _ _ _ => by rw [up_get, if_neg (by omega), up_get, if_neg (by omega)], up_at _ _ _ _, fun z => absurd z (by decide), fun _ => by rw [up_i (by decide), up_at]⟩
      refine De.step ?_
      simp only [j_X3_read_38]
      simp (disch := omega) only [b_X3_read_38, Option.bind_some, xI, xU, xUt, xIt, J_lit, J_add, J_sub, J_mul, J_neg, J_ltc, J_lec, J_eqc, lt_T, lt_F, le_T, le_F, eq_T, eq_F, ↓reduceIte, ite_not, not_true_eq_false, not_false_eq_true, true_or, or_true, false_or, or_false, true_and, and_true, false_and, and_false, up_get, Nat.reduceEqDiff, Int.reduceNeg, eqN_T, eqN_F]
      refine De.step ?_
      simp only [j_X3_read_59]
      simp (disch := omega) only [b_X3_read_59, x1_k hs, x1_r0 hs, x1_r1 hs, x1_i2 hs, x1_w2 hs, x1_i3 hs, x1_w3 hs, x1_i4 hs, x1_w4 hs, x1_i5 hs, x1_w5 hs, x1_i6 hs, x1_w6 hs, x1_i7 hs, x1_w7 hs, Option.bind_some, xI, xU, xUt, xIt, J_lit, J_add, J_sub, J_mul, J_neg, J_ltc, J_lec, J_eqc, lt_T, lt_F, le_T, le_F, eq_T, eq_F, ↓reduceIte, ite_not, not_true_eq_false, not_false_eq_true, true_or, or_true, false_or, or_false, true_and, and_true, false_and, and_false, up_get, Nat.reduceEqDiff, Int.reduceNeg, eqN_T, eqN_F]
      refine De.call DX ?_
      simp (disch := omega) only [bI_f, Option.bind_some, xI, xU, xUt, xIt, J_lit, J_add, J_sub, J_mul, J_neg, J_ltc, J_lec, J_eqc, lt_T, lt_F, le_T, le_F, eq_T, eq_F, ↓reduceIte, ite_not, not_true_eq_false, not_false_eq_true, true_or, or_true, false_or, or_false, true_and, and_true, false_and, and_false, up_get, Nat.reduceEqDiff, Int.reduceNeg, eqN_T, eqN_F]
      exact D68
    · obtain ⟨d, h⟩ := h
      obtain ⟨m1, D1, R1, B1, F1⟩ := r_letters (q := q) hs hB h
      have e10 : L = 10 := by omega
      have DL : De (fun k => f_X11_readLine k 0 [.ref 136, .int (J L)] (hp S m q)) (.inl (some (.int (J 0)))) (hp S m1 q) := by
        rw [e10]
        refine De.step ?_
        simp only [j_X11_readLine_0]
        simp (disch := omega) only [b_X11_readLine_0, x136_k hs, x136_i0 hs, x136_w0 hs, x136_r1 hs, x136_r2 hs, x136_r3 hs, x136_r4 hs, x136_i5 hs, x136_w5 hs, x136_i6 hs, x136_w6 hs, x136_i7 hs, x136_w7 hs, x136_r8 hs, x136_i9 hs, x136_w9 hs, x136_i10 hs, x136_w10 hs, x136_i11 hs, x136_w11 hs, x136_i12 hs, x136_w12 hs, x136_i13 hs, x136_w13 hs, x136_i14 hs, x136_w14 hs, x136_r15 hs, x136_i16 hs, x136_w16 hs, x136_r17 hs, x136_r18 hs, x136_r19 hs, x136_r20 hs, x136_r21 hs, x136_i22 hs, x136_w22 hs, x136_r23 hs, x136_r24 hs, x136_i25 hs, x136_w25 hs, x136_i26 hs, x136_w26 hs, x136_r27 hs, x136_r28 hs, x136_i29 hs, x136_w29 hs, Option.bind_some]
        refine De.call D1 ?_
        simp (disch := omega) only [Option.bind_some, xI, xU, xUt, xIt, J_lit, J_add, J_sub, J_mul, J_neg, J_ltc, J_lec, J_eqc, lt_T, lt_F, le_T, le_F, eq_T, eq_F, ↓reduceIte, ite_not, not_true_eq_false, not_false_eq_true, true_or, or_true, false_or, or_false, true_and, and_true, false_and, and_false, up_get, Nat.reduceEqDiff, Int.reduceNeg, eqN_T, eqN_F]
        exact De.ret _ _
      refine ⟨m1, ?_, F1.r, fun z => absurd z (by decide), fun _ => B1⟩
      refine De.step ?_
      simp only [j_X11_readAll_24]
      simp (disch := omega) only [b_X11_readAll_24, x136_k hs, x136_i0 hs, x136_w0 hs, x136_r1 hs, x136_r2 hs, x136_r3 hs, x136_r4 hs, x136_i5 hs, x136_w5 hs, x136_i6 hs, x136_w6 hs, x136_i7 hs, x136_w7 hs, x136_r8 hs, x136_i9 hs, x136_w9 hs, x136_i10 hs, x136_w10 hs, x136_i11 hs, x136_w11 hs, x136_i12 hs, x136_w12 hs, x136_i13 hs, x136_w13 hs, x136_i14 hs, x136_w14 hs, x136_r15 hs, x136_i16 hs, x136_w16 hs, x136_r17 hs, x136_r18 hs, x136_r19 hs, x136_r20 hs, x136_r21 hs, x136_i22 hs, x136_w22 hs, x136_r23 hs, x136_r24 hs, x136_i25 hs, x136_w25 hs, x136_i26 hs, x136_w26 hs, x136_r27 hs, x136_r28 hs, x136_i29 hs, x136_w29 hs, Option.bind_some]
      refine De.call DL ?_
      simp (disch := omega) only [Bool.false_eq_true, Option.bind_some, xI, xU, xUt, xIt, J_lit, J_add, J_sub, J_mul, J_neg, J_ltc, J_lec, J_eqc, lt_T, lt_F, le_T, le_F, eq_T, eq_F, ↓reduceIte, ite_not, not_true_eq_false, not_false_eq_true, true_or, or_true, false_or, or_false, true_and, and_true, false_and, and_false, up_get, Nat.reduceEqDiff, Int.reduceNeg, eqN_T, eqN_F]
      exact De.ret _ _
  | succ k IH =>
    intro L B s g hk L0 hB s0 s2 PL
    have h1 := hB.1
    obtain ⟨ok, Bt, s', g', FC, CL, RE⟩ := ln_core hB s0 s2 L0 (by omega) PL
    have RF : ∀ (S : xH) (m m1 : Nat → Int → Int) (q : Nat → Int → Int64), Sk S → De (fun k => f_X11_readLine k 0 [.ref 136, .int (J L)] (hp S m q)) (.inl (some (.int (J 0)))) (hp S m1 q) → De (fun k => f_X11_readAll k 24 [.ref 136, .int (J L)] (hp S m q)) (.inl (some (.int (J (-1))))) (hp S m1 q) := by
      intro S m m1 q hs D
      refine De.step ?_
      simp only [j_X11_readAll_24]
      simp (disch := omega) only [b_X11_readAll_24, x136_k hs, x136_i0 hs, x136_w0 hs, x136_r1 hs, x136_r2 hs, x136_r3 hs, x136_r4 hs, x136_i5 hs, x136_w5 hs, x136_i6 hs, x136_w6 hs, x136_i7 hs, x136_w7 hs, x136_r8 hs, x136_i9 hs, x136_w9 hs, x136_i10 hs, x136_w10 hs, x136_i11 hs, x136_w11 hs, x136_i12 hs, x136_w12 hs, x136_i13 hs, x136_w13 hs, x136_i14 hs, x136_w14 hs, x136_r15 hs, x136_i16 hs, x136_w16 hs, x136_r17 hs, x136_r18 hs, x136_r19 hs, x136_r20 hs, x136_r21 hs, x136_i22 hs, x136_w22 hs, x136_r23 hs, x136_r24 hs, x136_i25 hs, x136_w25 hs, x136_i26 hs, x136_w26 hs, x136_r27 hs, x136_r28 hs, x136_i29 hs, x136_w29 hs, Option.bind_some]
      refine De.call D ?_
      simp (disch := omega) only [Option.bind_some, xI, xU, xUt, xIt, J_lit, J_add, J_sub, J_mul, J_neg, J_ltc, J_lec, J_eqc, lt_T, lt_F, le_T, le_F, eq_T, eq_F, ↓reduceIte, ite_not, not_true_eq_false, not_false_eq_true, true_or, or_true, false_or, or_false, true_and, and_true, false_and, and_false, up_get, Nat.reduceEqDiff, Int.reduceNeg, eqN_T, eqN_F]
      exact De.ret _ _
    have CF : ∀ (S : xH) (m m1 : Nat → Int → Int) (q : Nat → Int → Int64) (z : Int), Sk S → m1 1 3 = z → -1 ≤ z → z ≤ 400 → De (fun k => f_X3_readLine k 0 [.ref 1] (hp S m q)) (.inl (some (.int (J 0)))) (hp S m1 q) → De (fun k => f_X3_read k 38 [.ref 1, .int (J 1), .int (J L)] (hp S m q)) (.inl (some (.int (J (if z = -1 then 1 else 0))))) (hp S (up m1 1 2 0) q) := by
      intro S m m1 q z hs hz z0 z1 D
      refine De.step ?_
      simp only [j_X3_read_38]
      simp (disch := omega) only [b_X3_read_38, x1_k hs, x1_r0 hs, x1_r1 hs, x1_i2 hs, x1_w2 hs, x1_i3 hs, x1_w3 hs, x1_i4 hs, x1_w4 hs, x1_i5 hs, x1_w5 hs, x1_i6 hs, x1_w6 hs, x1_i7 hs, x1_w7 hs, Option.bind_some, xI, xU, xUt, xIt, J_lit, J_add, J_sub, J_mul, J_neg, J_ltc, J_lec, J_eqc, lt_T, lt_F, le_T, le_F, eq_T, eq_F, ↓reduceIte, ite_not, not_true_eq_false, not_false_eq_true, true_or, or_true, false_or, or_false, true_and, and_true, false_and, and_false, up_get, Nat.reduceEqDiff, Int.reduceNeg, eqN_T, eqN_F]
      refine De.call D ?_
      simp (disch := omega) only [Option.bind_some, xI, xU, xUt, xIt, J_lit, J_add, J_sub, J_mul, J_neg, J_ltc, J_lec, J_eqc, lt_T, lt_F, le_T, le_F, eq_T, eq_F, ↓reduceIte, ite_not, not_true_eq_false, not_false_eq_true, true_or, or_true, false_or, or_false, true_and, and_true, false_and, and_false, up_get, Nat.reduceEqDiff, Int.reduceNeg, eqN_T, eqN_F]
      exact c_r38z hs (by omega) (by omega) (fun x y => c_r68 hs x y hz z0 z1)
    cases ok with
    | false =>
      have f2 := FC.2 rfl
      refine ⟨false, Bt, L, s, g, ⟨fun z => absurd z (by decide), fun _ => f2⟩, fun S m q hs h hw => ?_, fun S m q hs h => ?_⟩
      · obtain ⟨m1, F1, c1, -⟩ := CL S m q hs h
        obtain ⟨D1, w1⟩ := c1 rfl
        have D := CF S m m1 q Bt hs w1 (by omega) (by omega) D1
        rw [if_neg (by omega)] at D
        exact ⟨up m1 1 2 0, D, F1.m.tr (fun c j a _ _ _ _ _ => if_neg (by omega)), up_at _ _ _ _, fun z => absurd z (by decide), fun _ => (up_i (by decide)).trans w1⟩
      · obtain ⟨m1, D1, F1, -, r2⟩ := RE S m q hs h
        exact ⟨m1, RF S m m1 q hs D1, F1, fun z => absurd z (by decide), fun _ => r2 rfl⟩
    | true =>
      obtain ⟨hBt, y1, y2, y3, y4⟩ := FC.1 rfl
      have b1 := hBt.1
      have trt := tok_rng hBt
      by_cases c21 : tok b n Bt = 21
      · have en : Bt = n := by
          by_cases z : n ≤ Bt
          · omega
          · exfalso
            have := tok_20 (b := b) (n := n) (B := Bt)
            unfold tok at c21
            rw [if_neg z] at c21
            by_cases cd : 48 ≤ b Bt ∧ b Bt ≤ 57
            · rw [if_pos cd] at c21
              omega
            · rw [if_neg cd] at c21
              by_cases cl : 97 ≤ b Bt ∧ b Bt ≤ 122
              · rw [if_pos cl] at c21
                rcases nmF_in (b := b) (B := Bt) (e := rn b n 97 122 Bt) 20 (by omega) with ⟨x1, -⟩ | ⟨x1, x2, x3, -⟩ <;> omega
              · rw [if_neg cl] at c21
                omega
        refine ⟨true, 0, L + 1, s', g', ⟨fun _ => ⟨⟨by omega, by omega⟩, ⟨by omega, by omega⟩, y4⟩, fun z => absurd z (by decide)⟩, fun S m q hs h hw => ?_, fun S m q hs h => ?_⟩
        · obtain ⟨m1, F1, -, c1⟩ := CL S m q hs h
          obtain ⟨C1, w1, x, y, Z⟩ := c1 rfl
          have tk1 := C1.1.tk
          have D1 : De (fun k => f_X3_readLine k 0 [.ref 1] (hp S m q)) (.inl (some (.int (J 0)))) (hp S m1 q) := by
            refine Z ?_
            refine De.step ?_
            simp only [j_X3_readLine_109]
            simp (disch := omega) only [b_X3_readLine_109, x1_k hs, x1_r0 hs, x1_r1 hs, x1_i2 hs, x1_w2 hs, x1_i3 hs, x1_w3 hs, x1_i4 hs, x1_w4 hs, x1_i5 hs, x1_w5 hs, x1_i6 hs, x1_w6 hs, x1_i7 hs, x1_w7 hs, tk1.1, c21, Option.bind_some, xI, xU, xUt, xIt, J_lit, J_add, J_sub, J_mul, J_neg, J_ltc, J_lec, J_eqc, lt_T, lt_F, le_T, le_F, eq_T, eq_F, ↓reduceIte, ite_not, not_true_eq_false, not_false_eq_true, true_or, or_true, false_or, or_false, true_and, and_true, false_and, and_false, up_get, Nat.reduceEqDiff, Int.reduceNeg, eqN_T, eqN_F]
            exact De.ret _ _
          have D := CF S m m1 q (-1) hs (w1.trans hw) (by decide) (by decide) D1
          rw [if_pos rfl] at D
          exact ⟨up m1 1 2 0, D, F1.m.tr (fun c j a _ _ _ _ _ => if_neg (by omega)), up_at _ _ _ _, fun _ => ⟨(up_i (by decide)).trans (w1.trans hw), C1.fn.up2 0⟩, fun z => absurd z (by decide)⟩
        · obtain ⟨m1, D1, F1, r1, -⟩ := RE S m q hs h
          obtain ⟨m2, D2, RL2, p2, n2, B2, F2, -⟩ := r_tail (q := q) hs hBt (r1 rfl)
          obtain ⟨d2, RP2⟩ := RL2
          rw [en] at p2
          refine ⟨m2, ?_, F1.tr F2, fun _ => RP2.2.2.2, fun z => absurd z (by decide)⟩
          refine De.step ?_
          simp only [j_X11_readAll_24]
          simp (disch := omega) only [b_X11_readAll_24, x136_k hs, x136_i0 hs, x136_w0 hs, x136_r1 hs, x136_r2 hs, x136_r3 hs, x136_r4 hs, x136_i5 hs, x136_w5 hs, x136_i6 hs, x136_w6 hs, x136_i7 hs, x136_w7 hs, x136_r8 hs, x136_i9 hs, x136_w9 hs, x136_i10 hs, x136_w10 hs, x136_i11 hs, x136_w11 hs, x136_i12 hs, x136_w12 hs, x136_i13 hs, x136_w13 hs, x136_i14 hs, x136_w14 hs, x136_r15 hs, x136_i16 hs, x136_w16 hs, x136_r17 hs, x136_r18 hs, x136_r19 hs, x136_r20 hs, x136_r21 hs, x136_i22 hs, x136_w22 hs, x136_r23 hs, x136_r24 hs, x136_i25 hs, x136_w25 hs, x136_i26 hs, x136_w26 hs, x136_r27 hs, x136_r28 hs, x136_i29 hs, x136_w29 hs, Option.bind_some]
          refine De.call D1 ?_
          simp (disch := omega) only [bI_t, x136_k hs, x136_i0 hs, x136_w0 hs, x136_r1 hs, x136_r2 hs, x136_r3 hs, x136_r4 hs, x136_i5 hs, x136_w5 hs, x136_i6 hs, x136_w6 hs, x136_i7 hs, x136_w7 hs, x136_r8 hs, x136_i9 hs, x136_w9 hs, x136_i10 hs, x136_w10 hs, x136_i11 hs, x136_w11 hs, x136_i12 hs, x136_w12 hs, x136_i13 hs, x136_w13 hs, x136_i14 hs, x136_w14 hs, x136_r15 hs, x136_i16 hs, x136_w16 hs, x136_r17 hs, x136_r18 hs, x136_r19 hs, x136_r20 hs, x136_r21 hs, x136_i22 hs, x136_w22 hs, x136_r23 hs, x136_r24 hs, x136_i25 hs, x136_w25 hs, x136_i26 hs, x136_w26 hs, x136_r27 hs, x136_r28 hs, x136_i29 hs, x136_w29 hs, Option.bind_some, xI, xU, xUt, xIt, J_lit, J_add, J_sub, J_mul, J_neg, J_ltc, J_lec, J_eqc, lt_T, lt_F, le_T, le_F, eq_T, eq_F, ↓reduceIte, ite_not, not_true_eq_false, not_false_eq_true, true_or, or_true, false_or, or_false, true_and, and_true, false_and, and_false, up_get, Nat.reduceEqDiff, Int.reduceNeg, eqN_T, eqN_F]
          refine De.call D2 ?_
          simp (disch := omega) only [x136_k hs, x136_i0 hs, x136_w0 hs, x136_r1 hs, x136_r2 hs, x136_r3 hs, x136_r4 hs, x136_i5 hs, x136_w5 hs, x136_i6 hs, x136_w6 hs, x136_i7 hs, x136_w7 hs, x136_r8 hs, x136_i9 hs, x136_w9 hs, x136_i10 hs, x136_w10 hs, x136_i11 hs, x136_w11 hs, x136_i12 hs, x136_w12 hs, x136_i13 hs, x136_w13 hs, x136_i14 hs, x136_w14 hs, x136_r15 hs, x136_i16 hs, x136_w16 hs, x136_r17 hs, x136_r18 hs, x136_r19 hs, x136_r20 hs, x136_r21 hs, x136_i22 hs, x136_w22 hs, x136_r23 hs, x136_r24 hs, x136_i25 hs, x136_w25 hs, x136_i26 hs, x136_w26 hs, x136_r27 hs, x136_r28 hs, x136_i29 hs, x136_w29 hs, p2, n2, Option.bind_some, xI, xU, xUt, xIt, J_lit, J_add, J_sub, J_mul, J_neg, J_ltc, J_lec, J_eqc, lt_T, lt_F, le_T, le_F, eq_T, eq_F, ↓reduceIte, ite_not, not_true_eq_false, not_false_eq_true, true_or, or_true, false_or, or_false, true_and, and_true, false_and, and_false, up_get, Nat.reduceEqDiff, Int.reduceNeg, eqN_T, eqN_F]
          exact De.ret _ _
      · have ltt := tok_lt c21
        obtain ⟨ts1, ts2⟩ := tok_sign (b := b) (n := n) (B := Bt) (c := 59) (fun z => hBt.2.2 Bt hBt.1.1 z) (by decide) (by decide) (by decide)
        by_cases c59 : tok b n Bt = 159
        · obtain ⟨hB2, z1, z2⟩ := hBt.nx ltt
          obtain ⟨good, F, Lf, sf, gf, FC2, CL2, RE2⟩ := IH (L + 1) (nxB b n Bt) s' g' (by omega) (by omega) hB2 (by omega) (by omega) y4
          refine ⟨good, F, Lf, sf, gf, FC2, fun S m q hs h hw => ?_, fun S m q hs h => ?_⟩
          · obtain ⟨m1, F1, -, c1⟩ := CL S m q hs h
            obtain ⟨C1, w1, x, y, Z⟩ := c1 rfl
            have tk1 := C1.1.tk
            obtain ⟨m2, D2, C2, F2⟩ := c_next (q := q) hs hBt C1.1 ltt
            have C2L : CLs m2 b n (nxB b n Bt) s' g' (L + 1) := ⟨C2, (F2 5 0 (by omega)).trans C1.2.1, fun j j0 j1 => by
              rw [F2 3 j (by omega), F2 4 j (by omega), F2 5 j (by omega), F2 5 (j + 1) (by omega)]
              exact C1.2.2 j j0 j1⟩
            obtain ⟨m3, D3, F3, a3, b3, c3⟩ := CL2 S m2 q hs C2L ((F2 1 3 (by omega)).trans (w1.trans hw))
            refine ⟨m3, ?_, F1.m.tr (F2.l.m.tr F3), a3, b3, c3⟩
            have D1 : De (fun k => f_X3_readLine k 0 [.ref 1] (hp S m q)) (.inl (some (.int (J 1)))) (hp S m2 q) := by
              refine Z ?_
              refine De.step ?_
              simp only [j_X3_readLine_109]
              simp (disch := omega) only [b_X3_readLine_109, x1_k hs, x1_r0 hs, x1_r1 hs, x1_i2 hs, x1_w2 hs, x1_i3 hs, x1_w3 hs, x1_i4 hs, x1_w4 hs, x1_i5 hs, x1_w5 hs, x1_i6 hs, x1_w6 hs, x1_i7 hs, x1_w7 hs, tk1.1, c59, Option.bind_some, xI, xU, xUt, xIt, J_lit, J_add, J_sub, J_mul, J_neg, J_ltc, J_lec, J_eqc, lt_T, lt_F, le_T, le_F, eq_T, eq_F, ↓reduceIte, ite_not, not_true_eq_false, not_false_eq_true, true_or, or_true, false_or, or_false, true_and, and_true, false_and, and_false, up_get, Nat.reduceEqDiff, Int.reduceNeg, eqN_T, eqN_F]
              refine De.call D2 ?_
              simp (disch := omega) only [Option.bind_some, xI, xU, xUt, xIt, J_lit, J_add, J_sub, J_mul, J_neg, J_ltc, J_lec, J_eqc, lt_T, lt_F, le_T, le_F, eq_T, eq_F, ↓reduceIte, ite_not, not_true_eq_false, not_false_eq_true, true_or, or_true, false_or, or_false, true_and, and_true, false_and, and_false, up_get, Nat.reduceEqDiff, Int.reduceNeg, eqN_T, eqN_F]
              exact De.ret _ _
            refine De.step ?_
            simp only [j_X3_read_38]
            simp (disch := omega) only [b_X3_read_38, x1_k hs, x1_r0 hs, x1_r1 hs, x1_i2 hs, x1_w2 hs, x1_i3 hs, x1_w3 hs, x1_i4 hs, x1_w4 hs, x1_i5 hs, x1_w5 hs, x1_i6 hs, x1_w6 hs, x1_i7 hs, x1_w7 hs, Option.bind_some, xI, xU, xUt, xIt, J_lit, J_add, J_sub, J_mul, J_neg, J_ltc, J_lec, J_eqc, lt_T, lt_F, le_T, le_F, eq_T, eq_F, ↓reduceIte, ite_not, not_true_eq_false, not_false_eq_true, true_or, or_true, false_or, or_false, true_and, and_true, false_and, and_false, up_get, Nat.reduceEqDiff, Int.reduceNeg, eqN_T, eqN_F]
            refine De.call D1 ?_
            simp (disch := omega) only [Option.bind_some, xI, xU, xUt, xIt, J_lit, J_add, J_sub, J_mul, J_neg, J_ltc, J_lec, J_eqc, lt_T, lt_F, le_T, le_F, eq_T, eq_F, ↓reduceIte, ite_not, not_true_eq_false, not_false_eq_true, true_or, or_true, false_or, or_false, true_and, and_true, false_and, and_false, up_get, Nat.reduceEqDiff, Int.reduceNeg, eqN_T, eqN_F]
            exact D3
          · obtain ⟨m1, D1, F1, r1, -⟩ := RE S m q hs h
            obtain ⟨m2, D2, RL2, p2, n2, B2, F2, R2⟩ := r_tail (q := q) hs hBt (r1 rfl)
            obtain ⟨d2, RP2⟩ := RL2
            have DI := d_isAt (q := q) (lo := 59) (hi := 59) hs R2 (by decide) (by decide) (by decide) (by decide)
            have e59 := ts1.1 (by omega)
            rw [if_pos ⟨e59.1, by omega, by omega⟩] at DI
            have RL3 : RLs (up m2 136 10 (Bt + 1)) b n (nxB b n Bt) s' g' := ⟨d2, RP2.fr Fr2.u10 (R2.fr Fr2.u10 (up_at _ _ _ _) (by omega) (by omega)) (by rw [← ts2 (by omega)]; rfl)⟩
            obtain ⟨m3, D3, F3, a3, b3⟩ := RE2 S (up m2 136 10 (Bt + 1)) q hs RL3
            refine ⟨m3, ?_, F1.tr (F2.tr (Fr2.u10.r.tr F3)), a3, b3⟩
            refine De.step ?_
            simp only [j_X11_readAll_24]
            simp (disch := omega) only [b_X11_readAll_24, x136_k hs, x136_i0 hs, x136_w0 hs, x136_r1 hs, x136_r2 hs, x136_r3 hs, x136_r4 hs, x136_i5 hs, x136_w5 hs, x136_i6 hs, x136_w6 hs, x136_i7 hs, x136_w7 hs, x136_r8 hs, x136_i9 hs, x136_w9 hs, x136_i10 hs, x136_w10 hs, x136_i11 hs, x136_w11 hs, x136_i12 hs, x136_w12 hs, x136_i13 hs, x136_w13 hs, x136_i14 hs, x136_w14 hs, x136_r15 hs, x136_i16 hs, x136_w16 hs, x136_r17 hs, x136_r18 hs, x136_r19 hs, x136_r20 hs, x136_r21 hs, x136_i22 hs, x136_w22 hs, x136_r23 hs, x136_r24 hs, x136_i25 hs, x136_w25 hs, x136_i26 hs, x136_w26 hs, x136_r27 hs, x136_r28 hs, x136_i29 hs, x136_w29 hs, Option.bind_some]
            refine De.call D1 ?_
            simp (disch := omega) only [bI_t, x136_k hs, x136_i0 hs, x136_w0 hs, x136_r1 hs, x136_r2 hs, x136_r3 hs, x136_r4 hs, x136_i5 hs, x136_w5 hs, x136_i6 hs, x136_w6 hs, x136_i7 hs, x136_w7 hs, x136_r8 hs, x136_i9 hs, x136_w9 hs, x136_i10 hs, x136_w10 hs, x136_i11 hs, x136_w11 hs, x136_i12 hs, x136_w12 hs, x136_i13 hs, x136_w13 hs, x136_i14 hs, x136_w14 hs, x136_r15 hs, x136_i16 hs, x136_w16 hs, x136_r17 hs, x136_r18 hs, x136_r19 hs, x136_r20 hs, x136_r21 hs, x136_i22 hs, x136_w22 hs, x136_r23 hs, x136_r24 hs, x136_i25 hs, x136_w25 hs, x136_i26 hs, x136_w26 hs, x136_r27 hs, x136_r28 hs, x136_i29 hs, x136_w29 hs, Option.bind_some, xI, xU, xUt, xIt, J_lit, J_add, J_sub, J_mul, J_neg, J_ltc, J_lec, J_eqc, lt_T, lt_F, le_T, le_F, eq_T, eq_F, ↓reduceIte, ite_not, not_true_eq_false, not_false_eq_true, true_or, or_true, false_or, or_false, true_and, and_true, false_and, and_false, up_get, Nat.reduceEqDiff, Int.reduceNeg, eqN_T, eqN_F]
            refine De.call D2 ?_
            simp (disch := omega) only [x136_k hs, x136_i0 hs, x136_w0 hs, x136_r1 hs, x136_r2 hs, x136_r3 hs, x136_r4 hs, x136_i5 hs, x136_w5 hs, x136_i6 hs, x136_w6 hs, x136_i7 hs, x136_w7 hs, x136_r8 hs, x136_i9 hs, x136_w9 hs, x136_i10 hs, x136_w10 hs, x136_i11 hs, x136_w11 hs, x136_i12 hs, x136_w12 hs, x136_i13 hs, x136_w13 hs, x136_i14 hs, x136_w14 hs, x136_r15 hs, x136_i16 hs, x136_w16 hs, x136_r17 hs, x136_r18 hs, x136_r19 hs, x136_r20 hs, x136_r21 hs, x136_i22 hs, x136_w22 hs, x136_r23 hs, x136_r24 hs, x136_i25 hs, x136_w25 hs, x136_i26 hs, x136_w26 hs, x136_r27 hs, x136_r28 hs, x136_i29 hs, x136_w29 hs, p2, n2, Option.bind_some, xI, xU, xUt, xIt, J_lit, J_add, J_sub, J_mul, J_neg, J_ltc, J_lec, J_eqc, lt_T, lt_F, le_T, le_F, eq_T, eq_F, ↓reduceIte, ite_not, not_true_eq_false, not_false_eq_true, true_or, or_true, false_or, or_false, true_and, and_true, false_and, and_false, up_get, Nat.reduceEqDiff, Int.reduceNeg, eqN_T, eqN_F]
            refine De.call DI ?_
            simp (disch := omega) only [x136_k hs, x136_i0 hs, x136_w0 hs, x136_r1 hs, x136_r2 hs, x136_r3 hs, x136_r4 hs, x136_i5 hs, x136_w5 hs, x136_i6 hs, x136_w6 hs, x136_i7 hs, x136_w7 hs, x136_r8 hs, x136_i9 hs, x136_w9 hs, x136_i10 hs, x136_w10 hs, x136_i11 hs, x136_w11 hs, x136_i12 hs, x136_w12 hs, x136_i13 hs, x136_w13 hs, x136_i14 hs, x136_w14 hs, x136_r15 hs, x136_i16 hs, x136_w16 hs, x136_r17 hs, x136_r18 hs, x136_r19 hs, x136_r20 hs, x136_r21 hs, x136_i22 hs, x136_w22 hs, x136_r23 hs, x136_r24 hs, x136_i25 hs, x136_w25 hs, x136_i26 hs, x136_w26 hs, x136_r27 hs, x136_r28 hs, x136_i29 hs, x136_w29 hs, p2, Option.bind_some, xI, xU, xUt, xIt, J_lit, J_add, J_sub, J_mul, J_neg, J_ltc, J_lec, J_eqc, lt_T, lt_F, le_T, le_F, eq_T, eq_F, ↓reduceIte, ite_not, not_true_eq_false, not_false_eq_true, true_or, or_true, false_or, or_false, true_and, and_true, false_and, and_false, up_get, Nat.reduceEqDiff, Int.reduceNeg, eqN_T, eqN_F]
            exact D3
        · refine ⟨false, Bt, L, s, g, ⟨fun z => absurd z (by decide), fun _ => ⟨b1.1, b1.2.1⟩⟩, fun S m q hs h hw => ?_, fun S m q hs h => ?_⟩
          · obtain ⟨m1, F1, -, c1⟩ := CL S m q hs h
            obtain ⟨C1, w1, x, y, Z⟩ := c1 rfl
            have tk1 := C1.1.tk
            have DX := c_fail (q := q) hs tk1.2
            have D1 : De (fun k => f_X3_readLine k 0 [.ref 1] (hp S m q)) (.inl (some (.int (J 0)))) (hp S (up m1 1 3 Bt) q) := by
              refine Z ?_
              refine De.step ?_
              simp only [j_X3_readLine_109]
              simp (disch := omega) only [b_X3_readLine_109, x1_k hs, x1_r0 hs, x1_r1 hs, x1_i2 hs, x1_w2 hs, x1_i3 hs, x1_w3 hs, x1_i4 hs, x1_w4 hs, x1_i5 hs, x1_w5 hs, x1_i6 hs, x1_w6 hs, x1_i7 hs, x1_w7 hs, tk1.1, Option.bind_some, xI, xU, xUt, xIt, J_lit, J_add, J_sub, J_mul, J_neg, J_ltc, J_lec, J_eqc, lt_T, lt_F, le_T, le_F, eq_T, eq_F, ↓reduceIte, ite_not, not_true_eq_false, not_false_eq_true, true_or, or_true, false_or, or_false, true_and, and_true, false_and, and_false, up_get, Nat.reduceEqDiff, Int.reduceNeg, eqN_T, eqN_F]
              refine De.call DX ?_
              simp (disch := omega) only [Option.bind_some, xI, xU, xUt, xIt, J_lit, J_add, J_sub, J_mul, J_neg, J_ltc, J_lec, J_eqc, lt_T, lt_F, le_T, le_F, eq_T, eq_F, ↓reduceIte, ite_not, not_true_eq_false, not_false_eq_true, true_or, or_true, false_or, or_false, true_and, and_true, false_and, and_false, up_get, Nat.reduceEqDiff, Int.reduceNeg, eqN_T, eqN_F]
              exact De.ret _ _
            have D := CF S m (up m1 1 3 Bt) q Bt hs (up_at _ _ _ _) (by omega) (by omega) D1
            rw [if_neg (by omega)] at D
            exact ⟨up (up m1 1 3 Bt) 1 2 0, D, F1.m.tr (fun c j a _ _ _ _ _ => by rw [up_get, if_neg (by omega), up_get, if_neg (by omega)]), up_at _ _ _ _, fun z => absurd z (by decide), fun _ => by rw [up_i (by decide), up_at]⟩
          · obtain ⟨m1, D1, F1, r1, -⟩ := RE S m q hs h
            obtain ⟨m2, D2, RL2, p2, n2, B2, F2, R2⟩ := r_tail (q := q) hs hBt (r1 rfl)
            have DI := d_isAt (q := q) (lo := 59) (hi := 59) hs R2 (by decide) (by decide) (by decide) (by decide)
            rw [if_neg (fun z => c59 (by have := ts1.2 ⟨z.1, by omega⟩; omega))] at DI
            refine ⟨m2, ?_, F1.tr F2, fun z => absurd z (by decide), fun _ => B2⟩
            refine De.step ?_
            simp only [j_X11_readAll_24]
            simp (disch := omega) only [b_X11_readAll_24, x136_k hs, x136_i0 hs, x136_w0 hs, x136_r1 hs, x136_r2 hs, x136_r3 hs, x136_r4 hs, x136_i5 hs, x136_w5 hs, x136_i6 hs, x136_w6 hs, x136_i7 hs, x136_w7 hs, x136_r8 hs, x136_i9 hs, x136_w9 hs, x136_i10 hs, x136_w10 hs, x136_i11 hs, x136_w11 hs, x136_i12 hs, x136_w12 hs, x136_i13 hs, x136_w13 hs, x136_i14 hs, x136_w14 hs, x136_r15 hs, x136_i16 hs, x136_w16 hs, x136_r17 hs, x136_r18 hs, x136_r19 hs, x136_r20 hs, x136_r21 hs, x136_i22 hs, x136_w22 hs, x136_r23 hs, x136_r24 hs, x136_i25 hs, x136_w25 hs, x136_i26 hs, x136_w26 hs, x136_r27 hs, x136_r28 hs, x136_i29 hs, x136_w29 hs, Option.bind_some]
            refine De.call D1 ?_
            simp (disch := omega) only [bI_t, x136_k hs, x136_i0 hs, x136_w0 hs, x136_r1 hs, x136_r2 hs, x136_r3 hs, x136_r4 hs, x136_i5 hs, x136_w5 hs, x136_i6 hs, x136_w6 hs, x136_i7 hs, x136_w7 hs, x136_r8 hs, x136_i9 hs, x136_w9 hs, x136_i10 hs, x136_w10 hs, x136_i11 hs, x136_w11 hs, x136_i12 hs, x136_w12 hs, x136_i13 hs, x136_w13 hs, x136_i14 hs, x136_w14 hs, x136_r15 hs, x136_i16 hs, x136_w16 hs, x136_r17 hs, x136_r18 hs, x136_r19 hs, x136_r20 hs, x136_r21 hs, x136_i22 hs, x136_w22 hs, x136_r23 hs, x136_r24 hs, x136_i25 hs, x136_w25 hs, x136_i26 hs, x136_w26 hs, x136_r27 hs, x136_r28 hs, x136_i29 hs, x136_w29 hs, Option.bind_some, xI, xU, xUt, xIt, J_lit, J_add, J_sub, J_mul, J_neg, J_ltc, J_lec, J_eqc, lt_T, lt_F, le_T, le_F, eq_T, eq_F, ↓reduceIte, ite_not, not_true_eq_false, not_false_eq_true, true_or, or_true, false_or, or_false, true_and, and_true, false_and, and_false, up_get, Nat.reduceEqDiff, Int.reduceNeg, eqN_T, eqN_F]
            refine De.call D2 ?_
            simp (disch := omega) only [x136_k hs, x136_i0 hs, x136_w0 hs, x136_r1 hs, x136_r2 hs, x136_r3 hs, x136_r4 hs, x136_i5 hs, x136_w5 hs, x136_i6 hs, x136_w6 hs, x136_i7 hs, x136_w7 hs, x136_r8 hs, x136_i9 hs, x136_w9 hs, x136_i10 hs, x136_w10 hs, x136_i11 hs, x136_w11 hs, x136_i12 hs, x136_w12 hs, x136_i13 hs, x136_w13 hs, x136_i14 hs, x136_w14 hs, x136_r15 hs, x136_i16 hs, x136_w16 hs, x136_r17 hs, x136_r18 hs, x136_r19 hs, x136_r20 hs, x136_r21 hs, x136_i22 hs, x136_w22 hs, x136_r23 hs, x136_r24 hs, x136_i25 hs, x136_w25 hs, x136_i26 hs, x136_w26 hs, x136_r27 hs, x136_r28 hs, x136_i29 hs, x136_w29 hs, p2, n2, Option.bind_some, xI, xU, xUt, xIt, J_lit, J_add, J_sub, J_mul, J_neg, J_ltc, J_lec, J_eqc, lt_T, lt_F, le_T, le_F, eq_T, eq_F, ↓reduceIte, ite_not, not_true_eq_false, not_false_eq_true, true_or, or_true, false_or, or_false, true_and, and_true, false_and, and_false, up_get, Nat.reduceEqDiff, Int.reduceNeg, eqN_T, eqN_F]
            refine De.call DI ?_
            simp (disch := omega) only [Bool.false_eq_true, Option.bind_some, xI, xU, xUt, xIt, J_lit, J_add, J_sub, J_mul, J_neg, J_ltc, J_lec, J_eqc, lt_T, lt_F, le_T, le_F, eq_T, eq_F, ↓reduceIte, ite_not, not_true_eq_false, not_false_eq_true, true_or, or_true, false_or, or_false, true_and, and_true, false_and, and_false, up_get, Nat.reduceEqDiff, Int.reduceNeg, eqN_T, eqN_F]
            exact De.ret _ _
/-- what the text comes to -/
theorem rd_all (b : Int → Int) (n : Int) (g : Int → Int) (n0 : 0 ≤ n) (n4 : n ≤ 400) (hb : ∀ j, 0 ≤ j → j < n → -128 ≤ b j ∧ b j < 128) : ∃ (good : Bool) (F : Int) (gf : Int → Int), (good = false → 0 ≤ F ∧ F ≤ n) ∧
  (∀ (S : xH) (m : Nat → Int → Int) (q : Nat → Int → Int64), Sk S → m 1 2 = n → m 8 = b → m 5 0 = 0 → ∃ m', De (fun k => f_X3_read k 0 [.ref 1] (hp S m q)) (.inl (some (.int (J (bI good))))) (hp S m' q) ∧ FrTx m m' ∧ m' 1 2 = 0 ∧ (good = true → m' 1 3 = -1 ∧ RulC m' 2 gf) ∧ (good = false → m' 1 3 = F)) ∧
  (∀ (S : xH) (m : Nat → Int → Int) (q : Nat → Int → Int64), Sk S → Rp m b n 0 → (∀ i : Int, 0 ≤ i → i < 841 → m 139 (5080 + i) = g i) → ∃ m', De (fun k => f_X11_reads k 0 [.ref 136] (hp S m q)) (.inl (some (.int (J (bI good))))) (hp S m' q) ∧ (∀ c j, ¬ (c = 136 ∧ (j = 10 ∨ j = 12 ∨ j = 13 ∨ j = 14 ∨ j = 16)) → ¬ (c = 139 ∧ 5080 ≤ j) → m' c j = m c j) ∧ m' 136 14 = (if good = true then -1 else F) ∧ (good = true → ∀ i : Int, 0 ≤ i → i < 841 → m' 139 (5080 + i) = gf i)) := by
  obtain ⟨r1, r2, -, -⟩ := rn_ok (b := b) (lo := 32) (hi := 32) n0
  have hB : Bok b n (rn b n 32 32 0) := ⟨⟨r1, r2, n4⟩, rn_self n0, hb⟩
  obtain ⟨B, eB⟩ : ∃ B, B = rn b n 32 32 0 := ⟨_, rfl⟩
  rw [← eB] at hB r1 r2
  have trB := tok_rng hB
  -- the class's beginning
  have CB : ∀ (S : xH) (m : Nat → Int → Int) (q : Nat → Int → Int64), Sk S → m 1 2 = n → m 8 = b → m 5 0 = 0 → ∃ m1, CLs m1 b n B 0 g 0 ∧ m1 1 3 = -1 ∧ FrTx m m1 ∧ ∀ {R : xR} {P : xH}, De (fun k => f_X3_read k 38 [.ref 1, .int (J (if tok b n B = 21 then 0 else 1)), .int (J 0)] (hp S m1 q)) R P → De (fun k => f_X3_read k 0 [.ref 1] (hp S m q)) R P := by
    intro S m q hs h2 h8 h5
    have DC : De (fun k => f_X5_clear k 0 [.ref 2] (hp S m q)) (.inl none) (hp S (up (up m 2 3 0) 2 5 0) q) := by
      refine De.step ?_
      simp only [j_X5_clear_0]
      simp (disch := omega) only [b_X5_clear_0, x2_k hs, x2_r0 hs, x2_r1 hs, x2_r2 hs, x2_i3 hs, x2_w3 hs, x2_r4 hs, x2_i5 hs, x2_w5 hs, x2_r6 hs, x2_i7 hs, x2_w7 hs, Option.bind_some, xI, xU, xUt, xIt, J_lit, J_add, J_sub, J_mul, J_neg, J_ltc, J_lec, J_eqc, lt_T, lt_F, le_T, le_F, eq_T, eq_F, ↓reduceIte, ite_not, not_true_eq_false, not_false_eq_true, true_or, or_true, false_or, or_false, true_and, and_true, false_and, and_false, up_get, Nat.reduceEqDiff, Int.reduceNeg, eqN_T, eqN_F]
      exact De.ret _ _
    obtain ⟨m1, D1, T1, F1⟩ := q_next (q := q) (m := up (up (up (up m 2 3 0) 2 5 0) 1 4 0) 1 3 (-1)) (b := b) (n := n) (i := 0) hs n4 hb (by decide) n0 (by rw [up_i (by decide), up_i (by decide), up_a (by decide), up_a (by decide)]; exact h2) (by rw [up_i (by decide), up_at]) (by rw [up_row (by decide), up_row (by decide), up_row (by decide), up_row (by decide)]; exact h8)
    rw [← eB] at T1
    have e23 : m1 2 3 = 0 := (F1 2 3 (by omega)).trans (by rw [up_a (by decide), up_a (by decide), up_i (by decide), up_at])
    have e25 : m1 2 5 = 0 := (F1 2 5 (by omega)).trans (by rw [up_a (by decide), up_a (by decide), up_at])
    have e50 : m1 5 0 = 0 := (F1 5 0 (by omega)).trans (by rw [up_a (by decide), up_a (by decide), up_a (by decide), up_a (by decide)]; exact h5)
    refine ⟨m1, ⟨⟨(F1 1 2 (by omega)).trans (by rw [up_i (by decide), up_i (by decide), up_a (by decide), up_a (by decide)]; exact h2), F1.b8.trans (by rw [up_row (by decide), up_row (by decide), up_row (by decide), up_row (by decide)]; exact h8), T1, ⟨e23, by decide, by decide⟩, ⟨e25, e50, by decide, by decide⟩, fun i i0 i1 => by omega⟩, e50, fun j j0 j1 => by omega⟩, (F1 1 3 (by omega)).trans (up_at _ _ _ _), fun c j a b' _ _ _ _ => (F1 c j (by omega)).trans (by rw [up_get, if_neg (by omega), up_get, if_neg (by omega), up_get, if_neg (by omega), up_get, if_neg (by omega)]), fun E => ?_⟩
    have k5 : m1 1 5 = tok b n B := T1.2.1
    refine De.step ?_
    simp only [j_X3_read_0]
    simp (disch := omega) only [b_X3_read_0, x1_k hs, x1_r0 hs, x1_r1 hs, x1_i2 hs, x1_w2 hs, x1_i3 hs, x1_w3 hs, x1_i4 hs, x1_w4 hs, x1_i5 hs, x1_w5 hs, x1_i6 hs, x1_w6 hs, x1_i7 hs, x1_w7 hs, x2_k hs, x2_r0 hs, x2_r1 hs, x2_r2 hs, x2_i3 hs, x2_w3 hs, x2_r4 hs, x2_i5 hs, x2_w5 hs, x2_r6 hs, x2_i7 hs, x2_w7 hs, Option.bind_some]
    refine De.call DC ?_
    simp (disch := omega) only [x1_k hs, x1_r0 hs, x1_r1 hs, x1_i2 hs, x1_w2 hs, x1_i3 hs, x1_w3 hs, x1_i4 hs, x1_w4 hs, x1_i5 hs, x1_w5 hs, x1_i6 hs, x1_w6 hs, x1_i7 hs, x1_w7 hs, Option.bind_some, xI, xU, xUt, xIt, J_lit, J_add, J_sub, J_mul, J_neg, J_ltc, J_lec, J_eqc, lt_T, lt_F, le_T, le_F, eq_T, eq_F, ↓reduceIte, ite_not, not_true_eq_false, not_false_eq_true, true_or, or_true, false_or, or_false, true_and, and_true, false_and, and_false, up_get, Nat.reduceEqDiff, Int.reduceNeg, eqN_T, eqN_F]
    refine De.call D1 ?_
    by_cases z : tok b n B = 21
    · rw [if_pos z] at E
      simp (disch := omega) only [x1_k hs, x1_r0 hs, x1_r1 hs, x1_i2 hs, x1_w2 hs, x1_i3 hs, x1_w3 hs, x1_i4 hs, x1_w4 hs, x1_i5 hs, x1_w5 hs, x1_i6 hs, x1_w6 hs, x1_i7 hs, x1_w7 hs, k5, z, Option.bind_some, xI, xU, xUt, xIt, J_lit, J_add, J_sub, J_mul, J_neg, J_ltc, J_lec, J_eqc, lt_T, lt_F, le_T, le_F, eq_T, eq_F, ↓reduceIte, ite_not, not_true_eq_false, not_false_eq_true, true_or, or_true, false_or, or_false, true_and, and_true, false_and, and_false, up_get, Nat.reduceEqDiff, Int.reduceNeg, eqN_T, eqN_F]
      exact E
    · rw [if_neg z] at E
      simp (disch := omega) only [x1_k hs, x1_r0 hs, x1_r1 hs, x1_i2 hs, x1_w2 hs, x1_i3 hs, x1_w3 hs, x1_i4 hs, x1_w4 hs, x1_i5 hs, x1_w5 hs, x1_i6 hs, x1_w6 hs, x1_i7 hs, x1_w7 hs, k5, Option.bind_some, xI, xU, xUt, xIt, J_lit, J_add, J_sub, J_mul, J_neg, J_ltc, J_lec, J_eqc, lt_T, lt_F, le_T, le_F, eq_T, eq_F, ↓reduceIte, ite_not, not_true_eq_false, not_false_eq_true, true_or, or_true, false_or, or_false, true_and, and_true, false_and, and_false, up_get, Nat.reduceEqDiff, Int.reduceNeg, eqN_T, eqN_F]
      exact E
  -- the reference's beginning
  have RB : ∀ (S : xH) (m : Nat → Int → Int) (q : Nat → Int → Int64), Sk S → Rp m b n 0 → (∀ i : Int, 0 ≤ i → i < 841 → m 139 (5080 + i) = g i) → ∃ m1, RLs m1 b n B 0 g ∧ FrRe m m1 ∧ m1 136 10 = B ∧ m1 136 11 = n ∧ De (fun k => f_X11_blanks k 0 [.ref 136] (hp S (up m 136 16 0) q)) (.inl none) (hp S m1 q) := by
    intro S m q hs R hg
    have R0 : Rp (up m 136 16 0) b n 0 := ⟨(up_i (by decide)).trans R.1, (up_i (by decide)).trans R.2.1, R.2.2.1, fun j j0 j1 => by rw [up_a (by decide)]; exact R.2.2.2 j j0 j1⟩
    obtain ⟨m1, D1, R1, B1, F1⟩ := d_blanks (q := q) hs R0
    rw [← eB] at R1 B1
    exact ⟨m1, ⟨m1 136 13, ⟨B, R1, hB.2.1⟩, rfl, (F1 136 16 (by omega)).trans (up_at _ _ _ _), fun i i0 i1 => (F1 139 _ (by omega)).trans ((up_a (by decide)).trans (hg i i0 i1))⟩, fun c j a b' => (F1 c j (by omega)).trans (if_neg (fun z => a ⟨z.1, by omega⟩)), R1.1, R1.2.1, D1⟩
  -- its end
  have RN : ∀ (S : xH) (m m1 : Nat → Int → Int) (q : Nat → Int → Int64) (x F : Int), Sk S → -1 ≤ x → x ≤ 10 → (x < 0 → m1 136 12 = F) → De (fun k => f_X11_readAll k 0 [.ref 136] (hp S m q)) (.inl (some (.int (J x)))) (hp S m1 q) → De (fun k => f_X11_reads k 0 [.ref 136] (hp S m q)) (.inl (some (.int (J (if 0 ≤ x then 1 else 0))))) (hp S (up (up m1 136 14 (if 0 ≤ x then -1 else F)) 139 (4239 + 841 * 1) (max 0 x)) q) := by
    intro S m m1 q x F hs x0 x1 hF D
    refine De.step ?_
    simp only [j_X11_reads_0]
    simp (disch := omega) only [b_X11_reads_0, x136_k hs, x136_i0 hs, x136_w0 hs, x136_r1 hs, x136_r2 hs, x136_r3 hs, x136_r4 hs, x136_i5 hs, x136_w5 hs, x136_i6 hs, x136_w6 hs, x136_i7 hs, x136_w7 hs, x136_r8 hs, x136_i9 hs, x136_w9 hs, x136_i10 hs, x136_w10 hs, x136_i11 hs, x136_w11 hs, x136_i12 hs, x136_w12 hs, x136_i13 hs, x136_w13 hs, x136_i14 hs, x136_w14 hs, x136_r15 hs, x136_i16 hs, x136_w16 hs, x136_r17 hs, x136_r18 hs, x136_r19 hs, x136_r20 hs, x136_r21 hs, x136_i22 hs, x136_w22 hs, x136_r23 hs, x136_r24 hs, x136_i25 hs, x136_w25 hs, x136_i26 hs, x136_w26 hs, x136_r27 hs, x136_r28 hs, x136_i29 hs, x136_w29 hs, Option.bind_some]
    refine De.call D ?_
    by_cases z : 0 ≤ x
    · rw [if_pos z, if_pos z]
      simp (disch := omega) only [Option.bind_some, xI, xU, xUt, xIt, J_lit, J_add, J_sub, J_mul, J_neg, J_ltc, J_lec, J_eqc, lt_T, lt_F, le_T, le_F, eq_T, eq_F, ↓reduceIte, ite_not, not_true_eq_false, not_false_eq_true, true_or, or_true, false_or, or_false, true_and, and_true, false_and, and_false, up_get, Nat.reduceEqDiff, Int.reduceNeg, eqN_T, eqN_F]
      refine De.step ?_
      simp only [j_X11_reads_18]
      simp (disch := omega) only [b_X11_reads_18, x136_k hs, x136_i0 hs, x136_w0 hs, x136_r1 hs, x136_r2 hs, x136_r3 hs, x136_r4 hs, x136_i5 hs, x136_w5 hs, x136_i6 hs, x136_w6 hs, x136_i7 hs, x136_w7 hs, x136_r8 hs, x136_i9 hs, x136_w9 hs, x136_i10 hs, x136_w10 hs, x136_i11 hs, x136_w11 hs, x136_i12 hs, x136_w12 hs, x136_i13 hs, x136_w13 hs, x136_i14 hs, x136_w14 hs, x136_r15 hs, x136_i16 hs, x136_w16 hs, x136_r17 hs, x136_r18 hs, x136_r19 hs, x136_r20 hs, x136_r21 hs, x136_i22 hs, x136_w22 hs, x136_r23 hs, x136_r24 hs, x136_i25 hs, x136_w25 hs, x136_i26 hs, x136_w26 hs, x136_r27 hs, x136_r28 hs, x136_i29 hs, x136_w29 hs, J_lit, Option.bind_some]
      refine De.call (De.eq 1 (fun n => e_ruleAt n 1 _)) ?_
      simp (disch := omega) only [x136_k hs, x136_i0 hs, x136_w0 hs, x136_r1 hs, x136_r2 hs, x136_r3 hs, x136_r4 hs, x136_i5 hs, x136_w5 hs, x136_i6 hs, x136_w6 hs, x136_i7 hs, x136_w7 hs, x136_r8 hs, x136_i9 hs, x136_w9 hs, x136_i10 hs, x136_w10 hs, x136_i11 hs, x136_w11 hs, x136_i12 hs, x136_w12 hs, x136_i13 hs, x136_w13 hs, x136_i14 hs, x136_w14 hs, x136_r15 hs, x136_i16 hs, x136_w16 hs, x136_r17 hs, x136_r18 hs, x136_r19 hs, x136_r20 hs, x136_r21 hs, x136_i22 hs, x136_w22 hs, x136_r23 hs, x136_r24 hs, x136_i25 hs, x136_w25 hs, x136_i26 hs, x136_w26 hs, x136_r27 hs, x136_r28 hs, x136_i29 hs, x136_w29 hs, x139_g hs, x139_s hs, x139_l hs, J_max, Option.bind_some, xI, xU, xUt, xIt, J_lit, J_add, J_sub, J_mul, J_neg, J_ltc, J_lec, J_eqc, lt_T, lt_F, le_T, le_F, eq_T, eq_F, ↓reduceIte, ite_not, not_true_eq_false, not_false_eq_true, true_or, or_true, false_or, or_false, true_and, and_true, false_and, and_false, up_get, Nat.reduceEqDiff, Int.reduceNeg, eqN_T, eqN_F]
      exact De.ret _ _
    · rw [if_neg z, if_neg z]
      have k12 := hF (by omega)
      simp (disch := omega) only [x136_k hs, x136_i0 hs, x136_w0 hs, x136_r1 hs, x136_r2 hs, x136_r3 hs, x136_r4 hs, x136_i5 hs, x136_w5 hs, x136_i6 hs, x136_w6 hs, x136_i7 hs, x136_w7 hs, x136_r8 hs, x136_i9 hs, x136_w9 hs, x136_i10 hs, x136_w10 hs, x136_i11 hs, x136_w11 hs, x136_i12 hs, x136_w12 hs, x136_i13 hs, x136_w13 hs, x136_i14 hs, x136_w14 hs, x136_r15 hs, x136_i16 hs, x136_w16 hs, x136_r17 hs, x136_r18 hs, x136_r19 hs, x136_r20 hs, x136_r21 hs, x136_i22 hs, x136_w22 hs, x136_r23 hs, x136_r24 hs, x136_i25 hs, x136_w25 hs, x136_i26 hs, x136_w26 hs, x136_r27 hs, x136_r28 hs, x136_i29 hs, x136_w29 hs, k12, Option.bind_some, xI, xU, xUt, xIt, J_lit, J_add, J_sub, J_mul, J_neg, J_ltc, J_lec, J_eqc, lt_T, lt_F, le_T, le_F, eq_T, eq_F, ↓reduceIte, ite_not, not_true_eq_false, not_false_eq_true, true_or, or_true, false_or, or_false, true_and, and_true, false_and, and_false, up_get, Nat.reduceEqDiff, Int.reduceNeg, eqN_T, eqN_F]
      refine De.step ?_
      simp only [j_X11_reads_18]
      simp (disch := omega) only [b_X11_reads_18, x136_k hs, x136_i0 hs, x136_w0 hs, x136_r1 hs, x136_r2 hs, x136_r3 hs, x136_r4 hs, x136_i5 hs, x136_w5 hs, x136_i6 hs, x136_w6 hs, x136_i7 hs, x136_w7 hs, x136_r8 hs, x136_i9 hs, x136_w9 hs, x136_i10 hs, x136_w10 hs, x136_i11 hs, x136_w11 hs, x136_i12 hs, x136_w12 hs, x136_i13 hs, x136_w13 hs, x136_i14 hs, x136_w14 hs, x136_r15 hs, x136_i16 hs, x136_w16 hs, x136_r17 hs, x136_r18 hs, x136_r19 hs, x136_r20 hs, x136_r21 hs, x136_i22 hs, x136_w22 hs, x136_r23 hs, x136_r24 hs, x136_i25 hs, x136_w25 hs, x136_i26 hs, x136_w26 hs, x136_r27 hs, x136_r28 hs, x136_i29 hs, x136_w29 hs, J_lit, Option.bind_some]
      refine De.call (De.eq 1 (fun n => e_ruleAt n 1 _)) ?_
      simp (disch := omega) only [x136_k hs, x136_i0 hs, x136_w0 hs, x136_r1 hs, x136_r2 hs, x136_r3 hs, x136_r4 hs, x136_i5 hs, x136_w5 hs, x136_i6 hs, x136_w6 hs, x136_i7 hs, x136_w7 hs, x136_r8 hs, x136_i9 hs, x136_w9 hs, x136_i10 hs, x136_w10 hs, x136_i11 hs, x136_w11 hs, x136_i12 hs, x136_w12 hs, x136_i13 hs, x136_w13 hs, x136_i14 hs, x136_w14 hs, x136_r15 hs, x136_i16 hs, x136_w16 hs, x136_r17 hs, x136_r18 hs, x136_r19 hs, x136_r20 hs, x136_r21 hs, x136_i22 hs, x136_w22 hs, x136_r23 hs, x136_r24 hs, x136_i25 hs, x136_w25 hs, x136_i26 hs, x136_w26 hs, x136_r27 hs, x136_r28 hs, x136_i29 hs, x136_w29 hs, x139_g hs, x139_s hs, x139_l hs, J_max, Option.bind_some, xI, xU, xUt, xIt, J_lit, J_add, J_sub, J_mul, J_neg, J_ltc, J_lec, J_eqc, lt_T, lt_F, le_T, le_F, eq_T, eq_F, ↓reduceIte, ite_not, not_true_eq_false, not_false_eq_true, true_or, or_true, false_or, or_false, true_and, and_true, false_and, and_false, up_get, Nat.reduceEqDiff, Int.reduceNeg, eqN_T, eqN_F]
      exact De.ret _ _
  by_cases c21 : tok b n B = 21
  · have en : B = n := by
      by_cases z : n ≤ B
      · omega
      · exfalso
        unfold tok at c21
        rw [if_neg z] at c21
        by_cases cd : 48 ≤ b B ∧ b B ≤ 57
        · rw [if_pos cd] at c21
          omega
        · rw [if_neg cd] at c21
          by_cases cl : 97 ≤ b B ∧ b B ≤ 122
          · rw [if_pos cl] at c21
            rcases nmF_in (b := b) (B := B) (e := rn b n 97 122 B) 20 (by omega) with ⟨x1, -⟩ | ⟨x1, x2, x3, -⟩ <;> omega
          · rw [if_neg cl] at c21
            omega
    refine ⟨true, 0, ups g 0 0, fun z => absurd z (by decide), fun S m q hs h2 h8 h5 => ?_, fun S m q hs R hg => ?_⟩
    · obtain ⟨m1, C1, w1, F1, Z⟩ := CB S m q hs h2 h8 h5
      rw [if_pos c21] at Z
      have D68 := fun x y => c_r68 (q := q) hs x y w1 (by decide) (by decide)
      rw [if_pos rfl] at D68
      refine ⟨up m1 1 2 0, Z (c_r38z hs (by decide) (by decide) D68), F1.tr (fun c j a _ _ _ _ _ => if_neg (by omega)), up_at _ _ _ _, fun _ => ⟨(up_i (by decide)).trans w1, (C1.fn.up2 0).rul ⟨fun j j0 j1 => by omega, fun i i0 i1 => by omega⟩ (by decide) (by decide) (by decide) (by decide)⟩, fun z => absurd z (by decide)⟩
    · obtain ⟨m1, RL1, F1, p1, n1, D1⟩ := RB S m q hs R hg
      rw [en] at p1
      obtain ⟨d1, RP1⟩ := RL1
      have DA : De (fun k => f_X11_readAll k 0 [.ref 136] (hp S m q)) (.inl (some (.int (J 0)))) (hp S m1 q) := by
        refine De.step ?_
        simp only [j_X11_readAll_0]
        simp (disch := omega) only [b_X11_readAll_0, x136_k hs, x136_i0 hs, x136_w0 hs, x136_r1 hs, x136_r2 hs, x136_r3 hs, x136_r4 hs, x136_i5 hs, x136_w5 hs, x136_i6 hs, x136_w6 hs, x136_i7 hs, x136_w7 hs, x136_r8 hs, x136_i9 hs, x136_w9 hs, x136_i10 hs, x136_w10 hs, x136_i11 hs, x136_w11 hs, x136_i12 hs, x136_w12 hs, x136_i13 hs, x136_w13 hs, x136_i14 hs, x136_w14 hs, x136_r15 hs, x136_i16 hs, x136_w16 hs, x136_r17 hs, x136_r18 hs, x136_r19 hs, x136_r20 hs, x136_r21 hs, x136_i22 hs, x136_w22 hs, x136_r23 hs, x136_r24 hs, x136_i25 hs, x136_w25 hs, x136_i26 hs, x136_w26 hs, x136_r27 hs, x136_r28 hs, x136_i29 hs, x136_w29 hs, Option.bind_some, xI, xU, xUt, xIt, J_lit, J_add, J_sub, J_mul, J_neg, J_ltc, J_lec, J_eqc, lt_T, lt_F, le_T, le_F, eq_T, eq_F, ↓reduceIte, ite_not, not_true_eq_false, not_false_eq_true, true_or, or_true, false_or, or_false, true_and, and_true, false_and, and_false, up_get, Nat.reduceEqDiff, Int.reduceNeg, eqN_T, eqN_F]
        refine De.call D1 ?_
        simp (disch := omega) only [x136_k hs, x136_i0 hs, x136_w0 hs, x136_r1 hs, x136_r2 hs, x136_r3 hs, x136_r4 hs, x136_i5 hs, x136_w5 hs, x136_i6 hs, x136_w6 hs, x136_i7 hs, x136_w7 hs, x136_r8 hs, x136_i9 hs, x136_w9 hs, x136_i10 hs, x136_w10 hs, x136_i11 hs, x136_w11 hs, x136_i12 hs, x136_w12 hs, x136_i13 hs, x136_w13 hs, x136_i14 hs, x136_w14 hs, x136_r15 hs, x136_i16 hs, x136_w16 hs, x136_r17 hs, x136_r18 hs, x136_r19 hs, x136_r20 hs, x136_r21 hs, x136_i22 hs, x136_w22 hs, x136_r23 hs, x136_r24 hs, x136_i25 hs, x136_w25 hs, x136_i26 hs, x136_w26 hs, x136_r27 hs, x136_r28 hs, x136_i29 hs, x136_w29 hs, p1, n1, Option.bind_some, xI, xU, xUt, xIt, J_lit, J_add, J_sub, J_mul, J_neg, J_ltc, J_lec, J_eqc, lt_T, lt_F, le_T, le_F, eq_T, eq_F, ↓reduceIte, ite_not, not_true_eq_false, not_false_eq_true, true_or, or_true, false_or, or_false, true_and, and_true, false_and, and_false, up_get, Nat.reduceEqDiff, Int.reduceNeg, eqN_T, eqN_F]
        exact De.ret _ _
      have DE := RN S m m1 q 0 0 hs (by decide) (by decide) (fun z => by omega) DA
      rw [if_pos (Int.le_refl _), if_pos (Int.le_refl _)] at DE
      refine ⟨_, DE, fun c j a b' => ?_, ?_, fun _ i i0 i1 => ?_⟩
      · rw [up_get, if_neg (by omega), up_get, if_neg (by omega)]
        exact F1 c j (by omega) b'
      · rw [up_a (by decide), up_at, if_pos rfl]
      · by_cases z : i = 0
        · rw [z, ups_at, show (5080 + 0 : Int) = 4239 + 841 * 1 from rfl, up_at]
          rfl
        · rw [ups_ne z, up_i (by omega), up_a (by decide)]
          exact RP1.2.2.2 i i0 i1
  · obtain ⟨good, F, Lf, sf, gf, ⟨g1, g2⟩, CL, RE⟩ := rd_loop (b := b) (n := n) 10 0 B 0 g (by decide) (by decide) hB (by decide) (by omega) ⟨fun j j0 j1 => by omega, fun i i0 i1 => by omega⟩
    refine ⟨good, F, ups gf 0 Lf, g2, fun S m q hs h2 h8 h5 => ?_, fun S m q hs R hg => ?_⟩
    · obtain ⟨m1, C1, w1, F1, Z⟩ := CB S m q hs h2 h8 h5
      rw [if_neg c21] at Z
      obtain ⟨m2, D2, F2, a2, b2, c2⟩ := CL S m1 q hs C1 w1
      refine ⟨m2, Z D2, F1.tr F2, a2, fun z => ⟨(b2 z).1, ?_⟩, c2⟩
      obtain ⟨l1, l2, l3⟩ := g1 z
      exact (b2 z).2.rul l3 l1.1 l1.2 l2.1 l2.2
    · obtain ⟨m1, RL1, F1, p1, n1, D1⟩ := RB S m q hs R hg
      have Bn : B ≠ n := fun z => c21 (if_pos (by omega))
      obtain ⟨m2, D2, F2, a2, b2⟩ := RE S m1 q hs RL1
      have DA : De (fun k => f_X11_readAll k 0 [.ref 136] (hp S m q)) (.inl (some (.int (J (if good = true then Lf else -1))))) (hp S m2 q) := by
        refine De.step ?_
        simp only [j_X11_readAll_0]
        simp (disch := omega) only [b_X11_readAll_0, x136_k hs, x136_i0 hs, x136_w0 hs, x136_r1 hs, x136_r2 hs, x136_r3 hs, x136_r4 hs, x136_i5 hs, x136_w5 hs, x136_i6 hs, x136_w6 hs, x136_i7 hs, x136_w7 hs, x136_r8 hs, x136_i9 hs, x136_w9 hs, x136_i10 hs, x136_w10 hs, x136_i11 hs, x136_w11 hs, x136_i12 hs, x136_w12 hs, x136_i13 hs, x136_w13 hs, x136_i14 hs, x136_w14 hs, x136_r15 hs, x136_i16 hs, x136_w16 hs, x136_r17 hs, x136_r18 hs, x136_r19 hs, x136_r20 hs, x136_r21 hs, x136_i22 hs, x136_w22 hs, x136_r23 hs, x136_r24 hs, x136_i25 hs, x136_w25 hs, x136_i26 hs, x136_w26 hs, x136_r27 hs, x136_r28 hs, x136_i29 hs, x136_w29 hs, Option.bind_some, xI, xU, xUt, xIt, J_lit, J_add, J_sub, J_mul, J_neg, J_ltc, J_lec, J_eqc, lt_T, lt_F, le_T, le_F, eq_T, eq_F, ↓reduceIte, ite_not, not_true_eq_false, not_false_eq_true, true_or, or_true, false_or, or_false, true_and, and_true, false_and, and_false, up_get, Nat.reduceEqDiff, Int.reduceNeg, eqN_T, eqN_F]
        refine De.call D1 ?_
        simp (disch := omega) only [x136_k hs, x136_i0 hs, x136_w0 hs, x136_r1 hs, x136_r2 hs, x136_r3 hs, x136_r4 hs, x136_i5 hs, x136_w5 hs, x136_i6 hs, x136_w6 hs, x136_i7 hs, x136_w7 hs, x136_r8 hs, x136_i9 hs, x136_w9 hs, x136_i10 hs, x136_w10 hs, x136_i11 hs, x136_w11 hs, x136_i12 hs, x136_w12 hs, x136_i13 hs, x136_w13 hs, x136_i14 hs, x136_w14 hs, x136_r15 hs, x136_i16 hs, x136_w16 hs, x136_r17 hs, x136_r18 hs, x136_r19 hs, x136_r20 hs, x136_r21 hs, x136_i22 hs, x136_w22 hs, x136_r23 hs, x136_r24 hs, x136_i25 hs, x136_w25 hs, x136_i26 hs, x136_w26 hs, x136_r27 hs, x136_r28 hs, x136_i29 hs, x136_w29 hs, p1, n1, Option.bind_some, xI, xU, xUt, xIt, J_lit, J_add, J_sub, J_mul, J_neg, J_ltc, J_lec, J_eqc, lt_T, lt_F, le_T, le_F, eq_T, eq_F, ↓reduceIte, ite_not, not_true_eq_false, not_false_eq_true, true_or, or_true, false_or, or_false, true_and, and_true, false_and, and_false, up_get, Nat.reduceEqDiff, Int.reduceNeg, eqN_T, eqN_F]
        exact D2
      cases good with
      | true =>
        obtain ⟨l1, l2, l3⟩ := g1 rfl
        rw [if_pos rfl] at DA
        have DE := RN S m m2 q Lf 0 hs (by omega) (by omega) (fun z => by omega) DA
        rw [if_pos l1.1, if_pos l1.1] at DE
        refine ⟨_, DE, fun c j a b' => ?_, ?_, fun _ i i0 i1 => ?_⟩
        · rw [up_get, if_neg (by omega), up_get, if_neg (by omega)]
          exact (F2 c j (by omega) b').trans (F1 c j (by omega) b')
        · rw [up_a (by decide), up_at, if_pos rfl]
        · by_cases z : i = 0
          · rw [z, ups_at, show (5080 + 0 : Int) = 4239 + 841 * 1 from rfl, up_at]
            omega
          · rw [ups_ne z, up_i (by omega), up_a (by decide)]
            exact a2 rfl i i0 i1
      | false =>
        rw [if_neg (by decide)] at DA
        have DE := RN S m m2 q (-1) F hs (by decide) (by decide) (fun z => b2 rfl) DA
        rw [if_neg (by decide), if_neg (by decide)] at DE
        refine ⟨_, DE, fun c j a b' => ?_, ?_, fun z => absurd z (by decide)⟩
        · rw [up_get, if_neg (by omega), up_get, if_neg (by omega)]
          exact (F2 c j (by omega) b').trans (F1 c j (by omega) b')
        · rw [up_a (by decide), up_at, if_neg (by decide)]
end TEXT
