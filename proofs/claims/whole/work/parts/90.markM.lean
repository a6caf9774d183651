/-! marks, what may be passed and cost, by the reference -/
section MARKM
variable {S : xH} {m m0 : Nat → Int → Int} {q : Nat → Int → Int64} {told p x y ln sp : Int} {g fc kd nm bg so : Int → Int} {T : Nat}
/-- the table that the reference goes by -/
def RulM (m : Nat → Int → Int) (y : Int) (g : Int → Int) : Prop := m 136 6 = y ∧ 0 ≤ y ∧ y ≤ 1 ∧ ∀ i : Int, 0 ≤ i → i < 841 → m 139 (4239 + 841 * y + i) = g i
theorem RulM.cg {m m' : Nat → Int → Int} (h : RulM m y g) (e1 : m' 136 6 = m 136 6) (e2 : ∀ i, m' 139 i = m 139 i) : RulM m' y g := ⟨e1.trans h.1, h.2.1, h.2.2.1, fun i i0 i1 => (e2 _).trans (h.2.2.2 i i0 i1)⟩
def FacM (m : Nat → Int → Int) (T : Nat) (fc : Int → Int) : Prop := (∀ i : Int, 0 ≤ i → i < 5 → m 144 i = fc i) ∧ FcOk fc ∧ ∀ k : Int, 0 ≤ k → k < 7 → m 143 k = if T.testBit k.toNat = true then 1 else 0
theorem FacM.cg {m m' : Nat → Int → Int} (h : FacM m T fc) (e1 : ∀ i, m' 144 i = m 144 i) (e2 : ∀ i, m' 143 i = m 143 i) : FacM m' T fc := ⟨fun i i0 i1 => (e1 i).trans (h.1 i i0 i1), h.2.1, fun i i0 i1 => (e2 i).trans (h.2.2 i i0 i1)⟩
theorem d_lines (hs : Sk S) (M : RulM m y g) : De (fun n => f_X11_lines n 0 [.ref 136] (hp S m q)) (.inl (some (.int (J (g 0))))) (hp S m q) := De.eq 2 (fun n => by
  obtain ⟨hy, y0, y1, hg⟩ := id M
  have h0 := hg 0 (by omega) (by omega)
  rw [Int.add_zero] at h0
  rw [j_X11_lines_0]
  simp (disch := omega) only [b_X11_lines_0, x136_k hs, x136_i0 hs, x136_w0 hs, x136_r1 hs, x136_r2 hs, x136_r3 hs, x136_r4 hs, x136_i5 hs, x136_w5 hs, x136_i6 hs, x136_w6 hs, x136_i7 hs, x136_w7 hs, x136_r8 hs, x136_i9 hs, x136_w9 hs, x136_i10 hs, x136_w10 hs, x136_i11 hs, x136_w11 hs, x136_i12 hs, x136_w12 hs, x136_i13 hs, x136_w13 hs, x136_i14 hs, x136_w14 hs, x136_r15 hs, x136_i16 hs, x136_w16 hs, x136_r17 hs, x136_r18 hs, x136_r19 hs, x136_r20 hs, x136_r21 hs, x136_i22 hs, x136_w22 hs, x136_r23 hs, x136_r24 hs, x136_i25 hs, x136_w25 hs, x136_i26 hs, x136_w26 hs, x136_r27 hs, x136_r28 hs, x136_i29 hs, x136_w29 hs, x139_g hs, x139_s hs, x139_l hs, hy, e_ruleAt, h0, Option.bind_some, xI, xU, xUt, xIt, J_lit, J_add, J_sub, J_mul, J_neg, J_ltc, J_lec, J_eqc, lt_T, lt_F, le_T, le_F, eq_T, eq_F, ↓reduceIte, ite_not, not_true_eq_false, not_false_eq_true, true_or, or_true, false_or, or_false, true_and, and_true, false_and, and_false, up_get, Nat.reduceEqDiff, Int.reduceNeg, eqN_T, eqN_F])
theorem d_lineAt (y i : Int) (P : xH) : De (fun n => f_X11_lineAt n 0 [.int (J y), .int (J i)] P) (.inl (some (.int (J (4239 + 841 * y + 1 + 4 * i))))) P := De.eq 2 (fun n => e_lineAt n y i P)
theorem d_hol (hs : Sk S) (M : RulM m y g) (R : Rrul ln sp kd nm bg so g) (H : FacM m T fc) {l : Int} (l0 : 0 ≤ l) (l1 : l < g 0) : ∃ m', De (fun n => f_X11_holds n 0 [.ref 136, .int (J l)] (hp S m q)) (.inl (some (.int (J (if holS g T fc l = true then 1 else 0))))) (hp S m' q) ∧ ∀ b x, b ≠ 145 → m' b x = m b x := holM hs M.1 M.2.1 M.2.2.1 R M.2.2.2 H.1 H.2.1 H.2.2 l0 l1
theorem q_markM_l (hs : Sk S) (M0 : RulM m0 y g) (R : Rrul ln sp kd nm bg so g) (H : FacM m0 T fc) (a1 a2 : Int32) : ∀ (k i : Nat) (m : Nat → Int → Int), (i : Int) + k = g 0 → (∀ b x, b ≠ 145 → m b x = m0 b x) → ∃ m', De (fun n => f_X11_markOf n 11 [.ref 136, .int a1, .int a2, .int (J (mkS g T fc i)), .int (J i)] (hp S m q)) (.inl (some (.int (J (mkS g T fc (g 0).toNat))))) (hp S m' q) ∧ ∀ b x, b ≠ 145 → m' b x = m0 b x := by
  have r2 := R.2.2.1
  intro k
  induction k with
  | zero =>
    intro i m hi F
    have M := M0.cg (m' := m) (F 136 6 (by decide)) (fun i => F 139 i (by decide))
    refine ⟨m, ?_, F⟩
    rw [show (g 0).toNat = i by omega]
    refine De.step ?_
    simp only [j_X11_markOf_11]
    simp (disch := omega) only [b_X11_markOf_11, x136_k hs, x136_i0 hs, x136_w0 hs, x136_r1 hs, x136_r2 hs, x136_r3 hs, x136_r4 hs, x136_i5 hs, x136_w5 hs, x136_i6 hs, x136_w6 hs, x136_i7 hs, x136_w7 hs, x136_r8 hs, x136_i9 hs, x136_w9 hs, x136_i10 hs, x136_w10 hs, x136_i11 hs, x136_w11 hs, x136_i12 hs, x136_w12 hs, x136_i13 hs, x136_w13 hs, x136_i14 hs, x136_w14 hs, x136_r15 hs, x136_i16 hs, x136_w16 hs, x136_r17 hs, x136_r18 hs, x136_r19 hs, x136_r20 hs, x136_r21 hs, x136_i22 hs, x136_w22 hs, x136_r23 hs, x136_r24 hs, x136_i25 hs, x136_w25 hs, x136_i26 hs, x136_w26 hs, x136_r27 hs, x136_r28 hs, x136_i29 hs, x136_w29 hs, Option.bind_some]
    refine De.call (d_lines hs M) ?_
    simp (disch := omega) only [Option.bind_some, xI, xU, xUt, xIt, J_lit, J_add, J_sub, J_mul, J_neg, J_ltc, J_lec, J_eqc, lt_T, lt_F, le_T, le_F, eq_T, eq_F, ↓reduceIte, ite_not, not_true_eq_false, not_false_eq_true, true_or, or_true, false_or, or_false, true_and, and_true, false_and, and_false, up_get, Nat.reduceEqDiff, Int.reduceNeg, eqN_T, eqN_F]
    exact De.ret _ _
  | succ k IH =>
    intro i m hi F
    have M := M0.cg (m' := m) (F 136 6 (by decide)) (fun i => F 139 i (by decide))
    obtain ⟨hy, y0, y1, hg⟩ := id M
    obtain ⟨⟨k1, k2, k3, k4⟩, k5, k6⟩ := R.2.2.2.2.2.1 i (by omega) (by omega)
    have g1 : m 139 (4239 + 841 * y + 1 + 4 * i) = g (1 + 4 * i) := by rw [← hg _ (by omega) (by omega)]; congr 1; omega
    have head : ∀ m', (fun n => f_X11_markOf (n + 1) 11 [.ref 136, .int a1, .int a2, .int (J (mkS g T fc i)), .int (J i)] (hp S m' q)) = fun n => b_X11_markOf_11 n (f_X11_markOf n) 136 a1 a2 (J (mkS g T fc i)) (J i) (hp S m' q) := fun m' => funext fun n => j_X11_markOf_11 _ _ _ _ _ _ _
    by_cases c : g (1 + 4 * i) = 0
    · obtain ⟨m1, Dh, F1⟩ := d_hol (q := q) hs M R (H.cg (m' := m) (fun i => F 144 i (by decide)) (fun i => F 143 i (by decide))) (l := i) (by omega) (by omega)
      have F2 : ∀ b x, b ≠ 145 → m1 b x = m0 b x := fun b x hb => (F1 b x hb).trans (F b x hb)
      have g2 : m1 139 (4239 + 841 * y + 1 + 4 * i + 1) = g (1 + 4 * i + 1) := by rw [F1 139 _ (by decide), ← hg _ (by omega) (by omega)]; congr 1; omega
      have hy1 : m1 136 6 = y := (F1 136 6 (by decide)).trans hy
      obtain ⟨m', D, F'⟩ := IH (i + 1) m1 (by omega) F2
      refine ⟨m', ?_, F'⟩
      rw [mkS] at D
      refine De.step ?_
      rw [head]
      simp (disch := omega) only [b_X11_markOf_11, x136_k hs, x136_i0 hs, x136_w0 hs, x136_r1 hs, x136_r2 hs, x136_r3 hs, x136_r4 hs, x136_i5 hs, x136_w5 hs, x136_i6 hs, x136_w6 hs, x136_i7 hs, x136_w7 hs, x136_r8 hs, x136_i9 hs, x136_w9 hs, x136_i10 hs, x136_w10 hs, x136_i11 hs, x136_w11 hs, x136_i12 hs, x136_w12 hs, x136_i13 hs, x136_w13 hs, x136_i14 hs, x136_w14 hs, x136_r15 hs, x136_i16 hs, x136_w16 hs, x136_r17 hs, x136_r18 hs, x136_r19 hs, x136_r20 hs, x136_r21 hs, x136_i22 hs, x136_w22 hs, x136_r23 hs, x136_r24 hs, x136_i25 hs, x136_w25 hs, x136_i26 hs, x136_w26 hs, x136_r27 hs, x136_r28 hs, x136_i29 hs, x136_w29 hs, Option.bind_some]
      refine De.call (d_lines hs M) ?_
      simp (disch := omega) only [x136_k hs, x136_i0 hs, x136_w0 hs, x136_r1 hs, x136_r2 hs, x136_r3 hs, x136_r4 hs, x136_i5 hs, x136_w5 hs, x136_i6 hs, x136_w6 hs, x136_i7 hs, x136_w7 hs, x136_r8 hs, x136_i9 hs, x136_w9 hs, x136_i10 hs, x136_w10 hs, x136_i11 hs, x136_w11 hs, x136_i12 hs, x136_w12 hs, x136_i13 hs, x136_w13 hs, x136_i14 hs, x136_w14 hs, x136_r15 hs, x136_i16 hs, x136_w16 hs, x136_r17 hs, x136_r18 hs, x136_r19 hs, x136_r20 hs, x136_r21 hs, x136_i22 hs, x136_w22 hs, x136_r23 hs, x136_r24 hs, x136_i25 hs, x136_w25 hs, x136_i26 hs, x136_w26 hs, x136_r27 hs, x136_r28 hs, x136_i29 hs, x136_w29 hs, hy, Option.bind_some, xI, xU, xUt, xIt, J_lit, J_add, J_sub, J_mul, J_neg, J_ltc, J_lec, J_eqc, lt_T, lt_F, le_T, le_F, eq_T, eq_F, ↓reduceIte, ite_not, not_true_eq_false, not_false_eq_true, true_or, or_true, false_or, or_false, true_and, and_true, false_and, and_false, up_get, Nat.reduceEqDiff, Int.reduceNeg, eqN_T, eqN_F]
      refine De.call (d_lineAt y i _) ?_
      simp (disch := omega) only [x136_k hs, x136_i0 hs, x136_w0 hs, x136_r1 hs, x136_r2 hs, x136_r3 hs, x136_r4 hs, x136_i5 hs, x136_w5 hs, x136_i6 hs, x136_w6 hs, x136_i7 hs, x136_w7 hs, x136_r8 hs, x136_i9 hs, x136_w9 hs, x136_i10 hs, x136_w10 hs, x136_i11 hs, x136_w11 hs, x136_i12 hs, x136_w12 hs, x136_i13 hs, x136_w13 hs, x136_i14 hs, x136_w14 hs, x136_r15 hs, x136_i16 hs, x136_w16 hs, x136_r17 hs, x136_r18 hs, x136_r19 hs, x136_r20 hs, x136_r21 hs, x136_i22 hs, x136_w22 hs, x136_r23 hs, x136_r24 hs, x136_i25 hs, x136_w25 hs, x136_i26 hs, x136_w26 hs, x136_r27 hs, x136_r28 hs, x136_i29 hs, x136_w29 hs, x139_g hs, x139_s hs, x139_l hs, g1, Option.bind_some, xI, xU, xUt, xIt, J_lit, J_add, J_sub, J_mul, J_neg, J_ltc, J_lec, J_eqc, lt_T, lt_F, le_T, le_F, eq_T, eq_F, ↓reduceIte, ite_not, not_true_eq_false, not_false_eq_true, true_or, or_true, false_or, or_false, true_and, and_true, false_and, and_false, up_get, Nat.reduceEqDiff, Int.reduceNeg, eqN_T, eqN_F]
      refine De.call Dh ?_
      by_cases d : holS g T fc i = true
      · rw [if_pos ⟨c, d⟩] at D
        simp (disch := omega) only [if_pos d, x136_k hs, x136_i0 hs, x136_w0 hs, x136_r1 hs, x136_r2 hs, x136_r3 hs, x136_r4 hs, x136_i5 hs, x136_w5 hs, x136_i6 hs, x136_w6 hs, x136_i7 hs, x136_w7 hs, x136_r8 hs, x136_i9 hs, x136_w9 hs, x136_i10 hs, x136_w10 hs, x136_i11 hs, x136_w11 hs, x136_i12 hs, x136_w12 hs, x136_i13 hs, x136_w13 hs, x136_i14 hs, x136_w14 hs, x136_r15 hs, x136_i16 hs, x136_w16 hs, x136_r17 hs, x136_r18 hs, x136_r19 hs, x136_r20 hs, x136_r21 hs, x136_i22 hs, x136_w22 hs, x136_r23 hs, x136_r24 hs, x136_i25 hs, x136_w25 hs, x136_i26 hs, x136_w26 hs, x136_r27 hs, x136_r28 hs, x136_i29 hs, x136_w29 hs, hy1, Option.bind_some, xI, xU, xUt, xIt, J_lit, J_add, J_sub, J_mul, J_neg, J_ltc, J_lec, J_eqc, lt_T, lt_F, le_T, le_F, eq_T, eq_F, ↓reduceIte, ite_not, not_true_eq_false, not_false_eq_true, true_or, or_true, false_or, or_false, true_and, and_true, false_and, and_false, up_get, Nat.reduceEqDiff, Int.reduceNeg, eqN_T, eqN_F]
        refine De.call (d_lineAt y i _) ?_
        simp (disch := omega) only [x136_k hs, x136_i0 hs, x136_w0 hs, x136_r1 hs, x136_r2 hs, x136_r3 hs, x136_r4 hs, x136_i5 hs, x136_w5 hs, x136_i6 hs, x136_w6 hs, x136_i7 hs, x136_w7 hs, x136_r8 hs, x136_i9 hs, x136_w9 hs, x136_i10 hs, x136_w10 hs, x136_i11 hs, x136_w11 hs, x136_i12 hs, x136_w12 hs, x136_i13 hs, x136_w13 hs, x136_i14 hs, x136_w14 hs, x136_r15 hs, x136_i16 hs, x136_w16 hs, x136_r17 hs, x136_r18 hs, x136_r19 hs, x136_r20 hs, x136_r21 hs, x136_i22 hs, x136_w22 hs, x136_r23 hs, x136_r24 hs, x136_i25 hs, x136_w25 hs, x136_i26 hs, x136_w26 hs, x136_r27 hs, x136_r28 hs, x136_i29 hs, x136_w29 hs, x139_g hs, x139_s hs, x139_l hs, g2, Option.bind_some, xI, xU, xUt, xIt, J_lit, J_add, J_sub, J_mul, J_neg, J_ltc, J_lec, J_eqc, lt_T, lt_F, le_T, le_F, eq_T, eq_F, ↓reduceIte, ite_not, not_true_eq_false, not_false_eq_true, true_or, or_true, false_or, or_false, true_and, and_true, false_and, and_false, up_get, Nat.reduceEqDiff, Int.reduceNeg, eqN_T, eqN_F]
        exact D
      · rw [if_neg (fun z => d z.2), Int.add_zero] at D
        simp (disch := omega) only [if_neg d, Option.bind_some, xI, xU, xUt, xIt, J_lit, J_add, J_sub, J_mul, J_neg, J_ltc, J_lec, J_eqc, lt_T, lt_F, le_T, le_F, eq_T, eq_F, ↓reduceIte, ite_not, not_true_eq_false, not_false_eq_true, true_or, or_true, false_or, or_false, true_and, and_true, false_and, and_false, up_get, Nat.reduceEqDiff, Int.reduceNeg, eqN_T, eqN_F]
        exact D
    · obtain ⟨m', D, F'⟩ := IH (i + 1) m (by omega) F
      refine ⟨m', ?_, F'⟩
      rw [mkS, if_neg (fun z => c z.1), Int.add_zero] at D
      refine De.step ?_
      rw [head]
      simp (disch := omega) only [b_X11_markOf_11, x136_k hs, x136_i0 hs, x136_w0 hs, x136_r1 hs, x136_r2 hs, x136_r3 hs, x136_r4 hs, x136_i5 hs, x136_w5 hs, x136_i6 hs, x136_w6 hs, x136_i7 hs, x136_w7 hs, x136_r8 hs, x136_i9 hs, x136_w9 hs, x136_i10 hs, x136_w10 hs, x136_i11 hs, x136_w11 hs, x136_i12 hs, x136_w12 hs, x136_i13 hs, x136_w13 hs, x136_i14 hs, x136_w14 hs, x136_r15 hs, x136_i16 hs, x136_w16 hs, x136_r17 hs, x136_r18 hs, x136_r19 hs, x136_r20 hs, x136_r21 hs, x136_i22 hs, x136_w22 hs, x136_r23 hs, x136_r24 hs, x136_i25 hs, x136_w25 hs, x136_i26 hs, x136_w26 hs, x136_r27 hs, x136_r28 hs, x136_i29 hs, x136_w29 hs, Option.bind_some]
      refine De.call (d_lines hs M) ?_
      simp (disch := omega) only [x136_k hs, x136_i0 hs, x136_w0 hs, x136_r1 hs, x136_r2 hs, x136_r3 hs, x136_r4 hs, x136_i5 hs, x136_w5 hs, x136_i6 hs, x136_w6 hs, x136_i7 hs, x136_w7 hs, x136_r8 hs, x136_i9 hs, x136_w9 hs, x136_i10 hs, x136_w10 hs, x136_i11 hs, x136_w11 hs, x136_i12 hs, x136_w12 hs, x136_i13 hs, x136_w13 hs, x136_i14 hs, x136_w14 hs, x136_r15 hs, x136_i16 hs, x136_w16 hs, x136_r17 hs, x136_r18 hs, x136_r19 hs, x136_r20 hs, x136_r21 hs, x136_i22 hs, x136_w22 hs, x136_r23 hs, x136_r24 hs, x136_i25 hs, x136_w25 hs, x136_i26 hs, x136_w26 hs, x136_r27 hs, x136_r28 hs, x136_i29 hs, x136_w29 hs, hy, Option.bind_some, xI, xU, xUt, xIt, J_lit, J_add, J_sub, J_mul, J_neg, J_ltc, J_lec, J_eqc, lt_T, lt_F, le_T, le_F, eq_T, eq_F, ↓reduceIte, ite_not, not_true_eq_false, not_false_eq_true, true_or, or_true, false_or, or_false, true_and, and_true, false_and, and_false, up_get, Nat.reduceEqDiff, Int.reduceNeg, eqN_T, eqN_F]
      refine De.call (d_lineAt y i _) ?_
      simp (disch := omega) only [x136_k hs, x136_i0 hs, x136_w0 hs, x136_r1 hs, x136_r2 hs, x136_r3 hs, x136_r4 hs, x136_i5 hs, x136_w5 hs, x136_i6 hs, x136_w6 hs, x136_i7 hs, x136_w7 hs, x136_r8 hs, x136_i9 hs, x136_w9 hs, x136_i10 hs, x136_w10 hs, x136_i11 hs, x136_w11 hs, x136_i12 hs, x136_w12 hs, x136_i13 hs, x136_w13 hs, x136_i14 hs, x136_w14 hs, x136_r15 hs, x136_i16 hs, x136_w16 hs, x136_r17 hs, x136_r18 hs, x136_r19 hs, x136_r20 hs, x136_r21 hs, x136_i22 hs, x136_w22 hs, x136_r23 hs, x136_r24 hs, x136_i25 hs, x136_w25 hs, x136_i26 hs, x136_w26 hs, x136_r27 hs, x136_r28 hs, x136_i29 hs, x136_w29 hs, x139_g hs, x139_s hs, x139_l hs, g1, Option.bind_some, xI, xU, xUt, xIt, J_lit, J_add, J_sub, J_mul, J_neg, J_ltc, J_lec, J_eqc, lt_T, lt_F, le_T, le_F, eq_T, eq_F, ↓reduceIte, ite_not, not_true_eq_false, not_false_eq_true, true_or, or_true, false_or, or_false, true_and, and_true, false_and, and_false, up_get, Nat.reduceEqDiff, Int.reduceNeg, eqN_T, eqN_F]
      exact D
/-- a copy's mark; whether it may be passed -/
def mrk (w v g : Int → Int) (p x : Int) : Int := mkS g (tgN w x) (fcV w v p x) (g 0).toNat
def lts (w v g : Int → Int) (p x : Int) : Bool := decide (v (51 + 7 * (30 * p + x) + 2) < 12) && (anS g (tgN w x) (fcV w v p x) 1 (g 0).toNat || !kdS g 1 (g 0).toNat)
/-- nothing but tags, facts and the pile has changed -/
def Fr3 (m0 m : Nat → Int → Int) : Prop := ∀ b i, b ≠ 143 → b ≠ 144 → b ≠ 145 → m b i = m0 b i
theorem d_looks (hs : Sk S) (W : Wok (m 139)) (V : Vok told (m 139) (m 137)) (p0 : 0 ≤ p) (p1 : p < m 139 0) (x0 : 0 ≤ x) (x1 : x < m 139 1) (h : m 137 (51 + 7 * (30 * p + x) + 0) = 1) : ∃ m', De (fun n => f_X11_looksAt n 0 [.ref 136, .int (J p), .int (J x)] (hp S m q)) (.inl none) (hp S m' q) ∧ (∀ b i, b ≠ 143 → b ≠ 144 → m' b i = m b i) ∧ FacM m' (tgN (m 139) x) (fcV (m 139) (m 137) p x) := by
  obtain ⟨m', D, A, B, C⟩ := q_looksAt (q := q) (m0 := m) hs W V p0 p1 x0 x1 7 0 m (by omega) (by omega) (fun _ _ _ => rfl) (fun j j0 j1 => absurd j1 (by omega))
  have := W.1.2.1
  have := W.2.1
  refine ⟨m', ?_, A, C, fcV_ok W V p0 (by omega) x0 (by omega) h, B⟩
  refine De.step ?_
  simp only [j_X11_looksAt_0, b_X11_looksAt_0, J_lit]
  exact D
theorem q_markM (hs : Sk S) (W : Wok (m 139)) (V : Vok told (m 139) (m 137)) (M : RulM m y g) (R : Rrul ln sp kd nm bg so g) (p0 : 0 ≤ p) (p1 : p < m 139 0) (x0 : 0 ≤ x) (x1 : x < m 139 1) (h : m 137 (51 + 7 * (30 * p + x) + 0) = 1) : ∃ m', De (fun n => f_X11_markOf n 0 [.ref 136, .int (J p), .int (J x)] (hp S m q)) (.inl (some (.int (J (mrk (m 139) (m 137) g p x))))) (hp S m' q) ∧ Fr3 m m' := by
  obtain ⟨m1, D1, A1, H1⟩ := d_looks (q := q) hs W V p0 p1 x0 x1 h
  obtain ⟨m2, D2, A2⟩ := q_markM_l (q := q) (m0 := m1) hs (M.cg (m' := m1) (A1 136 6 (by decide) (by decide)) (fun i => A1 139 i (by decide) (by decide))) R H1 (J p) (J x) (g 0).toNat 0 m1 (by have := R.2.1; omega) (fun _ _ _ => rfl)
  refine ⟨m2, ?_, fun b i b1 b2 b3 => (A2 b i b3).trans (A1 b i b1 b2)⟩
  refine De.step ?_
  simp only [j_X11_markOf_0]
  simp (disch := omega) only [b_X11_markOf_0, x136_k hs, x136_i0 hs, x136_w0 hs, x136_r1 hs, x136_r2 hs, x136_r3 hs, x136_r4 hs, x136_i5 hs, x136_w5 hs, x136_i6 hs, x136_w6 hs, x136_i7 hs, x136_w7 hs, x136_r8 hs, x136_i9 hs, x136_w9 hs, x136_i10 hs, x136_w10 hs, x136_i11 hs, x136_w11 hs, x136_i12 hs, x136_w12 hs, x136_i13 hs, x136_w13 hs, x136_i14 hs, x136_w14 hs, x136_r15 hs, x136_i16 hs, x136_w16 hs, x136_r17 hs, x136_r18 hs, x136_r19 hs, x136_r20 hs, x136_r21 hs, x136_i22 hs, x136_w22 hs, x136_r23 hs, x136_r24 hs, x136_i25 hs, x136_w25 hs, x136_i26 hs, x136_w26 hs, x136_r27 hs, x136_r28 hs, x136_i29 hs, x136_w29 hs, Option.bind_some]
  refine De.call D1 ?_
  simp only [xU, J_lit]
  exact D2
theorem q_passM_l (hs : Sk S) (M0 : RulM m0 y g) (R : Rrul ln sp kd nm bg so g) (H : FacM m0 T fc) (a1 a2 : Int32) : ∀ (k i : Nat) (m : Nat → Int → Int), (i : Int) + k = g 0 → (∀ b x, b ≠ 145 → m b x = m0 b x) → ∃ m', De (fun n => f_X11_mayPass n 32 [.ref 136, .int a1, .int a2, .int (J (if kdS g 1 i = true then 1 else 0)), .int (J (if anS g T fc 1 i = true then 1 else 0)), .int (J i)] (hp S m q)) (.inl (some (.int (J (if (anS g T fc 1 (g 0).toNat || !kdS g 1 (g 0).toNat) = true then 1 else 0))))) (hp S m' q) ∧ ∀ b x, b ≠ 145 → m' b x = m0 b x := by
  have r2 := R.2.2.1
  intro k
  induction k with
  | zero =>
    intro i m hi F
    have M := M0.cg (m' := m) (F 136 6 (by decide)) (fun i => F 139 i (by decide))
    refine ⟨m, ?_, F⟩
    rw [show (g 0).toNat = i by omega]
    refine De.step ?_
    simp only [j_X11_mayPass_32]
    simp (disch := omega) only [b_X11_mayPass_32, x136_k hs, x136_i0 hs, x136_w0 hs, x136_r1 hs, x136_r2 hs, x136_r3 hs, x136_r4 hs, x136_i5 hs, x136_w5 hs, x136_i6 hs, x136_w6 hs, x136_i7 hs, x136_w7 hs, x136_r8 hs, x136_i9 hs, x136_w9 hs, x136_i10 hs, x136_w10 hs, x136_i11 hs, x136_w11 hs, x136_i12 hs, x136_w12 hs, x136_i13 hs, x136_w13 hs, x136_i14 hs, x136_w14 hs, x136_r15 hs, x136_i16 hs, x136_w16 hs, x136_r17 hs, x136_r18 hs, x136_r19 hs, x136_r20 hs, x136_r21 hs, x136_i22 hs, x136_w22 hs, x136_r23 hs, x136_r24 hs, x136_i25 hs, x136_w25 hs, x136_i26 hs, x136_w26 hs, x136_r27 hs, x136_r28 hs, x136_i29 hs, x136_w29 hs, Option.bind_some]
    refine De.call (d_lines hs M) ?_
    cases anS g T fc 1 i <;> cases kdS g 1 i <;> simp (disch := omega) only [Bool.true_or, Bool.false_or, Bool.not_true, Bool.not_false, Bool.false_eq_true, if_true, if_false, Option.bind_some, xI, xU, xUt, xIt, J_lit, J_add, J_sub, J_mul, J_neg, J_ltc, J_lec, J_eqc, lt_T, lt_F, le_T, le_F, eq_T, eq_F, ↓reduceIte, ite_not, not_true_eq_false, not_false_eq_true, true_or, or_true, false_or, or_false, true_and, and_true, false_and, and_false, up_get, Nat.reduceEqDiff, Int.reduceNeg, eqN_T, eqN_F] <;> exact De.ret _ _
  | succ k IH =>
    intro i m hi F
    have M := M0.cg (m' := m) (F 136 6 (by decide)) (fun i => F 139 i (by decide))
    obtain ⟨hy, y0, y1, hg⟩ := id M
    obtain ⟨⟨k1, k2, k3, k4⟩, k5, k6⟩ := R.2.2.2.2.2.1 i (by omega) (by omega)
    have g1 : m 139 (4239 + 841 * y + 1 + 4 * i) = g (1 + 4 * i) := by rw [← hg _ (by omega) (by omega)]; congr 1; omega
    by_cases c : g (1 + 4 * i) = 1
    · have kk : kdS g 1 (i + 1) = true := by rw [kdS, decide_eq_true c, Bool.or_true]
      by_cases z : anS g T fc 1 i = true
      · obtain ⟨m', D, F'⟩ := IH (i + 1) m (by omega) F
        rw [kk, show anS g T fc 1 (i + 1) = true from anS_mono 1 i z, if_pos rfl] at D
        refine ⟨m', ?_, F'⟩
        rw [if_pos z]
        refine De.step ?_
        simp only [j_X11_mayPass_32]
        simp (disch := omega) only [b_X11_mayPass_32, x136_k hs, x136_i0 hs, x136_w0 hs, x136_r1 hs, x136_r2 hs, x136_r3 hs, x136_r4 hs, x136_i5 hs, x136_w5 hs, x136_i6 hs, x136_w6 hs, x136_i7 hs, x136_w7 hs, x136_r8 hs, x136_i9 hs, x136_w9 hs, x136_i10 hs, x136_w10 hs, x136_i11 hs, x136_w11 hs, x136_i12 hs, x136_w12 hs, x136_i13 hs, x136_w13 hs, x136_i14 hs, x136_w14 hs, x136_r15 hs, x136_i16 hs, x136_w16 hs, x136_r17 hs, x136_r18 hs, x136_r19 hs, x136_r20 hs, x136_r21 hs, x136_i22 hs, x136_w22 hs, x136_r23 hs, x136_r24 hs, x136_i25 hs, x136_w25 hs, x136_i26 hs, x136_w26 hs, x136_r27 hs, x136_r28 hs, x136_i29 hs, x136_w29 hs, Option.bind_some]
        refine De.call (d_lines hs M) ?_
        simp (disch := omega) only [x136_k hs, x136_i0 hs, x136_w0 hs, x136_r1 hs, x136_r2 hs, x136_r3 hs, x136_r4 hs, x136_i5 hs, x136_w5 hs, x136_i6 hs, x136_w6 hs, x136_i7 hs, x136_w7 hs, x136_r8 hs, x136_i9 hs, x136_w9 hs, x136_i10 hs, x136_w10 hs, x136_i11 hs, x136_w11 hs, x136_i12 hs, x136_w12 hs, x136_i13 hs, x136_w13 hs, x136_i14 hs, x136_w14 hs, x136_r15 hs, x136_i16 hs, x136_w16 hs, x136_r17 hs, x136_r18 hs, x136_r19 hs, x136_r20 hs, x136_r21 hs, x136_i22 hs, x136_w22 hs, x136_r23 hs, x136_r24 hs, x136_i25 hs, x136_w25 hs, x136_i26 hs, x136_w26 hs, x136_r27 hs, x136_r28 hs, x136_i29 hs, x136_w29 hs, hy, Option.bind_some, xI, xU, xUt, xIt, J_lit, J_add, J_sub, J_mul, J_neg, J_ltc, J_lec, J_eqc, lt_T, lt_F, le_T, le_F, eq_T, eq_F, ↓reduceIte, ite_not, not_true_eq_false, not_false_eq_true, true_or, or_true, false_or, or_false, true_and, and_true, false_and, and_false, up_get, Nat.reduceEqDiff, Int.reduceNeg, eqN_T, eqN_F]
        refine De.call (d_lineAt y i _) ?_
        simp (disch := omega) only [x136_k hs, x136_i0 hs, x136_w0 hs, x136_r1 hs, x136_r2 hs, x136_r3 hs, x136_r4 hs, x136_i5 hs, x136_w5 hs, x136_i6 hs, x136_w6 hs, x136_i7 hs, x136_w7 hs, x136_r8 hs, x136_i9 hs, x136_w9 hs, x136_i10 hs, x136_w10 hs, x136_i11 hs, x136_w11 hs, x136_i12 hs, x136_w12 hs, x136_i13 hs, x136_w13 hs, x136_i14 hs, x136_w14 hs, x136_r15 hs, x136_i16 hs, x136_w16 hs, x136_r17 hs, x136_r18 hs, x136_r19 hs, x136_r20 hs, x136_r21 hs, x136_i22 hs, x136_w22 hs, x136_r23 hs, x136_r24 hs, x136_i25 hs, x136_w25 hs, x136_i26 hs, x136_w26 hs, x136_r27 hs, x136_r28 hs, x136_i29 hs, x136_w29 hs, x139_g hs, x139_s hs, x139_l hs, g1, Option.bind_some, xI, xU, xUt, xIt, J_lit, J_add, J_sub, J_mul, J_neg, J_ltc, J_lec, J_eqc, lt_T, lt_F, le_T, le_F, eq_T, eq_F, ↓reduceIte, ite_not, not_true_eq_false, not_false_eq_true, true_or, or_true, false_or, or_false, true_and, and_true, false_and, and_false, up_get, Nat.reduceEqDiff, Int.reduceNeg, eqN_T, eqN_F]
        exact D
      · obtain ⟨m1, Dh, F1⟩ := d_hol (q := q) hs M R (H.cg (m' := m) (fun i => F 144 i (by decide)) (fun i => F 143 i (by decide))) (l := i) (by omega) (by omega)
        obtain ⟨m', D, F'⟩ := IH (i + 1) m1 (by omega) (fun b x hb => (F1 b x hb).trans (F b x hb))
        rw [kk, if_pos rfl, anS, Bool.eq_false_iff.mpr z, decide_eq_true c, Bool.true_and, Bool.false_or] at D
        refine ⟨m', ?_, F'⟩
        rw [if_neg z]
        refine De.step ?_
        simp only [j_X11_mayPass_32]
        simp (disch := omega) only [b_X11_mayPass_32, x136_k hs, x136_i0 hs, x136_w0 hs, x136_r1 hs, x136_r2 hs, x136_r3 hs, x136_r4 hs, x136_i5 hs, x136_w5 hs, x136_i6 hs, x136_w6 hs, x136_i7 hs, x136_w7 hs, x136_r8 hs, x136_i9 hs, x136_w9 hs, x136_i10 hs, x136_w10 hs, x136_i11 hs, x136_w11 hs, x136_i12 hs, x136_w12 hs, x136_i13 hs, x136_w13 hs, x136_i14 hs, x136_w14 hs, x136_r15 hs, x136_i16 hs, x136_w16 hs, x136_r17 hs, x136_r18 hs, x136_r19 hs, x136_r20 hs, x136_r21 hs, x136_i22 hs, x136_w22 hs, x136_r23 hs, x136_r24 hs, x136_i25 hs, x136_w25 hs, x136_i26 hs, x136_w26 hs, x136_r27 hs, x136_r28 hs, x136_i29 hs, x136_w29 hs, Option.bind_some]
        refine De.call (d_lines hs M) ?_
        simp (disch := omega) only [x136_k hs, x136_i0 hs, x136_w0 hs, x136_r1 hs, x136_r2 hs, x136_r3 hs, x136_r4 hs, x136_i5 hs, x136_w5 hs, x136_i6 hs, x136_w6 hs, x136_i7 hs, x136_w7 hs, x136_r8 hs, x136_i9 hs, x136_w9 hs, x136_i10 hs, x136_w10 hs, x136_i11 hs, x136_w11 hs, x136_i12 hs, x136_w12 hs, x136_i13 hs, x136_w13 hs, x136_i14 hs, x136_w14 hs, x136_r15 hs, x136_i16 hs, x136_w16 hs, x136_r17 hs, x136_r18 hs, x136_r19 hs, x136_r20 hs, x136_r21 hs, x136_i22 hs, x136_w22 hs, x136_r23 hs, x136_r24 hs, x136_i25 hs, x136_w25 hs, x136_i26 hs, x136_w26 hs, x136_r27 hs, x136_r28 hs, x136_i29 hs, x136_w29 hs, hy, Option.bind_some, xI, xU, xUt, xIt, J_lit, J_add, J_sub, J_mul, J_neg, J_ltc, J_lec, J_eqc, lt_T, lt_F, le_T, le_F, eq_T, eq_F, ↓reduceIte, ite_not, not_true_eq_false, not_false_eq_true, true_or, or_true, false_or, or_false, true_and, and_true, false_and, and_false, up_get, Nat.reduceEqDiff, Int.reduceNeg, eqN_T, eqN_F]
        refine De.call (d_lineAt y i _) ?_
        simp (disch := omega) only [x136_k hs, x136_i0 hs, x136_w0 hs, x136_r1 hs, x136_r2 hs, x136_r3 hs, x136_r4 hs, x136_i5 hs, x136_w5 hs, x136_i6 hs, x136_w6 hs, x136_i7 hs, x136_w7 hs, x136_r8 hs, x136_i9 hs, x136_w9 hs, x136_i10 hs, x136_w10 hs, x136_i11 hs, x136_w11 hs, x136_i12 hs, x136_w12 hs, x136_i13 hs, x136_w13 hs, x136_i14 hs, x136_w14 hs, x136_r15 hs, x136_i16 hs, x136_w16 hs, x136_r17 hs, x136_r18 hs, x136_r19 hs, x136_r20 hs, x136_r21 hs, x136_i22 hs, x136_w22 hs, x136_r23 hs, x136_r24 hs, x136_i25 hs, x136_w25 hs, x136_i26 hs, x136_w26 hs, x136_r27 hs, x136_r28 hs, x136_i29 hs, x136_w29 hs, x139_g hs, x139_s hs, x139_l hs, g1, Option.bind_some, xI, xU, xUt, xIt, J_lit, J_add, J_sub, J_mul, J_neg, J_ltc, J_lec, J_eqc, lt_T, lt_F, le_T, le_F, eq_T, eq_F, ↓reduceIte, ite_not, not_true_eq_false, not_false_eq_true, true_or, or_true, false_or, or_false, true_and, and_true, false_and, and_false, up_get, Nat.reduceEqDiff, Int.reduceNeg, eqN_T, eqN_F]
        refine De.call Dh ?_
        by_cases d : holS g T fc i = true
        · rw [if_pos d] at D
          simp (disch := omega) only [if_pos d, Option.bind_some, xI, xU, xUt, xIt, J_lit, J_add, J_sub, J_mul, J_neg, J_ltc, J_lec, J_eqc, lt_T, lt_F, le_T, le_F, eq_T, eq_F, ↓reduceIte, ite_not, not_true_eq_false, not_false_eq_true, true_or, or_true, false_or, or_false, true_and, and_true, false_and, and_false, up_get, Nat.reduceEqDiff, Int.reduceNeg, eqN_T, eqN_F]
          exact D
        · rw [if_neg d] at D
          simp (disch := omega) only [if_neg d, Option.bind_some, xI, xU, xUt, xIt, J_lit, J_add, J_sub, J_mul, J_neg, J_ltc, J_lec, J_eqc, lt_T, lt_F, le_T, le_F, eq_T, eq_F, ↓reduceIte, ite_not, not_true_eq_false, not_false_eq_true, true_or, or_true, false_or, or_false, true_and, and_true, false_and, and_false, up_get, Nat.reduceEqDiff, Int.reduceNeg, eqN_T, eqN_F]
          exact D
    · obtain ⟨m', D, F'⟩ := IH (i + 1) m (by omega) F
      rw [kdS, anS, decide_eq_false c, Bool.or_false, Bool.false_and, Bool.or_false] at D
      refine ⟨m', ?_, F'⟩
      refine De.step ?_
      simp only [j_X11_mayPass_32]
      simp (disch := omega) only [b_X11_mayPass_32, x136_k hs, x136_i0 hs, x136_w0 hs, x136_r1 hs, x136_r2 hs, x136_r3 hs, x136_r4 hs, x136_i5 hs, x136_w5 hs, x136_i6 hs, x136_w6 hs, x136_i7 hs, x136_w7 hs, x136_r8 hs, x136_i9 hs, x136_w9 hs, x136_i10 hs, x136_w10 hs, x136_i11 hs, x136_w11 hs, x136_i12 hs, x136_w12 hs, x136_i13 hs, x136_w13 hs, x136_i14 hs, x136_w14 hs, x136_r15 hs, x136_i16 hs, x136_w16 hs, x136_r17 hs, x136_r18 hs, x136_r19 hs, x136_r20 hs, x136_r21 hs, x136_i22 hs, x136_w22 hs, x136_r23 hs, x136_r24 hs, x136_i25 hs, x136_w25 hs, x136_i26 hs, x136_w26 hs, x136_r27 hs, x136_r28 hs, x136_i29 hs, x136_w29 hs, Option.bind_some]
      refine De.call (d_lines hs M) ?_
      simp (disch := omega) only [x136_k hs, x136_i0 hs, x136_w0 hs, x136_r1 hs, x136_r2 hs, x136_r3 hs, x136_r4 hs, x136_i5 hs, x136_w5 hs, x136_i6 hs, x136_w6 hs, x136_i7 hs, x136_w7 hs, x136_r8 hs, x136_i9 hs, x136_w9 hs, x136_i10 hs, x136_w10 hs, x136_i11 hs, x136_w11 hs, x136_i12 hs, x136_w12 hs, x136_i13 hs, x136_w13 hs, x136_i14 hs, x136_w14 hs, x136_r15 hs, x136_i16 hs, x136_w16 hs, x136_r17 hs, x136_r18 hs, x136_r19 hs, x136_r20 hs, x136_r21 hs, x136_i22 hs, x136_w22 hs, x136_r23 hs, x136_r24 hs, x136_i25 hs, x136_w25 hs, x136_i26 hs, x136_w26 hs, x136_r27 hs, x136_r28 hs, x136_i29 hs, x136_w29 hs, hy, Option.bind_some, xI, xU, xUt, xIt, J_lit, J_add, J_sub, J_mul, J_neg, J_ltc, J_lec, J_eqc, lt_T, lt_F, le_T, le_F, eq_T, eq_F, ↓reduceIte, ite_not, not_true_eq_false, not_false_eq_true, true_or, or_true, false_or, or_false, true_and, and_true, false_and, and_false, up_get, Nat.reduceEqDiff, Int.reduceNeg, eqN_T, eqN_F]
      refine De.call (d_lineAt y i _) ?_
      simp (disch := omega) only [x136_k hs, x136_i0 hs, x136_w0 hs, x136_r1 hs, x136_r2 hs, x136_r3 hs, x136_r4 hs, x136_i5 hs, x136_w5 hs, x136_i6 hs, x136_w6 hs, x136_i7 hs, x136_w7 hs, x136_r8 hs, x136_i9 hs, x136_w9 hs, x136_i10 hs, x136_w10 hs, x136_i11 hs, x136_w11 hs, x136_i12 hs, x136_w12 hs, x136_i13 hs, x136_w13 hs, x136_i14 hs, x136_w14 hs, x136_r15 hs, x136_i16 hs, x136_w16 hs, x136_r17 hs, x136_r18 hs, x136_r19 hs, x136_r20 hs, x136_r21 hs, x136_i22 hs, x136_w22 hs, x136_r23 hs, x136_r24 hs, x136_i25 hs, x136_w25 hs, x136_i26 hs, x136_w26 hs, x136_r27 hs, x136_r28 hs, x136_i29 hs, x136_w29 hs, x139_g hs, x139_s hs, x139_l hs, g1, Option.bind_some, xI, xU, xUt, xIt, J_lit, J_add, J_sub, J_mul, J_neg, J_ltc, J_lec, J_eqc, lt_T, lt_F, le_T, le_F, eq_T, eq_F, ↓reduceIte, ite_not, not_true_eq_false, not_false_eq_true, true_or, or_true, false_or, or_false, true_and, and_true, false_and, and_false, up_get, Nat.reduceEqDiff, Int.reduceNeg, eqN_T, eqN_F]
      exact D
theorem q_passM (hs : Sk S) (W : Wok (m 139)) (V : Vok told (m 139) (m 137)) (M : RulM m y g) (R : Rrul ln sp kd nm bg so g) (p0 : 0 ≤ p) (p1 : p < m 139 0) (x0 : 0 ≤ x) (x1 : x < m 139 1) (h : m 137 (51 + 7 * (30 * p + x) + 0) = 1) : ∃ m', De (fun n => f_X11_mayPass n 0 [.ref 136, .int (J p), .int (J x)] (hp S m q)) (.inl (some (.int (J (if lts (m 139) (m 137) g p x = true then 1 else 0))))) (hp S m' q) ∧ Fr3 m m' := by
  have tw := W.1.2.1
  have w1 := W.2.1
  have vv := (V.2.2 p x p0 (by omega) x0 (by omega)).2 h
  have CA : ∀ P : xH, De (fun n => f_X11_copyAt n 0 [.int (J p), .int (J x), .int (J 2)] P) (.inl (some (.int (J (51 + 7 * (30 * p + x) + 2))))) P := fun P => De.eq 1 (fun n => e_copyAt n p x 2 P)
  by_cases c : m 137 (51 + 7 * (30 * p + x) + 2) < 12
  · obtain ⟨m1, D1, A1, H1⟩ := d_looks (q := q) hs W V p0 p1 x0 x1 h
    obtain ⟨m2, D2, A2⟩ := q_passM_l (q := q) (m0 := m1) hs (M.cg (m' := m1) (A1 136 6 (by decide) (by decide)) (fun i => A1 139 i (by decide) (by decide))) R H1 (J p) (J x) (g 0).toNat 0 m1 (by have := R.2.1; omega) (fun _ _ _ => rfl)
    refine ⟨m2, ?_, fun b i b1 b2 b3 => (A2 b i b3).trans (A1 b i b1 b2)⟩
    unfold lts
    rw [decide_eq_true c, Bool.true_and]
    refine De.step ?_
    simp only [j_X11_mayPass_0]
    simp (disch := omega) only [b_X11_mayPass_0, x136_k hs, x136_i0 hs, x136_w0 hs, x136_r1 hs, x136_r2 hs, x136_r3 hs, x136_r4 hs, x136_i5 hs, x136_w5 hs, x136_i6 hs, x136_w6 hs, x136_i7 hs, x136_w7 hs, x136_r8 hs, x136_i9 hs, x136_w9 hs, x136_i10 hs, x136_w10 hs, x136_i11 hs, x136_w11 hs, x136_i12 hs, x136_w12 hs, x136_i13 hs, x136_w13 hs, x136_i14 hs, x136_w14 hs, x136_r15 hs, x136_i16 hs, x136_w16 hs, x136_r17 hs, x136_r18 hs, x136_r19 hs, x136_r20 hs, x136_r21 hs, x136_i22 hs, x136_w22 hs, x136_r23 hs, x136_r24 hs, x136_i25 hs, x136_w25 hs, x136_i26 hs, x136_w26 hs, x136_r27 hs, x136_r28 hs, x136_i29 hs, x136_w29 hs, Option.bind_some, J_lit]
    refine De.call (CA _) ?_
    simp (disch := omega) only [x136_k hs, x136_i0 hs, x136_w0 hs, x136_r1 hs, x136_r2 hs, x136_r3 hs, x136_r4 hs, x136_i5 hs, x136_w5 hs, x136_i6 hs, x136_w6 hs, x136_i7 hs, x136_w7 hs, x136_r8 hs, x136_i9 hs, x136_w9 hs, x136_i10 hs, x136_w10 hs, x136_i11 hs, x136_w11 hs, x136_i12 hs, x136_w12 hs, x136_i13 hs, x136_w13 hs, x136_i14 hs, x136_w14 hs, x136_r15 hs, x136_i16 hs, x136_w16 hs, x136_r17 hs, x136_r18 hs, x136_r19 hs, x136_r20 hs, x136_r21 hs, x136_i22 hs, x136_w22 hs, x136_r23 hs, x136_r24 hs, x136_i25 hs, x136_w25 hs, x136_i26 hs, x136_w26 hs, x136_r27 hs, x136_r28 hs, x136_i29 hs, x136_w29 hs, x137_g hs, x137_s hs, x137_l hs, Option.bind_some, xI, xU, xUt, xIt, J_lit, J_add, J_sub, J_mul, J_neg, J_ltc, J_lec, J_eqc, lt_T, lt_F, le_T, le_F, eq_T, eq_F, ↓reduceIte, ite_not, not_true_eq_false, not_false_eq_true, true_or, or_true, false_or, or_false, true_and, and_true, false_and, and_false, up_get, Nat.reduceEqDiff, Int.reduceNeg, eqN_T, eqN_F]
    refine De.call D1 ?_
    simp only [xU, J_lit]
    exact D2
  · refine ⟨m, ?_, fun _ _ _ _ _ => rfl⟩
    unfold lts
    rw [decide_eq_false c, Bool.false_and, if_neg (by decide)]
    refine De.step ?_
    simp only [j_X11_mayPass_0]
    simp (disch := omega) only [b_X11_mayPass_0, x136_k hs, x136_i0 hs, x136_w0 hs, x136_r1 hs, x136_r2 hs, x136_r3 hs, x136_r4 hs, x136_i5 hs, x136_w5 hs, x136_i6 hs, x136_w6 hs, x136_i7 hs, x136_w7 hs, x136_r8 hs, x136_i9 hs, x136_w9 hs, x136_i10 hs, x136_w10 hs, x136_i11 hs, x136_w11 hs, x136_i12 hs, x136_w12 hs, x136_i13 hs, x136_w13 hs, x136_i14 hs, x136_w14 hs, x136_r15 hs, x136_i16 hs, x136_w16 hs, x136_r17 hs, x136_r18 hs, x136_r19 hs, x136_r20 hs, x136_r21 hs, x136_i22 hs, x136_w22 hs, x136_r23 hs, x136_r24 hs, x136_i25 hs, x136_w25 hs, x136_i26 hs, x136_w26 hs, x136_r27 hs, x136_r28 hs, x136_i29 hs, x136_w29 hs, Option.bind_some, J_lit]
    refine De.call (CA _) ?_
    simp (disch := omega) only [x136_k hs, x136_i0 hs, x136_w0 hs, x136_r1 hs, x136_r2 hs, x136_r3 hs, x136_r4 hs, x136_i5 hs, x136_w5 hs, x136_i6 hs, x136_w6 hs, x136_i7 hs, x136_w7 hs, x136_r8 hs, x136_i9 hs, x136_w9 hs, x136_i10 hs, x136_w10 hs, x136_i11 hs, x136_w11 hs, x136_i12 hs, x136_w12 hs, x136_i13 hs, x136_w13 hs, x136_i14 hs, x136_w14 hs, x136_r15 hs, x136_i16 hs, x136_w16 hs, x136_r17 hs, x136_r18 hs, x136_r19 hs, x136_r20 hs, x136_r21 hs, x136_i22 hs, x136_w22 hs, x136_r23 hs, x136_r24 hs, x136_i25 hs, x136_w25 hs, x136_i26 hs, x136_w26 hs, x136_r27 hs, x136_r28 hs, x136_i29 hs, x136_w29 hs, x137_g hs, x137_s hs, x137_l hs, Option.bind_some, xI, xU, xUt, xIt, J_lit, J_add, J_sub, J_mul, J_neg, J_ltc, J_lec, J_eqc, lt_T, lt_F, le_T, le_F, eq_T, eq_F, ↓reduceIte, ite_not, not_true_eq_false, not_false_eq_true, true_or, or_true, false_or, or_false, true_and, and_true, false_and, and_false, up_get, Nat.reduceEqDiff, Int.reduceNeg, eqN_T, eqN_F]
    exact De.ret _ _
theorem q_costM (hs : Sk S) (M : RulM m y g) (R : Rrul ln sp kd nm bg so g) : De (fun n => f_X11_costNow n 0 [.ref 136] (hp S m q)) (.inl (some (.int (J (coS g (g 0).toNat))))) (hp S m q) := by
  have r2 := R.2.2.1
  have r3 := R.2.1
  have L : ∀ k i : Nat, (i : Int) + k = g 0 → De (fun n => f_X11_costNow n 4 [.ref 136, .int (J (coS g i)), .int (J i)] (hp S m q)) (.inl (some (.int (J (coS g (g 0).toNat))))) (hp S m q) := by
    obtain ⟨hy, y0, y1, hg⟩ := id M
    intro k
    induction k with
    | zero =>
      intro i hi
      rw [show (g 0).toNat = i by omega]
      refine De.step ?_
      simp only [j_X11_costNow_4]
      simp (disch := omega) only [b_X11_costNow_4, x136_k hs, x136_i0 hs, x136_w0 hs, x136_r1 hs, x136_r2 hs, x136_r3 hs, x136_r4 hs, x136_i5 hs, x136_w5 hs, x136_i6 hs, x136_w6 hs, x136_i7 hs, x136_w7 hs, x136_r8 hs, x136_i9 hs, x136_w9 hs, x136_i10 hs, x136_w10 hs, x136_i11 hs, x136_w11 hs, x136_i12 hs, x136_w12 hs, x136_i13 hs, x136_w13 hs, x136_i14 hs, x136_w14 hs, x136_r15 hs, x136_i16 hs, x136_w16 hs, x136_r17 hs, x136_r18 hs, x136_r19 hs, x136_r20 hs, x136_r21 hs, x136_i22 hs, x136_w22 hs, x136_r23 hs, x136_r24 hs, x136_i25 hs, x136_w25 hs, x136_i26 hs, x136_w26 hs, x136_r27 hs, x136_r28 hs, x136_i29 hs, x136_w29 hs, Option.bind_some]
      refine De.call (d_lines hs M) ?_
      simp (disch := omega) only [Option.bind_some, xI, xU, xUt, xIt, J_lit, J_add, J_sub, J_mul, J_neg, J_ltc, J_lec, J_eqc, lt_T, lt_F, le_T, le_F, eq_T, eq_F, ↓reduceIte, ite_not, not_true_eq_false, not_false_eq_true, true_or, or_true, false_or, or_false, true_and, and_true, false_and, and_false, up_get, Nat.reduceEqDiff, Int.reduceNeg, eqN_T, eqN_F]
      exact De.ret _ _
    | succ k IH =>
      intro i hi
      obtain ⟨⟨k1, k2, k3, k4⟩, k5, k6⟩ := R.2.2.2.2.2.1 i (by omega) (by omega)
      have g1 : m 139 (4239 + 841 * y + 1 + 4 * i) = g (1 + 4 * i) := by rw [← hg _ (by omega) (by omega)]; congr 1; omega
      have g2 : m 139 (4239 + 841 * y + 1 + 4 * i + 1) = g (1 + 4 * i + 1) := by rw [← hg _ (by omega) (by omega)]; congr 1; omega
      have ih := IH (i + 1) (by omega)
      rw [coS] at ih
      refine De.step ?_
      simp only [j_X11_costNow_4]
      simp (disch := omega) only [b_X11_costNow_4, x136_k hs, x136_i0 hs, x136_w0 hs, x136_r1 hs, x136_r2 hs, x136_r3 hs, x136_r4 hs, x136_i5 hs, x136_w5 hs, x136_i6 hs, x136_w6 hs, x136_i7 hs, x136_w7 hs, x136_r8 hs, x136_i9 hs, x136_w9 hs, x136_i10 hs, x136_w10 hs, x136_i11 hs, x136_w11 hs, x136_i12 hs, x136_w12 hs, x136_i13 hs, x136_w13 hs, x136_i14 hs, x136_w14 hs, x136_r15 hs, x136_i16 hs, x136_w16 hs, x136_r17 hs, x136_r18 hs, x136_r19 hs, x136_r20 hs, x136_r21 hs, x136_i22 hs, x136_w22 hs, x136_r23 hs, x136_r24 hs, x136_i25 hs, x136_w25 hs, x136_i26 hs, x136_w26 hs, x136_r27 hs, x136_r28 hs, x136_i29 hs, x136_w29 hs, Option.bind_some]
      refine De.call (d_lines hs M) ?_
      simp (disch := omega) only [x136_k hs, x136_i0 hs, x136_w0 hs, x136_r1 hs, x136_r2 hs, x136_r3 hs, x136_r4 hs, x136_i5 hs, x136_w5 hs, x136_i6 hs, x136_w6 hs, x136_i7 hs, x136_w7 hs, x136_r8 hs, x136_i9 hs, x136_w9 hs, x136_i10 hs, x136_w10 hs, x136_i11 hs, x136_w11 hs, x136_i12 hs, x136_w12 hs, x136_i13 hs, x136_w13 hs, x136_i14 hs, x136_w14 hs, x136_r15 hs, x136_i16 hs, x136_w16 hs, x136_r17 hs, x136_r18 hs, x136_r19 hs, x136_r20 hs, x136_r21 hs, x136_i22 hs, x136_w22 hs, x136_r23 hs, x136_r24 hs, x136_i25 hs, x136_w25 hs, x136_i26 hs, x136_w26 hs, x136_r27 hs, x136_r28 hs, x136_i29 hs, x136_w29 hs, hy, Option.bind_some, xI, xU, xUt, xIt, J_lit, J_add, J_sub, J_mul, J_neg, J_ltc, J_lec, J_eqc, lt_T, lt_F, le_T, le_F, eq_T, eq_F, ↓reduceIte, ite_not, not_true_eq_false, not_false_eq_true, true_or, or_true, false_or, or_false, true_and, and_true, false_and, and_false, up_get, Nat.reduceEqDiff, Int.reduceNeg, eqN_T, eqN_F]
      refine De.call (d_lineAt y i _) ?_
      by_cases c : g (1 + 4 * i) = 2
      · rw [if_pos c] at ih
        simp (disch := omega) only [x136_k hs, x136_i0 hs, x136_w0 hs, x136_r1 hs, x136_r2 hs, x136_r3 hs, x136_r4 hs, x136_i5 hs, x136_w5 hs, x136_i6 hs, x136_w6 hs, x136_i7 hs, x136_w7 hs, x136_r8 hs, x136_i9 hs, x136_w9 hs, x136_i10 hs, x136_w10 hs, x136_i11 hs, x136_w11 hs, x136_i12 hs, x136_w12 hs, x136_i13 hs, x136_w13 hs, x136_i14 hs, x136_w14 hs, x136_r15 hs, x136_i16 hs, x136_w16 hs, x136_r17 hs, x136_r18 hs, x136_r19 hs, x136_r20 hs, x136_r21 hs, x136_i22 hs, x136_w22 hs, x136_r23 hs, x136_r24 hs, x136_i25 hs, x136_w25 hs, x136_i26 hs, x136_w26 hs, x136_r27 hs, x136_r28 hs, x136_i29 hs, x136_w29 hs, x139_g hs, x139_s hs, x139_l hs, g1, hy, Option.bind_some, xI, xU, xUt, xIt, J_lit, J_add, J_sub, J_mul, J_neg, J_ltc, J_lec, J_eqc, lt_T, lt_F, le_T, le_F, eq_T, eq_F, ↓reduceIte, ite_not, not_true_eq_false, not_false_eq_true, true_or, or_true, false_or, or_false, true_and, and_true, false_and, and_false, up_get, Nat.reduceEqDiff, Int.reduceNeg, eqN_T, eqN_F]
        refine De.call (d_lineAt y i _) ?_
        simp (disch := omega) only [x136_k hs, x136_i0 hs, x136_w0 hs, x136_r1 hs, x136_r2 hs, x136_r3 hs, x136_r4 hs, x136_i5 hs, x136_w5 hs, x136_i6 hs, x136_w6 hs, x136_i7 hs, x136_w7 hs, x136_r8 hs, x136_i9 hs, x136_w9 hs, x136_i10 hs, x136_w10 hs, x136_i11 hs, x136_w11 hs, x136_i12 hs, x136_w12 hs, x136_i13 hs, x136_w13 hs, x136_i14 hs, x136_w14 hs, x136_r15 hs, x136_i16 hs, x136_w16 hs, x136_r17 hs, x136_r18 hs, x136_r19 hs, x136_r20 hs, x136_r21 hs, x136_i22 hs, x136_w22 hs, x136_r23 hs, x136_r24 hs, x136_i25 hs, x136_w25 hs, x136_i26 hs, x136_w26 hs, x136_r27 hs, x136_r28 hs, x136_i29 hs, x136_w29 hs, x139_g hs, x139_s hs, x139_l hs, g2, Option.bind_some, xI, xU, xUt, xIt, J_lit, J_add, J_sub, J_mul, J_neg, J_ltc, J_lec, J_eqc, lt_T, lt_F, le_T, le_F, eq_T, eq_F, ↓reduceIte, ite_not, not_true_eq_false, not_false_eq_true, true_or, or_true, false_or, or_false, true_and, and_true, false_and, and_false, up_get, Nat.reduceEqDiff, Int.reduceNeg, eqN_T, eqN_F]
        exact ih
      · rw [if_neg c] at ih
        simp (disch := omega) only [x136_k hs, x136_i0 hs, x136_w0 hs, x136_r1 hs, x136_r2 hs, x136_r3 hs, x136_r4 hs, x136_i5 hs, x136_w5 hs, x136_i6 hs, x136_w6 hs, x136_i7 hs, x136_w7 hs, x136_r8 hs, x136_i9 hs, x136_w9 hs, x136_i10 hs, x136_w10 hs, x136_i11 hs, x136_w11 hs, x136_i12 hs, x136_w12 hs, x136_i13 hs, x136_w13 hs, x136_i14 hs, x136_w14 hs, x136_r15 hs, x136_i16 hs, x136_w16 hs, x136_r17 hs, x136_r18 hs, x136_r19 hs, x136_r20 hs, x136_r21 hs, x136_i22 hs, x136_w22 hs, x136_r23 hs, x136_r24 hs, x136_i25 hs, x136_w25 hs, x136_i26 hs, x136_w26 hs, x136_r27 hs, x136_r28 hs, x136_i29 hs, x136_w29 hs, x139_g hs, x139_s hs, x139_l hs, g1, hy, Option.bind_some, xI, xU, xUt, xIt, J_lit, J_add, J_sub, J_mul, J_neg, J_ltc, J_lec, J_eqc, lt_T, lt_F, le_T, le_F, eq_T, eq_F, ↓reduceIte, ite_not, not_true_eq_false, not_false_eq_true, true_or, or_true, false_or, or_false, true_and, and_true, false_and, and_false, up_get, Nat.reduceEqDiff, Int.reduceNeg, eqN_T, eqN_F]
        exact ih
  refine De.step ?_
  simp only [j_X11_costNow_0, b_X11_costNow_0, J_lit]
  exact L (g 0).toNat 0 (by omega)
end MARKM
