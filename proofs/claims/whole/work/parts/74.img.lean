/-! the reference's image and back: stretches copied -/
/-- the stretch of n places from d on in the row y is that from s on in the row x -/
def cpx (m : Nat → Int → Int) (x : Nat) (s : Int) (y : Nat) (d : Int) (n : Nat) : Nat → Int → Int := fun c j => if c = y ∧ d ≤ j ∧ j < d + n then m x (s + (j - d)) else m c j
theorem cpx_0 (m : Nat → Int → Int) (x y : Nat) (s d : Int) : cpx m x s y d 0 = m := by
  funext c j
  unfold cpx
  rw [if_neg (by omega)]
theorem cpx_s (m : Nat → Int → Int) {x y : Nat} (s d : Int) (n : Nat) (h : x ≠ y) : up (cpx m x s y d n) y (d + n) (m x (s + n)) = cpx m x s y d (n + 1) := by
  funext c j
  unfold cpx
  rw [up_get]
  by_cases c1 : c = y ∧ j = d + n
  · rw [if_pos c1, if_pos ⟨c1.1, by omega, by omega⟩]
    congr 1
    omega
  · rw [if_neg c1]
    by_cases c2 : c = y ∧ d ≤ j ∧ j < d + n
    · rw [if_pos c2, if_pos ⟨c2.1, by omega, by omega⟩]
    · rw [if_neg c2, if_neg (fun z => c2 ⟨z.1, z.2.1, by omega⟩)]
section IMG
variable {S : xH} {m : Nat → Int → Int} {q : Nat → Int → Int64}
theorem q_back16 (hs : Sk S) (r : xR) (P : xH) (D : De (fun n => f_X11_back n 43 [.ref 136, .int (J 0)] (hp S (cpx m 140 0 139 0 5080) q)) r P) : ∀ k i : Nat, i + k = 5080 → De (fun n => f_X11_back n 16 [.ref 136, .int (J i)] (hp S (cpx m 140 0 139 0 i) q)) r P := by
  intro k
  induction k with
  | zero =>
    intro i hi
    have hi : i = 5080 := by omega
    subst hi
    refine De.cg 3 (fun n => ?_) (D.sh 2)
    rw [j_X11_back_16]
    simp (disch := omega) only [b_X11_back_16, Option.bind_some, xI, xU, xUt, xIt, J_lit, J_add, J_sub, J_mul, J_neg, J_ltc, J_lec, J_eqc, lt_T, lt_F, le_T, le_F, eq_T, eq_F, ↓reduceIte, ite_not, not_true_eq_false, not_false_eq_true, true_or, or_true, false_or, or_false, true_and, and_true, false_and, and_false, up_get, Nat.reduceEqDiff, Int.reduceNeg, eqN_T, eqN_F]
  | succ k IH =>
    intro i hi
    have ih := IH (i + 1) (by omega)
    have g : cpx m 140 0 139 0 i 140 (0 + i) = m 140 (0 + i) := if_neg (fun z => absurd z.1 (by decide))
    rw [← cpx_s m 0 0 i (show 140 ≠ 139 by decide), ← g] at ih
    simp only [Int.zero_add] at ih
    refine De.cg 3 (fun n => ?_) (ih.sh 2)
    rw [j_X11_back_16]
    simp (disch := omega) only [b_X11_back_16, x136_k hs, x136_i0 hs, x136_w0 hs, x136_r1 hs, x136_r2 hs, x136_r3 hs, x136_r4 hs, x136_i5 hs, x136_w5 hs, x136_i6 hs, x136_w6 hs, x136_i7 hs, x136_w7 hs, x136_r8 hs, x136_i9 hs, x136_w9 hs, x136_i10 hs, x136_w10 hs, x136_i11 hs, x136_w11 hs, x136_i12 hs, x136_w12 hs, x136_i13 hs, x136_w13 hs, x136_i14 hs, x136_w14 hs, x136_r15 hs, x136_i16 hs, x136_w16 hs, x136_r17 hs, x136_r18 hs, x136_r19 hs, x136_r20 hs, x136_r21 hs, x136_i22 hs, x136_w22 hs, x136_r23 hs, x136_r24 hs, x136_i25 hs, x136_w25 hs, x136_i26 hs, x136_w26 hs, x136_r27 hs, x136_r28 hs, x136_i29 hs, x136_w29 hs, x140_g hs, x140_s hs, x140_l hs, x139_g hs, x139_s hs, x139_l hs, Option.bind_some, xI, xU, xUt, xIt, J_lit, J_add, J_sub, J_mul, J_neg, J_ltc, J_lec, J_eqc, lt_T, lt_F, le_T, le_F, eq_T, eq_F, ↓reduceIte, ite_not, not_true_eq_false, not_false_eq_true, true_or, or_true, false_or, or_false, true_and, and_true, false_and, and_false, up_get, Nat.reduceEqDiff, Int.reduceNeg, eqN_T, eqN_F]
    rfl
theorem q_back43 (hs : Sk S) : ∀ k i : Nat, i + k = 2301 → De (fun n => f_X11_back n 43 [.ref 136, .int (J i)] (hp S (cpx m 140 5080 137 0 i) q)) (.inl (some (.int (J 1)))) (hp S (cpx m 140 5080 137 0 2301) q) := by
  intro k
  induction k with
  | zero =>
    intro i hi
    have hi : i = 2301 := by omega
    subst hi
    refine De.cg 3 (g := fun _ => some (.inl (some (.int (J 1))), hp S (cpx m 140 5080 137 0 2301) q)) (fun n => ?_) (De.ret _ _)
    rw [j_X11_back_43]
    simp (disch := omega) only [b_X11_back_43, Option.bind_some, xI, xU, xUt, xIt, J_lit, J_add, J_sub, J_mul, J_neg, J_ltc, J_lec, J_eqc, lt_T, lt_F, le_T, le_F, eq_T, eq_F, ↓reduceIte, ite_not, not_true_eq_false, not_false_eq_true, true_or, or_true, false_or, or_false, true_and, and_true, false_and, and_false, up_get, Nat.reduceEqDiff, Int.reduceNeg, eqN_T, eqN_F]
  | succ k IH =>
    intro i hi
    have ih := IH (i + 1) (by omega)
    have g : cpx m 140 5080 137 0 i 140 (5080 + i) = m 140 (5080 + i) := if_neg (fun z => absurd z.1 (by decide))
    rw [← cpx_s m 5080 0 i (show 140 ≠ 137 by decide), ← g] at ih
    simp only [Int.zero_add] at ih
    refine De.cg 3 (fun n => ?_) (ih.sh 2)
    rw [j_X11_back_43]
    simp (disch := omega) only [b_X11_back_43, x136_k hs, x136_i0 hs, x136_w0 hs, x136_r1 hs, x136_r2 hs, x136_r3 hs, x136_r4 hs, x136_i5 hs, x136_w5 hs, x136_i6 hs, x136_w6 hs, x136_i7 hs, x136_w7 hs, x136_r8 hs, x136_i9 hs, x136_w9 hs, x136_i10 hs, x136_w10 hs, x136_i11 hs, x136_w11 hs, x136_i12 hs, x136_w12 hs, x136_i13 hs, x136_w13 hs, x136_i14 hs, x136_w14 hs, x136_r15 hs, x136_i16 hs, x136_w16 hs, x136_r17 hs, x136_r18 hs, x136_r19 hs, x136_r20 hs, x136_r21 hs, x136_i22 hs, x136_w22 hs, x136_r23 hs, x136_r24 hs, x136_i25 hs, x136_w25 hs, x136_i26 hs, x136_w26 hs, x136_r27 hs, x136_r28 hs, x136_i29 hs, x136_w29 hs, x140_g hs, x140_s hs, x140_l hs, x137_g hs, x137_s hs, x137_l hs, Option.bind_some, xI, xU, xUt, xIt, J_lit, J_add, J_sub, J_mul, J_neg, J_ltc, J_lec, J_eqc, lt_T, lt_F, le_T, le_F, eq_T, eq_F, ↓reduceIte, ite_not, not_true_eq_false, not_false_eq_true, true_or, or_true, false_or, or_false, true_and, and_true, false_and, and_false, up_get, Nat.reduceEqDiff, Int.reduceNeg, eqN_T, eqN_F]
    rfl
theorem q_image7 (hs : Sk S) (r : xR) (P : xH) (D : De (fun n => f_X11_image n 34 [.ref 136, .int (J 0)] (hp S (cpx m 139 0 140 0 5080) q)) r P) : ∀ k i : Nat, i + k = 5080 → De (fun n => f_X11_image n 7 [.ref 136, .int (J i)] (hp S (cpx m 139 0 140 0 i) q)) r P := by
  intro k
  induction k with
  | zero =>
    intro i hi
    have hi : i = 5080 := by omega
    subst hi
    refine De.cg 3 (fun n => ?_) (D.sh 2)
    rw [j_X11_image_7]
    simp (disch := omega) only [b_X11_image_7, Option.bind_some, xI, xU, xUt, xIt, J_lit, J_add, J_sub, J_mul, J_neg, J_ltc, J_lec, J_eqc, lt_T, lt_F, le_T, le_F, eq_T, eq_F, ↓reduceIte, ite_not, not_true_eq_false, not_false_eq_true, true_or, or_true, false_or, or_false, true_and, and_true, false_and, and_false, up_get, Nat.reduceEqDiff, Int.reduceNeg, eqN_T, eqN_F]
  | succ k IH =>
    intro i hi
    have ih := IH (i + 1) (by omega)
    have g : cpx m 139 0 140 0 i 139 (0 + i) = m 139 (0 + i) := if_neg (fun z => absurd z.1 (by decide))
    rw [← cpx_s m 0 0 i (show 139 ≠ 140 by decide), ← g] at ih
    simp only [Int.zero_add] at ih
    refine De.cg 3 (fun n => ?_) (ih.sh 2)
    rw [j_X11_image_7]
    simp (disch := omega) only [b_X11_image_7, x136_k hs, x136_i0 hs, x136_w0 hs, x136_r1 hs, x136_r2 hs, x136_r3 hs, x136_r4 hs, x136_i5 hs, x136_w5 hs, x136_i6 hs, x136_w6 hs, x136_i7 hs, x136_w7 hs, x136_r8 hs, x136_i9 hs, x136_w9 hs, x136_i10 hs, x136_w10 hs, x136_i11 hs, x136_w11 hs, x136_i12 hs, x136_w12 hs, x136_i13 hs, x136_w13 hs, x136_i14 hs, x136_w14 hs, x136_r15 hs, x136_i16 hs, x136_w16 hs, x136_r17 hs, x136_r18 hs, x136_r19 hs, x136_r20 hs, x136_r21 hs, x136_i22 hs, x136_w22 hs, x136_r23 hs, x136_r24 hs, x136_i25 hs, x136_w25 hs, x136_i26 hs, x136_w26 hs, x136_r27 hs, x136_r28 hs, x136_i29 hs, x136_w29 hs, x139_g hs, x139_s hs, x139_l hs, x140_g hs, x140_s hs, x140_l hs, Option.bind_some, xI, xU, xUt, xIt, J_lit, J_add, J_sub, J_mul, J_neg, J_ltc, J_lec, J_eqc, lt_T, lt_F, le_T, le_F, eq_T, eq_F, ↓reduceIte, ite_not, not_true_eq_false, not_false_eq_true, true_or, or_true, false_or, or_false, true_and, and_true, false_and, and_false, up_get, Nat.reduceEqDiff, Int.reduceNeg, eqN_T, eqN_F]
    rfl
theorem q_image34 (hs : Sk S) : ∀ k i : Nat, i + k = 2301 → De (fun n => f_X11_image n 34 [.ref 136, .int (J i)] (hp S (cpx m 137 0 140 5080 i) q)) (.inl none) (hp S (up (cpx m 137 0 140 5080 2301) 136 5 1) q) := by
  intro k
  induction k with
  | zero =>
    intro i hi
    have hi : i = 2301 := by omega
    subst hi
    refine De.cg 3 (g := fun _ => some (.inl none, hp S (up (cpx m 137 0 140 5080 2301) 136 5 1) q)) (fun n => ?_) (De.ret _ _)
    rw [j_X11_image_34]
    simp (disch := omega) only [b_X11_image_34, x136_k hs, x136_i0 hs, x136_w0 hs, x136_r1 hs, x136_r2 hs, x136_r3 hs, x136_r4 hs, x136_i5 hs, x136_w5 hs, x136_i6 hs, x136_w6 hs, x136_i7 hs, x136_w7 hs, x136_r8 hs, x136_i9 hs, x136_w9 hs, x136_i10 hs, x136_w10 hs, x136_i11 hs, x136_w11 hs, x136_i12 hs, x136_w12 hs, x136_i13 hs, x136_w13 hs, x136_i14 hs, x136_w14 hs, x136_r15 hs, x136_i16 hs, x136_w16 hs, x136_r17 hs, x136_r18 hs, x136_r19 hs, x136_r20 hs, x136_r21 hs, x136_i22 hs, x136_w22 hs, x136_r23 hs, x136_r24 hs, x136_i25 hs, x136_w25 hs, x136_i26 hs, x136_w26 hs, x136_r27 hs, x136_r28 hs, x136_i29 hs, x136_w29 hs, Option.bind_some, xI, xU, xUt, xIt, J_lit, J_add, J_sub, J_mul, J_neg, J_ltc, J_lec, J_eqc, lt_T, lt_F, le_T, le_F, eq_T, eq_F, ↓reduceIte, ite_not, not_true_eq_false, not_false_eq_true, true_or, or_true, false_or, or_false, true_and, and_true, false_and, and_false, up_get, Nat.reduceEqDiff, Int.reduceNeg, eqN_T, eqN_F]
  | succ k IH =>
    intro i hi
    have ih := IH (i + 1) (by omega)
    have g : cpx m 137 0 140 5080 i 137 (0 + i) = m 137 (0 + i) := if_neg (fun z => absurd z.1 (by decide))
    rw [← cpx_s m 0 5080 i (show 137 ≠ 140 by decide), ← g] at ih
    simp only [Int.zero_add] at ih
    refine De.cg 3 (fun n => ?_) (ih.sh 2)
    rw [j_X11_image_34]
    simp (disch := omega) only [b_X11_image_34, x136_k hs, x136_i0 hs, x136_w0 hs, x136_r1 hs, x136_r2 hs, x136_r3 hs, x136_r4 hs, x136_i5 hs, x136_w5 hs, x136_i6 hs, x136_w6 hs, x136_i7 hs, x136_w7 hs, x136_r8 hs, x136_i9 hs, x136_w9 hs, x136_i10 hs, x136_w10 hs, x136_i11 hs, x136_w11 hs, x136_i12 hs, x136_w12 hs, x136_i13 hs, x136_w13 hs, x136_i14 hs, x136_w14 hs, x136_r15 hs, x136_i16 hs, x136_w16 hs, x136_r17 hs, x136_r18 hs, x136_r19 hs, x136_r20 hs, x136_r21 hs, x136_i22 hs, x136_w22 hs, x136_r23 hs, x136_r24 hs, x136_i25 hs, x136_w25 hs, x136_i26 hs, x136_w26 hs, x136_r27 hs, x136_r28 hs, x136_i29 hs, x136_w29 hs, x137_g hs, x137_s hs, x137_l hs, x140_g hs, x140_s hs, x140_l hs, Option.bind_some, xI, xU, xUt, xIt, J_lit, J_add, J_sub, J_mul, J_neg, J_ltc, J_lec, J_eqc, lt_T, lt_F, le_T, le_F, eq_T, eq_F, ↓reduceIte, ite_not, not_true_eq_false, not_false_eq_true, true_or, or_true, false_or, or_false, true_and, and_true, false_and, and_false, up_get, Nat.reduceEqDiff, Int.reduceNeg, eqN_T, eqN_F]
    rfl
end IMG
