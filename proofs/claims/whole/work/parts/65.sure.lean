/-! sure -/
/-- two sayings of a list are against each other; one from j on is against i; any two from i on -/
def agn (w L : Int → Int) (i j : Int) : Bool := !near w (w (761 + 10 * L j + 6)) (w (761 + 10 * L j + 5)) (L i)
def anyR (w L : Int → Int) (i : Int) : Nat → Int → Bool
  | 0, _ => false
  | k + 1, j => agn w L i j || anyR w L i k (j + 1)
def anyP (w L : Int → Int) : Nat → Int → Bool
  | 0, _ => false
  | k + 1, i => anyR w L i k (i + 1) || anyP w L k (i + 1)
theorem and1 (x : Int32) : x &&& 1 = 0 ∨ x &&& 1 = 1 := by
  have e := pk_and x (m := 1) 1 rfl
  rw [e]
  rcases (show x.toBitVec.toNat % 2 ^ 1 = 0 ∨ x.toBitVec.toNat % 2 ^ 1 = 1 by omega) with h | h <;> rw [h]
  · exact Or.inl rfl
  · exact Or.inr rfl
/-- the weights of the mouths in a set -/
def swt (w : Int → Int) (W : Nat) (M : Int32) : Nat → Int
  | 0 => 0
  | p + 1 => swt w W M p + (if (M >>> (J p &&& J 31)) &&& J 1 = J 0 then 0 else 1000 * (cTru w p W + 1) / (cAll w p W + 2))
section SURE
variable {S : xH} {m : Nat → Int → Int} {q : Nat → Int → Int64} {pe pl : Int}
theorem e_isAgainst (hs : Sk S) (F : Fok m) (C : Fcl m) (L : Int → Int) (N : Nat) (hL : Lst m 134 L N) (hw : ∀ i : Int, 0 ≤ i → i < N → 0 ≤ m 139 (761 + 10 * L i + 6) ∧ m 139 (761 + 10 * L i + 6) ≤ 400) {i j : Int} (i0 : 0 ≤ i) (i1 : i < N) (j0 : 0 ≤ j) (j1 : j < N) (n : Nat) : f_X6_isAgainst (n + 3) 0 [.ref 133, .int (J i), .int (J j), .int (J (m 139 6))] (hp S m q) = some (.inl (some (.int (J (if agn (m 139) L i j = true then 1 else 0)))), hp S m q) := by
  have l1 := hL.1
  have C0 := C
  obtain ⟨a1, a2, a3⟩ := hL.2 i (by omega) (by omega)
  obtain ⟨a4, a5, a6⟩ := hL.2 j (by omega) (by omega)
  obtain ⟨f1, f2⟩ := F
  obtain ⟨b1, b2, b3, b4⟩ := f2 (L i) a2 a3
  obtain ⟨b5, b6, b7, b8⟩ := f2 (L j) a5 a6
  obtain ⟨w1, w2⟩ := hw i (by omega) (by omega)
  obtain ⟨w3, w4⟩ := hw j (by omega) (by omega)
  have dd := dst_in (a := m 139 (761 + 10 * L i + 5)) (b := m 139 (761 + 10 * L j + 5)) (by omega) (by omega) (by omega) (by omega)
  have mm := mul_in (a := m 139 6) (b := ((m 139 (761 + 10 * L i + 6) - m 139 (761 + 10 * L j + 6)).natAbs : Int)) (by omega) (by omega) (by omega) (by omega)
  obtain ⟨c1, c2, c3⟩ := C0 (L i) a2 a3
  obtain ⟨c4, c5, c6⟩ := C0 (L j) a5 a6
  have T := fun n => e_isTooFar (S := S) (m := m) (q := q) (x := L i) (p := m 139 (761 + 10 * L j + 5)) (t := m 139 (761 + 10 * L j + 6)) (s := m 139 6) hs a2 (by omega) (by omega) (by omega) (by omega) (by omega) (by rw [c2]; omega) (by rw [c2]; omega) (by rw [c3]; omega) (by rw [c3]; omega) (by omega) (by omega) n
  rw [c2, c3] at T
  have g : ∀ i, 0 ≤ i → i < (30 : Int) → aI (hp S m q) 134 (J i) = some (J (m 134 i)) := fun i u0 u1 => x134_g hs u0 u1
  rw [j_X6_isAgainst_0]
  unfold b_X6_isAgainst_0
  simp only [x133_r2 hs, x133_r0 hs, x16_r0 hs, x133_k hs, g i i0 (show i < 30 by omega), g j j0 (show j < 30 by omega), a1, a4, J_lit, x17_m5 hs, x17_m6 hs, x23_g hs a5 (show L j < 30 by omega), x24_g hs a5 (show L j < 30 by omega), c5, c6, Option.bind_some]
  rw [T, Option.bind_some, xI]
  unfold agn near
  by_cases c : dst (m 139 (761 + 10 * L i + 5)) (m 139 (761 + 10 * L j + 5)) ≤ m 139 6 * ((m 139 (761 + 10 * L i + 6) - m 139 (761 + 10 * L j + 6)).natAbs : Int)
  · rw [if_pos c, decide_eq_true c, if_pos (Or.inl rfl)]
    rfl
  · rw [if_neg c, decide_eq_false c, if_pos (Or.inr rfl)]
    rfl
theorem e_against (hs : Sk S) (F : Fok m) (L : Int → Int) (N : Nat) (hL : Lst m 147 L N) (hw : ∀ i : Int, 0 ≤ i → i < N → 0 ≤ m 139 (761 + 10 * L i + 6) ∧ m 139 (761 + 10 * L i + 6) ≤ 400) {i j : Int} (i0 : 0 ≤ i) (i1 : i < N) (j0 : 0 ≤ j) (j1 : j < N) (n : Nat) : f_X11_against (n + 2) 0 [.ref 136, .int (J (L i)), .int (J (L j))] (hp S m q) = some (.inl (some (.int (J (if agn (m 139) L i j = true then 1 else 0)))), hp S m q) := by
  have l1 := hL.1
  obtain ⟨a1, a2, a3⟩ := hL.2 i (by omega) (by omega)
  obtain ⟨a4, a5, a6⟩ := hL.2 j (by omega) (by omega)
  obtain ⟨f1, f2⟩ := F
  obtain ⟨b1, b2, b3, b4⟩ := f2 (L i) a2 a3
  obtain ⟨b5, b6, b7, b8⟩ := f2 (L j) a5 a6
  obtain ⟨w1, w2⟩ := hw i (by omega) (by omega)
  obtain ⟨w3, w4⟩ := hw j (by omega) (by omega)
  have dd := dst_in (a := m 139 (761 + 10 * L i + 5)) (b := m 139 (761 + 10 * L j + 5)) (by omega) (by omega) (by omega) (by omega)
  have mm := mul_in (a := m 139 6) (b := ((m 139 (761 + 10 * L i + 6) - m 139 (761 + 10 * L j + 6)).natAbs : Int)) (by omega) (by omega) (by omega) (by omega)
  have O := fun (x : Int) (k : Int) (u0 : 0 ≤ x) (u1 : x < 30) (u2 : 0 ≤ k) (u3 : k < 10) n => e_of (S := S) (m := m) (q := q) (w := x) (k := k) hs u0 u1 u2 u3 n
  rw [j_X11_against_0]
  unfold b_X11_against_0
  rw [x136_k hs, Option.bind_some, J_lit 5, J_lit 6, O (L i) 5 a2 (by omega) (by omega) (by omega), Option.bind_some, xI]
  rw [x136_k hs, Option.bind_some, O (L j) 5 a5 (by omega) (by omega) (by omega), Option.bind_some, xI]
  rw [e_between (by omega) (by omega) (by omega) (by omega), Option.bind_some, xI]
  rw [x136_r3 hs, Option.bind_some, x139_g hs (show (0 : Int) ≤ 6 by omega) (show (6 : Int) < 5921 by omega), Option.bind_some, x136_k hs, Option.bind_some, O (L i) 6 a2 (by omega) (by omega) (by omega), Option.bind_some, xI]
  rw [x136_k hs, Option.bind_some, O (L j) 6 a5 (by omega) (by omega) (by omega), Option.bind_some, xI]
  rw [stp_dst (by omega) (by omega) (by omega) (by omega), J_sub, J_abs (by omega) (by omega), J_mul, J_lit 0, J_lit 1]
  have le := J_lec (a := dst (m 139 (761 + 10 * L i + 5)) (m 139 (761 + 10 * L j + 5))) (b := m 139 6 * ((m 139 (761 + 10 * L i + 6) - m 139 (761 + 10 * L j + 6)).natAbs : Int)) (by omega)
  unfold agn near
  by_cases c : dst (m 139 (761 + 10 * L i + 5)) (m 139 (761 + 10 * L j + 5)) ≤ m 139 6 * ((m 139 (761 + 10 * L i + 6) - m 139 (761 + 10 * L j + 6)).natAbs : Int)
  · rw [if_pos (by rw [le]; exact c), decide_eq_true c]
    rfl
  · rw [if_neg (by rw [le]; exact c), decide_eq_false c]
    rfl
theorem q_any_j (hs : Sk S) (F : Fok m) (C : Fcl m) (L : Int → Int) (N : Nat) (hN : (N : Int) = m 133 4) (hL : Lst m 134 L N) (hw : ∀ i : Int, 0 ≤ i → i < N → 0 ≤ m 139 (761 + 10 * L i + 6) ∧ m 139 (761 + 10 * L i + 6) ≤ 400) (i : Int) (i0 : 0 ≤ i) (i1 : i < N) (X : Bool) (D : De (fun n => f_X6_anyAgainst n 2 [.ref 133, .int (J (m 139 6)), .int (J (i + 1))] (hp S m q)) (.inl (some (.int (J (if X = true then 1 else 0))))) (hp S m q)) : ∀ k j : Nat, j + k = N → De (fun n => f_X6_anyAgainst n 14 [.ref 133, .int (J (m 139 6)), .int (J i), .int (J j)] (hp S m q)) (.inl (some (.int (J (if (anyR (m 139) L i k j || X) = true then 1 else 0))))) (hp S m q) := by
  have l1 := hL.1
  intro k
  induction k with
  | zero =>
    intro j hj
    rw [anyR, Bool.false_or]
    refine De.cg 5 (fun n => ?_) (D.sh 4)
    rw [j_X6_anyAgainst_14]
    simp (disch := omega) only [b_X6_anyAgainst_14, x133_k hs, x133_r0 hs, x133_r1 hs, x133_r2 hs, x133_r3 hs, x133_i4 hs, x133_w4 hs, Option.bind_some, xI, xU, xUt, xIt, J_lit, J_add, J_sub, J_mul, J_neg, J_ltc, J_lec, J_eqc, lt_T, lt_F, le_T, le_F, eq_T, eq_F, ↓reduceIte, ite_not, not_true_eq_false, not_false_eq_true, true_or, or_true, false_or, or_false, true_and, and_true, false_and, and_false, up_get, Nat.reduceEqDiff, Int.reduceNeg, eqN_T, eqN_F]
  | succ k IH =>
    intro j hj
    have ih := IH (j + 1) (by omega)
    have T := fun n => e_isAgainst (q := q) hs F C L N hL hw i0 i1 (show (0 : Int) ≤ (j : Int) by omega) (show (j : Int) < N by omega) n
    rw [anyR]
    cases c : agn (m 139) L i j with
    | true =>
      rw [Bool.true_or, Bool.true_or]
      simp only [c, if_true] at T
      refine De.cg 5 (g := fun _ => some (.inl (some (.int (J 1))), hp S m q)) (fun n => ?_) (De.ret _ _)
      rw [j_X6_anyAgainst_14]
      simp (disch := omega) only [b_X6_anyAgainst_14, x133_k hs, x133_r0 hs, x133_r1 hs, x133_r2 hs, x133_r3 hs, x133_i4 hs, x133_w4 hs, T, Option.bind_some, xI, xU, xUt, xIt, J_lit, J_add, J_sub, J_mul, J_neg, J_ltc, J_lec, J_eqc, lt_T, lt_F, le_T, le_F, eq_T, eq_F, ↓reduceIte, ite_not, not_true_eq_false, not_false_eq_true, true_or, or_true, false_or, or_false, true_and, and_true, false_and, and_false, up_get, Nat.reduceEqDiff, Int.reduceNeg, eqN_T, eqN_F]
    | false =>
      rw [Bool.false_or]
      simp only [c, Bool.false_eq_true, if_false] at T
      refine De.cg 5 (fun n => ?_) (ih.sh 4)
      rw [j_X6_anyAgainst_14]
      simp (disch := omega) only [b_X6_anyAgainst_14, x133_k hs, x133_r0 hs, x133_r1 hs, x133_r2 hs, x133_r3 hs, x133_i4 hs, x133_w4 hs, T, Option.bind_some, xI, xU, xUt, xIt, J_lit, J_add, J_sub, J_mul, J_neg, J_ltc, J_lec, J_eqc, lt_T, lt_F, le_T, le_F, eq_T, eq_F, ↓reduceIte, ite_not, not_true_eq_false, not_false_eq_true, true_or, or_true, false_or, or_false, true_and, and_true, false_and, and_false, up_get, Nat.reduceEqDiff, Int.reduceNeg, eqN_T, eqN_F]
      rfl
theorem q_any_l (hs : Sk S) (F : Fok m) (C : Fcl m) (L : Int → Int) (N : Nat) (hN : (N : Int) = m 133 4) (hL : Lst m 134 L N) (hw : ∀ i : Int, 0 ≤ i → i < N → 0 ≤ m 139 (761 + 10 * L i + 6) ∧ m 139 (761 + 10 * L i + 6) ≤ 400) : ∀ k i : Nat, i + k = N → De (fun n => f_X6_anyAgainst n 2 [.ref 133, .int (J (m 139 6)), .int (J i)] (hp S m q)) (.inl (some (.int (J (if anyP (m 139) L k i = true then 1 else 0))))) (hp S m q) := by
  have l1 := hL.1
  intro k
  induction k with
  | zero =>
    intro i hi
    refine De.cg 3 (g := fun _ => some (.inl (some (.int (J 0))), hp S m q)) (fun n => ?_) (De.ret _ _)
    rw [j_X6_anyAgainst_2]
    simp (disch := omega) only [b_X6_anyAgainst_2, x133_k hs, x133_r0 hs, x133_r1 hs, x133_r2 hs, x133_r3 hs, x133_i4 hs, x133_w4 hs, Option.bind_some, xI, xU, xUt, xIt, J_lit, J_add, J_sub, J_mul, J_neg, J_ltc, J_lec, J_eqc, lt_T, lt_F, le_T, le_F, eq_T, eq_F, ↓reduceIte, ite_not, not_true_eq_false, not_false_eq_true, true_or, or_true, false_or, or_false, true_and, and_true, false_and, and_false, up_get, Nat.reduceEqDiff, Int.reduceNeg, eqN_T, eqN_F]
  | succ k IH =>
    intro i hi
    have ih := IH (i + 1) (by omega)
    rw [anyP]
    have Z := q_any_j (q := q) hs F C L N hN hL hw i (by omega) (by omega) _ ih k (i + 1) (by omega)
    refine De.cg 3 (fun n => ?_) (Z.sh 2)
    rw [j_X6_anyAgainst_2]
    simp (disch := omega) only [b_X6_anyAgainst_2, x133_k hs, x133_r0 hs, x133_r1 hs, x133_r2 hs, x133_r3 hs, x133_i4 hs, x133_w4 hs, Option.bind_some, xI, xU, xUt, xIt, J_lit, J_add, J_sub, J_mul, J_neg, J_ltc, J_lec, J_eqc, lt_T, lt_F, le_T, le_F, eq_T, eq_F, ↓reduceIte, ite_not, not_true_eq_false, not_false_eq_true, true_or, or_true, false_or, or_false, true_and, and_true, false_and, and_false, up_get, Nat.reduceEqDiff, Int.reduceNeg, eqN_T, eqN_F]
    rfl
theorem q_any (hs : Sk S) (F : Fok m) (C : Fcl m) (L : Int → Int) (N : Nat) (hN : (N : Int) = m 133 4) (hL : Lst m 134 L N) (hw : ∀ i : Int, 0 ≤ i → i < N → 0 ≤ m 139 (761 + 10 * L i + 6) ∧ m 139 (761 + 10 * L i + 6) ≤ 400) : De (fun n => f_X6_anyAgainst n 0 [.ref 133, .int (J (m 139 6))] (hp S m q)) (.inl (some (.int (J (if anyP (m 139) L N 0 = true then 1 else 0))))) (hp S m q) := by
  refine De.step ?_
  simp only [j_X6_anyAgainst_0, b_X6_anyAgainst_0, J_lit]
  exact q_any_l hs F C L N hN hL hw N 0 (by omega)
/-- the mouths of those that tell a place -/
theorem q_mouthsAt_l (hs : Sk S) (F : Fok m) (C : Fcl m) (L : Int → Int) (N : Nat) (hN : (N : Int) = m 133 4) (hL : Lst m 134 L N) (p0 : 0 ≤ pl) (p1 : pl < 16) : ∀ k i : Nat, i + k = N → De (fun n => f_X6_mouthsAt n 4 [.ref 133, .int (J pl), .int (foC (fun k => decide (m 139 (761 + 10 * L k + 5) = pl)) (m 139) L i), .int (J i)] (hp S m q)) (.inl (some (.int (foC (fun k => decide (m 139 (761 + 10 * L k + 5) = pl)) (m 139) L N)))) (hp S m q) := by
  have l1 := hL.1
  intro k
  induction k with
  | zero =>
    intro i hi
    have hi : i = N := by omega
    subst hi
    refine De.cg 3 (g := fun _ => some (.inl (some (.int (foC (fun k => decide (m 139 (761 + 10 * L k + 5) = pl)) (m 139) L i))), hp S m q)) (fun n => ?_) (De.ret _ _)
    rw [j_X6_mouthsAt_4]
    simp (disch := omega) only [b_X6_mouthsAt_4, x133_k hs, x133_r0 hs, x133_r1 hs, x133_r2 hs, x133_r3 hs, x133_i4 hs, x133_w4 hs, Option.bind_some, xI, xU, xUt, xIt, J_lit, J_add, J_sub, J_mul, J_neg, J_ltc, J_lec, J_eqc, lt_T, lt_F, le_T, le_F, eq_T, eq_F, ↓reduceIte, ite_not, not_true_eq_false, not_false_eq_true, true_or, or_true, false_or, or_false, true_and, and_true, false_and, and_false, up_get, Nat.reduceEqDiff, Int.reduceNeg, eqN_T, eqN_F]
  | succ k IH =>
    intro i hi
    have ih := IH (i + 1) (by omega)
    obtain ⟨a1, a2, a3⟩ := hL.2 i (by omega) (by omega)
    obtain ⟨c1, c2, c3⟩ := C (L i) a2 a3
    obtain ⟨f1, f2⟩ := F
    obtain ⟨b1, b2, b3, b4⟩ := f2 (L i) a2 a3
    rw [foC] at ih
    by_cases c : m 139 (761 + 10 * L i + 5) = pl
    · rw [if_pos (decide_eq_true c)] at ih
      refine De.cg 4 (fun n => ?_) (ih.sh 2)
      rw [j_X6_mouthsAt_4]
      simp (disch := omega) only [b_X6_mouthsAt_4, x133_k hs, x133_r0 hs, x133_r1 hs, x133_r2 hs, x133_r3 hs, x133_i4 hs, x133_w4 hs, x134_g hs, x134_s hs, x134_l hs, x16_k hs, x16_r0 hs, x16_r1 hs, x16_r2 hs, x16_i3 hs, x16_w3 hs, x17_m0 hs, x17_m1 hs, x17_m2 hs, x17_m3 hs, x17_m4 hs, x17_m5 hs, x17_m6 hs, x17_m7 hs, x17_m8 hs, x17_l hs, x23_g hs, x23_s hs, x23_l hs, a1, c2, Option.bind_some, xI, xU, xUt, xIt, J_lit, J_add, J_sub, J_mul, J_neg, J_ltc, J_lec, J_eqc, lt_T, lt_F, le_T, le_F, eq_T, eq_F, ↓reduceIte, ite_not, not_true_eq_false, not_false_eq_true, true_or, or_true, false_or, or_false, true_and, and_true, false_and, and_false, up_get, Nat.reduceEqDiff, Int.reduceNeg, eqN_T, eqN_F]
      rw [j_X6_mouthsAt_37]
      simp (disch := omega) only [b_X6_mouthsAt_37, x133_k hs, x133_r0 hs, x133_r1 hs, x133_r2 hs, x133_r3 hs, x133_i4 hs, x133_w4 hs, x134_g hs, x134_s hs, x134_l hs, x16_k hs, x16_r0 hs, x16_r1 hs, x16_r2 hs, x16_i3 hs, x16_w3 hs, x17_m0 hs, x17_m1 hs, x17_m2 hs, x17_m3 hs, x17_m4 hs, x17_m5 hs, x17_m6 hs, x17_m7 hs, x17_m8 hs, x17_l hs, x19_g hs, x19_s hs, x19_l hs, a1, c1, Option.bind_some, xI, xU, xUt, xIt, J_lit, J_add, J_sub, J_mul, J_neg, J_ltc, J_lec, J_eqc, lt_T, lt_F, le_T, le_F, eq_T, eq_F, ↓reduceIte, ite_not, not_true_eq_false, not_false_eq_true, true_or, or_true, false_or, or_false, true_and, and_true, false_and, and_false, up_get, Nat.reduceEqDiff, Int.reduceNeg, eqN_T, eqN_F]
      rfl
    · rw [if_neg (by rw [decide_eq_false c]; decide)] at ih
      refine De.cg 4 (fun n => ?_) (ih.sh 3)
      rw [j_X6_mouthsAt_4]
      simp (disch := omega) only [b_X6_mouthsAt_4, x133_k hs, x133_r0 hs, x133_r1 hs, x133_r2 hs, x133_r3 hs, x133_i4 hs, x133_w4 hs, x134_g hs, x134_s hs, x134_l hs, x16_k hs, x16_r0 hs, x16_r1 hs, x16_r2 hs, x16_i3 hs, x16_w3 hs, x17_m0 hs, x17_m1 hs, x17_m2 hs, x17_m3 hs, x17_m4 hs, x17_m5 hs, x17_m6 hs, x17_m7 hs, x17_m8 hs, x17_l hs, x23_g hs, x23_s hs, x23_l hs, a1, c2, Option.bind_some, xI, xU, xUt, xIt, J_lit, J_add, J_sub, J_mul, J_neg, J_ltc, J_lec, J_eqc, lt_T, lt_F, le_T, le_F, eq_T, eq_F, ↓reduceIte, ite_not, not_true_eq_false, not_false_eq_true, true_or, or_true, false_or, or_false, true_and, and_true, false_and, and_false, up_get, Nat.reduceEqDiff, Int.reduceNeg, eqN_T, eqN_F]
      rfl
end SURE
