/-! marks, what may be passed, cost, what is shown -/
def mkS (g : Int → Int) (T : Nat) (fc : Int → Int) : Nat → Int
  | 0 => 0
  | n + 1 => mkS g T fc n + (if g (1 + 4 * n) = 0 ∧ holS g T fc n = true then g (1 + 4 * n + 1) else 0)
/-- some line of the kind c holds; there is one of that kind; what it costs -/
def anS (g : Int → Int) (T : Nat) (fc : Int → Int) (c : Int) : Nat → Bool
  | 0 => false
  | n + 1 => anS g T fc c n || (decide (g (1 + 4 * n) = c) && holS g T fc n)
def kdS (g : Int → Int) (c : Int) : Nat → Bool
  | 0 => false
  | n + 1 => kdS g c n || decide (g (1 + 4 * n) = c)
def coS (g : Int → Int) : Nat → Int
  | 0 => 1
  | n + 1 => if g (1 + 4 * n) = 2 then g (1 + 4 * n + 1) else coS g n
theorem anS_mono {g : Int → Int} {T : Nat} {fc : Int → Int} {c : Int} : ∀ k n : Nat, anS g T fc c n = true → anS g T fc c (n + k) = true
  | 0, n, h => h
  | k + 1, n, h => by
    show anS g T fc c ((n + k) + 1) = true
    rw [anS, anS_mono k n h, Bool.true_or]
theorem or01 (b c : Bool) : J (if b = true then 1 else 0) ||| J (if c = true then 1 else 0) = J (if (b || c) = true then 1 else 0) := by cases b <;> cases c <;> decide +kernel
section MARKS
variable {S : xH} {m : Nat → Int → Int} {q : Nat → Int → Int64} {r : Nat} {g fc : Int → Int} {T : Nat}
def RulC (m : Nat → Int → Int) (r : Nat) (g : Int → Int) : Prop := Rrul (m r 3) (m r 5) (m (r + 1)) (m (r + 2)) (m (r + 3)) (m (r + 4)) g
def FacC (m : Nat → Int → Int) (r : Nat) (T : Nat) (fc : Int → Int) : Prop := (∀ i : Int, 0 ≤ i → i < 5 → m (r + 5) i = fc i) ∧ m r 7 = T ∧ T < 128 ∧ FcOk fc
theorem holC (hr : RulS S r) (R : RulC m r g) (hf : FacC m r T fc) {l : Int} (l0 : 0 ≤ l) (l1 : l < g 0) : De (fun n => f_X5_holds n 0 [.ref r, .int (J l)] (hp S m q)) (.inl (some (.int (J (if holS g T fc l = true then 1 else 0))))) (hp S m q) := by
  obtain ⟨r1, r2, r3, r4, r5, r6, r7⟩ := R
  obtain ⟨⟨k1, k2, k3, k4⟩, k5, k6⟩ := r6 l l0 l1
  have W : ∃ e, wfS g (m (r + 3) l) (m (r + 3) (l + 1) - m (r + 3) l).toNat ([] : List Bool).length = some e := by
    by_cases c : m (r + 3) l < m (r + 3) (l + 1)
    · exact ⟨1, k6 c⟩
    · rw [show (m (r + 3) (l + 1) - m (r + 3) l).toNat = 0 by omega]
      exact ⟨_, rfl⟩
  obtain ⟨e, W⟩ := W
  have Q := q_holC (S := S) (m := m) (q := q) (r := r) (g := g) (fc := fc) (T := T) (l := l) hr l0 (by omega) (by omega) (fun i i0 i1 => by
    obtain ⟨z1, z2, z3, z4⟩ := r7 i i0 (by omega)
    exact ⟨z1, z2, z3, z4⟩) hf.1 hf.2.2.2 hf.2.1 hf.2.2.1 (m (r + 3) (l + 1) - m (r + 3) l).toNat (m (r + 3) l) [] e (by omega) (by omega) (by simp) W
  unfold holS
  rw [← k3, ← k4]
  refine De.cg 1 (fun n => ?_) Q
  rw [j_X5_holds_0]
  simp (disch := omega) only [b_X5_holds_0, Rul0_k hr, Rul0_r0 hr, Rul0_r1 hr, Rul0_r2 hr, Rul0_i3 hr, Rul0_w3 hr, Rul0_r4 hr, Rul0_i5 hr, Rul0_w5 hr, Rul0_r6 hr, Rul0_i7 hr, Rul0_w7 hr, Rul1_g hr, Rul1_s hr, Rul1_l hr, Rul2_g hr, Rul2_s hr, Rul2_l hr, Rul3_g hr, Rul3_s hr, Rul3_l hr, Rul4_g hr, Rul4_s hr, Rul4_l hr, Rul5_g hr, Rul5_s hr, Rul5_l hr, Option.bind_some, xI, xU, xUt, xIt, J_lit, J_add, J_sub, J_mul, J_neg, J_ltc, J_lec, J_eqc, lt_T, lt_F, le_T, le_F, eq_T, eq_F, ↓reduceIte, ite_not, not_true_eq_false, not_false_eq_true, true_or, or_true, false_or, or_false, true_and, and_true, false_and, and_false, up_get, Nat.reduceEqDiff, Int.reduceNeg, eqN_T, eqN_F]
  rfl
theorem holM (hs : Sk S) {y : Int} (hy : m 136 6 = y) (y0 : 0 ≤ y) (y1 : y ≤ 1) {ln sp : Int} {kd nm bg so : Int → Int} (R : Rrul ln sp kd nm bg so g) (hg : ∀ i : Int, 0 ≤ i → i < 841 → m 139 (4239 + 841 * y + i) = g i) (hf : ∀ i : Int, 0 ≤ i → i < 5 → m 144 i = fc i) (hfc : FcOk fc) (hT : ∀ k : Int, 0 ≤ k → k < 7 → m 143 k = if T.testBit k.toNat = true then 1 else 0) {l : Int} (l0 : 0 ≤ l) (l1 : l < g 0) : ∃ m', De (fun n => f_X11_holds n 0 [.ref 136, .int (J l)] (hp S m q)) (.inl (some (.int (J (if holS g T fc l = true then 1 else 0))))) (hp S m' q) ∧ ∀ b x, b ≠ 145 → m' b x = m b x := by
  obtain ⟨r1, r2, r3, r4, r5, r6, r7⟩ := R
  obtain ⟨⟨k1, k2, k3, k4⟩, k5, k6⟩ := r6 l l0 l1
  rw [k3, k4] at k5 k6
  have W : ∃ e, wfS g (g (1 + 4 * l + 2)) (g (1 + 4 * l + 3) - g (1 + 4 * l + 2)).toNat ([] : List Bool).length = some e ∧ e ≤ 1 := by
    by_cases c : g (1 + 4 * l + 2) < g (1 + 4 * l + 3)
    · exact ⟨1, k6 c, by omega⟩
    · rw [show (g (1 + 4 * l + 3) - g (1 + 4 * l + 2)).toNat = 0 by omega]
      exact ⟨_, rfl, by simp⟩
  obtain ⟨e, W, We⟩ := W
  obtain ⟨m', D, F⟩ := q_holM (S := S) (m0 := m) (q := q) (g := g) (fc := fc) (T := T) (l := l) hs hy y0 y1 l0 (by omega) hg (by omega) (fun i i0 i1 => (r7 i i0 (by omega)).2) hf hfc hT (g (1 + 4 * l + 3) - g (1 + 4 * l + 2)).toNat (g (1 + 4 * l + 2)) [] e m (by omega) (by omega) (by simp) W We (fun _ _ _ => rfl) trivial
  refine ⟨m', ?_, F⟩
  have gb : m 139 (4239 + 841 * y + 1 + 4 * l + 2) = g (1 + 4 * l + 2) := by rw [← hg _ (by omega) (by omega)]; congr 1; omega
  refine De.cg 3 (fun n => ?_) (D.sh 2)
  rw [j_X11_holds_0]
  simp (disch := omega) only [b_X11_holds_0, x136_k hs, x136_i0 hs, x136_w0 hs, x136_r1 hs, x136_r2 hs, x136_r3 hs, x136_r4 hs, x136_i5 hs, x136_w5 hs, x136_i6 hs, x136_w6 hs, x136_i7 hs, x136_w7 hs, x136_r8 hs, x136_i9 hs, x136_w9 hs, x136_i10 hs, x136_w10 hs, x136_i11 hs, x136_w11 hs, x136_i12 hs, x136_w12 hs, x136_i13 hs, x136_w13 hs, x136_i14 hs, x136_w14 hs, x136_r15 hs, x136_i16 hs, x136_w16 hs, x136_r17 hs, x136_r18 hs, x136_r19 hs, x136_r20 hs, x136_r21 hs, x136_i22 hs, x136_w22 hs, x136_r23 hs, x136_r24 hs, x136_i25 hs, x136_w25 hs, x136_i26 hs, x136_w26 hs, x136_r27 hs, x136_r28 hs, x136_i29 hs, x136_w29 hs, x139_g hs, x139_s hs, x139_l hs, hy, e_lineAt, gb, Option.bind_some, xI, xU, xUt, xIt, J_lit, J_add, J_sub, J_mul, J_neg, J_ltc, J_lec, J_eqc, lt_T, lt_F, le_T, le_F, eq_T, eq_F, ↓reduceIte, ite_not, not_true_eq_false, not_false_eq_true, true_or, or_true, false_or, or_false, true_and, and_true, false_and, and_false, up_get, Nat.reduceEqDiff, Int.reduceNeg, eqN_T, eqN_F]
  rfl
theorem mkS_in {ln sp : Int} {kd nm bg so : Int → Int} (R : Rrul ln sp kd nm bg so g) : ∀ n : Nat, (n : Int) ≤ g 0 → 0 ≤ mkS g T fc n ∧ mkS g T fc n ≤ 9999 * n
  | 0, _ => by simp [mkS]
  | n + 1, h => by
    have a := mkS_in R n (by omega)
    have b := R.2.2.2.2.2.1 n (by omega) (by omega)
    rw [mkS]
    split <;> omega
/-- the class's mark -/
theorem q_markC_l (hr : RulS S r) (R : RulC m r g) (hf : FacC m r T fc) : ∀ k i : Nat, (i : Int) + k = g 0 → De (fun n => f_X5_mark n 4 [.ref r, .int (J (mkS g T fc i)), .int (J i)] (hp S m q)) (.inl (some (.int (J (mkS g T fc (g 0).toNat))))) (hp S m q) := by
  have r1 := R.1
  have r2 := R.2.2.1
  intro k
  induction k with
  | zero =>
    intro i hi
    rw [show (g 0).toNat = i by omega]
    refine De.cg 1 (g := fun _ => some (.inl (some (.int (J (mkS g T fc i)))), hp S m q)) (fun n => ?_) (De.ret _ _)
    rw [j_X5_mark_4]
    simp (disch := omega) only [b_X5_mark_4, Rul0_k hr, Rul0_r0 hr, Rul0_r1 hr, Rul0_r2 hr, Rul0_i3 hr, Rul0_w3 hr, Rul0_r4 hr, Rul0_i5 hr, Rul0_w5 hr, Rul0_r6 hr, Rul0_i7 hr, Rul0_w7 hr, Rul1_g hr, Rul1_s hr, Rul1_l hr, Rul2_g hr, Rul2_s hr, Rul2_l hr, Rul3_g hr, Rul3_s hr, Rul3_l hr, Rul4_g hr, Rul4_s hr, Rul4_l hr, Rul5_g hr, Rul5_s hr, Rul5_l hr, Option.bind_some, xI, xU, xUt, xIt, J_lit, J_add, J_sub, J_mul, J_neg, J_ltc, J_lec, J_eqc, lt_T, lt_F, le_T, le_F, eq_T, eq_F, ↓reduceIte, ite_not, not_true_eq_false, not_false_eq_true, true_or, or_true, false_or, or_false, true_and, and_true, false_and, and_false, up_get, Nat.reduceEqDiff, Int.reduceNeg, eqN_T, eqN_F]
  | succ k IH =>
    intro i hi
    have ih := IH (i + 1) (by omega)
    obtain ⟨⟨k1, k2, k3, k4⟩, k5, k6⟩ := R.2.2.2.2.2.1 i (by omega) (by omega)
    have H := holC (q := q) hr R hf (l := i) (by omega) (by omega)
    rw [mkS] at ih
    by_cases c : g (1 + 4 * i) = 0
    · refine De.step ?_
      simp only [j_X5_mark_4]
      simp (disch := omega) only [b_X5_mark_4, Rul0_k hr, Rul0_r0 hr, Rul0_r1 hr, Rul0_r2 hr, Rul0_i3 hr, Rul0_w3 hr, Rul0_r4 hr, Rul0_i5 hr, Rul0_w5 hr, Rul0_r6 hr, Rul0_i7 hr, Rul0_w7 hr, Rul1_g hr, Rul1_s hr, Rul1_l hr, Rul2_g hr, Rul2_s hr, Rul2_l hr, Rul3_g hr, Rul3_s hr, Rul3_l hr, Rul4_g hr, Rul4_s hr, Rul4_l hr, Rul5_g hr, Rul5_s hr, Rul5_l hr, Option.bind_some, xI, xU, xUt, xIt, J_lit, J_add, J_sub, J_mul, J_neg, J_ltc, J_lec, J_eqc, lt_T, lt_F, le_T, le_F, eq_T, eq_F, ↓reduceIte, ite_not, not_true_eq_false, not_false_eq_true, true_or, or_true, false_or, or_false, true_and, and_true, false_and, and_false, up_get, Nat.reduceEqDiff, Int.reduceNeg, eqN_T, eqN_F]
      refine De.call H ?_
      by_cases d : holS g T fc i = true
      · rw [if_pos ⟨c, d⟩] at ih
        simp (disch := omega) only [if_pos d, Rul0_k hr, Rul0_r0 hr, Rul0_r1 hr, Rul0_r2 hr, Rul0_i3 hr, Rul0_w3 hr, Rul0_r4 hr, Rul0_i5 hr, Rul0_w5 hr, Rul0_r6 hr, Rul0_i7 hr, Rul0_w7 hr, Rul1_g hr, Rul1_s hr, Rul1_l hr, Rul2_g hr, Rul2_s hr, Rul2_l hr, Rul3_g hr, Rul3_s hr, Rul3_l hr, Rul4_g hr, Rul4_s hr, Rul4_l hr, Rul5_g hr, Rul5_s hr, Rul5_l hr, k2, Option.bind_some, xI, xU, xUt, xIt, J_lit, J_add, J_sub, J_mul, J_neg, J_ltc, J_lec, J_eqc, lt_T, lt_F, le_T, le_F, eq_T, eq_F, ↓reduceIte, ite_not, not_true_eq_false, not_false_eq_true, true_or, or_true, false_or, or_false, true_and, and_true, false_and, and_false, up_get, Nat.reduceEqDiff, Int.reduceNeg, eqN_T, eqN_F]
        exact ih
      · rw [if_neg (fun z => d z.2), Int.add_zero] at ih
        simp (disch := omega) only [if_neg d, Option.bind_some, xI, xU, xUt, xIt, J_lit, J_add, J_sub, J_mul, J_neg, J_ltc, J_lec, J_eqc, lt_T, lt_F, le_T, le_F, eq_T, eq_F, ↓reduceIte, ite_not, not_true_eq_false, not_false_eq_true, true_or, or_true, false_or, or_false, true_and, and_true, false_and, and_false, up_get, Nat.reduceEqDiff, Int.reduceNeg, eqN_T, eqN_F]
        exact ih
    · rw [if_neg (fun z => c z.1), Int.add_zero] at ih
      refine De.cg 1 (fun n => ?_) ih
      rw [j_X5_mark_4]
      simp (disch := omega) only [b_X5_mark_4, Rul0_k hr, Rul0_r0 hr, Rul0_r1 hr, Rul0_r2 hr, Rul0_i3 hr, Rul0_w3 hr, Rul0_r4 hr, Rul0_i5 hr, Rul0_w5 hr, Rul0_r6 hr, Rul0_i7 hr, Rul0_w7 hr, Rul1_g hr, Rul1_s hr, Rul1_l hr, Rul2_g hr, Rul2_s hr, Rul2_l hr, Rul3_g hr, Rul3_s hr, Rul3_l hr, Rul4_g hr, Rul4_s hr, Rul4_l hr, Rul5_g hr, Rul5_s hr, Rul5_l hr, Option.bind_some, xI, xU, xUt, xIt, J_lit, J_add, J_sub, J_mul, J_neg, J_ltc, J_lec, J_eqc, lt_T, lt_F, le_T, le_F, eq_T, eq_F, ↓reduceIte, ite_not, not_true_eq_false, not_false_eq_true, true_or, or_true, false_or, or_false, true_and, and_true, false_and, and_false, up_get, Nat.reduceEqDiff, Int.reduceNeg, eqN_T, eqN_F]
      rfl
theorem q_markC (hr : RulS S r) (R : RulC m r g) (hf : FacC m r T fc) : De (fun n => f_X5_mark n 0 [.ref r] (hp S m q)) (.inl (some (.int (J (mkS g T fc (g 0).toNat))))) (hp S m q) := by
  have r2 := R.2.1
  refine De.step ?_
  simp only [j_X5_mark_0, b_X5_mark_0, J_lit]
  exact q_markC_l hr R hf (g 0).toNat 0 (by omega)
/-- what the class lets pass -/
theorem q_letsC_l (hr : RulS S r) (R : RulC m r g) (hf : FacC m r T fc) : ∀ k i : Nat, (i : Int) + k = g 0 → anS g T fc 1 i = false → De (fun n => f_X5_lets n 17 [.ref r, .int (J (if kdS g 1 i = true then 1 else 0)), .int (J i)] (hp S m q)) (.inl (some (.int (J (if (anS g T fc 1 (g 0).toNat || !kdS g 1 (g 0).toNat) = true then 1 else 0))))) (hp S m q) := by
  have r1 := R.1
  have r2 := R.2.2.1
  intro k
  induction k with
  | zero =>
    intro i hi ha
    rw [show (g 0).toNat = i by omega, ha, Bool.false_or]
    refine De.eq 1 (fun n => ?_)
    rw [j_X5_lets_17]
    cases kdS g 1 i with
    | true => simp (disch := omega) only [b_X5_lets_17, Rul0_k hr, Rul0_r0 hr, Rul0_r1 hr, Rul0_r2 hr, Rul0_i3 hr, Rul0_w3 hr, Rul0_r4 hr, Rul0_i5 hr, Rul0_w5 hr, Rul0_r6 hr, Rul0_i7 hr, Rul0_w7 hr, Rul1_g hr, Rul1_s hr, Rul1_l hr, Rul2_g hr, Rul2_s hr, Rul2_l hr, Rul3_g hr, Rul3_s hr, Rul3_l hr, Rul4_g hr, Rul4_s hr, Rul4_l hr, Rul5_g hr, Rul5_s hr, Rul5_l hr, if_true, Bool.not_true, Bool.false_eq_true, if_false, Option.bind_some, xI, xU, xUt, xIt, J_lit, J_add, J_sub, J_mul, J_neg, J_ltc, J_lec, J_eqc, lt_T, lt_F, le_T, le_F, eq_T, eq_F, ↓reduceIte, ite_not, not_true_eq_false, not_false_eq_true, true_or, or_true, false_or, or_false, true_and, and_true, false_and, and_false, up_get, Nat.reduceEqDiff, Int.reduceNeg, eqN_T, eqN_F]
    | false => simp (disch := omega) only [b_X5_lets_17, Rul0_k hr, Rul0_r0 hr, Rul0_r1 hr, Rul0_r2 hr, Rul0_i3 hr, Rul0_w3 hr, Rul0_r4 hr, Rul0_i5 hr, Rul0_w5 hr, Rul0_r6 hr, Rul0_i7 hr, Rul0_w7 hr, Rul1_g hr, Rul1_s hr, Rul1_l hr, Rul2_g hr, Rul2_s hr, Rul2_l hr, Rul3_g hr, Rul3_s hr, Rul3_l hr, Rul4_g hr, Rul4_s hr, Rul4_l hr, Rul5_g hr, Rul5_s hr, Rul5_l hr, if_true, Bool.not_false, Bool.false_eq_true, if_false, Option.bind_some, xI, xU, xUt, xIt, J_lit, J_add, J_sub, J_mul, J_neg, J_ltc, J_lec, J_eqc, lt_T, lt_F, le_T, le_F, eq_T, eq_F, ↓reduceIte, ite_not, not_true_eq_false, not_false_eq_true, true_or, or_true, false_or, or_false, true_and, and_true, false_and, and_false, up_get, Nat.reduceEqDiff, Int.reduceNeg, eqN_T, eqN_F]
  | succ k IH =>
    intro i hi ha
    have ih := IH (i + 1) (by omega)
    obtain ⟨⟨k1, k2, k3, k4⟩, k5, k6⟩ := R.2.2.2.2.2.1 i (by omega) (by omega)
    have H := holC (q := q) hr R hf (l := i) (by omega) (by omega)
    have E45 : anS g T fc 1 (i + 1) = false → De (fun n => f_X5_lets n 45 [.ref r, .int (J (if kdS g 1 i = true then 1 else 0)), .int (J i)] (hp S m q)) (.inl (some (.int (J (if (anS g T fc 1 (g 0).toNat || !kdS g 1 (g 0).toNat) = true then 1 else 0))))) (hp S m q) := fun z => by
      have ih := ih z
      rw [kdS] at ih
      by_cases c : g (1 + 4 * i) = 1
      · rw [decide_eq_true c] at ih
        have o := or01 (kdS g 1 i) true
        rw [if_pos rfl] at o
        refine De.cg 1 (fun n => ?_) ih
        rw [j_X5_lets_45]
        simp (disch := omega) only [b_X5_lets_45, Rul0_k hr, Rul0_r0 hr, Rul0_r1 hr, Rul0_r2 hr, Rul0_i3 hr, Rul0_w3 hr, Rul0_r4 hr, Rul0_i5 hr, Rul0_w5 hr, Rul0_r6 hr, Rul0_i7 hr, Rul0_w7 hr, Rul1_g hr, Rul1_s hr, Rul1_l hr, Rul2_g hr, Rul2_s hr, Rul2_l hr, Rul3_g hr, Rul3_s hr, Rul3_l hr, Rul4_g hr, Rul4_s hr, Rul4_l hr, Rul5_g hr, Rul5_s hr, Rul5_l hr, o, Option.bind_some, xI, xU, xUt, xIt, J_lit, J_add, J_sub, J_mul, J_neg, J_ltc, J_lec, J_eqc, lt_T, lt_F, le_T, le_F, eq_T, eq_F, ↓reduceIte, ite_not, not_true_eq_false, not_false_eq_true, true_or, or_true, false_or, or_false, true_and, and_true, false_and, and_false, up_get, Nat.reduceEqDiff, Int.reduceNeg, eqN_T, eqN_F]
        all_goals rfl
      · rw [decide_eq_false c] at ih
        have o := or01 (kdS g 1 i) false
        rw [show (if false = true then (1 : Int) else 0) = 0 from rfl] at o
        refine De.cg 1 (fun n => ?_) ih
        rw [j_X5_lets_45]
        simp (disch := omega) only [b_X5_lets_45, Rul0_k hr, Rul0_r0 hr, Rul0_r1 hr, Rul0_r2 hr, Rul0_i3 hr, Rul0_w3 hr, Rul0_r4 hr, Rul0_i5 hr, Rul0_w5 hr, Rul0_r6 hr, Rul0_i7 hr, Rul0_w7 hr, Rul1_g hr, Rul1_s hr, Rul1_l hr, Rul2_g hr, Rul2_s hr, Rul2_l hr, Rul3_g hr, Rul3_s hr, Rul3_l hr, Rul4_g hr, Rul4_s hr, Rul4_l hr, Rul5_g hr, Rul5_s hr, Rul5_l hr, o, Option.bind_some, xI, xU, xUt, xIt, J_lit, J_add, J_sub, J_mul, J_neg, J_ltc, J_lec, J_eqc, lt_T, lt_F, le_T, le_F, eq_T, eq_F, ↓reduceIte, ite_not, not_true_eq_false, not_false_eq_true, true_or, or_true, false_or, or_false, true_and, and_true, false_and, and_false, up_get, Nat.reduceEqDiff, Int.reduceNeg, eqN_T, eqN_F]
        all_goals rfl
    by_cases c : g (1 + 4 * i) = 1
    · refine De.step ?_
      simp only [j_X5_lets_17]
      simp (disch := omega) only [b_X5_lets_17, Rul0_k hr, Rul0_r0 hr, Rul0_r1 hr, Rul0_r2 hr, Rul0_i3 hr, Rul0_w3 hr, Rul0_r4 hr, Rul0_i5 hr, Rul0_w5 hr, Rul0_r6 hr, Rul0_i7 hr, Rul0_w7 hr, Rul1_g hr, Rul1_s hr, Rul1_l hr, Rul2_g hr, Rul2_s hr, Rul2_l hr, Rul3_g hr, Rul3_s hr, Rul3_l hr, Rul4_g hr, Rul4_s hr, Rul4_l hr, Rul5_g hr, Rul5_s hr, Rul5_l hr, Option.bind_some, xI, xU, xUt, xIt, J_lit, J_add, J_sub, J_mul, J_neg, J_ltc, J_lec, J_eqc, lt_T, lt_F, le_T, le_F, eq_T, eq_F, ↓reduceIte, ite_not, not_true_eq_false, not_false_eq_true, true_or, or_true, false_or, or_false, true_and, and_true, false_and, and_false, up_get, Nat.reduceEqDiff, Int.reduceNeg, eqN_T, eqN_F]
      refine De.call H ?_
      by_cases d : holS g T fc i = true
      · have t : anS g T fc 1 (i + 1) = true := by rw [anS, decide_eq_true c, d, Bool.true_and, Bool.or_true]
        have t2 := anS_mono k (i + 1) t
        rw [show i + 1 + k = (g 0).toNat by omega] at t2
        rw [t2, Bool.true_or, if_pos rfl]
        simp (disch := omega) only [if_pos d, Option.bind_some, xI, xU, xUt, xIt, J_lit, J_add, J_sub, J_mul, J_neg, J_ltc, J_lec, J_eqc, lt_T, lt_F, le_T, le_F, eq_T, eq_F, ↓reduceIte, ite_not, not_true_eq_false, not_false_eq_true, true_or, or_true, false_or, or_false, true_and, and_true, false_and, and_false, up_get, Nat.reduceEqDiff, Int.reduceNeg, eqN_T, eqN_F]
        exact De.ret _ _
      · have z : anS g T fc 1 (i + 1) = false := by rw [anS, ha, Bool.eq_false_iff.mpr d, Bool.and_false, Bool.or_false]
        simp (disch := omega) only [if_neg d, Option.bind_some, xI, xU, xUt, xIt, J_lit, J_add, J_sub, J_mul, J_neg, J_ltc, J_lec, J_eqc, lt_T, lt_F, le_T, le_F, eq_T, eq_F, ↓reduceIte, ite_not, not_true_eq_false, not_false_eq_true, true_or, or_true, false_or, or_false, true_and, and_true, false_and, and_false, up_get, Nat.reduceEqDiff, Int.reduceNeg, eqN_T, eqN_F]
        exact E45 z
    · have z : anS g T fc 1 (i + 1) = false := by rw [anS, ha, decide_eq_false c, Bool.false_and, Bool.or_false]
      refine De.cg 1 (fun n => ?_) (E45 z)
      rw [j_X5_lets_17]
      simp (disch := omega) only [b_X5_lets_17, Rul0_k hr, Rul0_r0 hr, Rul0_r1 hr, Rul0_r2 hr, Rul0_i3 hr, Rul0_w3 hr, Rul0_r4 hr, Rul0_i5 hr, Rul0_w5 hr, Rul0_r6 hr, Rul0_i7 hr, Rul0_w7 hr, Rul1_g hr, Rul1_s hr, Rul1_l hr, Rul2_g hr, Rul2_s hr, Rul2_l hr, Rul3_g hr, Rul3_s hr, Rul3_l hr, Rul4_g hr, Rul4_s hr, Rul4_l hr, Rul5_g hr, Rul5_s hr, Rul5_l hr, Option.bind_some, xI, xU, xUt, xIt, J_lit, J_add, J_sub, J_mul, J_neg, J_ltc, J_lec, J_eqc, lt_T, lt_F, le_T, le_F, eq_T, eq_F, ↓reduceIte, ite_not, not_true_eq_false, not_false_eq_true, true_or, or_true, false_or, or_false, true_and, and_true, false_and, and_false, up_get, Nat.reduceEqDiff, Int.reduceNeg, eqN_T, eqN_F]
theorem q_letsC (hr : RulS S r) (R : RulC m r g) (hf : FacC m r T fc) : De (fun n => f_X5_lets n 0 [.ref r] (hp S m q)) (.inl (some (.int (J (if fc 1 < 12 ∧ (anS g T fc 1 (g 0).toNat || !kdS g 1 (g 0).toNat) = true then 1 else 0))))) (hp S m q) := by
  have r2 := R.2.1
  have f1 := hf.1 1 (by omega) (by omega)
  have fb := hf.2.2.2 1 (by omega) (by omega)
  by_cases c : fc 1 < 12
  · have Q := q_letsC_l (q := q) hr R hf (g 0).toNat 0 (by omega) rfl
    rw [show (if fc 1 < 12 ∧ (anS g T fc 1 (g 0).toNat || !kdS g 1 (g 0).toNat) = true then (1 : Int) else 0) = if (anS g T fc 1 (g 0).toNat || !kdS g 1 (g 0).toNat) = true then 1 else 0 from by simp only [c, true_and]]
    refine De.cg 1 (fun n => ?_) Q
    rw [j_X5_lets_0]
    simp (disch := omega) only [b_X5_lets_0, Rul0_k hr, Rul0_r0 hr, Rul0_r1 hr, Rul0_r2 hr, Rul0_i3 hr, Rul0_w3 hr, Rul0_r4 hr, Rul0_i5 hr, Rul0_w5 hr, Rul0_r6 hr, Rul0_i7 hr, Rul0_w7 hr, Rul1_g hr, Rul1_s hr, Rul1_l hr, Rul2_g hr, Rul2_s hr, Rul2_l hr, Rul3_g hr, Rul3_s hr, Rul3_l hr, Rul4_g hr, Rul4_s hr, Rul4_l hr, Rul5_g hr, Rul5_s hr, Rul5_l hr, f1, Option.bind_some, xI, xU, xUt, xIt, J_lit, J_add, J_sub, J_mul, J_neg, J_ltc, J_lec, J_eqc, lt_T, lt_F, le_T, le_F, eq_T, eq_F, ↓reduceIte, ite_not, not_true_eq_false, not_false_eq_true, true_or, or_true, false_or, or_false, true_and, and_true, false_and, and_false, up_get, Nat.reduceEqDiff, Int.reduceNeg, eqN_T, eqN_F]
    rfl
  · rw [if_neg (fun z => c z.1)]
    refine De.eq 1 (fun n => ?_)
    rw [j_X5_lets_0]
    simp (disch := omega) only [b_X5_lets_0, Rul0_k hr, Rul0_r0 hr, Rul0_r1 hr, Rul0_r2 hr, Rul0_i3 hr, Rul0_w3 hr, Rul0_r4 hr, Rul0_i5 hr, Rul0_w5 hr, Rul0_r6 hr, Rul0_i7 hr, Rul0_w7 hr, Rul1_g hr, Rul1_s hr, Rul1_l hr, Rul2_g hr, Rul2_s hr, Rul2_l hr, Rul3_g hr, Rul3_s hr, Rul3_l hr, Rul4_g hr, Rul4_s hr, Rul4_l hr, Rul5_g hr, Rul5_s hr, Rul5_l hr, f1, Option.bind_some, xI, xU, xUt, xIt, J_lit, J_add, J_sub, J_mul, J_neg, J_ltc, J_lec, J_eqc, lt_T, lt_F, le_T, le_F, eq_T, eq_F, ↓reduceIte, ite_not, not_true_eq_false, not_false_eq_true, true_or, or_true, false_or, or_false, true_and, and_true, false_and, and_false, up_get, Nat.reduceEqDiff, Int.reduceNeg, eqN_T, eqN_F]
/-- the class's cost -/
theorem q_costC (hr : RulS S r) (R : RulC m r g) : De (fun n => f_X5_cost n 0 [.ref r] (hp S m q)) (.inl (some (.int (J (coS g (g 0).toNat))))) (hp S m q) := by
  have r1 := R.1
  have r2 := R.2.1
  have r3 := R.2.2.1
  have L : ∀ k : Nat, (k : Int) ≤ g 0 → De (fun n => f_X5_cost n 7 [.ref r, .int (J ((k : Int) - 1))] (hp S m q)) (.inl (some (.int (J (coS g k))))) (hp S m q) := by
    intro k
    induction k with
    | zero =>
      intro _
      refine De.eq 1 (fun n => ?_)
      rw [j_X5_cost_7]
      simp (disch := omega) only [b_X5_cost_7, coS, Option.bind_some, xI, xU, xUt, xIt, J_lit, J_add, J_sub, J_mul, J_neg, J_ltc, J_lec, J_eqc, lt_T, lt_F, le_T, le_F, eq_T, eq_F, ↓reduceIte, ite_not, not_true_eq_false, not_false_eq_true, true_or, or_true, false_or, or_false, true_and, and_true, false_and, and_false, up_get, Nat.reduceEqDiff, Int.reduceNeg, eqN_T, eqN_F]
    | succ k IH =>
      intro hk
      have ih := IH (by omega)
      obtain ⟨⟨k1, k2, k3, k4⟩, k5, k6⟩ := R.2.2.2.2.2.1 k (by omega) (by omega)
      rw [show (((k + 1 : Nat) : Int) - 1) = k by omega, coS]
      by_cases c : g (1 + 4 * k) = 2
      · rw [if_pos c]
        refine De.eq 1 (fun n => ?_)
        rw [j_X5_cost_7]
        simp (disch := omega) only [b_X5_cost_7, Rul0_k hr, Rul0_r0 hr, Rul0_r1 hr, Rul0_r2 hr, Rul0_i3 hr, Rul0_w3 hr, Rul0_r4 hr, Rul0_i5 hr, Rul0_w5 hr, Rul0_r6 hr, Rul0_i7 hr, Rul0_w7 hr, Rul1_g hr, Rul1_s hr, Rul1_l hr, Rul2_g hr, Rul2_s hr, Rul2_l hr, Rul3_g hr, Rul3_s hr, Rul3_l hr, Rul4_g hr, Rul4_s hr, Rul4_l hr, Rul5_g hr, Rul5_s hr, Rul5_l hr, k2, Option.bind_some, xI, xU, xUt, xIt, J_lit, J_add, J_sub, J_mul, J_neg, J_ltc, J_lec, J_eqc, lt_T, lt_F, le_T, le_F, eq_T, eq_F, ↓reduceIte, ite_not, not_true_eq_false, not_false_eq_true, true_or, or_true, false_or, or_false, true_and, and_true, false_and, and_false, up_get, Nat.reduceEqDiff, Int.reduceNeg, eqN_T, eqN_F]
      · rw [if_neg c]
        refine De.cg 1 (fun n => ?_) ih
        rw [j_X5_cost_7]
        simp (disch := omega) only [b_X5_cost_7, Rul0_k hr, Rul0_r0 hr, Rul0_r1 hr, Rul0_r2 hr, Rul0_i3 hr, Rul0_w3 hr, Rul0_r4 hr, Rul0_i5 hr, Rul0_w5 hr, Rul0_r6 hr, Rul0_i7 hr, Rul0_w7 hr, Rul1_g hr, Rul1_s hr, Rul1_l hr, Rul2_g hr, Rul2_s hr, Rul2_l hr, Rul3_g hr, Rul3_s hr, Rul3_l hr, Rul4_g hr, Rul4_s hr, Rul4_l hr, Rul5_g hr, Rul5_s hr, Rul5_l hr, Option.bind_some, xI, xU, xUt, xIt, J_lit, J_add, J_sub, J_mul, J_neg, J_ltc, J_lec, J_eqc, lt_T, lt_F, le_T, le_F, eq_T, eq_F, ↓reduceIte, ite_not, not_true_eq_false, not_false_eq_true, true_or, or_true, false_or, or_false, true_and, and_true, false_and, and_false, up_get, Nat.reduceEqDiff, Int.reduceNeg, eqN_T, eqN_F]
        all_goals rfl
  have Q := L (g 0).toNat (by omega)
  refine De.cg 1 (fun n => ?_) Q
  rw [j_X5_cost_0]
  simp (disch := omega) only [b_X5_cost_0, Rul0_k hr, Rul0_r0 hr, Rul0_r1 hr, Rul0_r2 hr, Rul0_i3 hr, Rul0_w3 hr, Rul0_r4 hr, Rul0_i5 hr, Rul0_w5 hr, Rul0_r6 hr, Rul0_i7 hr, Rul0_w7 hr, Rul1_g hr, Rul1_s hr, Rul1_l hr, Rul2_g hr, Rul2_s hr, Rul2_l hr, Rul3_g hr, Rul3_s hr, Rul3_l hr, Rul4_g hr, Rul4_s hr, Rul4_l hr, Rul5_g hr, Rul5_s hr, Rul5_l hr, Option.bind_some, xI, xU, xUt, xIt, J_lit, J_add, J_sub, J_mul, J_neg, J_ltc, J_lec, J_eqc, lt_T, lt_F, le_T, le_F, eq_T, eq_F, ↓reduceIte, ite_not, not_true_eq_false, not_false_eq_true, true_or, or_true, false_or, or_false, true_and, and_true, false_and, and_false, up_get, Nat.reduceEqDiff, Int.reduceNeg, eqN_T, eqN_F]
  rw [r1, show (((g 0).toNat : Nat) : Int) = g 0 by omega]
theorem coS_in {ln sp : Int} {kd nm bg so : Int → Int} (R : Rrul ln sp kd nm bg so g) : ∀ n : Nat, (n : Int) ≤ g 0 → 0 ≤ coS g n ∧ coS g n ≤ 100
  | 0, _ => by simp [coS]
  | n + 1, h => by
    have a := coS_in R n (by omega)
    have b := R.2.2.2.2.2.1 n (by omega) (by omega)
    rw [coS]
    split
    · have := b.2.1.2.2.2.2.1 (by omega)
      omega
    · exact a
end MARKS
