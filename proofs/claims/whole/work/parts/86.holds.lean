/-! a line holds: by the class -/
theorem l_push0 (a : Nat) : (lN a <<< (Int32.toInt64 (J 1) &&& 63)) ||| Int32.toInt64 (J 0) = lN (2 * a + b1 false) := l_push a false
theorem l_push1 (a : Nat) : (lN a <<< (Int32.toInt64 (J 1) &&& 63)) ||| Int32.toInt64 (J 1) = lN (2 * a + b1 true) := l_push a true
theorem ti0 : Int32.toInt (J 0) = 0 := by decide +kernel
theorem ti1 : Int32.toInt (J 1) = 1 := by decide +kernel
theorem ti2 : Int32.toInt (J 2) = 2 := by decide +kernel
theorem ti3 : Int32.toInt (J 3) = 3 := by decide +kernel
theorem ti4 : Int32.toInt (J 4) = 4 := by decide +kernel
theorem ti5 : Int32.toInt (J 5) = 5 := by decide +kernel
theorem stB_tag {T : Nat} {fc : Int → Int} {s t : Int} {st : List Bool} (h1 : s < 7) : stB T fc s t st = T.testBit s.toNat :: st := by
  unfold stB
  rw [if_neg (by omega), if_neg (by omega), if_neg (by omega), if_pos h1]
theorem stB_less {T : Nat} {fc : Int → Int} {s t : Int} {st : List Bool} (h1 : 100 ≤ s) (h2 : s < 105) : stB T fc s t st = decide (fc (s - 100) < t) :: st := by
  unfold stB
  rw [if_neg (by omega), if_neg (by omega), if_neg (by omega), if_neg (by omega), if_pos (by omega)]
theorem stB_more {T : Nat} {fc : Int → Int} {s t : Int} {st : List Bool} (h1 : 200 ≤ s) (h2 : s < 205) : stB T fc s t st = decide (t < fc (s - 200)) :: st := by
  unfold stB
  rw [if_neg (by omega), if_neg (by omega), if_neg (by omega), if_neg (by omega), if_neg (by omega)]
theorem stB_not {T : Nat} {fc : Int → Int} {s t : Int} {b : Bool} {r : List Bool} (h1 : s = 300) : stB T fc s t (b :: r) = (!b) :: r := by
  unfold stB
  rw [if_pos h1]
theorem stB_and {T : Nat} {fc : Int → Int} {s t : Int} {a b : Bool} {r : List Bool} (h1 : s = 301) : stB T fc s t (b :: a :: r) = (a && b) :: r := by
  unfold stB
  rw [if_neg (by omega), if_pos h1]
theorem stB_or {T : Nat} {fc : Int → Int} {s t : Int} {a b : Bool} {r : List Bool} (h1 : s = 302) : stB T fc s t (b :: a :: r) = (a || b) :: r := by
  unfold stB
  rw [if_neg (by omega), if_neg (by omega), if_pos (by omega)]
/-- the numbers of a table of rules -/
def StpOk (g : Int → Int) (i : Int) : Prop := 0 ≤ g (41 + 2 * i + 1) ∧ g (41 + 2 * i + 1) ≤ 9999 ∧ (0 ≤ g (41 + 2 * i) ∧ g (41 + 2 * i) < 7 ∨ 100 ≤ g (41 + 2 * i) ∧ g (41 + 2 * i) < 105 ∨ 200 ≤ g (41 + 2 * i) ∧ g (41 + 2 * i) < 205 ∨ 300 ≤ g (41 + 2 * i) ∧ g (41 + 2 * i) ≤ 302)
def FcOk (fc : Int → Int) : Prop := ∀ i : Int, 0 ≤ i → i < 5 → -2147483648 ≤ fc i ∧ fc i < 2147483648
section HOLDS
variable {S : xH} {m m0 : Nat → Int → Int} {q : Nat → Int → Int64} {r : Nat} {g fc : Int → Int} {T : Nat} {l : Int}
theorem q_hol1 (hr : RulS S r) (l0 : 0 ≤ l) (l1 : l < 10) {i X wh : Int} {p : Int64} {P : xH} {res : xR} (i0 : 0 ≤ i) (i1 : i < 200) (he : i < m (r + 3) (l + 1)) (he2 : m (r + 3) (l + 1) ≤ 200) (hX : m (r + 4) i = X) (X0 : 0 ≤ X) (X1 : X < 3000000) (hwh : X / 16 % 16 = wh) (hf : ∀ i : Int, 0 ≤ i → i < 5 → m (r + 5) i = fc i) (D : De (fun n => f_X5_holds n 68 [.ref r, .int (J l), .long p, .int (J i), .int (J wh), .int (J (if wh < 5 then fc wh else 0))] (hp S m q)) res P) : De (fun n => f_X5_holds n 10 [.ref r, .int (J l), .long p, .int (J i)] (hp S m q)) res P := by
  have a4 := J_shr4 X0 (by omega)
  have a5 := J_mod16 (z := X / 16) (by omega)
  have w0 : 0 ≤ wh ∧ wh < 16 := by omega
  refine De.cg 1 (fun n => ?_) D
  rw [j_X5_holds_10]
  by_cases c : wh < 5
  · have hfw := hf wh w0.1 c
    rw [if_pos c]
    simp (disch := omega) only [b_X5_holds_10, Rul0_k hr, Rul0_r0 hr, Rul0_r1 hr, Rul0_r2 hr, Rul0_i3 hr, Rul0_w3 hr, Rul0_r4 hr, Rul0_i5 hr, Rul0_w5 hr, Rul0_r6 hr, Rul0_i7 hr, Rul0_w7 hr, Rul1_g hr, Rul1_s hr, Rul1_l hr, Rul2_g hr, Rul2_s hr, Rul2_l hr, Rul3_g hr, Rul3_s hr, Rul3_l hr, Rul4_g hr, Rul4_s hr, Rul4_l hr, Rul5_g hr, Rul5_s hr, Rul5_l hr, hX, J_lit 4, J_lit 31, a4, J_lit 15, a5, hwh, hfw, Option.bind_some, xI, xU, xUt, xIt, J_lit, J_add, J_sub, J_mul, J_neg, J_ltc, J_lec, J_eqc, lt_T, lt_F, le_T, le_F, eq_T, eq_F, ↓reduceIte, ite_not, not_true_eq_false, not_false_eq_true, true_or, or_true, false_or, or_false, true_and, and_true, false_and, and_false, up_get, Nat.reduceEqDiff, Int.reduceNeg, eqN_T, eqN_F]
  · rw [if_neg c]
    simp (disch := omega) only [b_X5_holds_10, Rul0_k hr, Rul0_r0 hr, Rul0_r1 hr, Rul0_r2 hr, Rul0_i3 hr, Rul0_w3 hr, Rul0_r4 hr, Rul0_i5 hr, Rul0_w5 hr, Rul0_r6 hr, Rul0_i7 hr, Rul0_w7 hr, Rul1_g hr, Rul1_s hr, Rul1_l hr, Rul2_g hr, Rul2_s hr, Rul2_l hr, Rul3_g hr, Rul3_s hr, Rul3_l hr, Rul4_g hr, Rul4_s hr, Rul4_l hr, Rul5_g hr, Rul5_s hr, Rul5_l hr, hX, J_lit 4, J_lit 31, a4, J_lit 15, a5, hwh, Option.bind_some, xI, xU, xUt, xIt, J_lit, J_add, J_sub, J_mul, J_neg, J_ltc, J_lec, J_eqc, lt_T, lt_F, le_T, le_F, eq_T, eq_F, ↓reduceIte, ite_not, not_true_eq_false, not_false_eq_true, true_or, or_true, false_or, or_false, true_and, and_true, false_and, and_false, up_get, Nat.reduceEqDiff, Int.reduceNeg, eqN_T, eqN_F]
theorem q_holC (hr : RulS S r) (l0 : 0 ≤ l) (l1 : l < 10) (he2 : m (r + 3) (l + 1) ≤ 200) (hst : ∀ i : Int, 0 ≤ i → i < m (r + 3) (l + 1) → m (r + 4) i = encS (g (41 + 2 * i)) (g (41 + 2 * i + 1)) ∧ StpOk g i) (hf : ∀ i : Int, 0 ≤ i → i < 5 → m (r + 5) i = fc i) (hfc : FcOk fc) (hT : m r 7 = T) (hT2 : T < 128) : ∀ (k : Nat) (i : Int) (st : List Bool) (e : Int), 0 ≤ i → i + k = m (r + 3) (l + 1) → st.length ≤ 60 → wfS g i k st.length = some e → De (fun n => f_X5_holds n 10 [.ref r, .int (J l), .long (lN (enB st)), .int (J i)] (hp S m q)) (.inl (some (.int (J (if hdB (runS g T fc k i st) = true then 1 else 0))))) (hp S m q) := by
  intro k
  induction k with
  | zero =>
    intro i st e i0 ik hl h
    rw [runS]
    have E : De (fun n => f_X5_holds n 226 [.ref r, .int (J l), .long (lN (enB st)), .int (J i)] (hp S m q)) (.inl (some (.int (J (if hdB st = true then 1 else 0))))) (hp S m q) := by
      refine De.eq 1 (fun n => ?_)
      rw [j_X5_holds_226]
      have z := lb_end st
      cases c : hdB st with
      | true => simp only [b_X5_holds_226, J_lit, z, c, if_true, Bool.true_eq_false, if_false]
      | false => simp only [b_X5_holds_226, J_lit, z, c, if_true, Bool.false_eq_true, if_false]
    refine De.cg 1 (fun n => ?_) E
    rw [j_X5_holds_10]
    simp (disch := omega) only [b_X5_holds_10, Rul0_k hr, Rul0_r0 hr, Rul0_r1 hr, Rul0_r2 hr, Rul0_i3 hr, Rul0_w3 hr, Rul0_r4 hr, Rul0_i5 hr, Rul0_w5 hr, Rul0_r6 hr, Rul0_i7 hr, Rul0_w7 hr, Rul1_g hr, Rul1_s hr, Rul1_l hr, Rul2_g hr, Rul2_s hr, Rul2_l hr, Rul3_g hr, Rul3_s hr, Rul3_l hr, Rul4_g hr, Rul4_s hr, Rul4_l hr, Rul5_g hr, Rul5_s hr, Rul5_l hr, Option.bind_some, xI, xU, xUt, xIt, J_lit, J_add, J_sub, J_mul, J_neg, J_ltc, J_lec, J_eqc, lt_T, lt_F, le_T, le_F, eq_T, eq_F, ↓reduceIte, ite_not, not_true_eq_false, not_false_eq_true, true_or, or_true, false_or, or_false, true_and, and_true, false_and, and_false, up_get, Nat.reduceEqDiff, Int.reduceNeg, eqN_T, eqN_F]
  | succ k IH =>
    intro i st e i0 ik hl h
    rw [runS]
    obtain ⟨hx, t0, t1, hs⟩ := hst i i0 (by omega)
    obtain ⟨W, W1, W2, W3⟩ := wfS_step (T := T) (fc := fc) h
    have IH' := fun st' (hst' : stB T fc (g (41 + 2 * i)) (g (41 + 2 * i + 1)) st = st') (hl' : st'.length ≤ 60) => IH (i + 1) st' e (by omega) (by omega) hl' (by rw [← hst']; exact W)
    generalize g (41 + 2 * i) = s at *
    generalize g (41 + 2 * i + 1) = t at *
    rcases hs with hs | hs | hs | hs
    · have es := stB_tag (T := T) (fc := fc) (t := t) (st := st) hs.2
      have ih := IH' _ es (by simp only [List.length_cons]; have := W3 (by omega); omega)
      rw [es]
      rw [enB] at ih
      rw [encS, if_pos hs.2] at hx
      refine q_hol1 hr l0 l1 (X := 16 * s) (wh := s) i0 (by omega) (by omega) he2 hx (by omega) (by omega) (by omega) hf ?_
      have a5 := J_mod16 (z := 16 * s) (by omega)
      rw [show 16 * s % 16 = 0 by omega] at a5
      have tb := J_tb (z := (T : Int)) (p := s) (by omega) (by omega) (by omega) (by omega)
      rw [Int.toNat_natCast] at tb
      refine De.cg 1 (fun n => ?_) ih
      rw [j_X5_holds_68]
      simp (disch := omega) only [b_X5_holds_68, Rul0_k hr, Rul0_r0 hr, Rul0_r1 hr, Rul0_r2 hr, Rul0_i3 hr, Rul0_w3 hr, Rul0_r4 hr, Rul0_i5 hr, Rul0_w5 hr, Rul0_r6 hr, Rul0_i7 hr, Rul0_w7 hr, Rul1_g hr, Rul1_s hr, Rul1_l hr, Rul2_g hr, Rul2_s hr, Rul2_l hr, Rul3_g hr, Rul3_s hr, Rul3_l hr, Rul4_g hr, Rul4_s hr, Rul4_l hr, Rul5_g hr, Rul5_s hr, Rul5_l hr, hx, J_lit 15, a5, ti0, hT, J_lit 31, J_lit 1, tb, l_push, Option.bind_some, xI, xU, xUt, xIt, J_lit, J_add, J_sub, J_mul, J_neg, J_ltc, J_lec, J_eqc, lt_T, lt_F, le_T, le_F, eq_T, eq_F, ↓reduceIte, ite_not, not_true_eq_false, not_false_eq_true, true_or, or_true, false_or, or_false, true_and, and_true, false_and, and_false, up_get, Nat.reduceEqDiff, Int.reduceNeg, eqN_T, eqN_F]
    · have es := stB_less (T := T) (fc := fc) (t := t) (st := st) hs.1 hs.2
      have ih := IH' _ es (by simp only [List.length_cons]; have := W3 (by omega); omega)
      rw [es]
      rw [enB] at ih
      rw [encS, if_neg (by omega), if_pos (by omega)] at hx
      refine q_hol1 hr l0 l1 (X := 256 * t + 16 * (s - 100) + 1) (wh := s - 100) i0 (by omega) (by omega) he2 hx (by omega) (by omega) (by omega) hf ?_
      have a5 := J_mod16 (z := 256 * t + 16 * (s - 100) + 1) (by omega)
      rw [show (256 * t + 16 * (s - 100) + 1) % 16 = 1 by omega] at a5
      have a8 := J_shr8 (z := 256 * t + 16 * (s - 100) + 1) (by omega) (by omega)
      rw [show (256 * t + 16 * (s - 100) + 1) / 256 = t by omega] at a8
      have fb := hfc (s - 100) (by omega) (by omega)
      rw [if_pos (by omega)]
      refine De.cg 1 (fun n => ?_) ih
      rw [j_X5_holds_68]
      by_cases c : fc (s - 100) < t
      · rw [decide_eq_true c]
        simp (disch := omega) only [b_X5_holds_68, Rul0_k hr, Rul0_r0 hr, Rul0_r1 hr, Rul0_r2 hr, Rul0_i3 hr, Rul0_w3 hr, Rul0_r4 hr, Rul0_i5 hr, Rul0_w5 hr, Rul0_r6 hr, Rul0_i7 hr, Rul0_w7 hr, Rul1_g hr, Rul1_s hr, Rul1_l hr, Rul2_g hr, Rul2_s hr, Rul2_l hr, Rul3_g hr, Rul3_s hr, Rul3_l hr, Rul4_g hr, Rul4_s hr, Rul4_l hr, Rul5_g hr, Rul5_s hr, Rul5_l hr, hx, J_lit 15, a5, ti1, J_lit 8, J_lit 31, a8, l_push1, Option.bind_some, xI, xU, xUt, xIt, J_lit, J_add, J_sub, J_mul, J_neg, J_ltc, J_lec, J_eqc, lt_T, lt_F, le_T, le_F, eq_T, eq_F, ↓reduceIte, ite_not, not_true_eq_false, not_false_eq_true, true_or, or_true, false_or, or_false, true_and, and_true, false_and, and_false, up_get, Nat.reduceEqDiff, Int.reduceNeg, eqN_T, eqN_F]
      · rw [decide_eq_false c]
        simp (disch := omega) only [b_X5_holds_68, Rul0_k hr, Rul0_r0 hr, Rul0_r1 hr, Rul0_r2 hr, Rul0_i3 hr, Rul0_w3 hr, Rul0_r4 hr, Rul0_i5 hr, Rul0_w5 hr, Rul0_r6 hr, Rul0_i7 hr, Rul0_w7 hr, Rul1_g hr, Rul1_s hr, Rul1_l hr, Rul2_g hr, Rul2_s hr, Rul2_l hr, Rul3_g hr, Rul3_s hr, Rul3_l hr, Rul4_g hr, Rul4_s hr, Rul4_l hr, Rul5_g hr, Rul5_s hr, Rul5_l hr, hx, J_lit 15, a5, ti1, J_lit 8, J_lit 31, a8, l_push0, Option.bind_some, xI, xU, xUt, xIt, J_lit, J_add, J_sub, J_mul, J_neg, J_ltc, J_lec, J_eqc, lt_T, lt_F, le_T, le_F, eq_T, eq_F, ↓reduceIte, ite_not, not_true_eq_false, not_false_eq_true, true_or, or_true, false_or, or_false, true_and, and_true, false_and, and_false, up_get, Nat.reduceEqDiff, Int.reduceNeg, eqN_T, eqN_F]
    · have es := stB_more (T := T) (fc := fc) (t := t) (st := st) hs.1 hs.2
      have ih := IH' _ es (by simp only [List.length_cons]; have := W3 (by omega); omega)
      rw [es]
      rw [enB] at ih
      rw [encS, if_neg (by omega), if_neg (by omega), if_pos (by omega)] at hx
      refine q_hol1 hr l0 l1 (X := 256 * t + 16 * (s - 200) + 2) (wh := s - 200) i0 (by omega) (by omega) he2 hx (by omega) (by omega) (by omega) hf ?_
      have a5 := J_mod16 (z := 256 * t + 16 * (s - 200) + 2) (by omega)
      rw [show (256 * t + 16 * (s - 200) + 2) % 16 = 2 by omega] at a5
      have a8 := J_shr8 (z := 256 * t + 16 * (s - 200) + 2) (by omega) (by omega)
      rw [show (256 * t + 16 * (s - 200) + 2) / 256 = t by omega] at a8
      have fb := hfc (s - 200) (by omega) (by omega)
      rw [if_pos (by omega)]
      refine De.cg 1 (fun n => ?_) ih
      rw [j_X5_holds_68]
      by_cases c : t < fc (s - 200)
      · rw [decide_eq_true c]
        simp (disch := omega) only [b_X5_holds_68, Rul0_k hr, Rul0_r0 hr, Rul0_r1 hr, Rul0_r2 hr, Rul0_i3 hr, Rul0_w3 hr, Rul0_r4 hr, Rul0_i5 hr, Rul0_w5 hr, Rul0_r6 hr, Rul0_i7 hr, Rul0_w7 hr, Rul1_g hr, Rul1_s hr, Rul1_l hr, Rul2_g hr, Rul2_s hr, Rul2_l hr, Rul3_g hr, Rul3_s hr, Rul3_l hr, Rul4_g hr, Rul4_s hr, Rul4_l hr, Rul5_g hr, Rul5_s hr, Rul5_l hr, hx, J_lit 15, a5, ti2, J_lit 8, J_lit 31, a8, l_push1, Option.bind_some, xI, xU, xUt, xIt, J_lit, J_add, J_sub, J_mul, J_neg, J_ltc, J_lec, J_eqc, lt_T, lt_F, le_T, le_F, eq_T, eq_F, ↓reduceIte, ite_not, not_true_eq_false, not_false_eq_true, true_or, or_true, false_or, or_false, true_and, and_true, false_and, and_false, up_get, Nat.reduceEqDiff, Int.reduceNeg, eqN_T, eqN_F]
      · rw [decide_eq_false c]
        simp (disch := omega) only [b_X5_holds_68, Rul0_k hr, Rul0_r0 hr, Rul0_r1 hr, Rul0_r2 hr, Rul0_i3 hr, Rul0_w3 hr, Rul0_r4 hr, Rul0_i5 hr, Rul0_w5 hr, Rul0_r6 hr, Rul0_i7 hr, Rul0_w7 hr, Rul1_g hr, Rul1_s hr, Rul1_l hr, Rul2_g hr, Rul2_s hr, Rul2_l hr, Rul3_g hr, Rul3_s hr, Rul3_l hr, Rul4_g hr, Rul4_s hr, Rul4_l hr, Rul5_g hr, Rul5_s hr, Rul5_l hr, hx, J_lit 15, a5, ti2, J_lit 8, J_lit 31, a8, l_push0, Option.bind_some, xI, xU, xUt, xIt, J_lit, J_add, J_sub, J_mul, J_neg, J_ltc, J_lec, J_eqc, lt_T, lt_F, le_T, le_F, eq_T, eq_F, ↓reduceIte, ite_not, not_true_eq_false, not_false_eq_true, true_or, or_true, false_or, or_false, true_and, and_true, false_and, and_false, up_get, Nat.reduceEqDiff, Int.reduceNeg, eqN_T, eqN_F]
    · rw [encS, if_neg (by omega), if_neg (by omega), if_neg (by omega)] at hx
      by_cases c1 : s = 300
      · subst c1
        match st, W1 rfl, hl, IH' with
        | b :: st, _, hl, IH' =>
          have es := stB_not (T := T) (fc := fc) (t := t) (b := b) (r := st) (s := 300) rfl
          have ih := IH' _ es hl
          rw [es]
          rw [enB] at ih ⊢
          refine q_hol1 hr l0 l1 (X := 3) (wh := 0) i0 (by omega) (by omega) he2 (by omega) (by omega) (by omega) (by omega) hf ?_
          have a5 := J_mod16 (z := 3) (by omega)
          rw [show (3 : Int) % 16 = 3 by omega] at a5
          refine De.cg 1 (fun n => ?_) ih
          rw [j_X5_holds_68]
          simp (disch := omega) only [b_X5_holds_68, Rul0_k hr, Rul0_r0 hr, Rul0_r1 hr, Rul0_r2 hr, Rul0_i3 hr, Rul0_w3 hr, Rul0_r4 hr, Rul0_i5 hr, Rul0_w5 hr, Rul0_r6 hr, Rul0_i7 hr, Rul0_w7 hr, Rul1_g hr, Rul1_s hr, Rul1_l hr, Rul2_g hr, Rul2_s hr, Rul2_l hr, Rul3_g hr, Rul3_s hr, Rul3_l hr, Rul4_g hr, Rul4_s hr, Rul4_l hr, Rul5_g hr, Rul5_s hr, Rul5_l hr, hx, J_lit 15, show (300 : Int) - 297 = 3 by omega, a5, ti3, l_not, Option.bind_some, xI, xU, xUt, xIt, J_lit, J_add, J_sub, J_mul, J_neg, J_ltc, J_lec, J_eqc, lt_T, lt_F, le_T, le_F, eq_T, eq_F, ↓reduceIte, ite_not, not_true_eq_false, not_false_eq_true, true_or, or_true, false_or, or_false, true_and, and_true, false_and, and_false, up_get, Nat.reduceEqDiff, Int.reduceNeg, eqN_T, eqN_F]
      · have c2 : s = 301 ∨ s = 302 := by omega
        match st, W2 (by omega), hl, IH' with
        | [b], w2, _, _ => simp at w2
        | b :: a :: st, _, hl, IH' =>
          have hl' : (a :: st).length ≤ 60 := by simp only [List.length_cons] at hl ⊢; omega
          have en := enB_62 (st := b :: a :: st) hl
          rw [enB, enB] at en
          rcases c2 with rfl | rfl
          · have es := stB_and (T := T) (fc := fc) (t := t) (a := a) (b := b) (r := st) (s := 301) rfl
            have ih := IH' _ es hl'
            rw [es]
            rw [enB] at ih
            rw [enB, enB]
            refine q_hol1 hr l0 l1 (X := 4) (wh := 0) i0 (by omega) (by omega) he2 (by omega) (by omega) (by omega) (by omega) hf ?_
            have a5 := J_mod16 (z := 4) (by omega)
            rw [show (4 : Int) % 16 = 4 by omega] at a5
            refine De.cg 1 (fun n => ?_) ih
            rw [j_X5_holds_68]
            simp (disch := omega) only [b_X5_holds_68, Rul0_k hr, Rul0_r0 hr, Rul0_r1 hr, Rul0_r2 hr, Rul0_i3 hr, Rul0_w3 hr, Rul0_r4 hr, Rul0_i5 hr, Rul0_w5 hr, Rul0_r6 hr, Rul0_i7 hr, Rul0_w7 hr, Rul1_g hr, Rul1_s hr, Rul1_l hr, Rul2_g hr, Rul2_s hr, Rul2_l hr, Rul3_g hr, Rul3_s hr, Rul3_l hr, Rul4_g hr, Rul4_s hr, Rul4_l hr, Rul5_g hr, Rul5_s hr, Rul5_l hr, hx, J_lit 15, show (301 : Int) - 297 = 4 by omega, a5, ti4, l_andT _ _ _ (show 2 * (2 * enB st + b1 a) + b1 b < 2 ^ 62 by omega), Option.bind_some, xI, xU, xUt, xIt, J_lit, J_add, J_sub, J_mul, J_neg, J_ltc, J_lec, J_eqc, lt_T, lt_F, le_T, le_F, eq_T, eq_F, ↓reduceIte, ite_not, not_true_eq_false, not_false_eq_true, true_or, or_true, false_or, or_false, true_and, and_true, false_and, and_false, up_get, Nat.reduceEqDiff, Int.reduceNeg, eqN_T, eqN_F]
          · have es := stB_or (T := T) (fc := fc) (t := t) (a := a) (b := b) (r := st) (s := 302) rfl
            have ih := IH' _ es hl'
            rw [es]
            rw [enB] at ih
            rw [enB, enB]
            refine q_hol1 hr l0 l1 (X := 5) (wh := 0) i0 (by omega) (by omega) he2 (by omega) (by omega) (by omega) (by omega) hf ?_
            have a5 := J_mod16 (z := 5) (by omega)
            rw [show (5 : Int) % 16 = 5 by omega] at a5
            refine De.cg 1 (fun n => ?_) ih
            rw [j_X5_holds_68]
            simp (disch := omega) only [b_X5_holds_68, Rul0_k hr, Rul0_r0 hr, Rul0_r1 hr, Rul0_r2 hr, Rul0_i3 hr, Rul0_w3 hr, Rul0_r4 hr, Rul0_i5 hr, Rul0_w5 hr, Rul0_r6 hr, Rul0_i7 hr, Rul0_w7 hr, Rul1_g hr, Rul1_s hr, Rul1_l hr, Rul2_g hr, Rul2_s hr, Rul2_l hr, Rul3_g hr, Rul3_s hr, Rul3_l hr, Rul4_g hr, Rul4_s hr, Rul4_l hr, Rul5_g hr, Rul5_s hr, Rul5_l hr, hx, J_lit 15, show (302 : Int) - 297 = 5 by omega, a5, ti5, l_orT _ _ _ (show 2 * (2 * enB st + b1 a) + b1 b < 2 ^ 62 by omega), Option.bind_some, xI, xU, xUt, xIt, J_lit, J_add, J_sub, J_mul, J_neg, J_ltc, J_lec, J_eqc, lt_T, lt_F, le_T, le_F, eq_T, eq_F, ↓reduceIte, ite_not, not_true_eq_false, not_false_eq_true, true_or, or_true, false_or, or_false, true_and, and_true, false_and, and_false, up_get, Nat.reduceEqDiff, Int.reduceNeg, eqN_T, eqN_F]
end HOLDS
