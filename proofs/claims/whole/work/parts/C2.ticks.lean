/-! ticks -/
def tkN (g : Int → Int) : Nat → (Int → Int) × (Int → Int) → (Int → Int) × (Int → Int)
  | 0, s => s
  | k + 1, s => if 400 ≤ s.2 0 then s else tkN g k (tkW g s.1 s.2, tkV g s.1 s.2)
section TICKS
variable {S : xH} {m m' m0 : Nat → Int → Int} {q q' : Nat → Int → Int64} {told N : Int} {w w' v v' g : Int → Int} {ln sp : Int} {kd nm bg so : Int → Int}
theorem q_ticksC (hs : Sk S) (N1 : N ≤ 40) : ∀ (k : Nat) (i : Int) (m : Nat → Int → Int) (q : Nat → Int → Int64) (w v : Int → Int), i + k = N → 0 ≤ i → TKi S m q w v g → ∃ m' q', De (fun n => f_X10_ticks n 9 [.ref 0, .int (J N), .int (J i)] (hp S m q)) (.inl (some (.int (J ((tkN g k (w, v)).2 0))))) (hp S m' q') ∧ TKi S m' q' (tkN g k (w, v)).1 (tkN g k (w, v)).2 g ∧ FrT m m' ∧ FrQ q q' := by
  intro k
  induction k with
  | zero =>
    intro i m q w v hi i0 T
    have n2 : m 46 2 = v 0 := T.1.2.2.2.1.1.2.1
    refine ⟨m, q, ?_, T, fun _ _ _ _ _ => rfl, fun _ _ _ _ _ => rfl⟩
    refine De.step ?_
    simp only [j_X10_ticks_9]
    simp (disch := omega) only [b_X10_ticks_9, x0_k hs, x0_r0 hs, x0_r1 hs, x0_r2 hs, x0_r3 hs, x9_k hs, x9_r0 hs, x9_r1 hs, x9_r2 hs, x9_r3 hs, x9_r4 hs, x9_r5 hs, x9_r6 hs, x9_r7 hs, x9_i8 hs, x9_w8 hs, x9_i9 hs, x9_w9 hs, x46_k hs, x46_r0 hs, x46_r1 hs, x46_i2 hs, x46_w2 hs, x46_i3 hs, x46_w3 hs, x46_i4 hs, x46_w4 hs, x46_r5 hs, x46_r6 hs, x46_r7 hs, x46_r8 hs, x46_r9 hs, x46_r10 hs, x46_r11 hs, x46_r12 hs, x46_r13 hs, x46_i14 hs, x46_w14 hs, x46_i15 hs, x46_w15 hs, x46_i16 hs, x46_w16 hs, n2, tkN, Option.bind_some, xI, xU, xUt, xIt, J_lit, J_add, J_sub, J_mul, J_neg, J_ltc, J_lec, J_eqc, lt_T, lt_F, le_T, le_F, eq_T, eq_F, ↓reduceIte, ite_not, not_true_eq_false, not_false_eq_true, true_or, or_true, false_or, or_false, true_and, and_true, false_and, and_false, up_get, Nat.reduceEqDiff, Int.reduceNeg, eqN_T, eqN_F]
    exact De.ret _ _
  | succ k IH =>
    intro i m q w v hi i0 T
    have n2 : m 46 2 = v 0 := T.1.2.2.2.1.1.2.1
    have v1 := T.1.2.2.2.1.vok.1
    by_cases c : 400 ≤ v 0
    · have e : tkN g (k + 1) (w, v) = (w, v) := if_pos c
      rw [e]
      refine ⟨m, q, ?_, T, fun _ _ _ _ _ => rfl, fun _ _ _ _ _ => rfl⟩
      refine De.step ?_
      simp only [j_X10_ticks_9]
      simp (disch := omega) only [b_X10_ticks_9, x0_k hs, x0_r0 hs, x0_r1 hs, x0_r2 hs, x0_r3 hs, x9_k hs, x9_r0 hs, x9_r1 hs, x9_r2 hs, x9_r3 hs, x9_r4 hs, x9_r5 hs, x9_r6 hs, x9_r7 hs, x9_i8 hs, x9_w8 hs, x9_i9 hs, x9_w9 hs, x46_k hs, x46_r0 hs, x46_r1 hs, x46_i2 hs, x46_w2 hs, x46_i3 hs, x46_w3 hs, x46_i4 hs, x46_w4 hs, x46_r5 hs, x46_r6 hs, x46_r7 hs, x46_r8 hs, x46_r9 hs, x46_r10 hs, x46_r11 hs, x46_r12 hs, x46_r13 hs, x46_i14 hs, x46_w14 hs, x46_i15 hs, x46_w15 hs, x46_i16 hs, x46_w16 hs, n2, Option.bind_some, xI, xU, xUt, xIt, J_lit, J_add, J_sub, J_mul, J_neg, J_ltc, J_lec, J_eqc, lt_T, lt_F, le_T, le_F, eq_T, eq_F, ↓reduceIte, ite_not, not_true_eq_false, not_false_eq_true, true_or, or_true, false_or, or_false, true_and, and_true, false_and, and_false, up_get, Nat.reduceEqDiff, Int.reduceNeg, eqN_T, eqN_F]
      exact De.ret _ _
    · have e : tkN g (k + 1) (w, v) = tkN g k (tkW g w v, tkV g w v) := if_neg c
      rw [e]
      obtain ⟨m1, q1, D1, T1, F1, G1⟩ := q_goOn hs T (by omega)
      obtain ⟨m', q', D', T', F', G'⟩ := IH (i + 1) m1 q1 _ _ (by omega) (by omega) T1
      refine ⟨m', q', ?_, T', fun b z h1 h2 h3 => (F' b z h1 h2 h3).trans (F1 b z h1 h2 h3), fun b h1 h2 h3 h4 => (G' b h1 h2 h3 h4).trans (G1 b h1 h2 h3 h4)⟩
      refine De.step ?_
      simp only [j_X10_ticks_9]
      simp (disch := omega) only [b_X10_ticks_9, x0_k hs, x0_r0 hs, x0_r1 hs, x0_r2 hs, x0_r3 hs, x9_k hs, x9_r0 hs, x9_r1 hs, x9_r2 hs, x9_r3 hs, x9_r4 hs, x9_r5 hs, x9_r6 hs, x9_r7 hs, x9_i8 hs, x9_w8 hs, x9_i9 hs, x9_w9 hs, x46_k hs, x46_r0 hs, x46_r1 hs, x46_i2 hs, x46_w2 hs, x46_i3 hs, x46_w3 hs, x46_i4 hs, x46_w4 hs, x46_r5 hs, x46_r6 hs, x46_r7 hs, x46_r8 hs, x46_r9 hs, x46_r10 hs, x46_r11 hs, x46_r12 hs, x46_r13 hs, x46_i14 hs, x46_w14 hs, x46_i15 hs, x46_w15 hs, x46_i16 hs, x46_w16 hs, n2, Option.bind_some, xI, xU, xUt, xIt, J_lit, J_add, J_sub, J_mul, J_neg, J_ltc, J_lec, J_eqc, lt_T, lt_F, le_T, le_F, eq_T, eq_F, ↓reduceIte, ite_not, not_true_eq_false, not_false_eq_true, true_or, or_true, false_or, or_false, true_and, and_true, false_and, and_false, up_get, Nat.reduceEqDiff, Int.reduceNeg, eqN_T, eqN_F]
      refine De.call D1 ?_
      simp (disch := omega) only [Option.bind_some, xI, xU, xUt, xIt, J_lit, J_add, J_sub, J_mul, J_neg, J_ltc, J_lec, J_eqc, lt_T, lt_F, le_T, le_F, eq_T, eq_F, ↓reduceIte, ite_not, not_true_eq_false, not_false_eq_true, true_or, or_true, false_or, or_false, true_and, and_true, false_and, and_false, up_get, Nat.reduceEqDiff, Int.reduceNeg, eqN_T, eqN_F]
      exact D'
/-- the numbers of the start are kept -/
theorem q_ticks43 (hs : Sk S) (z : Int32) : ∀ (k i : Nat) (m : Nat → Int → Int), i + k = 2301 → (∀ b j, b ≠ 139 → m b j = m0 b j) → (∀ j, m 139 j = if 1938 ≤ j ∧ j < 1938 + i then m0 137 (j - 1938) else m0 139 j) → ∃ m', (∀ b j, b ≠ 139 → m' b j = m0 b j) ∧ m' 139 = stW (m0 139) (m0 137) ∧ ∀ {r' : xR} {P' : xH}, De (fun n => f_X11_ticks n 74 [.ref 136, .int z, .int (J 0)] (hp S m' q)) r' P' → De (fun n => f_X11_ticks n 43 [.ref 136, .int z, .int (J i)] (hp S m q)) r' P' := by
  intro k
  induction k with
  | zero =>
    intro i m hi F G
    refine ⟨m, F, funext fun j => ?_, fun D => ?_⟩
    · rw [G j, stW, show (1938 + i : Int) = 4239 by omega]
    · refine De.step ?_
      simp only [j_X11_ticks_43]
      simp (disch := omega) only [b_X11_ticks_43, Option.bind_some, xI, xU, xUt, xIt, J_lit, J_add, J_sub, J_mul, J_neg, J_ltc, J_lec, J_eqc, lt_T, lt_F, le_T, le_F, eq_T, eq_F, ↓reduceIte, ite_not, not_true_eq_false, not_false_eq_true, true_or, or_true, false_or, or_false, true_and, and_true, false_and, and_false, up_get, Nat.reduceEqDiff, Int.reduceNeg, eqN_T, eqN_F]
      exact D
  | succ k IH =>
    intro i m hi F G
    obtain ⟨m', F', G', S'⟩ := IH (i + 1) (up m 139 (1938 + i) (m 137 i)) (by omega) (fun b j h => (up_a h).trans (F b j h)) (fun j => by
      by_cases c : j = 1938 + i
      · rw [c, up_at, if_pos (by omega), F 137 i (by decide)]
        congr 1
        omega
      · rw [up_i c, G j]
        by_cases d : 1938 ≤ j ∧ j < 1938 + i
        · rw [if_pos d, if_pos (by omega)]
        · rw [if_neg d, if_neg (by omega)])
    refine ⟨m', F', G', fun D => ?_⟩
    have Q := S' D
    refine De.step ?_
    simp only [j_X11_ticks_43]
    simp (disch := omega) only [b_X11_ticks_43, x136_k hs, x136_i0 hs, x136_w0 hs, x136_r1 hs, x136_r2 hs, x136_r3 hs, x136_r4 hs, x136_i5 hs, x136_w5 hs, x136_i6 hs, x136_w6 hs, x136_i7 hs, x136_w7 hs, x136_r8 hs, x136_i9 hs, x136_w9 hs, x136_i10 hs, x136_w10 hs, x136_i11 hs, x136_w11 hs, x136_i12 hs, x136_w12 hs, x136_i13 hs, x136_w13 hs, x136_i14 hs, x136_w14 hs, x136_r15 hs, x136_i16 hs, x136_w16 hs, x136_r17 hs, x136_r18 hs, x136_r19 hs, x136_r20 hs, x136_r21 hs, x136_i22 hs, x136_w22 hs, x136_r23 hs, x136_r24 hs, x136_i25 hs, x136_w25 hs, x136_i26 hs, x136_w26 hs, x136_r27 hs, x136_r28 hs, x136_i29 hs, x136_w29 hs, x137_g hs, x137_s hs, x137_l hs, x139_g hs, x139_s hs, x139_l hs, Option.bind_some, xI, xU, xUt, xIt, J_lit, J_add, J_sub, J_mul, J_neg, J_ltc, J_lec, J_eqc, lt_T, lt_F, le_T, le_F, eq_T, eq_F, ↓reduceIte, ite_not, not_true_eq_false, not_false_eq_true, true_or, or_true, false_or, or_false, true_and, and_true, false_and, and_false, up_get, Nat.reduceEqDiff, Int.reduceNeg, eqN_T, eqN_F]
    exact Q
theorem q_ticksM (hs : Sk S) (R : Rrul ln sp kd nm bg so g) (N1 : N ≤ 40) : ∀ (k : Nat) (i : Int) (m : Nat → Int → Int) (w v : Int → Int), i + k = N → 0 ≤ i → m 139 = tk0 w v → m 137 = v → VX (w 1) w v g → Kok w 0 → RulM m 0 g → m 136 7 = 0 → ∃ m', De (fun n => f_X11_ticks n 74 [.ref 136, .int (J N), .int (J i)] (hp S m q)) (.inl (some (.int (J ((tkN g k (w, v)).2 0))))) (hp S m' q) ∧ m' 139 = tk0 (tkN g k (w, v)).1 (tkN g k (w, v)).2 ∧ m' 137 = (tkN g k (w, v)).2 ∧ ∀ b j, b ≠ 137 → b ≠ 139 → b ≠ 143 → b ≠ 144 → b ≠ 145 → b ≠ 146 → m' b j = m b j := by
  intro k
  induction k with
  | zero =>
    intro i m w v hi i0 e9 e7 X K M h7
    refine ⟨m, ?_, e9, e7, fun _ _ _ _ _ _ _ _ => rfl⟩
    have DT := d_tick (q := q) (m := m) hs
    rw [e7] at DT
    refine De.step ?_
    simp only [j_X11_ticks_74]
    simp (disch := omega) only [b_X11_ticks_74, Option.bind_some, xI, xU, xUt, xIt, J_lit, J_add, J_sub, J_mul, J_neg, J_ltc, J_lec, J_eqc, lt_T, lt_F, le_T, le_F, eq_T, eq_F, ↓reduceIte, ite_not, not_true_eq_false, not_false_eq_true, true_or, or_true, false_or, or_false, true_and, and_true, false_and, and_false, up_get, Nat.reduceEqDiff, Int.reduceNeg, eqN_T, eqN_F]
    refine De.step ?_
    simp only [j_X11_ticks_139]
    simp (disch := omega) only [b_X11_ticks_139, x136_k hs, x136_i0 hs, x136_w0 hs, x136_r1 hs, x136_r2 hs, x136_r3 hs, x136_r4 hs, x136_i5 hs, x136_w5 hs, x136_i6 hs, x136_w6 hs, x136_i7 hs, x136_w7 hs, x136_r8 hs, x136_i9 hs, x136_w9 hs, x136_i10 hs, x136_w10 hs, x136_i11 hs, x136_w11 hs, x136_i12 hs, x136_w12 hs, x136_i13 hs, x136_w13 hs, x136_i14 hs, x136_w14 hs, x136_r15 hs, x136_i16 hs, x136_w16 hs, x136_r17 hs, x136_r18 hs, x136_r19 hs, x136_r20 hs, x136_r21 hs, x136_i22 hs, x136_w22 hs, x136_r23 hs, x136_r24 hs, x136_i25 hs, x136_w25 hs, x136_i26 hs, x136_w26 hs, x136_r27 hs, x136_r28 hs, x136_i29 hs, x136_w29 hs, Option.bind_some]
    refine De.call DT ?_
    simp (disch := omega) only [tkN, Option.bind_some, xI, xU, xUt, xIt, J_lit, J_add, J_sub, J_mul, J_neg, J_ltc, J_lec, J_eqc, lt_T, lt_F, le_T, le_F, eq_T, eq_F, ↓reduceIte, ite_not, not_true_eq_false, not_false_eq_true, true_or, or_true, false_or, or_false, true_and, and_true, false_and, and_false, up_get, Nat.reduceEqDiff, Int.reduceNeg, eqN_T, eqN_F]
    exact De.ret _ _
  | succ k IH =>
    intro i m w v hi i0 e9 e7 X K M h7
    have DT := d_tick (q := q) (m := m) hs
    rw [e7] at DT
    have v1 := X.vok.1
    by_cases c : 400 ≤ v 0
    · have e : tkN g (k + 1) (w, v) = (w, v) := if_pos c
      rw [e]
      refine ⟨m, ?_, e9, e7, fun _ _ _ _ _ _ _ _ => rfl⟩
      refine De.step ?_
      simp only [j_X11_ticks_74]
      simp (disch := omega) only [b_X11_ticks_74, x136_k hs, x136_i0 hs, x136_w0 hs, x136_r1 hs, x136_r2 hs, x136_r3 hs, x136_r4 hs, x136_i5 hs, x136_w5 hs, x136_i6 hs, x136_w6 hs, x136_i7 hs, x136_w7 hs, x136_r8 hs, x136_i9 hs, x136_w9 hs, x136_i10 hs, x136_w10 hs, x136_i11 hs, x136_w11 hs, x136_i12 hs, x136_w12 hs, x136_i13 hs, x136_w13 hs, x136_i14 hs, x136_w14 hs, x136_r15 hs, x136_i16 hs, x136_w16 hs, x136_r17 hs, x136_r18 hs, x136_r19 hs, x136_r20 hs, x136_r21 hs, x136_i22 hs, x136_w22 hs, x136_r23 hs, x136_r24 hs, x136_i25 hs, x136_w25 hs, x136_i26 hs, x136_w26 hs, x136_r27 hs, x136_r28 hs, x136_i29 hs, x136_w29 hs, Option.bind_some, xI, xU, xUt, xIt, J_lit, J_add, J_sub, J_mul, J_neg, J_ltc, J_lec, J_eqc, lt_T, lt_F, le_T, le_F, eq_T, eq_F, ↓reduceIte, ite_not, not_true_eq_false, not_false_eq_true, true_or, or_true, false_or, or_false, true_and, and_true, false_and, and_false, up_get, Nat.reduceEqDiff, Int.reduceNeg, eqN_T, eqN_F]
      refine De.call DT ?_
      simp (disch := omega) only [Option.bind_some, xI, xU, xUt, xIt, J_lit, J_add, J_sub, J_mul, J_neg, J_ltc, J_lec, J_eqc, lt_T, lt_F, le_T, le_F, eq_T, eq_F, ↓reduceIte, ite_not, not_true_eq_false, not_false_eq_true, true_or, or_true, false_or, or_false, true_and, and_true, false_and, and_false, up_get, Nat.reduceEqDiff, Int.reduceNeg, eqN_T, eqN_F]
      refine De.step ?_
      simp only [j_X11_ticks_139]
      simp (disch := omega) only [b_X11_ticks_139, x136_k hs, x136_i0 hs, x136_w0 hs, x136_r1 hs, x136_r2 hs, x136_r3 hs, x136_r4 hs, x136_i5 hs, x136_w5 hs, x136_i6 hs, x136_w6 hs, x136_i7 hs, x136_w7 hs, x136_r8 hs, x136_i9 hs, x136_w9 hs, x136_i10 hs, x136_w10 hs, x136_i11 hs, x136_w11 hs, x136_i12 hs, x136_w12 hs, x136_i13 hs, x136_w13 hs, x136_i14 hs, x136_w14 hs, x136_r15 hs, x136_i16 hs, x136_w16 hs, x136_r17 hs, x136_r18 hs, x136_r19 hs, x136_r20 hs, x136_r21 hs, x136_i22 hs, x136_w22 hs, x136_r23 hs, x136_r24 hs, x136_i25 hs, x136_w25 hs, x136_i26 hs, x136_w26 hs, x136_r27 hs, x136_r28 hs, x136_i29 hs, x136_w29 hs, Option.bind_some]
      refine De.call DT ?_
      simp (disch := omega) only [Option.bind_some, xI, xU, xUt, xIt, J_lit, J_add, J_sub, J_mul, J_neg, J_ltc, J_lec, J_eqc, lt_T, lt_F, le_T, le_F, eq_T, eq_F, ↓reduceIte, ite_not, not_true_eq_false, not_false_eq_true, true_or, or_true, false_or, or_false, true_and, and_true, false_and, and_false, up_get, Nat.reduceEqDiff, Int.reduceNeg, eqN_T, eqN_F]
      exact De.ret _ _
    · have e : tkN g (k + 1) (w, v) = tkN g k (tkW g w v, tkV g w v) := if_neg c
      rw [e]
      have eo : ∀ i, i < 1136 → tk0 w v i = w i := fun i h => tk0_o (by omega)
      obtain ⟨X2, s0, -⟩ := tkV_st X R K (by omega)
      have W2 := X2.wok
      have tw0 := W2.1.1
      have tw := W2.1.2.1
      have w1 := W2.2.1
      have ai := alS_in (v := tkV g w v) ⟨tw0, tw⟩ w1
      obtain ⟨m1, D1, A1, F1⟩ := q_goesM (q := q) (m := m) (l := 0) (told := w 1) (g := g) hs R (by rw [e9, e7]; exact X.wd eo) M (by rw [e9]; exact K.wd (by decide) (by decide) eo) h7 (by decide) (by decide) (by rw [e7]; omega)
      have A1' : m1 137 = tkV g w v := by rw [A1, e9, e7]; rfl
      have f9 : m1 139 = tk0 w v := (F1.row (by decide) (by decide) (by decide) (by decide) (by decide)).trans e9
      have T1 := d_tick (q := q) (m := m1) hs
      rw [A1', s0] at T1
      have Q1 := q_allCopies (m := m1) (q := q) hs (by
        rw [A1']
        intro p x p0 p1 x0 x1
        exact (X2.vok.2.2 p x p0 p1 x0 x1).1) (by rw [f9]; exact tw) (by rw [f9]; exact w1.2) (tk0 w v 1).toNat (by rw [f9]; omega) (tk0 w v 0).toNat (by rw [f9]; omega) (by omega)
      rw [A1'] at Q1
      have Q1' : De (fun n => f_X11_allCopies n 0 [.ref 136] (hp S m1 q)) (.inl (some (.int (J (alS (tk0 w v) (tkV g w v)))))) (hp S m1 q) := Q1
      have g7 : up m1 139 (1136 + 2 * (v 0 + 1)) (alS (tk0 w v) (tkV g w v)) 137 = tkV g w v := (up_row (by decide)).trans A1'
      have g9 : ∀ z, z < 1136 → up m1 139 (1136 + 2 * (v 0 + 1)) (alS (tk0 w v) (tkV g w v)) 139 z = tk0 w v z := fun z hz => by rw [up_i (by omega), f9]
      have T2 := d_tick (q := q) (m := up m1 139 (1136 + 2 * (v 0 + 1)) (alS (tk0 w v) (tkV g w v))) hs
      rw [g7, s0] at T2
      have Q2 := q_allCopies (m := up m1 139 (1136 + 2 * (v 0 + 1)) (alS (tk0 w v) (tkV g w v))) (q := q) hs (by
        rw [g7]
        intro p x p0 p1 x0 x1
        exact (X2.vok.2.2 p x p0 p1 x0 x1).1) (by rw [g9 0 (by decide)]; exact tw) (by rw [g9 1 (by decide)]; exact w1.2) (tk0 w v 1).toNat (by rw [g9 1 (by decide)]; omega) (tk0 w v 0).toNat (by rw [g9 0 (by decide)]; omega) (by omega)
      rw [g7] at Q2
      have Q2' : De (fun n => f_X11_allCopies n 0 [.ref 136] (hp S (up m1 139 (1136 + 2 * (v 0 + 1)) (alS (tk0 w v) (tkV g w v))) q)) (.inl (some (.int (J (alS (tk0 w v) (tkV g w v)))))) (hp S (up m1 139 (1136 + 2 * (v 0 + 1)) (alS (tk0 w v) (tkV g w v))) q) := Q2
      have h9 : up (up m1 139 (1136 + 2 * (v 0 + 1)) (alS (tk0 w v) (tkV g w v))) 139 (1136 + 2 * (v 0 + 1) + 1) (alS (tk0 w v) (tkV g w v)) 139 = tkW g w v := by
        rw [row_up, row_up, f9]
        rfl
      have h7' : up (up m1 139 (1136 + 2 * (v 0 + 1)) (alS (tk0 w v) (tkV g w v))) 139 (1136 + 2 * (v 0 + 1) + 1) (alS (tk0 w v) (tkV g w v)) 137 = tkV g w v := (up_row (by decide)).trans g7
      have eW : ∀ i, i < 1136 → tkW g w v i = tk0 w v i := fun i h => by
        unfold tkW
        rw [ups_ne (by omega), ups_ne (by omega)]
      have e1 : tkW g w v 1 = w 1 := (eW 1 (by decide)).trans (eo 1 (by decide))
      have eN : tk0 (tkW g w v) (tkV g w v) = tkW g w v := if_neg (by rw [s0]; omega)
      obtain ⟨m', D', A9, A7, F'⟩ := IH (i + 1) (up (up m1 139 (1136 + 2 * (v 0 + 1)) (alS (tk0 w v) (tkV g w v))) 139 (1136 + 2 * (v 0 + 1) + 1) (alS (tk0 w v) (tkV g w v))) (tkW g w v) (tkV g w v) (by omega) (by omega) (by rw [h9, eN]) h7' (by rw [e1]; exact X2.wd eW) ((K.wd (by decide) (by decide) eo).wd (by decide) (by decide) eW) ⟨by rw [up_a (by decide), up_a (by decide), F1 136 6 (by decide) (by decide) (by decide) (by decide) (by decide)]; exact M.1, by decide, by decide, fun z z0 z1 => by rw [up_i (by omega), up_i (by omega), F1 139 _ (by decide) (by decide) (by decide) (by decide) (by decide)]; exact M.2.2.2 z z0 z1⟩ (by rw [up_a (by decide), up_a (by decide), F1 136 7 (by decide) (by decide) (by decide) (by decide) (by decide)]; exact h7)
      refine ⟨m', ?_, A9, A7, fun b j h1 h2 h3 h4 h5 h6 => (F' b j h1 h2 h3 h4 h5 h6).trans ((up_a h2).trans ((up_a h2).trans (F1 b j h1 h3 h4 h5 h6)))⟩
      refine De.step ?_
      simp only [j_X11_ticks_74]
      simp (disch := omega) only [b_X11_ticks_74, x136_k hs, x136_i0 hs, x136_w0 hs, x136_r1 hs, x136_r2 hs, x136_r3 hs, x136_r4 hs, x136_i5 hs, x136_w5 hs, x136_i6 hs, x136_w6 hs, x136_i7 hs, x136_w7 hs, x136_r8 hs, x136_i9 hs, x136_w9 hs, x136_i10 hs, x136_w10 hs, x136_i11 hs, x136_w11 hs, x136_i12 hs, x136_w12 hs, x136_i13 hs, x136_w13 hs, x136_i14 hs, x136_w14 hs, x136_r15 hs, x136_i16 hs, x136_w16 hs, x136_r17 hs, x136_r18 hs, x136_r19 hs, x136_r20 hs, x136_r21 hs, x136_i22 hs, x136_w22 hs, x136_r23 hs, x136_r24 hs, x136_i25 hs, x136_w25 hs, x136_i26 hs, x136_w26 hs, x136_r27 hs, x136_r28 hs, x136_i29 hs, x136_w29 hs, Option.bind_some, xI, xU, xUt, xIt, J_lit, J_add, J_sub, J_mul, J_neg, J_ltc, J_lec, J_eqc, lt_T, lt_F, le_T, le_F, eq_T, eq_F, ↓reduceIte, ite_not, not_true_eq_false, not_false_eq_true, true_or, or_true, false_or, or_false, true_and, and_true, false_and, and_false, up_get, Nat.reduceEqDiff, Int.reduceNeg, eqN_T, eqN_F]
      refine De.call DT ?_
      simp (disch := omega) only [x136_k hs, x136_i0 hs, x136_w0 hs, x136_r1 hs, x136_r2 hs, x136_r3 hs, x136_r4 hs, x136_i5 hs, x136_w5 hs, x136_i6 hs, x136_w6 hs, x136_i7 hs, x136_w7 hs, x136_r8 hs, x136_i9 hs, x136_w9 hs, x136_i10 hs, x136_w10 hs, x136_i11 hs, x136_w11 hs, x136_i12 hs, x136_w12 hs, x136_i13 hs, x136_w13 hs, x136_i14 hs, x136_w14 hs, x136_r15 hs, x136_i16 hs, x136_w16 hs, x136_r17 hs, x136_r18 hs, x136_r19 hs, x136_r20 hs, x136_r21 hs, x136_i22 hs, x136_w22 hs, x136_r23 hs, x136_r24 hs, x136_i25 hs, x136_w25 hs, x136_i26 hs, x136_w26 hs, x136_r27 hs, x136_r28 hs, x136_i29 hs, x136_w29 hs, Option.bind_some, xI, xU, xUt, xIt, J_lit, J_add, J_sub, J_mul, J_neg, J_ltc, J_lec, J_eqc, lt_T, lt_F, le_T, le_F, eq_T, eq_F, ↓reduceIte, ite_not, not_true_eq_false, not_false_eq_true, true_or, or_true, false_or, or_false, true_and, and_true, false_and, and_false, up_get, Nat.reduceEqDiff, Int.reduceNeg, eqN_T, eqN_F]
      refine De.call D1 ?_
      simp (disch := omega) only [x136_k hs, x136_i0 hs, x136_w0 hs, x136_r1 hs, x136_r2 hs, x136_r3 hs, x136_r4 hs, x136_i5 hs, x136_w5 hs, x136_i6 hs, x136_w6 hs, x136_i7 hs, x136_w7 hs, x136_r8 hs, x136_i9 hs, x136_w9 hs, x136_i10 hs, x136_w10 hs, x136_i11 hs, x136_w11 hs, x136_i12 hs, x136_w12 hs, x136_i13 hs, x136_w13 hs, x136_i14 hs, x136_w14 hs, x136_r15 hs, x136_i16 hs, x136_w16 hs, x136_r17 hs, x136_r18 hs, x136_r19 hs, x136_r20 hs, x136_r21 hs, x136_i22 hs, x136_w22 hs, x136_r23 hs, x136_r24 hs, x136_i25 hs, x136_w25 hs, x136_i26 hs, x136_w26 hs, x136_r27 hs, x136_r28 hs, x136_i29 hs, x136_w29 hs, Option.bind_some, xI, xU, xUt, xIt, J_lit, J_add, J_sub, J_mul, J_neg, J_ltc, J_lec, J_eqc, lt_T, lt_F, le_T, le_F, eq_T, eq_F, ↓reduceIte, ite_not, not_true_eq_false, not_false_eq_true, true_or, or_true, false_or, or_false, true_and, and_true, false_and, and_false, up_get, Nat.reduceEqDiff, Int.reduceNeg, eqN_T, eqN_F]
      refine De.call T1 ?_
      simp (disch := omega) only [x136_k hs, x136_i0 hs, x136_w0 hs, x136_r1 hs, x136_r2 hs, x136_r3 hs, x136_r4 hs, x136_i5 hs, x136_w5 hs, x136_i6 hs, x136_w6 hs, x136_i7 hs, x136_w7 hs, x136_r8 hs, x136_i9 hs, x136_w9 hs, x136_i10 hs, x136_w10 hs, x136_i11 hs, x136_w11 hs, x136_i12 hs, x136_w12 hs, x136_i13 hs, x136_w13 hs, x136_i14 hs, x136_w14 hs, x136_r15 hs, x136_i16 hs, x136_w16 hs, x136_r17 hs, x136_r18 hs, x136_r19 hs, x136_r20 hs, x136_r21 hs, x136_i22 hs, x136_w22 hs, x136_r23 hs, x136_r24 hs, x136_i25 hs, x136_w25 hs, x136_i26 hs, x136_w26 hs, x136_r27 hs, x136_r28 hs, x136_i29 hs, x136_w29 hs, Option.bind_some, xI, xU, xUt, xIt, J_lit, J_add, J_sub, J_mul, J_neg, J_ltc, J_lec, J_eqc, lt_T, lt_F, le_T, le_F, eq_T, eq_F, ↓reduceIte, ite_not, not_true_eq_false, not_false_eq_true, true_or, or_true, false_or, or_false, true_and, and_true, false_and, and_false, up_get, Nat.reduceEqDiff, Int.reduceNeg, eqN_T, eqN_F]
      refine De.call Q1' ?_
      simp (disch := omega) only [x136_k hs, x136_i0 hs, x136_w0 hs, x136_r1 hs, x136_r2 hs, x136_r3 hs, x136_r4 hs, x136_i5 hs, x136_w5 hs, x136_i6 hs, x136_w6 hs, x136_i7 hs, x136_w7 hs, x136_r8 hs, x136_i9 hs, x136_w9 hs, x136_i10 hs, x136_w10 hs, x136_i11 hs, x136_w11 hs, x136_i12 hs, x136_w12 hs, x136_i13 hs, x136_w13 hs, x136_i14 hs, x136_w14 hs, x136_r15 hs, x136_i16 hs, x136_w16 hs, x136_r17 hs, x136_r18 hs, x136_r19 hs, x136_r20 hs, x136_r21 hs, x136_i22 hs, x136_w22 hs, x136_r23 hs, x136_r24 hs, x136_i25 hs, x136_w25 hs, x136_i26 hs, x136_w26 hs, x136_r27 hs, x136_r28 hs, x136_i29 hs, x136_w29 hs, x139_g hs, x139_s hs, x139_l hs, Option.bind_some, xI, xU, xUt, xIt, J_lit, J_add, J_sub, J_mul, J_neg, J_ltc, J_lec, J_eqc, lt_T, lt_F, le_T, le_F, eq_T, eq_F, ↓reduceIte, ite_not, not_true_eq_false, not_false_eq_true, true_or, or_true, false_or, or_false, true_and, and_true, false_and, and_false, up_get, Nat.reduceEqDiff, Int.reduceNeg, eqN_T, eqN_F]
      refine De.call T2 ?_
      simp (disch := omega) only [x136_k hs, x136_i0 hs, x136_w0 hs, x136_r1 hs, x136_r2 hs, x136_r3 hs, x136_r4 hs, x136_i5 hs, x136_w5 hs, x136_i6 hs, x136_w6 hs, x136_i7 hs, x136_w7 hs, x136_r8 hs, x136_i9 hs, x136_w9 hs, x136_i10 hs, x136_w10 hs, x136_i11 hs, x136_w11 hs, x136_i12 hs, x136_w12 hs, x136_i13 hs, x136_w13 hs, x136_i14 hs, x136_w14 hs, x136_r15 hs, x136_i16 hs, x136_w16 hs, x136_r17 hs, x136_r18 hs, x136_r19 hs, x136_r20 hs, x136_r21 hs, x136_i22 hs, x136_w22 hs, x136_r23 hs, x136_r24 hs, x136_i25 hs, x136_w25 hs, x136_i26 hs, x136_w26 hs, x136_r27 hs, x136_r28 hs, x136_i29 hs, x136_w29 hs, Option.bind_some, xI, xU, xUt, xIt, J_lit, J_add, J_sub, J_mul, J_neg, J_ltc, J_lec, J_eqc, lt_T, lt_F, le_T, le_F, eq_T, eq_F, ↓reduceIte, ite_not, not_true_eq_false, not_false_eq_true, true_or, or_true, false_or, or_false, true_and, and_true, false_and, and_false, up_get, Nat.reduceEqDiff, Int.reduceNeg, eqN_T, eqN_F]
      refine De.call Q2' ?_
      simp (disch := omega) only [x136_k hs, x136_i0 hs, x136_w0 hs, x136_r1 hs, x136_r2 hs, x136_r3 hs, x136_r4 hs, x136_i5 hs, x136_w5 hs, x136_i6 hs, x136_w6 hs, x136_i7 hs, x136_w7 hs, x136_r8 hs, x136_i9 hs, x136_w9 hs, x136_i10 hs, x136_w10 hs, x136_i11 hs, x136_w11 hs, x136_i12 hs, x136_w12 hs, x136_i13 hs, x136_w13 hs, x136_i14 hs, x136_w14 hs, x136_r15 hs, x136_i16 hs, x136_w16 hs, x136_r17 hs, x136_r18 hs, x136_r19 hs, x136_r20 hs, x136_r21 hs, x136_i22 hs, x136_w22 hs, x136_r23 hs, x136_r24 hs, x136_i25 hs, x136_w25 hs, x136_i26 hs, x136_w26 hs, x136_r27 hs, x136_r28 hs, x136_i29 hs, x136_w29 hs, x139_g hs, x139_s hs, x139_l hs, Option.bind_some, xI, xU, xUt, xIt, J_lit, J_add, J_sub, J_mul, J_neg, J_ltc, J_lec, J_eqc, lt_T, lt_F, le_T, le_F, eq_T, eq_F, ↓reduceIte, ite_not, not_true_eq_false, not_false_eq_true, true_or, or_true, false_or, or_false, true_and, and_true, false_and, and_false, up_get, Nat.reduceEqDiff, Int.reduceNeg, eqN_T, eqN_F]
      exact D'
/-- behind one tick at least -/
theorem tkN_o (R : Rrul ln sp kd nm bg so g) : ∀ (k : Nat) (w v : Int → Int), VX (w 1) w v g → Kok w 0 → (∀ i, (i < 1136 ∨ 4239 ≤ i) → (tkN g k (w, v)).1 i = w i) ∧ v 0 ≤ (tkN g k (w, v)).2 0 ∧ (0 < k → (tkN g k (w, v)).2 0 ≠ 0)
  | 0, w, v, _, _ => ⟨fun _ _ => rfl, Int.le_refl _, fun h => absurd h (by omega)⟩
  | k + 1, w, v, X, K => by
    have v1 := X.vok.1
    by_cases c : 400 ≤ v 0
    · have e : tkN g (k + 1) (w, v) = (w, v) := if_pos c
      rw [e]
      exact ⟨fun _ _ => rfl, Int.le_refl _, fun _ => show v 0 ≠ 0 by omega⟩
    · have e : tkN g (k + 1) (w, v) = tkN g k (tkW g w v, tkV g w v) := if_neg c
      rw [e]
      obtain ⟨X2, s0, -⟩ := tkV_st X R K (by omega)
      have eo : ∀ i, i < 1136 → tk0 w v i = w i := fun i h => tk0_o (by omega)
      have eW : ∀ i, (i < 1136 ∨ 4239 ≤ i) → tkW g w v i = tk0 w v i := fun i h => by
        unfold tkW
        rw [ups_ne (by omega), ups_ne (by omega)]
      have e1 : tkW g w v 1 = w 1 := (eW 1 (by decide)).trans (eo 1 (by decide))
      obtain ⟨h1, h2, h3⟩ := tkN_o R k (tkW g w v) (tkV g w v) (by rw [e1]; exact X2.wd (fun i h => eW i (Or.inl h))) ((K.wd (by decide) (by decide) eo).wd (by decide) (by decide) (fun i h => eW i (Or.inl h)))
      rw [s0] at h2
      exact ⟨fun i h => (h1 i h).trans ((eW i h).trans (tk0_o (by omega))), by omega, fun _ => by omega⟩
end TICKS
