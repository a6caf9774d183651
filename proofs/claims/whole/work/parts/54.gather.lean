/-! gathering, class and reference -/
section GATHER2
variable {S : xH} {m : Nat → Int → Int} {q : Nat → Int → Int64} {kn pe : Int}
theorem Gok.row {m mc : Nat → Int → Int} (g : Gok m) (e : ∀ b, (b = 139 ∨ b = 137 ∨ (16 ≤ b ∧ b ≤ 26) ∨ b = 64) → mc b = m b) : Gok mc := by
  unfold Gok
  rw [e 139 (by omega), e 137 (by omega), e 16 (by omega), e 18 (by omega), e 22 (by omega), e 26 (by omega), e 64 (by omega)]
  exact g
theorem q_gather_l (hs : Sk S) (g : Gok m) (k0 : -2147483648 ≤ kn) (k1 : kn < 2147483648) (e0 : 0 ≤ pe) (e1 : pe < 16) (N : Nat) (hN : (N : Int) = m 139 1) : ∀ (k i : Nat) (mc : Nat → Int → Int), i + k = N → (∀ b j, b ≠ 133 → b ≠ 134 → mc b j = m b j) → mc 133 4 = gN (m 139) (m 137) pe kn N i → (∀ t, 0 ≤ t → t < gN (m 139) (m 137) pe kn N i → mc 134 t = gE (m 139) (m 137) pe kn N i t) → ∃ m', De (fun n => f_X6_gather n 7 [.ref 133, .int (J pe), .int (J kn), .int (J i)] (hp S mc q)) (.inl none) (hp S m' q) ∧ (∀ b j, b ≠ 133 → b ≠ 134 → m' b j = m b j) ∧ m' 133 4 = gN (m 139) (m 137) pe kn N N ∧ (∀ t, 0 ≤ t → t < gN (m 139) (m 137) pe kn N N → m' 134 t = gE (m 139) (m 137) pe kn N N t)
  | 0, i, mc, h, fr, hc, he => by
    have h : i = N := by omega
    subst h
    have g1 := g.1
    have er := fr 16 3 (by decide) (by decide)
    refine ⟨mc, ?_, fr, hc, he⟩
    refine De.stepk 3 ?_
    simp only [j_X6_gather_7]
    simp (disch := omega) only [b_X6_gather_7, x133_k hs, x133_r0 hs, x133_r1 hs, x133_r2 hs, x133_r3 hs, x133_i4 hs, x133_w4 hs, x16_k hs, x16_r0 hs, x16_r1 hs, x16_r2 hs, x16_i3 hs, x16_w3 hs, Option.bind_some, xI, xU, xUt, xIt, J_lit, J_add, J_sub, J_mul, J_neg, J_ltc, J_lec, J_eqc, lt_T, lt_F, le_T, le_F, eq_T, eq_F, ↓reduceIte, ite_not, not_true_eq_false, not_false_eq_true, true_or, or_true, false_or, or_false, true_and, and_true, false_and, and_false, up_get, Nat.reduceEqDiff, Int.reduceNeg, eqN_T, eqN_F]
    exact De.ret _ _
  | k + 1, i, mc, h, fr, hc, he => by
    have g1 := g.1
    have er : ∀ b, b ≠ 133 → b ≠ 134 → mc b = m b := fun b h1 h2 => funext fun j => fr b j h1 h2
    have gc : Gok mc := g.row (fun b hb => er b (by omega) (by omega))
    have r9 := er 139 (by decide) (by decide)
    have r7 := er 137 (by decide) (by decide)
    have b1 := gN_in (m 139) (m 137) pe kn N i
    obtain ⟨⟨f0, f4, f8, fh⟩, r1, r2, r3, r4, r5, r6, rh1, rh2⟩ := g.2 i (by omega) (by omega)
    rw [← fr 18 i (by decide) (by decide), ← fr 22 i (by decide) (by decide), ← fr 26 i (by decide) (by decide), ← fr 64 i (by decide) (by decide)] at *
    have n1 : mc 16 3 = m 139 1 := (fr 16 3 (by decide) (by decide)).trans g1.2.2
    have U := q_isUndone (q := q) (kn := kn) (x := i) hs gc (by omega) (by rw [r9]; omega) k0 k1 N (by rw [r9]; exact hN)
    rw [r9, r7] at U
    by_cases c1 : m 139 (761 + 10 * i + 0) ≤ 1
    · by_cases c2 : m 139 (761 + 10 * i + 4) = pe
      · by_cases c3 : 0 ≤ m 137 (2151 + 5 * i + 0) ∧ m 137 (2151 + 5 * i + 0) ≤ kn
        · cases c4 : anyU (m 139) (m 137) kn i N 0 with
          | true =>
            have sb : sayB (m 139) (m 137) pe kn N i = false := by
              unfold sayB
              rw [c4]
              simp
            obtain ⟨m', D, p1, p2, p3⟩ := q_gather_l hs g k0 k1 e0 e1 N hN k (i + 1) mc (by omega) fr (by rw [gN, if_neg (by rw [sb]; decide), Int.add_zero]; exact hc) (fun t t0 t1 => by
              rw [gN, if_neg (by rw [sb]; decide), Int.add_zero] at t1
              rw [gE, if_neg (by rw [sb]; exact fun z => absurd z.1 (by decide))]
              exact he t t0 t1)
            refine ⟨m', ?_, p1, p2, p3⟩
            refine De.stepk 9 ?_
            simp only [j_X6_gather_7]
            simp (disch := omega) only [b_X6_gather_7, x133_k hs, x133_r0 hs, x133_r1 hs, x133_r2 hs, x133_r3 hs, x133_i4 hs, x133_w4 hs, x16_k hs, x16_r0 hs, x16_r1 hs, x16_r2 hs, x16_i3 hs, x16_w3 hs, x17_m0 hs, x17_m1 hs, x17_m2 hs, x17_m3 hs, x17_m4 hs, x17_m5 hs, x17_m6 hs, x17_m7 hs, x17_m8 hs, x17_l hs, x18_g hs, x18_s hs, x18_l hs, x22_g hs, x22_s hs, x22_l hs, Option.bind_some, xI, xU, xUt, xIt, J_lit, J_add, J_sub, J_mul, J_neg, J_ltc, J_lec, J_eqc, lt_T, lt_F, le_T, le_F, eq_T, eq_F, ↓reduceIte, ite_not, not_true_eq_false, not_false_eq_true, true_or, or_true, false_or, or_false, true_and, and_true, false_and, and_false, up_get, Nat.reduceEqDiff, Int.reduceNeg, eqN_T, eqN_F]
            simp only [j_X6_gather_53]
            simp (disch := omega) only [b_X6_gather_53, x133_k hs, x133_r0 hs, x133_r1 hs, x133_r2 hs, x133_r3 hs, x133_i4 hs, x133_w4 hs, e_isKnown_T hs, Option.bind_some, xI, xU, xUt, xIt, J_lit, J_add, J_sub, J_mul, J_neg, J_ltc, J_lec, J_eqc, lt_T, lt_F, le_T, le_F, eq_T, eq_F, ↓reduceIte, ite_not, not_true_eq_false, not_false_eq_true, true_or, or_true, false_or, or_false, true_and, and_true, false_and, and_false, up_get, Nat.reduceEqDiff, Int.reduceNeg, eqN_T, eqN_F]
            rw [c4] at U
            refine De.call (U.sh 7) ?_
            simp only [xI, if_true]
            simp (disch := omega) only [Option.bind_some, xI, xU, xUt, xIt, J_lit, J_add, J_sub, J_mul, J_neg, J_ltc, J_lec, J_eqc, lt_T, lt_F, le_T, le_F, eq_T, eq_F, ↓reduceIte, ite_not, not_true_eq_false, not_false_eq_true, true_or, or_true, false_or, or_false, true_and, and_true, false_and, and_false, up_get, Nat.reduceEqDiff, Int.reduceNeg, eqN_T, eqN_F]
            exact D.sh 7
          | false =>
            have sb : sayB (m 139) (m 137) pe kn N i = true := by
              unfold sayB
              rw [c4, decide_eq_true c1, decide_eq_true c2, decide_eq_true c3]
              rfl
            obtain ⟨m', D, p1, p2, p3⟩ := q_gather_l hs g k0 k1 e0 e1 N hN k (i + 1) (up (up mc 134 (gN (m 139) (m 137) pe kn N i) i) 133 4 (gN (m 139) (m 137) pe kn N i + 1)) (by omega) (fun b j h1 h2 => by
              rw [up_a h1, up_a h2]
              exact fr b j h1 h2) (by
              rw [gN, if_pos sb, up_at]) (fun t t0 t1 => by
              rw [gN, if_pos sb] at t1
              rw [gE, up_a (by decide)]
              by_cases d : t = gN (m 139) (m 137) pe kn N i
              · rw [if_pos ⟨sb, d⟩, d, up_at]
              · rw [if_neg (fun z => d z.2), up_i d]
                exact he t t0 (by omega))
            refine ⟨m', ?_, p1, p2, p3⟩
            refine De.stepk 9 ?_
            simp only [j_X6_gather_7]
            simp (disch := omega) only [b_X6_gather_7, x133_k hs, x133_r0 hs, x133_r1 hs, x133_r2 hs, x133_r3 hs, x133_i4 hs, x133_w4 hs, x16_k hs, x16_r0 hs, x16_r1 hs, x16_r2 hs, x16_i3 hs, x16_w3 hs, x17_m0 hs, x17_m1 hs, x17_m2 hs, x17_m3 hs, x17_m4 hs, x17_m5 hs, x17_m6 hs, x17_m7 hs, x17_m8 hs, x17_l hs, x18_g hs, x18_s hs, x18_l hs, x22_g hs, x22_s hs, x22_l hs, Option.bind_some, xI, xU, xUt, xIt, J_lit, J_add, J_sub, J_mul, J_neg, J_ltc, J_lec, J_eqc, lt_T, lt_F, le_T, le_F, eq_T, eq_F, ↓reduceIte, ite_not, not_true_eq_false, not_false_eq_true, true_or, or_true, false_or, or_false, true_and, and_true, false_and, and_false, up_get, Nat.reduceEqDiff, Int.reduceNeg, eqN_T, eqN_F]
            simp only [j_X6_gather_53]
            simp (disch := omega) only [b_X6_gather_53, x133_k hs, x133_r0 hs, x133_r1 hs, x133_r2 hs, x133_r3 hs, x133_i4 hs, x133_w4 hs, e_isKnown_T hs, Option.bind_some, xI, xU, xUt, xIt, J_lit, J_add, J_sub, J_mul, J_neg, J_ltc, J_lec, J_eqc, lt_T, lt_F, le_T, le_F, eq_T, eq_F, ↓reduceIte, ite_not, not_true_eq_false, not_false_eq_true, true_or, or_true, false_or, or_false, true_and, and_true, false_and, and_false, up_get, Nat.reduceEqDiff, Int.reduceNeg, eqN_T, eqN_F]
            rw [c4] at U
            refine De.call (U.sh 7) ?_
            simp only [xI, Bool.false_eq_true, if_false]
            simp (disch := omega) only [x133_k hs, x133_r0 hs, x133_r1 hs, x133_r2 hs, x133_r3 hs, x133_i4 hs, x133_w4 hs, x134_g hs, x134_s hs, x134_l hs, hc, Option.bind_some, xI, xU, xUt, xIt, J_lit, J_add, J_sub, J_mul, J_neg, J_ltc, J_lec, J_eqc, lt_T, lt_F, le_T, le_F, eq_T, eq_F, ↓reduceIte, ite_not, not_true_eq_false, not_false_eq_true, true_or, or_true, false_or, or_false, true_and, and_true, false_and, and_false, up_get, Nat.reduceEqDiff, Int.reduceNeg, eqN_T, eqN_F]
            exact D.sh 7
        · have sb : sayB (m 139) (m 137) pe kn N i = false := by
            unfold sayB
            rw [decide_eq_false c3]
            simp
          obtain ⟨m', D, p1, p2, p3⟩ := q_gather_l hs g k0 k1 e0 e1 N hN k (i + 1) mc (by omega) fr (by rw [gN, if_neg (by rw [sb]; decide), Int.add_zero]; exact hc) (fun t t0 t1 => by
            rw [gN, if_neg (by rw [sb]; decide), Int.add_zero] at t1
            rw [gE, if_neg (by rw [sb]; exact fun z => absurd z.1 (by decide))]
            exact he t t0 t1)
          refine ⟨m', ?_, p1, p2, p3⟩
          refine De.stepk 9 ?_
          simp only [j_X6_gather_7]
          simp (disch := omega) only [b_X6_gather_7, x133_k hs, x133_r0 hs, x133_r1 hs, x133_r2 hs, x133_r3 hs, x133_i4 hs, x133_w4 hs, x16_k hs, x16_r0 hs, x16_r1 hs, x16_r2 hs, x16_i3 hs, x16_w3 hs, x17_m0 hs, x17_m1 hs, x17_m2 hs, x17_m3 hs, x17_m4 hs, x17_m5 hs, x17_m6 hs, x17_m7 hs, x17_m8 hs, x17_l hs, x18_g hs, x18_s hs, x18_l hs, x22_g hs, x22_s hs, x22_l hs, Option.bind_some, xI, xU, xUt, xIt, J_lit, J_add, J_sub, J_mul, J_neg, J_ltc, J_lec, J_eqc, lt_T, lt_F, le_T, le_F, eq_T, eq_F, ↓reduceIte, ite_not, not_true_eq_false, not_false_eq_true, true_or, or_true, false_or, or_false, true_and, and_true, false_and, and_false, up_get, Nat.reduceEqDiff, Int.reduceNeg, eqN_T, eqN_F]
          simp only [j_X6_gather_53]
          simp (disch := omega) only [b_X6_gather_53, x133_k hs, x133_r0 hs, x133_r1 hs, x133_r2 hs, x133_r3 hs, x133_i4 hs, x133_w4 hs, e_isKnown_F hs, Option.bind_some, xI, xU, xUt, xIt, J_lit, J_add, J_sub, J_mul, J_neg, J_ltc, J_lec, J_eqc, lt_T, lt_F, le_T, le_F, eq_T, eq_F, ↓reduceIte, ite_not, not_true_eq_false, not_false_eq_true, true_or, or_true, false_or, or_false, true_and, and_true, false_and, and_false, up_get, Nat.reduceEqDiff, Int.reduceNeg, eqN_T, eqN_F]
          exact D.sh 7
      · have sb : sayB (m 139) (m 137) pe kn N i = false := by
          unfold sayB
          rw [decide_eq_false c2]
          simp
        obtain ⟨m', D, p1, p2, p3⟩ := q_gather_l hs g k0 k1 e0 e1 N hN k (i + 1) mc (by omega) fr (by rw [gN, if_neg (by rw [sb]; decide), Int.add_zero]; exact hc) (fun t t0 t1 => by
          rw [gN, if_neg (by rw [sb]; decide), Int.add_zero] at t1
          rw [gE, if_neg (by rw [sb]; exact fun z => absurd z.1 (by decide))]
          exact he t t0 t1)
        refine ⟨m', ?_, p1, p2, p3⟩
        refine De.stepk 9 ?_
        simp only [j_X6_gather_7]
        simp (disch := omega) only [b_X6_gather_7, x133_k hs, x133_r0 hs, x133_r1 hs, x133_r2 hs, x133_r3 hs, x133_i4 hs, x133_w4 hs, x16_k hs, x16_r0 hs, x16_r1 hs, x16_r2 hs, x16_i3 hs, x16_w3 hs, x17_m0 hs, x17_m1 hs, x17_m2 hs, x17_m3 hs, x17_m4 hs, x17_m5 hs, x17_m6 hs, x17_m7 hs, x17_m8 hs, x17_l hs, x18_g hs, x18_s hs, x18_l hs, x22_g hs, x22_s hs, x22_l hs, Option.bind_some, xI, xU, xUt, xIt, J_lit, J_add, J_sub, J_mul, J_neg, J_ltc, J_lec, J_eqc, lt_T, lt_F, le_T, le_F, eq_T, eq_F, ↓reduceIte, ite_not, not_true_eq_false, not_false_eq_true, true_or, or_true, false_or, or_false, true_and, and_true, false_and, and_false, up_get, Nat.reduceEqDiff, Int.reduceNeg, eqN_T, eqN_F]
        simp only [j_X6_gather_53]
        simp (disch := omega) only [b_X6_gather_53, x133_k hs, x133_r0 hs, x133_r1 hs, x133_r2 hs, x133_r3 hs, x133_i4 hs, x133_w4 hs, Option.bind_some, xI, xU, xUt, xIt, J_lit, J_add, J_sub, J_mul, J_neg, J_ltc, J_lec, J_eqc, lt_T, lt_F, le_T, le_F, eq_T, eq_F, ↓reduceIte, ite_not, not_true_eq_false, not_false_eq_true, true_or, or_true, false_or, or_false, true_and, and_true, false_and, and_false, up_get, Nat.reduceEqDiff, Int.reduceNeg, eqN_T, eqN_F]
        exact D.sh 7
    · have sb : sayB (m 139) (m 137) pe kn N i = false := by
        unfold sayB
        rw [decide_eq_false c1]
        simp
      obtain ⟨m', D, p1, p2, p3⟩ := q_gather_l hs g k0 k1 e0 e1 N hN k (i + 1) mc (by omega) fr (by rw [gN, if_neg (by rw [sb]; decide), Int.add_zero]; exact hc) (fun t t0 t1 => by
        rw [gN, if_neg (by rw [sb]; decide), Int.add_zero] at t1
        rw [gE, if_neg (by rw [sb]; exact fun z => absurd z.1 (by decide))]
        exact he t t0 t1)
      refine ⟨m', ?_, p1, p2, p3⟩
      refine De.stepk 9 ?_
      simp only [j_X6_gather_7]
      simp (disch := omega) only [b_X6_gather_7, x133_k hs, x133_r0 hs, x133_r1 hs, x133_r2 hs, x133_r3 hs, x133_i4 hs, x133_w4 hs, x16_k hs, x16_r0 hs, x16_r1 hs, x16_r2 hs, x16_i3 hs, x16_w3 hs, x17_m0 hs, x17_m1 hs, x17_m2 hs, x17_m3 hs, x17_m4 hs, x17_m5 hs, x17_m6 hs, x17_m7 hs, x17_m8 hs, x17_l hs, x18_g hs, x18_s hs, x18_l hs, x22_g hs, x22_s hs, x22_l hs, Option.bind_some, xI, xU, xUt, xIt, J_lit, J_add, J_sub, J_mul, J_neg, J_ltc, J_lec, J_eqc, lt_T, lt_F, le_T, le_F, eq_T, eq_F, ↓reduceIte, ite_not, not_true_eq_false, not_false_eq_true, true_or, or_true, false_or, or_false, true_and, and_true, false_and, and_false, up_get, Nat.reduceEqDiff, Int.reduceNeg, eqN_T, eqN_F]
      simp only [j_X6_gather_53]
      simp (disch := omega) only [b_X6_gather_53, x133_k hs, x133_r0 hs, x133_r1 hs, x133_r2 hs, x133_r3 hs, x133_i4 hs, x133_w4 hs, Option.bind_some, xI, xU, xUt, xIt, J_lit, J_add, J_sub, J_mul, J_neg, J_ltc, J_lec, J_eqc, lt_T, lt_F, le_T, le_F, eq_T, eq_F, ↓reduceIte, ite_not, not_true_eq_false, not_false_eq_true, true_or, or_true, false_or, or_false, true_and, and_true, false_and, and_false, up_get, Nat.reduceEqDiff, Int.reduceNeg, eqN_T, eqN_F]
      exact D.sh 7
theorem q_gather (hs : Sk S) (g : Gok m) (k0 : -2147483648 ≤ kn) (k1 : kn < 2147483648) (e0 : 0 ≤ pe) (e1 : pe < 16) (N : Nat) (hN : (N : Int) = m 139 1) : ∃ m', De (fun n => f_X6_gather n 0 [.ref 133, .int (J pe), .int (J kn)] (hp S m q)) (.inl none) (hp S m' q) ∧ (∀ b j, b ≠ 133 → b ≠ 134 → m' b j = m b j) ∧ m' 133 4 = gN (m 139) (m 137) pe kn N N ∧ (∀ t, 0 ≤ t → t < gN (m 139) (m 137) pe kn N N → m' 134 t = gE (m 139) (m 137) pe kn N N t) := by
  obtain ⟨m', D, p1, p2, p3⟩ := q_gather_l (q := q) hs g k0 k1 e0 e1 N hN N 0 (up m 133 4 0) (by omega) (fun b j h1 h2 => up_a h1) (up_at _ _ _ _) (fun t t0 t1 => absurd t1 (by rw [gN]; omega))
  refine ⟨m', ?_, p1, p2, p3⟩
  refine De.step ?_
  simp (disch := omega) only [j_X6_gather_0, b_X6_gather_0, x133_k hs, x133_r0 hs, x133_r1 hs, x133_r2 hs, x133_r3 hs, x133_i4 hs, x133_w4 hs, Option.bind_some, J_lit]
  exact D
theorem q_gathers_u (hs : Sk S) (g : Gok m) (k0 : -2147483648 ≤ kn) (k1 : kn < 2147483648) (x : Int) (N : Nat) (hN : (N : Int) = m 139 1) (r : xR) (P : xH) (x0 : 0 ≤ x) (x1 : x < 30) (D : ∀ b : Bool, b = anyU (m 139) (m 137) kn x N 0 → De (fun n => f_X11_gathers n 53 [.ref 136, .int (J pe), .int (J kn), .int (J x), .int (J (if b = true then 1 else 0)), .int (J N)] (hp S m q)) r P) : ∀ (k i : Nat) (b : Bool), i + k = N → (b || anyU (m 139) (m 137) kn x k i) = anyU (m 139) (m 137) kn x N 0 → De (fun n => f_X11_gathers n 53 [.ref 136, .int (J pe), .int (J kn), .int (J x), .int (J (if b = true then 1 else 0)), .int (J i)] (hp S m q)) r P
  | 0, i, b, h, hb => by
    have h : i = N := by omega
    subst h
    rw [anyU, Bool.or_false] at hb
    exact D b hb
  | k + 1, i, b, h, hb => by
    have g1 := g.1
    obtain ⟨⟨f0, f4, f8, fh⟩, r1, r2, r3, r4, r5, r6, rh1, rh2⟩ := g.2 i (by omega) (by omega)
    rw [f8] at r5 r6
    rw [fh] at rh1 rh2
    cases b with
    | true =>
      have ih := (q_gathers_u hs g k0 k1 x N hN r P x0 x1 D k (i + 1) true (by omega) (by rw [Bool.true_or] at hb ⊢; exact hb)).sh 5
      simp only [if_true] at ih ⊢
      refine De.stepk 6 ?_
      simp only [j_X11_gathers_53]
      simp (disch := omega) only [b_X11_gathers_53, x136_k hs, x136_i0 hs, x136_w0 hs, x136_r1 hs, x136_r2 hs, x136_r3 hs, x136_r4 hs, x136_i5 hs, x136_w5 hs, x136_i6 hs, x136_w6 hs, x136_i7 hs, x136_w7 hs, x136_r8 hs, x136_i9 hs, x136_w9 hs, x136_i10 hs, x136_w10 hs, x136_i11 hs, x136_w11 hs, x136_i12 hs, x136_w12 hs, x136_i13 hs, x136_w13 hs, x136_i14 hs, x136_w14 hs, x136_r15 hs, x136_i16 hs, x136_w16 hs, x136_r17 hs, x136_r18 hs, x136_r19 hs, x136_r20 hs, x136_r21 hs, x136_i22 hs, x136_w22 hs, x136_r23 hs, x136_r24 hs, x136_i25 hs, x136_w25 hs, x136_i26 hs, x136_w26 hs, x136_r27 hs, x136_r28 hs, x136_i29 hs, x136_w29 hs, e_words hs, Option.bind_some, xI, xU, xUt, xIt, J_lit, J_add, J_sub, J_mul, J_neg, J_ltc, J_lec, J_eqc, lt_T, lt_F, le_T, le_F, eq_T, eq_F, ↓reduceIte, ite_not, not_true_eq_false, not_false_eq_true, true_or, or_true, false_or, or_false, true_and, and_true, false_and, and_false, up_get, Nat.reduceEqDiff, Int.reduceNeg, eqN_T, eqN_F]
      exact ih
    | false =>
      rw [Bool.false_or, anyU] at hb
      simp only [Bool.false_eq_true, if_false]
      by_cases c : m 139 (761 + 10 * i + 8) = x
      · by_cases d : 0 ≤ m 137 (2151 + 5 * i + 0) ∧ m 137 (2151 + 5 * i + 0) ≤ kn
        · rw [decide_eq_true ⟨c, d⟩, Bool.true_or] at hb
          have ih := (q_gathers_u hs g k0 k1 x N hN r P x0 x1 D k (i + 1) true (by omega) (by rw [Bool.true_or]; exact hb)).sh 5
          simp only [if_true] at ih
          refine De.stepk 6 ?_
          simp only [j_X11_gathers_53]
          simp (disch := omega) only [b_X11_gathers_53, x136_k hs, x136_i0 hs, x136_w0 hs, x136_r1 hs, x136_r2 hs, x136_r3 hs, x136_r4 hs, x136_i5 hs, x136_w5 hs, x136_i6 hs, x136_w6 hs, x136_i7 hs, x136_w7 hs, x136_r8 hs, x136_i9 hs, x136_w9 hs, x136_i10 hs, x136_w10 hs, x136_i11 hs, x136_w11 hs, x136_i12 hs, x136_w12 hs, x136_i13 hs, x136_w13 hs, x136_i14 hs, x136_w14 hs, x136_r15 hs, x136_i16 hs, x136_w16 hs, x136_r17 hs, x136_r18 hs, x136_r19 hs, x136_r20 hs, x136_r21 hs, x136_i22 hs, x136_w22 hs, x136_r23 hs, x136_r24 hs, x136_i25 hs, x136_w25 hs, x136_i26 hs, x136_w26 hs, x136_r27 hs, x136_r28 hs, x136_i29 hs, x136_w29 hs, e_words hs, e_of hs, e_wasHad_T hs, Option.bind_some, xI, xU, xUt, xIt, J_lit, J_add, J_sub, J_mul, J_neg, J_ltc, J_lec, J_eqc, lt_T, lt_F, le_T, le_F, eq_T, eq_F, ↓reduceIte, ite_not, not_true_eq_false, not_false_eq_true, true_or, or_true, false_or, or_false, true_and, and_true, false_and, and_false, up_get, Nat.reduceEqDiff, Int.reduceNeg, eqN_T, eqN_F]
          exact ih
        · rw [decide_eq_false (fun z => d z.2), Bool.false_or] at hb
          have ih := (q_gathers_u hs g k0 k1 x N hN r P x0 x1 D k (i + 1) false (by omega) (by rw [Bool.false_or]; exact hb)).sh 5
          simp only [Bool.false_eq_true, if_false] at ih
          refine De.stepk 6 ?_
          simp only [j_X11_gathers_53]
          simp (disch := omega) only [b_X11_gathers_53, x136_k hs, x136_i0 hs, x136_w0 hs, x136_r1 hs, x136_r2 hs, x136_r3 hs, x136_r4 hs, x136_i5 hs, x136_w5 hs, x136_i6 hs, x136_w6 hs, x136_i7 hs, x136_w7 hs, x136_r8 hs, x136_i9 hs, x136_w9 hs, x136_i10 hs, x136_w10 hs, x136_i11 hs, x136_w11 hs, x136_i12 hs, x136_w12 hs, x136_i13 hs, x136_w13 hs, x136_i14 hs, x136_w14 hs, x136_r15 hs, x136_i16 hs, x136_w16 hs, x136_r17 hs, x136_r18 hs, x136_r19 hs, x136_r20 hs, x136_r21 hs, x136_i22 hs, x136_w22 hs, x136_r23 hs, x136_r24 hs, x136_i25 hs, x136_w25 hs, x136_i26 hs, x136_w26 hs, x136_r27 hs, x136_r28 hs, x136_i29 hs, x136_w29 hs, e_words hs, e_of hs, e_wasHad_F hs, Option.bind_some, xI, xU, xUt, xIt, J_lit, J_add, J_sub, J_mul, J_neg, J_ltc, J_lec, J_eqc, lt_T, lt_F, le_T, le_F, eq_T, eq_F, ↓reduceIte, ite_not, not_true_eq_false, not_false_eq_true, true_or, or_true, false_or, or_false, true_and, and_true, false_and, and_false, up_get, Nat.reduceEqDiff, Int.reduceNeg, eqN_T, eqN_F]
          exact ih
      · rw [decide_eq_false (fun z => c z.1), Bool.false_or] at hb
        have ih := (q_gathers_u hs g k0 k1 x N hN r P x0 x1 D k (i + 1) false (by omega) (by rw [Bool.false_or]; exact hb)).sh 5
        simp only [Bool.false_eq_true, if_false] at ih
        refine De.stepk 6 ?_
        simp only [j_X11_gathers_53]
        simp (disch := omega) only [b_X11_gathers_53, x136_k hs, x136_i0 hs, x136_w0 hs, x136_r1 hs, x136_r2 hs, x136_r3 hs, x136_r4 hs, x136_i5 hs, x136_w5 hs, x136_i6 hs, x136_w6 hs, x136_i7 hs, x136_w7 hs, x136_r8 hs, x136_i9 hs, x136_w9 hs, x136_i10 hs, x136_w10 hs, x136_i11 hs, x136_w11 hs, x136_i12 hs, x136_w12 hs, x136_i13 hs, x136_w13 hs, x136_i14 hs, x136_w14 hs, x136_r15 hs, x136_i16 hs, x136_w16 hs, x136_r17 hs, x136_r18 hs, x136_r19 hs, x136_r20 hs, x136_r21 hs, x136_i22 hs, x136_w22 hs, x136_r23 hs, x136_r24 hs, x136_i25 hs, x136_w25 hs, x136_i26 hs, x136_w26 hs, x136_r27 hs, x136_r28 hs, x136_i29 hs, x136_w29 hs, e_words hs, e_of hs, Option.bind_some, xI, xU, xUt, xIt, J_lit, J_add, J_sub, J_mul, J_neg, J_ltc, J_lec, J_eqc, lt_T, lt_F, le_T, le_F, eq_T, eq_F, ↓reduceIte, ite_not, not_true_eq_false, not_false_eq_true, true_or, or_true, false_or, or_false, true_and, and_true, false_and, and_false, up_get, Nat.reduceEqDiff, Int.reduceNeg, eqN_T, eqN_F]
        exact ih
theorem q_gathers_l (hs : Sk S) (g : Gok m) (k0 : -2147483648 ≤ kn) (k1 : kn < 2147483648) (e0 : 0 ≤ pe) (e1 : pe < 16) (N : Nat) (hN : (N : Int) = m 139 1) : ∀ (k i : Nat) (mc : Nat → Int → Int), i + k = N → (∀ b j, (b ≠ 136 ∨ j ≠ 22) → b ≠ 147 → mc b j = m b j) → mc 136 22 = gN (m 139) (m 137) pe kn N i → (∀ t, 0 ≤ t → t < gN (m 139) (m 137) pe kn N i → mc 147 t = gE (m 139) (m 137) pe kn N i t) → ∃ m', De (fun n => f_X11_gathers n 7 [.ref 136, .int (J pe), .int (J kn), .int (J i)] (hp S mc q)) (.inl none) (hp S m' q) ∧ (∀ b j, (b ≠ 136 ∨ j ≠ 22) → b ≠ 147 → m' b j = m b j) ∧ m' 136 22 = gN (m 139) (m 137) pe kn N N ∧ (∀ t, 0 ≤ t → t < gN (m 139) (m 137) pe kn N N → m' 147 t = gE (m 139) (m 137) pe kn N N t)
  | 0, i, mc, h, fr, hc, he => by
    have h : i = N := by omega
    subst h
    have g1 := g.1
    have er := fr 139 1 (by decide) (by decide)
    refine ⟨mc, ?_, fr, hc, he⟩
    refine De.stepk 3 ?_
    simp only [j_X11_gathers_7]
    simp (disch := omega) only [b_X11_gathers_7, x136_k hs, x136_i0 hs, x136_w0 hs, x136_r1 hs, x136_r2 hs, x136_r3 hs, x136_r4 hs, x136_i5 hs, x136_w5 hs, x136_i6 hs, x136_w6 hs, x136_i7 hs, x136_w7 hs, x136_r8 hs, x136_i9 hs, x136_w9 hs, x136_i10 hs, x136_w10 hs, x136_i11 hs, x136_w11 hs, x136_i12 hs, x136_w12 hs, x136_i13 hs, x136_w13 hs, x136_i14 hs, x136_w14 hs, x136_r15 hs, x136_i16 hs, x136_w16 hs, x136_r17 hs, x136_r18 hs, x136_r19 hs, x136_r20 hs, x136_r21 hs, x136_i22 hs, x136_w22 hs, x136_r23 hs, x136_r24 hs, x136_i25 hs, x136_w25 hs, x136_i26 hs, x136_w26 hs, x136_r27 hs, x136_r28 hs, x136_i29 hs, x136_w29 hs, e_words hs, Option.bind_some, xI, xU, xUt, xIt, J_lit, J_add, J_sub, J_mul, J_neg, J_ltc, J_lec, J_eqc, lt_T, lt_F, le_T, le_F, eq_T, eq_F, ↓reduceIte, ite_not, not_true_eq_false, not_false_eq_true, true_or, or_true, false_or, or_false, true_and, and_true, false_and, and_false, up_get, Nat.reduceEqDiff, Int.reduceNeg, eqN_T, eqN_F]
    exact De.ret _ _
  | k + 1, i, mc, h, fr, hc, he => by
    have g1 := g.1
    have er : ∀ b, b ≠ 136 → b ≠ 147 → mc b = m b := fun b h1 h2 => funext fun j => fr b j (Or.inl h1) h2
    have gc : Gok mc := g.row (fun b hb => er b (by omega) (by omega))
    have r9 := er 139 (by decide) (by decide)
    have r7 := er 137 (by decide) (by decide)
    have b1 := gN_in (m 139) (m 137) pe kn N i
    obtain ⟨⟨f0, f4, f8, fh⟩, r1, r2, r3, r4, r5, r6, rh1, rh2⟩ := g.2 i (by omega) (by omega)
    rw [f0] at r1 r2
    rw [f4] at r3 r4
    rw [fh] at rh1 rh2
    rw [← fr 139 (761 + 10 * i + 0) (Or.inl (by decide)) (by decide)] at r1 r2
    rw [← fr 139 (761 + 10 * i + 4) (Or.inl (by decide)) (by decide)] at r3 r4
    rw [← fr 137 (2151 + 5 * i + 0) (Or.inl (by decide)) (by decide)] at rh1 rh2
    have n1 : mc 139 1 = m 139 1 := fr 139 1 (by decide) (by decide)
    by_cases c1 : mc 139 (761 + 10 * i + 0) ≤ 1
    · by_cases c2 : mc 139 (761 + 10 * i + 4) = pe
      · by_cases c3 : 0 ≤ mc 137 (2151 + 5 * i + 0) ∧ mc 137 (2151 + 5 * i + 0) ≤ kn
        · cases c4 : anyU (m 139) (m 137) kn i N 0 with
          | true =>
            have sb : sayB (m 139) (m 137) pe kn N i = false := by
              unfold sayB
              rw [c4]
              simp
            obtain ⟨m', D, p1, p2, p3⟩ := q_gathers_l hs g k0 k1 e0 e1 N hN k (i + 1) mc (by omega) fr (by rw [gN, if_neg (by rw [sb]; decide), Int.add_zero]; exact hc) (fun t t0 t1 => by
              rw [gN, if_neg (by rw [sb]; decide), Int.add_zero] at t1
              rw [gE, if_neg (by rw [sb]; exact fun z => absurd z.1 (by decide))]
              exact he t t0 t1)
            refine ⟨m', ?_, p1, p2, p3⟩
            have U := q_gathers_u (q := q) (kn := kn) (pe := pe) hs gc k0 k1 i N (by rw [r9]; exact hN) (.inl none) (hp S m' q) (by omega) (by omega) (fun b hb => by
              rw [r9, r7, c4] at hb
              subst hb
              simp only [if_true]
              refine De.stepk 6 ?_
              simp only [j_X11_gathers_53]
              simp (disch := omega) only [b_X11_gathers_53, x136_k hs, x136_i0 hs, x136_w0 hs, x136_r1 hs, x136_r2 hs, x136_r3 hs, x136_r4 hs, x136_i5 hs, x136_w5 hs, x136_i6 hs, x136_w6 hs, x136_i7 hs, x136_w7 hs, x136_r8 hs, x136_i9 hs, x136_w9 hs, x136_i10 hs, x136_w10 hs, x136_i11 hs, x136_w11 hs, x136_i12 hs, x136_w12 hs, x136_i13 hs, x136_w13 hs, x136_i14 hs, x136_w14 hs, x136_r15 hs, x136_i16 hs, x136_w16 hs, x136_r17 hs, x136_r18 hs, x136_r19 hs, x136_r20 hs, x136_r21 hs, x136_i22 hs, x136_w22 hs, x136_r23 hs, x136_r24 hs, x136_i25 hs, x136_w25 hs, x136_i26 hs, x136_w26 hs, x136_r27 hs, x136_r28 hs, x136_i29 hs, x136_w29 hs, e_words hs, Option.bind_some, xI, xU, xUt, xIt, J_lit, J_add, J_sub, J_mul, J_neg, J_ltc, J_lec, J_eqc, lt_T, lt_F, le_T, le_F, eq_T, eq_F, ↓reduceIte, ite_not, not_true_eq_false, not_false_eq_true, true_or, or_true, false_or, or_false, true_and, and_true, false_and, and_false, up_get, Nat.reduceEqDiff, Int.reduceNeg, eqN_T, eqN_F]
              exact D.sh 5) N 0 false (by omega) (by rw [Bool.false_or]; rfl)
            simp only [Bool.false_eq_true, if_false] at U
            refine De.stepk 6 ?_
            simp only [j_X11_gathers_7]
            simp (disch := omega) only [b_X11_gathers_7, x136_k hs, x136_i0 hs, x136_w0 hs, x136_r1 hs, x136_r2 hs, x136_r3 hs, x136_r4 hs, x136_i5 hs, x136_w5 hs, x136_i6 hs, x136_w6 hs, x136_i7 hs, x136_w7 hs, x136_r8 hs, x136_i9 hs, x136_w9 hs, x136_i10 hs, x136_w10 hs, x136_i11 hs, x136_w11 hs, x136_i12 hs, x136_w12 hs, x136_i13 hs, x136_w13 hs, x136_i14 hs, x136_w14 hs, x136_r15 hs, x136_i16 hs, x136_w16 hs, x136_r17 hs, x136_r18 hs, x136_r19 hs, x136_r20 hs, x136_r21 hs, x136_i22 hs, x136_w22 hs, x136_r23 hs, x136_r24 hs, x136_i25 hs, x136_w25 hs, x136_i26 hs, x136_w26 hs, x136_r27 hs, x136_r28 hs, x136_i29 hs, x136_w29 hs, e_words hs, e_of hs, e_wasHad_T hs, Option.bind_some, xI, xU, xUt, xIt, J_lit, J_add, J_sub, J_mul, J_neg, J_ltc, J_lec, J_eqc, lt_T, lt_F, le_T, le_F, eq_T, eq_F, ↓reduceIte, ite_not, not_true_eq_false, not_false_eq_true, true_or, or_true, false_or, or_false, true_and, and_true, false_and, and_false, up_get, Nat.reduceEqDiff, Int.reduceNeg, eqN_T, eqN_F]
            exact U.sh 5
          | false =>
            have sb : sayB (m 139) (m 137) pe kn N i = true := by
              unfold sayB
              rw [← r9, ← r7] at c4 ⊢
              rw [c4, decide_eq_true c1, decide_eq_true c2, decide_eq_true c3]
              rfl
            obtain ⟨m', D, p1, p2, p3⟩ := q_gathers_l hs g k0 k1 e0 e1 N hN k (i + 1) (up (up mc 147 (gN (m 139) (m 137) pe kn N i) i) 136 22 (gN (m 139) (m 137) pe kn N i + 1)) (by omega) (fun b j h1 h2 => by
              rw [up_get, if_neg (by omega), up_a h2]
              exact fr b j h1 h2) (by
              rw [gN, if_pos sb, up_at]) (fun t t0 t1 => by
              rw [gN, if_pos sb] at t1
              rw [gE, up_a (by decide)]
              by_cases d : t = gN (m 139) (m 137) pe kn N i
              · rw [if_pos ⟨sb, d⟩, d, up_at]
              · rw [if_neg (fun z => d z.2), up_i d]
                exact he t t0 (by omega))
            refine ⟨m', ?_, p1, p2, p3⟩
            have U := q_gathers_u (q := q) (kn := kn) (pe := pe) hs gc k0 k1 i N (by rw [r9]; exact hN) (.inl none) (hp S m' q) (by omega) (by omega) (fun b hb => by
              rw [r9, r7, c4] at hb
              subst hb
              simp only [Bool.false_eq_true, if_false]
              refine De.stepk 6 ?_
              simp only [j_X11_gathers_53]
              simp (disch := omega) only [b_X11_gathers_53, x136_k hs, x136_i0 hs, x136_w0 hs, x136_r1 hs, x136_r2 hs, x136_r3 hs, x136_r4 hs, x136_i5 hs, x136_w5 hs, x136_i6 hs, x136_w6 hs, x136_i7 hs, x136_w7 hs, x136_r8 hs, x136_i9 hs, x136_w9 hs, x136_i10 hs, x136_w10 hs, x136_i11 hs, x136_w11 hs, x136_i12 hs, x136_w12 hs, x136_i13 hs, x136_w13 hs, x136_i14 hs, x136_w14 hs, x136_r15 hs, x136_i16 hs, x136_w16 hs, x136_r17 hs, x136_r18 hs, x136_r19 hs, x136_r20 hs, x136_r21 hs, x136_i22 hs, x136_w22 hs, x136_r23 hs, x136_r24 hs, x136_i25 hs, x136_w25 hs, x136_i26 hs, x136_w26 hs, x136_r27 hs, x136_r28 hs, x136_i29 hs, x136_w29 hs, x147_g hs, x147_s hs, x147_l hs, e_words hs, hc, Option.bind_some, xI, xU, xUt, xIt, J_lit, J_add, J_sub, J_mul, J_neg, J_ltc, J_lec, J_eqc, lt_T, lt_F, le_T, le_F, eq_T, eq_F, ↓reduceIte, ite_not, not_true_eq_false, not_false_eq_true, true_or, or_true, false_or, or_false, true_and, and_true, false_and, and_false, up_get, Nat.reduceEqDiff, Int.reduceNeg, eqN_T, eqN_F]
              exact D.sh 5) N 0 false (by omega) (by rw [Bool.false_or]; rfl)
            simp only [Bool.false_eq_true, if_false] at U
            refine De.stepk 6 ?_
            simp only [j_X11_gathers_7]
            simp (disch := omega) only [b_X11_gathers_7, x136_k hs, x136_i0 hs, x136_w0 hs, x136_r1 hs, x136_r2 hs, x136_r3 hs, x136_r4 hs, x136_i5 hs, x136_w5 hs, x136_i6 hs, x136_w6 hs, x136_i7 hs, x136_w7 hs, x136_r8 hs, x136_i9 hs, x136_w9 hs, x136_i10 hs, x136_w10 hs, x136_i11 hs, x136_w11 hs, x136_i12 hs, x136_w12 hs, x136_i13 hs, x136_w13 hs, x136_i14 hs, x136_w14 hs, x136_r15 hs, x136_i16 hs, x136_w16 hs, x136_r17 hs, x136_r18 hs, x136_r19 hs, x136_r20 hs, x136_r21 hs, x136_i22 hs, x136_w22 hs, x136_r23 hs, x136_r24 hs, x136_i25 hs, x136_w25 hs, x136_i26 hs, x136_w26 hs, x136_r27 hs, x136_r28 hs, x136_i29 hs, x136_w29 hs, e_words hs, e_of hs, e_wasHad_T hs, Option.bind_some, xI, xU, xUt, xIt, J_lit, J_add, J_sub, J_mul, J_neg, J_ltc, J_lec, J_eqc, lt_T, lt_F, le_T, le_F, eq_T, eq_F, ↓reduceIte, ite_not, not_true_eq_false, not_false_eq_true, true_or, or_true, false_or, or_false, true_and, and_true, false_and, and_false, up_get, Nat.reduceEqDiff, Int.reduceNeg, eqN_T, eqN_F]
            exact U.sh 5
        · have sb : sayB (m 139) (m 137) pe kn N i = false := by
            unfold sayB
            rw [← r9, ← r7, decide_eq_false c3]
            simp
          obtain ⟨m', D, p1, p2, p3⟩ := q_gathers_l hs g k0 k1 e0 e1 N hN k (i + 1) mc (by omega) fr (by rw [gN, if_neg (by rw [sb]; decide), Int.add_zero]; exact hc) (fun t t0 t1 => by
            rw [gN, if_neg (by rw [sb]; decide), Int.add_zero] at t1
            rw [gE, if_neg (by rw [sb]; exact fun z => absurd z.1 (by decide))]
            exact he t t0 t1)
          refine ⟨m', ?_, p1, p2, p3⟩
          refine De.stepk 6 ?_
          simp only [j_X11_gathers_7]
          simp (disch := omega) only [b_X11_gathers_7, x136_k hs, x136_i0 hs, x136_w0 hs, x136_r1 hs, x136_r2 hs, x136_r3 hs, x136_r4 hs, x136_i5 hs, x136_w5 hs, x136_i6 hs, x136_w6 hs, x136_i7 hs, x136_w7 hs, x136_r8 hs, x136_i9 hs, x136_w9 hs, x136_i10 hs, x136_w10 hs, x136_i11 hs, x136_w11 hs, x136_i12 hs, x136_w12 hs, x136_i13 hs, x136_w13 hs, x136_i14 hs, x136_w14 hs, x136_r15 hs, x136_i16 hs, x136_w16 hs, x136_r17 hs, x136_r18 hs, x136_r19 hs, x136_r20 hs, x136_r21 hs, x136_i22 hs, x136_w22 hs, x136_r23 hs, x136_r24 hs, x136_i25 hs, x136_w25 hs, x136_i26 hs, x136_w26 hs, x136_r27 hs, x136_r28 hs, x136_i29 hs, x136_w29 hs, e_words hs, e_of hs, e_wasHad_F hs, Option.bind_some, xI, xU, xUt, xIt, J_lit, J_add, J_sub, J_mul, J_neg, J_ltc, J_lec, J_eqc, lt_T, lt_F, le_T, le_F, eq_T, eq_F, ↓reduceIte, ite_not, not_true_eq_false, not_false_eq_true, true_or, or_true, false_or, or_false, true_and, and_true, false_and, and_false, up_get, Nat.reduceEqDiff, Int.reduceNeg, eqN_T, eqN_F]
          exact D.sh 5
      · have sb : sayB (m 139) (m 137) pe kn N i = false := by
          unfold sayB
          rw [← r9, decide_eq_false c2]
          simp
        obtain ⟨m', D, p1, p2, p3⟩ := q_gathers_l hs g k0 k1 e0 e1 N hN k (i + 1) mc (by omega) fr (by rw [gN, if_neg (by rw [sb]; decide), Int.add_zero]; exact hc) (fun t t0 t1 => by
          rw [gN, if_neg (by rw [sb]; decide), Int.add_zero] at t1
          rw [gE, if_neg (by rw [sb]; exact fun z => absurd z.1 (by decide))]
          exact he t t0 t1)
        refine ⟨m', ?_, p1, p2, p3⟩
        refine De.stepk 6 ?_
        simp only [j_X11_gathers_7]
        simp (disch := omega) only [b_X11_gathers_7, x136_k hs, x136_i0 hs, x136_w0 hs, x136_r1 hs, x136_r2 hs, x136_r3 hs, x136_r4 hs, x136_i5 hs, x136_w5 hs, x136_i6 hs, x136_w6 hs, x136_i7 hs, x136_w7 hs, x136_r8 hs, x136_i9 hs, x136_w9 hs, x136_i10 hs, x136_w10 hs, x136_i11 hs, x136_w11 hs, x136_i12 hs, x136_w12 hs, x136_i13 hs, x136_w13 hs, x136_i14 hs, x136_w14 hs, x136_r15 hs, x136_i16 hs, x136_w16 hs, x136_r17 hs, x136_r18 hs, x136_r19 hs, x136_r20 hs, x136_r21 hs, x136_i22 hs, x136_w22 hs, x136_r23 hs, x136_r24 hs, x136_i25 hs, x136_w25 hs, x136_i26 hs, x136_w26 hs, x136_r27 hs, x136_r28 hs, x136_i29 hs, x136_w29 hs, e_words hs, e_of hs, Option.bind_some, xI, xU, xUt, xIt, J_lit, J_add, J_sub, J_mul, J_neg, J_ltc, J_lec, J_eqc, lt_T, lt_F, le_T, le_F, eq_T, eq_F, ↓reduceIte, ite_not, not_true_eq_false, not_false_eq_true, true_or, or_true, false_or, or_false, true_and, and_true, false_and, and_false, up_get, Nat.reduceEqDiff, Int.reduceNeg, eqN_T, eqN_F]
        exact D.sh 5
    · have sb : sayB (m 139) (m 137) pe kn N i = false := by
        unfold sayB
        rw [← r9, decide_eq_false c1]
        simp
      obtain ⟨m', D, p1, p2, p3⟩ := q_gathers_l hs g k0 k1 e0 e1 N hN k (i + 1) mc (by omega) fr (by rw [gN, if_neg (by rw [sb]; decide), Int.add_zero]; exact hc) (fun t t0 t1 => by
        rw [gN, if_neg (by rw [sb]; decide), Int.add_zero] at t1
        rw [gE, if_neg (by rw [sb]; exact fun z => absurd z.1 (by decide))]
        exact he t t0 t1)
      refine ⟨m', ?_, p1, p2, p3⟩
      refine De.stepk 6 ?_
      simp only [j_X11_gathers_7]
      simp (disch := omega) only [b_X11_gathers_7, x136_k hs, x136_i0 hs, x136_w0 hs, x136_r1 hs, x136_r2 hs, x136_r3 hs, x136_r4 hs, x136_i5 hs, x136_w5 hs, x136_i6 hs, x136_w6 hs, x136_i7 hs, x136_w7 hs, x136_r8 hs, x136_i9 hs, x136_w9 hs, x136_i10 hs, x136_w10 hs, x136_i11 hs, x136_w11 hs, x136_i12 hs, x136_w12 hs, x136_i13 hs, x136_w13 hs, x136_i14 hs, x136_w14 hs, x136_r15 hs, x136_i16 hs, x136_w16 hs, x136_r17 hs, x136_r18 hs, x136_r19 hs, x136_r20 hs, x136_r21 hs, x136_i22 hs, x136_w22 hs, x136_r23 hs, x136_r24 hs, x136_i25 hs, x136_w25 hs, x136_i26 hs, x136_w26 hs, x136_r27 hs, x136_r28 hs, x136_i29 hs, x136_w29 hs, e_words hs, e_of hs, Option.bind_some, xI, xU, xUt, xIt, J_lit, J_add, J_sub, J_mul, J_neg, J_ltc, J_lec, J_eqc, lt_T, lt_F, le_T, le_F, eq_T, eq_F, ↓reduceIte, ite_not, not_true_eq_false, not_false_eq_true, true_or, or_true, false_or, or_false, true_and, and_true, false_and, and_false, up_get, Nat.reduceEqDiff, Int.reduceNeg, eqN_T, eqN_F]
      exact D.sh 5
theorem q_gathers (hs : Sk S) (g : Gok m) (k0 : -2147483648 ≤ kn) (k1 : kn < 2147483648) (e0 : 0 ≤ pe) (e1 : pe < 16) (N : Nat) (hN : (N : Int) = m 139 1) : ∃ m', De (fun n => f_X11_gathers n 0 [.ref 136, .int (J pe), .int (J kn)] (hp S m q)) (.inl none) (hp S m' q) ∧ (∀ b j, (b ≠ 136 ∨ j ≠ 22) → b ≠ 147 → m' b j = m b j) ∧ m' 136 22 = gN (m 139) (m 137) pe kn N N ∧ (∀ t, 0 ≤ t → t < gN (m 139) (m 137) pe kn N N → m' 147 t = gE (m 139) (m 137) pe kn N N t) := by
  obtain ⟨m', D, p1, p2, p3⟩ := q_gathers_l (q := q) hs g k0 k1 e0 e1 N hN N 0 (up m 136 22 0) (by omega) (fun b j h1 h2 => by rw [up_get, if_neg (by omega)]) (up_at _ _ _ _) (fun t t0 t1 => absurd t1 (by rw [gN]; omega))
  refine ⟨m', ?_, p1, p2, p3⟩
  refine De.step ?_
  simp (disch := omega) only [j_X11_gathers_0, b_X11_gathers_0, x136_k hs, x136_i0 hs, x136_w0 hs, x136_r1 hs, x136_r2 hs, x136_r3 hs, x136_r4 hs, x136_i5 hs, x136_w5 hs, x136_i6 hs, x136_w6 hs, x136_i7 hs, x136_w7 hs, x136_r8 hs, x136_i9 hs, x136_w9 hs, x136_i10 hs, x136_w10 hs, x136_i11 hs, x136_w11 hs, x136_i12 hs, x136_w12 hs, x136_i13 hs, x136_w13 hs, x136_i14 hs, x136_w14 hs, x136_r15 hs, x136_i16 hs, x136_w16 hs, x136_r17 hs, x136_r18 hs, x136_r19 hs, x136_r20 hs, x136_r21 hs, x136_i22 hs, x136_w22 hs, x136_r23 hs, x136_r24 hs, x136_i25 hs, x136_w25 hs, x136_i26 hs, x136_w26 hs, x136_r27 hs, x136_r28 hs, x136_i29 hs, x136_w29 hs, Option.bind_some, J_lit]
  exact D
end GATHER2
