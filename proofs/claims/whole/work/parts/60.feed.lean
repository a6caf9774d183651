/-! feed, the call -/
theorem w_feed : LawOb Inv 0 136 152 0 := by
  rintro j P hj ⟨S, m, q, rfl, hs, hR, hI⟩ v1 v2 v3 v4 v5
  obtain ⟨x1, rfl, a1, b1⟩ := J_of v1
  obtain ⟨x2, rfl, a2, b2⟩ := J_of v2
  obtain ⟨x3, rfl, a3, b3⟩ := J_of v3
  obtain ⟨x4, rfl, a4, b4⟩ := J_of v4
  obtain ⟨x5, rfl, a5, b5⟩ := J_of v5
  have rm := hR.rm hj
  have hr := hR.1
  obtain ⟨⟨w0, w1, w2⟩, ⟨w3, w4, w5, w6⟩, ⟨v0, v1, v2⟩, l0⟩ := hI.small
  obtain ⟨tap, by0, lot0, ⟨par, hid, prt, sto, gan, wrd, wlk, row, rul, tol, plc, net, dwn⟩, kep⟩ := hI.get
  obtain ⟨t1, t2, t3, t4, t5, t6, t7⟩ := tap
  by_cases c : m 1 2 + 20 ≤ 400
  · have zo : ∀ (mm : Nat → Int → Int) (a : Int) (b : Nat) (i : Int), b ≠ 8 → ¬ (b = 1 ∧ i = 2) → put4 mm a b i = mm b i := fun mm a b i h1 h2 => by
      unfold put4
      rw [if_neg (fun z => h1 z.1), if_neg h2]
    have z1 : (put4 (m) x1) 1 2 = (m) 1 2 + 4 := by
      show (if _ then _ else _) = _
      rw [if_neg (by omega), if_pos ⟨rfl, rfl⟩]
    have z2 : (put4 (put4 (m) x1) x2) 1 2 = (put4 (m) x1) 1 2 + 4 := by
      show (if _ then _ else _) = _
      rw [if_neg (by omega), if_pos ⟨rfl, rfl⟩]
    have z3 : (put4 (put4 (put4 (m) x1) x2) x3) 1 2 = (put4 (put4 (m) x1) x2) 1 2 + 4 := by
      show (if _ then _ else _) = _
      rw [if_neg (by omega), if_pos ⟨rfl, rfl⟩]
    have z4 : (put4 (put4 (put4 (put4 (m) x1) x2) x3) x4) 1 2 = (put4 (put4 (put4 (m) x1) x2) x3) 1 2 + 4 := by
      show (if _ then _ else _) = _
      rw [if_neg (by omega), if_pos ⟨rfl, rfl⟩]
    have z5 : (put4 (put4 (put4 (put4 (put4 (m) x1) x2) x3) x4) x5) 1 2 = (put4 (put4 (put4 (put4 (m) x1) x2) x3) x4) 1 2 + 4 := by
      show (if _ then _ else _) = _
      rw [if_neg (by omega), if_pos ⟨rfl, rfl⟩]
    have E1 := fun n => e_put (S := S) (m := m) (q := q) hs (by rw [show m 1 2 = m 1 2 from rfl]; omega) (by rw [show m 1 2 = m 1 2 from rfl]; omega) x1 n
    have E2 := fun n => e_put (S := S) (m := put4 (m) x1) (q := q) hs (by rw [z1]; omega) (by rw [z1]; omega) x2 n
    have E3 := fun n => e_put (S := S) (m := put4 (put4 (m) x1) x2) (q := q) hs (by rw [z2, z1]; omega) (by rw [z2, z1]; omega) x3 n
    have E4 := fun n => e_put (S := S) (m := put4 (put4 (put4 (m) x1) x2) x3) (q := q) hs (by rw [z3, z2, z1]; omega) (by rw [z3, z2, z1]; omega) x4 n
    have E5 := fun n => e_put (S := S) (m := put4 (put4 (put4 (put4 (m) x1) x2) x3) x4) (q := q) hs (by rw [z4, z3, z2, z1]; omega) (by rw [z4, z3, z2, z1]; omega) x5 n
    have zz : (put4 (put4 (put4 (put4 (put4 (m) x1) x2) x3) x4) x5) 1 2 = m 1 2 + 20 := by rw [z5, z4, z3, z2, z1]; omega
    have m1o : ∀ b i, b ≠ 8 → ¬ (b = 1 ∧ i = 2) → (put4 (put4 (put4 (put4 (put4 (m) x1) x2) x3) x4) x5) b i = m b i := fun b i h1 h2 => by
      rw [zo _ _ b i h1 h2, zo _ _ b i h1 h2, zo _ _ b i h1 h2, zo _ _ b i h1 h2, zo _ _ b i h1 h2]
    have mf9 : (up (up (up (up (up (up (put4 (put4 (put4 (put4 (put4 (m) x1) x2) x3) x4) x5) 136 0 0) 142 0 x1) 142 1 x2) 142 2 x3) 142 3 x4) 142 4 x5) 136 9 = m 1 2 := by
      rw [up_a (by decide), up_a (by decide), up_a (by decide), up_a (by decide), up_a (by decide), up_i (by decide), m1o 136 9 (by decide) (by decide)]
      exact t1.symm
    obtain ⟨m2, D, p1, p2, p3⟩ := q_feed_l (q := q) hs (T := m 1 2) (by omega) (by omega) (J x1) (J x2) (J x3) (J x4) (J x5) 20 0 (up (up (up (up (up (up (put4 (put4 (put4 (put4 (put4 (m) x1) x2) x3) x4) x5) 136 0 0) 142 0 x1) 142 1 x2) 142 2 x3) 142 3 x4) 142 4 x5) (by omega) mf9
    have mfo : ∀ b i, b ≠ 142 → ¬ (b = 136 ∧ i = 0) → (up (up (up (up (up (up (put4 (put4 (put4 (put4 (put4 (m) x1) x2) x3) x4) x5) 136 0 0) 142 0 x1) 142 1 x2) 142 2 x3) 142 3 x4) 142 4 x5) b i = (put4 (put4 (put4 (put4 (put4 (m) x1) x2) x3) x4) x5) b i := fun b i h1 h2 => by
      rw [up_a h1, up_a h1, up_a h1, up_a h1, up_a h1, up_get, if_neg h2]
    refine oA_of hs (v := J (m 1 2 + 20)) (m1 := put4 (put4 (put4 (put4 (put4 (m) x1) x2) x3) x4) x5) (q1 := q) (m2 := m2) ?_ ?_ ?_
    · refine De.eq 12 (fun n => ?_)
      rw [j_X10_feed_0]
      simp (disch := omega) only [b_X10_feed_0, x0_k hs, x0_r0 hs, x0_r1 hs, x0_r2 hs, x0_r3 hs, x1_k hs, x1_r0 hs, x1_r1 hs, x1_i2 hs, x1_w2 hs, x1_i3 hs, x1_w3 hs, x1_i4 hs, x1_w4 hs, x1_i5 hs, x1_w5 hs, x1_i6 hs, x1_w6 hs, x1_i7 hs, x1_w7 hs, Option.bind_some, xI, xU, xUt, xIt, J_lit, J_add, J_sub, J_mul, J_neg, J_ltc, J_lec, J_eqc, lt_T, lt_F, le_T, le_F, eq_T, eq_F, ↓reduceIte, ite_not, not_true_eq_false, not_false_eq_true, true_or, or_true, false_or, or_false, true_and, and_true, false_and, and_false, up_get, Nat.reduceEqDiff, Int.reduceNeg, eqN_T, eqN_F]
      simp (disch := omega) only [j_X3_hasSpace_0, b_X3_hasSpace_0, x1_k hs, x1_r0 hs, x1_r1 hs, x1_i2 hs, x1_w2 hs, x1_i3 hs, x1_w3 hs, x1_i4 hs, x1_w4 hs, x1_i5 hs, x1_w5 hs, x1_i6 hs, x1_w6 hs, x1_i7 hs, x1_w7 hs, x8_g hs, x8_s hs, x8_l hs, Option.bind_some, xI, xU, xUt, xIt, J_lit, J_add, J_sub, J_mul, J_neg, J_ltc, J_lec, J_eqc, lt_T, lt_F, le_T, le_F, eq_T, eq_F, ↓reduceIte, ite_not, not_true_eq_false, not_false_eq_true, true_or, or_true, false_or, or_false, true_and, and_true, false_and, and_false, up_get, Nat.reduceEqDiff, Int.reduceNeg, eqN_T, eqN_F]
      simp only [x0_k hs, x0_r0 hs, x0_r1 hs, x0_r2 hs, x0_r3 hs, x1_k hs, x1_r0 hs, x1_r1 hs, x1_i2 hs, x1_w2 hs, x1_i3 hs, x1_w3 hs, x1_i4 hs, x1_w4 hs, x1_i5 hs, x1_w5 hs, x1_i6 hs, x1_w6 hs, x1_i7 hs, x1_w7 hs, E1, E2, E3, E4, E5, Option.bind_some, xU, zz]
    · have a9 : (put4 (put4 (put4 (put4 (put4 (m) x1) x2) x3) x4) x5) 136 9 = m 1 2 := (m1o 136 9 (by decide) (by decide)).trans t1.symm
      refine De.cg 3 (fun n => ?_) (D.sh 2)
      rw [j_X11_feed_0]
      simp (disch := omega) only [b_X11_feed_0, x136_k hs, x136_i0 hs, x136_w0 hs, x136_r1 hs, x136_r2 hs, x136_r3 hs, x136_r4 hs, x136_i5 hs, x136_w5 hs, x136_i6 hs, x136_w6 hs, x136_i7 hs, x136_w7 hs, x136_r8 hs, x136_i9 hs, x136_w9 hs, x136_i10 hs, x136_w10 hs, x136_i11 hs, x136_w11 hs, x136_i12 hs, x136_w12 hs, x136_i13 hs, x136_w13 hs, x136_i14 hs, x136_w14 hs, x136_r15 hs, x136_i16 hs, x136_w16 hs, x136_r17 hs, x136_r18 hs, x136_r19 hs, x136_r20 hs, x136_r21 hs, x136_i22 hs, x136_w22 hs, x136_r23 hs, x136_r24 hs, x136_i25 hs, x136_w25 hs, x136_i26 hs, x136_w26 hs, x136_r27 hs, x136_r28 hs, x136_i29 hs, x136_w29 hs, x142_g hs, x142_s hs, x142_l hs, a9, Option.bind_some, xI, xU, xUt, xIt, J_lit, J_add, J_sub, J_mul, J_neg, J_ltc, J_lec, J_eqc, lt_T, lt_F, le_T, le_F, eq_T, eq_F, ↓reduceIte, ite_not, not_true_eq_false, not_false_eq_true, true_or, or_true, false_or, or_false, true_and, and_true, false_and, and_false, up_get, Nat.reduceEqDiff, Int.reduceNeg, eqN_T, eqN_F]
      rfl
    · refine ⟨_, _, _, rfl, hs, hR.next, ?_⟩
      have e : ∀ b i, ¬ (b = 8 ∨ (b = 1 ∧ i = 2) ∨ b = 141 ∨ b = 142 ∨ (b = 136 ∧ (i = 0 ∨ i = 9))) → m2 b i = m b i := fun b i hb => by
        rw [p1 b i (by omega) (by omega), mfo b i (by omega) (by omega), m1o b i (by omega) (by omega)]
      have e8 : m2 8 = (put4 (put4 (put4 (put4 (put4 (m) x1) x2) x3) x4) x5) 8 := funext fun i => by rw [p1 8 i (by omega) (by omega), mfo 8 i (by omega) (by omega)]
      have e12 : m2 1 2 = m 1 2 + 20 := by rw [p1 1 2 (by omega) (by omega), mfo 1 2 (by decide) (by decide)]; exact zz
      refine InvM.mk ⟨?_, (e 136 6 (by omega)).trans by0, (e 136 7 (by omega)).trans lot0, ⟨k_par par (fun b i hb => e b i (by omega)), k_hid hid (fun b i hb => e b i (by omega)), k_prt prt (fun b i hb => e b i (by omega)), k_sto sto (fun b i hb => e b i (by omega)), k_gan gan (fun b i hb => e b i (by omega)), k_wrd wrd (fun b i hb => e b i (by omega)) (by rw [e 137 0 (by omega)]; omega), k_wlk wlk (fun b i hb => e b i (by omega)), k_row row v1 (fun b i hb => e b i (by omega)), k_rul rul (fun b i hb => e b i (by omega)), k_tol tol (fun b i hb => e b i (by omega)), k_plc plc w1 l0 (fun b i hb => e b i (by omega)), k_net net w1 w4 (fun b i hb => e b i (by omega)) (fun b b0 b1 => rfl), k_dwn dwn w1 w4 (fun b i hb => e b i (by omega)) (fun b b0 b1 => rfl)⟩, k_kep kep (Grow.rfl' S) hr (fun b i hb => e b i (by omega)) (fun b hb => rfl)⟩
      · refine ⟨by rw [e12, p2], by rw [e12]; omega, by rw [e12]; omega, by rw [e 1 3 (by omega), e 136 14 (by omega)]; exact t4, by rw [e 1 3 (by omega)]; exact t5, by rw [e 1 3 (by omega)]; exact t6, fun i i0 i1 => ?_⟩
        rw [e12] at i1
        rw [e8]
        by_cases d : i < m 1 2
        · have r : (put4 (put4 (put4 (put4 (put4 (m) x1) x2) x3) x4) x5) 8 i = m 8 i := by
            unfold put4
            simp only [if_neg (show ¬ ((1 : Nat) = 8 ∧ _) from fun z => absurd z.1 (by decide))]
            repeat rw [if_neg (by omega)]
          rw [r, p1 141 i (by omega) (by omega), mfo 141 i (by omega) (by omega), m1o 141 i (by omega) (by omega)]
          exact t7 i i0 d
        · rw [p3 i (by omega) i1]
          rcases (show i < m 1 2 + 4 ∨ (m 1 2 + 4 ≤ i ∧ i < m 1 2 + 8) ∨ (m 1 2 + 8 ≤ i ∧ i < m 1 2 + 12) ∨ (m 1 2 + 12 ≤ i ∧ i < m 1 2 + 16) ∨ m 1 2 + 16 ≤ i by omega) with d1 | d1 | d1 | d1 | d1
          · have hk : (i - m 1 2) / 4 = 0 := by omega
            have r : (put4 (put4 (put4 (put4 (put4 (m) x1) x2) x3) x4) x5) 8 i = byS x1 (24 - 8 * (i - m 1 2 - 0)) := by
              have q5 : (put4 (put4 (put4 (put4 (put4 (m) x1) x2) x3) x4) x5) 8 i = (put4 (put4 (put4 (put4 (m) x1) x2) x3) x4) 8 i := by
                show (if _ then _ else _) = _
                rw [if_neg (by rw [z4, z3, z2, z1]; omega), if_neg (by omega)]
              have q4 : (put4 (put4 (put4 (put4 (m) x1) x2) x3) x4) 8 i = (put4 (put4 (put4 (m) x1) x2) x3) 8 i := by
                show (if _ then _ else _) = _
                rw [if_neg (by rw [z3, z2, z1]; omega), if_neg (by omega)]
              have q3 : (put4 (put4 (put4 (m) x1) x2) x3) 8 i = (put4 (put4 (m) x1) x2) 8 i := by
                show (if _ then _ else _) = _
                rw [if_neg (by rw [z2, z1]; omega), if_neg (by omega)]
              have q2 : (put4 (put4 (m) x1) x2) 8 i = (put4 (m) x1) 8 i := by
                show (if _ then _ else _) = _
                rw [if_neg (by rw [z1]; omega), if_neg (by omega)]
              have q1 : (put4 (m) x1) 8 i = byS x1 (24 - 8 * (i - m 1 2 - 0)) := by
                show (if _ then _ else _) = _
                rw [if_pos ⟨rfl, by omega, by omega⟩]
                congr 1
                omega
              rw [q5, q4, q3, q2, q1]
            have w : (up (up (up (up (up (up (put4 (put4 (put4 (put4 (put4 (m) x1) x2) x3) x4) x5) 136 0 0) 142 0 x1) 142 1 x2) 142 2 x3) 142 3 x4) 142 4 x5) 142 0 = x1 := by simp (disch := omega) only [Option.bind_some, xI, xU, xUt, xIt, J_lit, J_add, J_sub, J_mul, J_neg, J_ltc, J_lec, J_eqc, lt_T, lt_F, le_T, le_F, eq_T, eq_F, ↓reduceIte, ite_not, not_true_eq_false, not_false_eq_true, true_or, or_true, false_or, or_false, true_and, and_true, false_and, and_false, up_get, Nat.reduceEqDiff, Int.reduceNeg, eqN_T, eqN_F]
            rw [r, hk, w, show i - m 1 2 - 0 * 4 = i - m 1 2 - 0 by omega]
            exact ⟨rfl, byS_in _ _⟩
          · have hk : (i - m 1 2) / 4 = 1 := by omega
            have r : (put4 (put4 (put4 (put4 (put4 (m) x1) x2) x3) x4) x5) 8 i = byS x2 (24 - 8 * (i - m 1 2 - 4)) := by
              have q5 : (put4 (put4 (put4 (put4 (put4 (m) x1) x2) x3) x4) x5) 8 i = (put4 (put4 (put4 (put4 (m) x1) x2) x3) x4) 8 i := by
                show (if _ then _ else _) = _
                rw [if_neg (by rw [z4, z3, z2, z1]; omega), if_neg (by omega)]
              have q4 : (put4 (put4 (put4 (put4 (m) x1) x2) x3) x4) 8 i = (put4 (put4 (put4 (m) x1) x2) x3) 8 i := by
                show (if _ then _ else _) = _
                rw [if_neg (by rw [z3, z2, z1]; omega), if_neg (by omega)]
              have q3 : (put4 (put4 (put4 (m) x1) x2) x3) 8 i = (put4 (put4 (m) x1) x2) 8 i := by
                show (if _ then _ else _) = _
                rw [if_neg (by rw [z2, z1]; omega), if_neg (by omega)]
              have q2 : (put4 (put4 (m) x1) x2) 8 i = byS x2 (24 - 8 * (i - m 1 2 - 4)) := by
                show (if _ then _ else _) = _
                rw [if_pos ⟨rfl, by rw [z1]; omega, by rw [z1]; omega⟩]
                rw [z1]
                congr 1
                omega
              rw [q5, q4, q3, q2]
            have w : (up (up (up (up (up (up (put4 (put4 (put4 (put4 (put4 (m) x1) x2) x3) x4) x5) 136 0 0) 142 0 x1) 142 1 x2) 142 2 x3) 142 3 x4) 142 4 x5) 142 1 = x2 := by simp (disch := omega) only [Option.bind_some, xI, xU, xUt, xIt, J_lit, J_add, J_sub, J_mul, J_neg, J_ltc, J_lec, J_eqc, lt_T, lt_F, le_T, le_F, eq_T, eq_F, ↓reduceIte, ite_not, not_true_eq_false, not_false_eq_true, true_or, or_true, false_or, or_false, true_and, and_true, false_and, and_false, up_get, Nat.reduceEqDiff, Int.reduceNeg, eqN_T, eqN_F]
            rw [r, hk, w, show i - m 1 2 - 1 * 4 = i - m 1 2 - 4 by omega]
            exact ⟨rfl, byS_in _ _⟩
          · have hk : (i - m 1 2) / 4 = 2 := by omega
            have r : (put4 (put4 (put4 (put4 (put4 (m) x1) x2) x3) x4) x5) 8 i = byS x3 (24 - 8 * (i - m 1 2 - 8)) := by
              have q5 : (put4 (put4 (put4 (put4 (put4 (m) x1) x2) x3) x4) x5) 8 i = (put4 (put4 (put4 (put4 (m) x1) x2) x3) x4) 8 i := by
                show (if _ then _ else _) = _
                rw [if_neg (by rw [z4, z3, z2, z1]; omega), if_neg (by omega)]
              have q4 : (put4 (put4 (put4 (put4 (m) x1) x2) x3) x4) 8 i = (put4 (put4 (put4 (m) x1) x2) x3) 8 i := by
                show (if _ then _ else _) = _
                rw [if_neg (by rw [z3, z2, z1]; omega), if_neg (by omega)]
              have q3 : (put4 (put4 (put4 (m) x1) x2) x3) 8 i = byS x3 (24 - 8 * (i - m 1 2 - 8)) := by
                show (if _ then _ else _) = _
                rw [if_pos ⟨rfl, by rw [z2, z1]; omega, by rw [z2, z1]; omega⟩]
                rw [z2, z1]
                congr 1
                omega
              rw [q5, q4, q3]
            have w : (up (up (up (up (up (up (put4 (put4 (put4 (put4 (put4 (m) x1) x2) x3) x4) x5) 136 0 0) 142 0 x1) 142 1 x2) 142 2 x3) 142 3 x4) 142 4 x5) 142 2 = x3 := by simp (disch := omega) only [Option.bind_some, xI, xU, xUt, xIt, J_lit, J_add, J_sub, J_mul, J_neg, J_ltc, J_lec, J_eqc, lt_T, lt_F, le_T, le_F, eq_T, eq_F, ↓reduceIte, ite_not, not_true_eq_false, not_false_eq_true, true_or, or_true, false_or, or_false, true_and, and_true, false_and, and_false, up_get, Nat.reduceEqDiff, Int.reduceNeg, eqN_T, eqN_F]
            rw [r, hk, w, show i - m 1 2 - 2 * 4 = i - m 1 2 - 8 by omega]
            exact ⟨rfl, byS_in _ _⟩
          · have hk : (i - m 1 2) / 4 = 3 := by omega
            have r : (put4 (put4 (put4 (put4 (put4 (m) x1) x2) x3) x4) x5) 8 i = byS x4 (24 - 8 * (i - m 1 2 - 12)) := by
              have q5 : (put4 (put4 (put4 (put4 (put4 (m) x1) x2) x3) x4) x5) 8 i = (put4 (put4 (put4 (put4 (m) x1) x2) x3) x4) 8 i := by
                show (if _ then _ else _) = _
                rw [if_neg (by rw [z4, z3, z2, z1]; omega), if_neg (by omega)]
              have q4 : (put4 (put4 (put4 (put4 (m) x1) x2) x3) x4) 8 i = byS x4 (24 - 8 * (i - m 1 2 - 12)) := by
                show (if _ then _ else _) = _
                rw [if_pos ⟨rfl, by rw [z3, z2, z1]; omega, by rw [z3, z2, z1]; omega⟩]
                rw [z3, z2, z1]
                congr 1
                omega
              rw [q5, q4]
            have w : (up (up (up (up (up (up (put4 (put4 (put4 (put4 (put4 (m) x1) x2) x3) x4) x5) 136 0 0) 142 0 x1) 142 1 x2) 142 2 x3) 142 3 x4) 142 4 x5) 142 3 = x4 := by simp (disch := omega) only [Option.bind_some, xI, xU, xUt, xIt, J_lit, J_add, J_sub, J_mul, J_neg, J_ltc, J_lec, J_eqc, lt_T, lt_F, le_T, le_F, eq_T, eq_F, ↓reduceIte, ite_not, not_true_eq_false, not_false_eq_true, true_or, or_true, false_or, or_false, true_and, and_true, false_and, and_false, up_get, Nat.reduceEqDiff, Int.reduceNeg, eqN_T, eqN_F]
            rw [r, hk, w, show i - m 1 2 - 3 * 4 = i - m 1 2 - 12 by omega]
            exact ⟨rfl, byS_in _ _⟩
          · have hk : (i - m 1 2) / 4 = 4 := by omega
            have r : (put4 (put4 (put4 (put4 (put4 (m) x1) x2) x3) x4) x5) 8 i = byS x5 (24 - 8 * (i - m 1 2 - 16)) := by
              have q5 : (put4 (put4 (put4 (put4 (put4 (m) x1) x2) x3) x4) x5) 8 i = byS x5 (24 - 8 * (i - m 1 2 - 16)) := by
                show (if _ then _ else _) = _
                rw [if_pos ⟨rfl, by rw [z4, z3, z2, z1]; omega, by rw [z4, z3, z2, z1]; omega⟩]
                rw [z4, z3, z2, z1]
                congr 1
                omega
              rw [q5]
            have w : (up (up (up (up (up (up (put4 (put4 (put4 (put4 (put4 (m) x1) x2) x3) x4) x5) 136 0 0) 142 0 x1) 142 1 x2) 142 2 x3) 142 3 x4) 142 4 x5) 142 4 = x5 := by simp (disch := omega) only [Option.bind_some, xI, xU, xUt, xIt, J_lit, J_add, J_sub, J_mul, J_neg, J_ltc, J_lec, J_eqc, lt_T, lt_F, le_T, le_F, eq_T, eq_F, ↓reduceIte, ite_not, not_true_eq_false, not_false_eq_true, true_or, or_true, false_or, or_false, true_and, and_true, false_and, and_false, up_get, Nat.reduceEqDiff, Int.reduceNeg, eqN_T, eqN_F]
            rw [r, hk, w, show i - m 1 2 - 4 * 4 = i - m 1 2 - 16 by omega]
            exact ⟨rfl, byS_in _ _⟩
  · exact oA_of hs (v := J (-1)) (m1 := m) (q1 := q) (m2 := up m 136 0 0) (De.eq 12 (fun n => by
      rw [j_X10_feed_0]
      simp (disch := omega) only [b_X10_feed_0, x0_k hs, x0_r0 hs, x0_r1 hs, x0_r2 hs, x0_r3 hs, x1_k hs, x1_r0 hs, x1_r1 hs, x1_i2 hs, x1_w2 hs, x1_i3 hs, x1_w3 hs, x1_i4 hs, x1_w4 hs, x1_i5 hs, x1_w5 hs, x1_i6 hs, x1_w6 hs, x1_i7 hs, x1_w7 hs, Option.bind_some, xI, xU, xUt, xIt, J_lit, J_add, J_sub, J_mul, J_neg, J_ltc, J_lec, J_eqc, lt_T, lt_F, le_T, le_F, eq_T, eq_F, ↓reduceIte, ite_not, not_true_eq_false, not_false_eq_true, true_or, or_true, false_or, or_false, true_and, and_true, false_and, and_false, up_get, Nat.reduceEqDiff, Int.reduceNeg, eqN_T, eqN_F]
      simp (disch := omega) only [j_X3_hasSpace_0, b_X3_hasSpace_0, x1_k hs, x1_r0 hs, x1_r1 hs, x1_i2 hs, x1_w2 hs, x1_i3 hs, x1_w3 hs, x1_i4 hs, x1_w4 hs, x1_i5 hs, x1_w5 hs, x1_i6 hs, x1_w6 hs, x1_i7 hs, x1_w7 hs, x8_g hs, x8_s hs, x8_l hs, Option.bind_some, xI, xU, xUt, xIt, J_lit, J_add, J_sub, J_mul, J_neg, J_ltc, J_lec, J_eqc, lt_T, lt_F, le_T, le_F, eq_T, eq_F, ↓reduceIte, ite_not, not_true_eq_false, not_false_eq_true, true_or, or_true, false_or, or_false, true_and, and_true, false_and, and_false, up_get, Nat.reduceEqDiff, Int.reduceNeg, eqN_T, eqN_F])) (De.eq 12 (fun n => by
      rw [j_X11_feed_0]
      simp (disch := omega) only [b_X11_feed_0, x136_k hs, x136_i0 hs, x136_w0 hs, x136_r1 hs, x136_r2 hs, x136_r3 hs, x136_r4 hs, x136_i5 hs, x136_w5 hs, x136_i6 hs, x136_w6 hs, x136_i7 hs, x136_w7 hs, x136_r8 hs, x136_i9 hs, x136_w9 hs, x136_i10 hs, x136_w10 hs, x136_i11 hs, x136_w11 hs, x136_i12 hs, x136_w12 hs, x136_i13 hs, x136_w13 hs, x136_i14 hs, x136_w14 hs, x136_r15 hs, x136_i16 hs, x136_w16 hs, x136_r17 hs, x136_r18 hs, x136_r19 hs, x136_r20 hs, x136_r21 hs, x136_i22 hs, x136_w22 hs, x136_r23 hs, x136_r24 hs, x136_i25 hs, x136_w25 hs, x136_i26 hs, x136_w26 hs, x136_r27 hs, x136_r28 hs, x136_i29 hs, x136_w29 hs, Option.bind_some, xI, xU, xUt, xIt, J_lit, J_add, J_sub, J_mul, J_neg, J_ltc, J_lec, J_eqc, lt_T, lt_F, le_T, le_F, eq_T, eq_F, ↓reduceIte, ite_not, not_true_eq_false, not_false_eq_true, true_or, or_true, false_or, or_false, true_and, and_true, false_and, and_false, up_get, Nat.reduceEqDiff, Int.reduceNeg, eqN_T, eqN_F])) (Inv.ro' hI hs hR)
