/-! could: the places that are left -/
theorem De.cg {f g : Nat → xO} {r : xR} {P : xH} (k : Nat) (e : ∀ n, f (n + k) = g n) (h : De g r P) : De f r P := De.stepk k (by
  obtain ⟨n0, h⟩ := h
  exact ⟨n0, fun n hn => (e n).trans (h n hn)⟩)
section SAY3
variable {S : xH} {m : Nat → Int → Int} {q : Nat → Int → Int64} {kn pe t p s : Int}
theorem e_isTooFar (hs : Sk S) {x : Int} (x0 : 0 ≤ x) (x1 : x < 30) (p0 : 0 ≤ p) (p1 : p < 16) (h1 : 0 ≤ m 23 x) (h2 : m 23 x ≤ 15) (d0 : 0 ≤ dst (m 23 x) p) (d1 : dst (m 23 x) p ≤ 6) (u0 : 0 ≤ s * ((m 24 x - t).natAbs : Int)) (u1 : s * ((m 24 x - t).natAbs : Int) ≤ 6400) (t0 : -1000 ≤ m 24 x - t) (t1 : m 24 x - t ≤ 1000) (n : Nat) : f_X6_isTooFar (n + 2) 0 [.ref 133, .int (J x), .int (J p), .int (J t), .int (J s)] (hp S m q) = some (.inl (some (.int (J (if dst (m 23 x) p ≤ s * ((m 24 x - t).natAbs : Int) then 0 else 1)))), hp S m q) := by
  simp (disch := omega) only [j_X6_isTooFar_0, b_X6_isTooFar_0, x133_k hs, x133_r0 hs, x133_r1 hs, x133_r2 hs, x133_r3 hs, x133_i4 hs, x133_w4 hs, x16_k hs, x16_r0 hs, x16_r1 hs, x16_r2 hs, x16_i3 hs, x16_w3 hs, x17_m0 hs, x17_m1 hs, x17_m2 hs, x17_m3 hs, x17_m4 hs, x17_m5 hs, x17_m6 hs, x17_m7 hs, x17_m8 hs, x17_l hs, x23_g hs, x23_s hs, x23_l hs, x24_g hs, x24_s hs, x24_l hs, e_steps, stp_dst, J_abs, Option.bind_some, xI, xU, xUt, xIt, J_lit, J_add, J_sub, J_mul, J_neg, J_ltc, J_lec, J_eqc, lt_T, lt_F, le_T, le_F, eq_T, eq_F, ↓reduceIte, ite_not, not_true_eq_false, not_false_eq_true, true_or, or_true, false_or, or_false, true_and, and_true, false_and, and_false, up_get, Nat.reduceEqDiff, Int.reduceNeg, eqN_T, eqN_F]
  split <;> rfl
/-- the class: can this place be? -/
theorem q_left_i (hs : Sk S) (F : Fok m) (C : Fcl m) (L : Int → Int) (N : Nat) (hN : (N : Int) = m 133 4) (hL : Lst m 134 L N) (hw : ∀ i : Int, 0 ≤ i → i < N → 0 ≤ m 139 (761 + 10 * L i + 6) ∧ m 139 (761 + 10 * L i + 6) ≤ 400) (t0 : 0 ≤ t) (t1 : t ≤ 400) (p0 : 0 ≤ p) (p1 : p < 16) (acc : Int32) (r : xR) (P : xH) (D : ∀ i : Int, De (fun n => f_X6_placesLeft n 63 [.ref 133, .int (J t), .int (J (m 139 6)), .int acc, .int (J p), .int (J (if allN (m 139) L t p N 0 = true then 1 else 0)), .int (J i)] (hp S m q)) r P) : ∀ k i : Nat, i + k = N → allN (m 139) L t p k i = allN (m 139) L t p N 0 → De (fun n => f_X6_placesLeft n 18 [.ref 133, .int (J t), .int (J (m 139 6)), .int acc, .int (J p), .int (J 1), .int (J i)] (hp S m q)) r P
  | 0, i, h, ha => by
    have l1 := hL.1
    have D := D i
    rw [← ha, allN, if_pos rfl] at D
    refine De.stepk 3 ?_
    simp only [j_X6_placesLeft_18]
    simp (disch := omega) only [b_X6_placesLeft_18, x133_k hs, x133_r0 hs, x133_r1 hs, x133_r2 hs, x133_r3 hs, x133_i4 hs, x133_w4 hs, Option.bind_some, xI, xU, xUt, xIt, J_lit, J_add, J_sub, J_mul, J_neg, J_ltc, J_lec, J_eqc, lt_T, lt_F, le_T, le_F, eq_T, eq_F, ↓reduceIte, ite_not, not_true_eq_false, not_false_eq_true, true_or, or_true, false_or, or_false, true_and, and_true, false_and, and_false, up_get, Nat.reduceEqDiff, Int.reduceNeg, eqN_T, eqN_F]
    exact D.sh 2
  | k + 1, i, h, ha => by
    have l1 := hL.1
    rw [allN] at ha
    have ih := q_left_i hs F C L N hN hL hw t0 t1 p0 p1 acc r P D k (i + 1) (by omega)
    obtain ⟨a1, a2, a3⟩ := hL.2 i (by omega) (by omega)
    obtain ⟨c1, c2, c3⟩ := C (L i) a2 a3
    obtain ⟨f1, f2⟩ := F
    obtain ⟨b1, b2, b3, b4⟩ := f2 (L i) a2 a3
    obtain ⟨w1, w2⟩ := hw i (by omega) (by omega)
    have dd := dst_in (a := m 139 (761 + 10 * L i + 5)) (b := p) (by omega) (by omega) (by omega) (by omega)
    have mm := mul_in (a := m 139 6) (b := ((m 139 (761 + 10 * L i + 6) - t).natAbs : Int)) (by omega) (by omega) (by omega) (by omega)
    have T := fun n => e_isTooFar (S := S) (m := m) (q := q) (x := L i) (p := p) (t := t) (s := m 139 6) hs a2 (by omega) p0 p1 (by omega) (by omega) (by rw [c2]; omega) (by rw [c2]; omega) (by rw [c3]; omega) (by rw [c3]; omega) (by omega) (by omega) n
    rw [c2, c3] at T
    by_cases c : dst (m 139 (761 + 10 * L i + 5)) p ≤ m 139 6 * ((m 139 (761 + 10 * L i + 6) - t).natAbs : Int)
    · have e : near (m 139) t p (L i) = true := decide_eq_true c
      rw [e, Bool.true_and] at ha
      have ih := (ih ha).sh 4
      rw [if_pos c] at T
      refine De.stepk 5 ?_
      simp only [j_X6_placesLeft_18]
      simp (disch := omega) only [b_X6_placesLeft_18, x133_k hs, x133_r0 hs, x133_r1 hs, x133_r2 hs, x133_r3 hs, x133_i4 hs, x133_w4 hs, x134_g hs, x134_s hs, x134_l hs, a1, T, Option.bind_some, xI, xU, xUt, xIt, J_lit, J_add, J_sub, J_mul, J_neg, J_ltc, J_lec, J_eqc, lt_T, lt_F, le_T, le_F, eq_T, eq_F, ↓reduceIte, ite_not, not_true_eq_false, not_false_eq_true, true_or, or_true, false_or, or_false, true_and, and_true, false_and, and_false, up_get, Nat.reduceEqDiff, Int.reduceNeg, eqN_T, eqN_F]
      exact ih
    · have e : near (m 139) t p (L i) = false := decide_eq_false c
      rw [e, Bool.false_and] at ha
      have D := D (i + 1)
      rw [← ha, if_neg (by decide)] at D
      rw [if_neg c] at T
      refine De.stepk 5 ?_
      simp only [j_X6_placesLeft_18]
      simp (disch := omega) only [b_X6_placesLeft_18, x133_k hs, x133_r0 hs, x133_r1 hs, x133_r2 hs, x133_r3 hs, x133_i4 hs, x133_w4 hs, x134_g hs, x134_s hs, x134_l hs, a1, T, Option.bind_some, xI, xU, xUt, xIt, J_lit, J_add, J_sub, J_mul, J_neg, J_ltc, J_lec, J_eqc, lt_T, lt_F, le_T, le_F, eq_T, eq_F, ↓reduceIte, ite_not, not_true_eq_false, not_false_eq_true, true_or, or_true, false_or, or_false, true_and, and_true, false_and, and_false, up_get, Nat.reduceEqDiff, Int.reduceNeg, eqN_T, eqN_F]
      by_cases z : (i : Int) + 1 < N
      · simp only [j_X6_placesLeft_18]
        simp (disch := omega) only [b_X6_placesLeft_18, x133_k hs, x133_r0 hs, x133_r1 hs, x133_r2 hs, x133_r3 hs, x133_i4 hs, x133_w4 hs, Option.bind_some, xI, xU, xUt, xIt, J_lit, J_add, J_sub, J_mul, J_neg, J_ltc, J_lec, J_eqc, lt_T, lt_F, le_T, le_F, eq_T, eq_F, ↓reduceIte, ite_not, not_true_eq_false, not_false_eq_true, true_or, or_true, false_or, or_false, true_and, and_true, false_and, and_false, up_get, Nat.reduceEqDiff, Int.reduceNeg, eqN_T, eqN_F]
        exact D.sh 3
      · simp only [j_X6_placesLeft_18]
        simp (disch := omega) only [b_X6_placesLeft_18, x133_k hs, x133_r0 hs, x133_r1 hs, x133_r2 hs, x133_r3 hs, x133_i4 hs, x133_w4 hs, Option.bind_some, xI, xU, xUt, xIt, J_lit, J_add, J_sub, J_mul, J_neg, J_ltc, J_lec, J_eqc, lt_T, lt_F, le_T, le_F, eq_T, eq_F, ↓reduceIte, ite_not, not_true_eq_false, not_false_eq_true, true_or, or_true, false_or, or_false, true_and, and_true, false_and, and_false, up_get, Nat.reduceEqDiff, Int.reduceNeg, eqN_T, eqN_F]
        exact D.sh 3
theorem q_left_l (hs : Sk S) (F : Fok m) (C : Fcl m) (L : Int → Int) (N : Nat) (hN : (N : Int) = m 133 4) (hL : Lst m 134 L N) (hw : ∀ i : Int, 0 ≤ i → i < N → 0 ≤ m 139 (761 + 10 * L i + 6) ∧ m 139 (761 + 10 * L i + 6) ≤ 400) (t0 : 0 ≤ t) (t1 : t ≤ 400) : ∀ k p : Nat, p + k = 16 → De (fun n => f_X6_placesLeft n 5 [.ref 133, .int (J t), .int (J (m 139 6)), .int (foPl (m 139) L t N p), .int (J p)] (hp S m q)) (.inl (some (.int (foPl (m 139) L t N 16)))) (hp S m q)
  | 0, p, h => by
    have h : p = 16 := by omega
    subst h
    refine De.stepk 3 ?_
    simp only [j_X6_placesLeft_5]
    simp (disch := omega) only [b_X6_placesLeft_5, x133_k hs, x133_r0 hs, x133_r1 hs, x133_r2 hs, x133_r3 hs, x133_i4 hs, x133_w4 hs, Option.bind_some, xI, xU, xUt, xIt, J_lit, J_add, J_sub, J_mul, J_neg, J_ltc, J_lec, J_eqc, lt_T, lt_F, le_T, le_F, eq_T, eq_F, ↓reduceIte, ite_not, not_true_eq_false, not_false_eq_true, true_or, or_true, false_or, or_false, true_and, and_true, false_and, and_false, up_get, Nat.reduceEqDiff, Int.reduceNeg, eqN_T, eqN_F]
    exact De.ret _ _
  | k + 1, p, h => by
    have ih := (q_left_l hs F C L N hN hL hw t0 t1 k (p + 1) (by omega)).sh 2
    rw [foPl] at ih
    refine De.stepk 3 ?_
    simp only [j_X6_placesLeft_5]
    simp (disch := omega) only [b_X6_placesLeft_5, x133_k hs, x133_r0 hs, x133_r1 hs, x133_r2 hs, x133_r3 hs, x133_i4 hs, x133_w4 hs, Option.bind_some, xI, xU, xUt, xIt, J_lit, J_add, J_sub, J_mul, J_neg, J_ltc, J_lec, J_eqc, lt_T, lt_F, le_T, le_F, eq_T, eq_F, ↓reduceIte, ite_not, not_true_eq_false, not_false_eq_true, true_or, or_true, false_or, or_false, true_and, and_true, false_and, and_false, up_get, Nat.reduceEqDiff, Int.reduceNeg, eqN_T, eqN_F]
    refine (q_left_i hs F C L N hN hL hw t0 t1 (p := p) (by omega) (by omega) (foPl (m 139) L t N p) _ _ (fun i => ?_) N 0 (by omega) rfl).sh 2
    refine De.stepk 3 ?_
    by_cases c : allN (m 139) L t p N 0 = true
    · rw [if_pos c] at ih ⊢
      simp only [j_X6_placesLeft_63]
      simp (disch := omega) only [b_X6_placesLeft_63, x133_k hs, x133_r0 hs, x133_r1 hs, x133_r2 hs, x133_r3 hs, x133_i4 hs, x133_w4 hs, Option.bind_some, xI, xU, xUt, xIt, J_lit, J_add, J_sub, J_mul, J_neg, J_ltc, J_lec, J_eqc, lt_T, lt_F, le_T, le_F, eq_T, eq_F, ↓reduceIte, ite_not, not_true_eq_false, not_false_eq_true, true_or, or_true, false_or, or_false, true_and, and_true, false_and, and_false, up_get, Nat.reduceEqDiff, Int.reduceNeg, eqN_T, eqN_F]
      exact ih
    · rw [if_neg c] at ih ⊢
      simp only [j_X6_placesLeft_63]
      simp (disch := omega) only [b_X6_placesLeft_63, x133_k hs, x133_r0 hs, x133_r1 hs, x133_r2 hs, x133_r3 hs, x133_i4 hs, x133_w4 hs, Option.bind_some, xI, xU, xUt, xIt, J_lit, J_add, J_sub, J_mul, J_neg, J_ltc, J_lec, J_eqc, lt_T, lt_F, le_T, le_F, eq_T, eq_F, ↓reduceIte, ite_not, not_true_eq_false, not_false_eq_true, true_or, or_true, false_or, or_false, true_and, and_true, false_and, and_false, up_get, Nat.reduceEqDiff, Int.reduceNeg, eqN_T, eqN_F]
      exact ih
theorem q_left (hs : Sk S) (F : Fok m) (C : Fcl m) (L : Int → Int) (N : Nat) (hN : (N : Int) = m 133 4) (hL : Lst m 134 L N) (hw : ∀ i : Int, 0 ≤ i → i < N → 0 ≤ m 139 (761 + 10 * L i + 6) ∧ m 139 (761 + 10 * L i + 6) ≤ 400) (t0 : 0 ≤ t) (t1 : t ≤ 400) : De (fun n => f_X6_placesLeft n 0 [.ref 133, .int (J t), .int (J (m 139 6))] (hp S m q)) (.inl (some (.int (foPl (m 139) L t N 16)))) (hp S m q) := by
  refine De.step ?_
  simp only [j_X6_placesLeft_0, b_X6_placesLeft_0, J_lit]
  exact q_left_l hs F C L N hN hL hw t0 t1 16 0 (by omega)
/-- the reference -/
theorem q_could_s2 (hs : Sk S) (F : Fok m) (L : Int → Int) (N : Nat) (hN : (N : Int) = m 136 22) (hL : Lst m 147 L N) (hw : ∀ i : Int, 0 ≤ i → i < N → 0 ≤ m 139 (761 + 10 * L i + 6) ∧ m 139 (761 + 10 * L i + 6) ≤ 400) (t0 : 0 ≤ t) (t1 : t ≤ 400) (p0 : 0 ≤ p) (p1 : p < 16) (acc : Int32) (r : xR) (P : xH) (i : Int) (i0 : 0 ≤ i) (i1 : i < N) (D : De (fun n => f_X11_couldBe n 25 [.ref 136, .int (J pe), .int (J t), .int (J kn), .int acc, .int (J p), .int (J 0), .int (J (i + 1))] (hp S m q)) r P) : De (fun n => f_X11_couldBe n 25 [.ref 136, .int (J pe), .int (J t), .int (J kn), .int acc, .int (J p), .int (J 0), .int (J i)] (hp S m q)) r P := by
  have l1 := hL.1
  refine De.stepk 5 ?_
  simp only [j_X11_couldBe_25]
  simp (disch := omega) only [b_X11_couldBe_25, x136_k hs, x136_i0 hs, x136_w0 hs, x136_r1 hs, x136_r2 hs, x136_r3 hs, x136_r4 hs, x136_i5 hs, x136_w5 hs, x136_i6 hs, x136_w6 hs, x136_i7 hs, x136_w7 hs, x136_r8 hs, x136_i9 hs, x136_w9 hs, x136_i10 hs, x136_w10 hs, x136_i11 hs, x136_w11 hs, x136_i12 hs, x136_w12 hs, x136_i13 hs, x136_w13 hs, x136_i14 hs, x136_w14 hs, x136_r15 hs, x136_i16 hs, x136_w16 hs, x136_r17 hs, x136_r18 hs, x136_r19 hs, x136_r20 hs, x136_r21 hs, x136_i22 hs, x136_w22 hs, x136_r23 hs, x136_r24 hs, x136_i25 hs, x136_w25 hs, x136_i26 hs, x136_w26 hs, x136_r27 hs, x136_r28 hs, x136_i29 hs, x136_w29 hs, Option.bind_some, xI, xU, xUt, xIt, J_lit, J_add, J_sub, J_mul, J_neg, J_ltc, J_lec, J_eqc, lt_T, lt_F, le_T, le_F, eq_T, eq_F, ↓reduceIte, ite_not, not_true_eq_false, not_false_eq_true, true_or, or_true, false_or, or_false, true_and, and_true, false_and, and_false, up_get, Nat.reduceEqDiff, Int.reduceNeg, eqN_T, eqN_F]
  exact D.sh 4
theorem q_could_s1 (hs : Sk S) (F : Fok m) (L : Int → Int) (N : Nat) (hN : (N : Int) = m 136 22) (hL : Lst m 147 L N) (hw : ∀ i : Int, 0 ≤ i → i < N → 0 ≤ m 139 (761 + 10 * L i + 6) ∧ m 139 (761 + 10 * L i + 6) ≤ 400) (t0 : 0 ≤ t) (t1 : t ≤ 400) (p0 : 0 ≤ p) (p1 : p < 16) (acc : Int32) (r : xR) (P : xH) (i : Int) (i0 : 0 ≤ i) (i1 : i < N) (c : dst (m 139 (761 + 10 * L i + 5)) p ≤ m 139 6 * ((m 139 (761 + 10 * L i + 6) - t).natAbs : Int)) (D : De (fun n => f_X11_couldBe n 25 [.ref 136, .int (J pe), .int (J t), .int (J kn), .int acc, .int (J p), .int (J 1), .int (J (i + 1))] (hp S m q)) r P) : De (fun n => f_X11_couldBe n 25 [.ref 136, .int (J pe), .int (J t), .int (J kn), .int acc, .int (J p), .int (J 1), .int (J i)] (hp S m q)) r P := by
  have l1 := hL.1
  obtain ⟨a1, a2, a3⟩ := hL.2 i (by omega) (by omega)
  have O5 := fun n => e_of (S := S) (m := m) (q := q) (w := L i) (k := 5) hs a2 (by have := F.1; omega) (by omega) (by omega) n
  have O6 := fun n => e_of (S := S) (m := m) (q := q) (w := L i) (k := 6) hs a2 (by have := F.1; omega) (by omega) (by omega) n
  obtain ⟨f1, f2⟩ := F
  obtain ⟨b1, b2, b3, b4⟩ := f2 (L i) a2 a3
  obtain ⟨w1, w2⟩ := hw i (by omega) (by omega)
  have dd := dst_in (a := m 139 (761 + 10 * L i + 5)) (b := p) (by omega) (by omega) (by omega) (by omega)
  have mm := mul_in (a := m 139 6) (b := ((m 139 (761 + 10 * L i + 6) - t).natAbs : Int)) (by omega) (by omega) (by omega) (by omega)
  have dc : dst p (m 139 (761 + 10 * L i + 5)) = dst (m 139 (761 + 10 * L i + 5)) p := dst_comm _ _
  have ab : mAbs (J (t - m 139 (761 + 10 * L i + 6))) = J ((m 139 (761 + 10 * L i + 6) - t).natAbs : Int) := by
    rw [J_abs (by omega) (by omega), ← Int.natAbs_neg, Int.neg_sub]
  refine De.cg 5 (fun n => ?_) (D.sh 4)
  rw [j_X11_couldBe_25]
  simp (disch := omega) only [b_X11_couldBe_25, J10, if_false, x136_k hs, x136_i0 hs, x136_w0 hs, x136_r1 hs, x136_r2 hs, x136_r3 hs, x136_r4 hs, x136_i5 hs, x136_w5 hs, x136_i6 hs, x136_w6 hs, x136_i7 hs, x136_w7 hs, x136_r8 hs, x136_i9 hs, x136_w9 hs, x136_i10 hs, x136_w10 hs, x136_i11 hs, x136_w11 hs, x136_i12 hs, x136_w12 hs, x136_i13 hs, x136_w13 hs, x136_i14 hs, x136_w14 hs, x136_r15 hs, x136_i16 hs, x136_w16 hs, x136_r17 hs, x136_r18 hs, x136_r19 hs, x136_r20 hs, x136_r21 hs, x136_i22 hs, x136_w22 hs, x136_r23 hs, x136_r24 hs, x136_i25 hs, x136_w25 hs, x136_i26 hs, x136_w26 hs, x136_r27 hs, x136_r28 hs, x136_i29 hs, x136_w29 hs, x147_g hs, x147_s hs, x147_l hs, a1, Option.bind_some, J_lit]
  rw [O5, Option.bind_some, xI]
  rw [e_between p0 p1 (by omega) (by omega), Option.bind_some, xI]
  simp only [x136_r3 hs, x136_k hs, x136_r21 hs, x147_g hs i0 (show i < 30 by omega), a1, Option.bind_some, x139_g hs (show (0:Int) ≤ 6 by omega) (show (6:Int) < 5921 by omega), O6, xI, stp_dst p0 p1 (show 0 ≤ m 139 (761 + 10 * L i + 5) by omega) (show m 139 (761 + 10 * L i + 5) < 16 by omega), dc, ab, J_sub, J_mul, J_add, J_lit]
  simp (disch := omega) only [J_ltc, J_lec, lt_T, lt_F, le_T, le_F, ↓reduceIte]
theorem q_could_s0 (hs : Sk S) (F : Fok m) (L : Int → Int) (N : Nat) (hN : (N : Int) = m 136 22) (hL : Lst m 147 L N) (hw : ∀ i : Int, 0 ≤ i → i < N → 0 ≤ m 139 (761 + 10 * L i + 6) ∧ m 139 (761 + 10 * L i + 6) ≤ 400) (t0 : 0 ≤ t) (t1 : t ≤ 400) (p0 : 0 ≤ p) (p1 : p < 16) (acc : Int32) (r : xR) (P : xH) (i : Int) (i0 : 0 ≤ i) (i1 : i < N) (c : ¬ dst (m 139 (761 + 10 * L i + 5)) p ≤ m 139 6 * ((m 139 (761 + 10 * L i + 6) - t).natAbs : Int)) (D : De (fun n => f_X11_couldBe n 25 [.ref 136, .int (J pe), .int (J t), .int (J kn), .int acc, .int (J p), .int (J 0), .int (J (i + 1))] (hp S m q)) r P) : De (fun n => f_X11_couldBe n 25 [.ref 136, .int (J pe), .int (J t), .int (J kn), .int acc, .int (J p), .int (J 1), .int (J i)] (hp S m q)) r P := by
  have l1 := hL.1
  obtain ⟨a1, a2, a3⟩ := hL.2 i (by omega) (by omega)
  have O5 := fun n => e_of (S := S) (m := m) (q := q) (w := L i) (k := 5) hs a2 (by have := F.1; omega) (by omega) (by omega) n
  have O6 := fun n => e_of (S := S) (m := m) (q := q) (w := L i) (k := 6) hs a2 (by have := F.1; omega) (by omega) (by omega) n
  obtain ⟨f1, f2⟩ := F
  obtain ⟨b1, b2, b3, b4⟩ := f2 (L i) a2 a3
  obtain ⟨w1, w2⟩ := hw i (by omega) (by omega)
  have dd := dst_in (a := m 139 (761 + 10 * L i + 5)) (b := p) (by omega) (by omega) (by omega) (by omega)
  have mm := mul_in (a := m 139 6) (b := ((m 139 (761 + 10 * L i + 6) - t).natAbs : Int)) (by omega) (by omega) (by omega) (by omega)
  have dc : dst p (m 139 (761 + 10 * L i + 5)) = dst (m 139 (761 + 10 * L i + 5)) p := dst_comm _ _
  have ab : mAbs (J (t - m 139 (761 + 10 * L i + 6))) = J ((m 139 (761 + 10 * L i + 6) - t).natAbs : Int) := by
    rw [J_abs (by omega) (by omega), ← Int.natAbs_neg, Int.neg_sub]
  refine De.cg 5 (fun n => ?_) (D.sh 4)
  rw [j_X11_couldBe_25]
  simp (disch := omega) only [b_X11_couldBe_25, J10, if_false, x136_k hs, x136_i0 hs, x136_w0 hs, x136_r1 hs, x136_r2 hs, x136_r3 hs, x136_r4 hs, x136_i5 hs, x136_w5 hs, x136_i6 hs, x136_w6 hs, x136_i7 hs, x136_w7 hs, x136_r8 hs, x136_i9 hs, x136_w9 hs, x136_i10 hs, x136_w10 hs, x136_i11 hs, x136_w11 hs, x136_i12 hs, x136_w12 hs, x136_i13 hs, x136_w13 hs, x136_i14 hs, x136_w14 hs, x136_r15 hs, x136_i16 hs, x136_w16 hs, x136_r17 hs, x136_r18 hs, x136_r19 hs, x136_r20 hs, x136_r21 hs, x136_i22 hs, x136_w22 hs, x136_r23 hs, x136_r24 hs, x136_i25 hs, x136_w25 hs, x136_i26 hs, x136_w26 hs, x136_r27 hs, x136_r28 hs, x136_i29 hs, x136_w29 hs, x147_g hs, x147_s hs, x147_l hs, a1, Option.bind_some, J_lit]
  rw [O5, Option.bind_some, xI]
  rw [e_between p0 p1 (by omega) (by omega), Option.bind_some, xI]
  simp only [x136_r3 hs, x136_k hs, x136_r21 hs, x147_g hs i0 (show i < 30 by omega), a1, Option.bind_some, x139_g hs (show (0:Int) ≤ 6 by omega) (show (6:Int) < 5921 by omega), O6, xI, stp_dst p0 p1 (show 0 ≤ m 139 (761 + 10 * L i + 5) by omega) (show m 139 (761 + 10 * L i + 5) < 16 by omega), dc, ab, J_sub, J_mul, J_add, J_lit]
  simp (disch := omega) only [J_ltc, J_lec, lt_T, lt_F, le_T, le_F, ↓reduceIte]
theorem q_could_i (hs : Sk S) (F : Fok m) (L : Int → Int) (N : Nat) (hN : (N : Int) = m 136 22) (hL : Lst m 147 L N) (hw : ∀ i : Int, 0 ≤ i → i < N → 0 ≤ m 139 (761 + 10 * L i + 6) ∧ m 139 (761 + 10 * L i + 6) ≤ 400) (t0 : 0 ≤ t) (t1 : t ≤ 400) (p0 : 0 ≤ p) (p1 : p < 16) (acc : Int32) (r : xR) (P : xH) (D : De (fun n => f_X11_couldBe n 25 [.ref 136, .int (J pe), .int (J t), .int (J kn), .int acc, .int (J p), .int (J (if allN (m 139) L t p N 0 = true then 1 else 0)), .int (J N)] (hp S m q)) r P) : ∀ (k i : Nat) (b : Bool), i + k = N → (b && allN (m 139) L t p k i) = allN (m 139) L t p N 0 → De (fun n => f_X11_couldBe n 25 [.ref 136, .int (J pe), .int (J t), .int (J kn), .int acc, .int (J p), .int (J (if b = true then 1 else 0)), .int (J i)] (hp S m q)) r P := by
  intro k
  induction k with
  | zero =>
    intro i b h ha
    have h : i = N := by omega
    subst h
    rw [allN, Bool.and_true] at ha
    rw [ha]
    exact D
  | succ k IH =>
    intro i b h ha
    cases b with
    | false =>
      have ih := IH (i + 1) false (by omega) (by rw [Bool.false_and] at ha ⊢; exact ha)
      simp only [Bool.false_eq_true, if_false] at ih ⊢
      exact q_could_s2 hs F L N hN hL hw t0 t1 p0 p1 acc r P i (by omega) (by omega) ih
    | true =>
      rw [Bool.true_and, allN] at ha
      simp only [if_true]
      by_cases c : dst (m 139 (761 + 10 * L i + 5)) p ≤ m 139 6 * ((m 139 (761 + 10 * L i + 6) - t).natAbs : Int)
      · have e : near (m 139) t p (L i) = true := decide_eq_true c
        rw [e, Bool.true_and] at ha
        have ih := IH (i + 1) true (by omega) (by rw [Bool.true_and]; exact ha)
        simp only [if_true] at ih
        exact q_could_s1 hs F L N hN hL hw t0 t1 p0 p1 acc r P i (by omega) (by omega) c ih
      · have e : near (m 139) t p (L i) = false := decide_eq_false c
        rw [e, Bool.false_and] at ha
        have ih := IH (i + 1) false (by omega) (by rw [Bool.false_and]; exact ha)
        simp only [Bool.false_eq_true, if_false] at ih
        exact q_could_s0 hs F L N hN hL hw t0 t1 p0 p1 acc r P i (by omega) (by omega) c ih
theorem q_could_l (hs : Sk S) (F : Fok m) (L : Int → Int) (N : Nat) (hN : (N : Int) = m 136 22) (hL : Lst m 147 L N) (hw : ∀ i : Int, 0 ≤ i → i < N → 0 ≤ m 139 (761 + 10 * L i + 6) ∧ m 139 (761 + 10 * L i + 6) ≤ 400) (t0 : 0 ≤ t) (t1 : t ≤ 400) : ∀ k p : Nat, p + k = 16 → De (fun n => f_X11_couldBe n 12 [.ref 136, .int (J pe), .int (J t), .int (J kn), .int (foPl (m 139) L t N p), .int (J p)] (hp S m q)) (.inl (some (.int (foPl (m 139) L t N 16)))) (hp S m q)
  | 0, p, h => by
    have h : p = 16 := by omega
    subst h
    refine De.stepk 3 ?_
    simp only [j_X11_couldBe_12]
    simp (disch := omega) only [b_X11_couldBe_12, x136_k hs, x136_i0 hs, x136_w0 hs, x136_r1 hs, x136_r2 hs, x136_r3 hs, x136_r4 hs, x136_i5 hs, x136_w5 hs, x136_i6 hs, x136_w6 hs, x136_i7 hs, x136_w7 hs, x136_r8 hs, x136_i9 hs, x136_w9 hs, x136_i10 hs, x136_w10 hs, x136_i11 hs, x136_w11 hs, x136_i12 hs, x136_w12 hs, x136_i13 hs, x136_w13 hs, x136_i14 hs, x136_w14 hs, x136_r15 hs, x136_i16 hs, x136_w16 hs, x136_r17 hs, x136_r18 hs, x136_r19 hs, x136_r20 hs, x136_r21 hs, x136_i22 hs, x136_w22 hs, x136_r23 hs, x136_r24 hs, x136_i25 hs, x136_w25 hs, x136_i26 hs, x136_w26 hs, x136_r27 hs, x136_r28 hs, x136_i29 hs, x136_w29 hs, Option.bind_some, xI, xU, xUt, xIt, J_lit, J_add, J_sub, J_mul, J_neg, J_ltc, J_lec, J_eqc, lt_T, lt_F, le_T, le_F, eq_T, eq_F, ↓reduceIte, ite_not, not_true_eq_false, not_false_eq_true, true_or, or_true, false_or, or_false, true_and, and_true, false_and, and_false, up_get, Nat.reduceEqDiff, Int.reduceNeg, eqN_T, eqN_F]
    exact De.ret _ _
  | k + 1, p, h => by
    have l1 := hL.1
    have ih := (q_could_l hs F L N hN hL hw t0 t1 k (p + 1) (by omega)).sh 2
    rw [foPl] at ih
    refine De.stepk 3 ?_
    simp only [j_X11_couldBe_12]
    simp (disch := omega) only [b_X11_couldBe_12, x136_k hs, x136_i0 hs, x136_w0 hs, x136_r1 hs, x136_r2 hs, x136_r3 hs, x136_r4 hs, x136_i5 hs, x136_w5 hs, x136_i6 hs, x136_w6 hs, x136_i7 hs, x136_w7 hs, x136_r8 hs, x136_i9 hs, x136_w9 hs, x136_i10 hs, x136_w10 hs, x136_i11 hs, x136_w11 hs, x136_i12 hs, x136_w12 hs, x136_i13 hs, x136_w13 hs, x136_i14 hs, x136_w14 hs, x136_r15 hs, x136_i16 hs, x136_w16 hs, x136_r17 hs, x136_r18 hs, x136_r19 hs, x136_r20 hs, x136_r21 hs, x136_i22 hs, x136_w22 hs, x136_r23 hs, x136_r24 hs, x136_i25 hs, x136_w25 hs, x136_i26 hs, x136_w26 hs, x136_r27 hs, x136_r28 hs, x136_i29 hs, x136_w29 hs, Option.bind_some, xI, xU, xUt, xIt, J_lit, J_add, J_sub, J_mul, J_neg, J_ltc, J_lec, J_eqc, lt_T, lt_F, le_T, le_F, eq_T, eq_F, ↓reduceIte, ite_not, not_true_eq_false, not_false_eq_true, true_or, or_true, false_or, or_false, true_and, and_true, false_and, and_false, up_get, Nat.reduceEqDiff, Int.reduceNeg, eqN_T, eqN_F]
    have D : De (fun n => f_X11_couldBe n 25 [.ref 136, .int (J pe), .int (J t), .int (J kn), .int (foPl (m 139) L t N p), .int (J p), .int (J (if allN (m 139) L t p N 0 = true then 1 else 0)), .int (J N)] (hp S m q)) (.inl (some (.int (foPl (m 139) L t N 16)))) (hp S m q) := by
      refine De.stepk 3 ?_
      by_cases c : allN (m 139) L t p N 0 = true
      · rw [if_pos c] at ih ⊢
        simp only [j_X11_couldBe_25]
        simp (disch := omega) only [b_X11_couldBe_25, x136_k hs, x136_i0 hs, x136_w0 hs, x136_r1 hs, x136_r2 hs, x136_r3 hs, x136_r4 hs, x136_i5 hs, x136_w5 hs, x136_i6 hs, x136_w6 hs, x136_i7 hs, x136_w7 hs, x136_r8 hs, x136_i9 hs, x136_w9 hs, x136_i10 hs, x136_w10 hs, x136_i11 hs, x136_w11 hs, x136_i12 hs, x136_w12 hs, x136_i13 hs, x136_w13 hs, x136_i14 hs, x136_w14 hs, x136_r15 hs, x136_i16 hs, x136_w16 hs, x136_r17 hs, x136_r18 hs, x136_r19 hs, x136_r20 hs, x136_r21 hs, x136_i22 hs, x136_w22 hs, x136_r23 hs, x136_r24 hs, x136_i25 hs, x136_w25 hs, x136_i26 hs, x136_w26 hs, x136_r27 hs, x136_r28 hs, x136_i29 hs, x136_w29 hs, Option.bind_some, xI, xU, xUt, xIt, J_lit, J_add, J_sub, J_mul, J_neg, J_ltc, J_lec, J_eqc, lt_T, lt_F, le_T, le_F, eq_T, eq_F, ↓reduceIte, ite_not, not_true_eq_false, not_false_eq_true, true_or, or_true, false_or, or_false, true_and, and_true, false_and, and_false, up_get, Nat.reduceEqDiff, Int.reduceNeg, eqN_T, eqN_F]
        exact ih
      · rw [if_neg c] at ih ⊢
        simp only [j_X11_couldBe_25]
        simp (disch := omega) only [b_X11_couldBe_25, x136_k hs, x136_i0 hs, x136_w0 hs, x136_r1 hs, x136_r2 hs, x136_r3 hs, x136_r4 hs, x136_i5 hs, x136_w5 hs, x136_i6 hs, x136_w6 hs, x136_i7 hs, x136_w7 hs, x136_r8 hs, x136_i9 hs, x136_w9 hs, x136_i10 hs, x136_w10 hs, x136_i11 hs, x136_w11 hs, x136_i12 hs, x136_w12 hs, x136_i13 hs, x136_w13 hs, x136_i14 hs, x136_w14 hs, x136_r15 hs, x136_i16 hs, x136_w16 hs, x136_r17 hs, x136_r18 hs, x136_r19 hs, x136_r20 hs, x136_r21 hs, x136_i22 hs, x136_w22 hs, x136_r23 hs, x136_r24 hs, x136_i25 hs, x136_w25 hs, x136_i26 hs, x136_w26 hs, x136_r27 hs, x136_r28 hs, x136_i29 hs, x136_w29 hs, Option.bind_some, xI, xU, xUt, xIt, J_lit, J_add, J_sub, J_mul, J_neg, J_ltc, J_lec, J_eqc, lt_T, lt_F, le_T, le_F, eq_T, eq_F, ↓reduceIte, ite_not, not_true_eq_false, not_false_eq_true, true_or, or_true, false_or, or_false, true_and, and_true, false_and, and_false, up_get, Nat.reduceEqDiff, Int.reduceNeg, eqN_T, eqN_F]
        exact ih
    have Z := (q_could_i (pe := pe) (kn := kn) hs F L N hN hL hw t0 t1 (p := p) (by omega) (by omega) (foPl (m 139) L t N p) (.inl (some (.int (foPl (m 139) L t N 16)))) (hp S m q) D N 0 true (by omega) (Bool.true_and _)).sh 2
    simp only [if_true] at Z
    exact Z
end SAY3
