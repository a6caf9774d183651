/-! a meeting, by both -/
section BESTM
variable {S : xH} {m m' m0 : Nat → Int → Int} {q q' : Nat → Int → Int64} {told pa pb y ln sp : Int} {w v g kd nm bg so : Int → Int} {da db : Nat}
theorem rfS_in (R : Rrul ln sp kd nm bg so g) : ∀ n : Nat, 0 ≤ (rfS w v g pa pb da db n).2 ∧ (rfS w v g pa pb da db n).2 ≤ 99990
  | 0 => ⟨by simp [rfS], by simp [rfS]⟩
  | n + 1 => by
    have ih := rfS_in R n
    have key : ∀ (c1 c2 : Prop) [Decidable c1] [Decidable c2] (p : Int), 0 ≤ (if c1 then (if c2 then ((n : Int), mrk w v g p n) else rfS w v g pa pb da db n) else rfS w v g pa pb da db n).2 ∧ (if c1 then (if c2 then ((n : Int), mrk w v g p n) else rfS w v g pa pb da db n) else rfS w v g pa pb da db n).2 ≤ 99990 := by
      intro c1 c2 _ _ p
      have k := mrk_in (w := w) (v := v) R p n
      by_cases h1 : c1
      · by_cases h2 : c2
        · simp only [h1, h2, if_true]
          exact k
        · simp only [h1, h2, if_true, if_false]
          exact ih
      · simp only [h1, if_false]
        exact ih
    rw [rfS]
    exact key _ _ _
theorem rfS_stop (n : Nat) : ∀ k : Nat, (∀ x : Int, n ≤ x → x < n + k → ctS w v g pa pb db x = false ∧ ctS w v g pb pa da x = false) → rfS w v g pa pb da db (n + k) = rfS w v g pa pb da db n
  | 0, _ => rfl
  | k + 1, h => by
    obtain ⟨h1, h2⟩ := h ((n + k : Nat) : Int) (by omega) (by omega)
    rw [← Nat.add_assoc, rfS, h1, h2, if_neg (by split <;> decide)]
    exact rfS_stop n k (fun x a b => h x a (by omega))
/-- one word, looked at by its giver -/
theorem q_best115 (hs : Sk S) (W : Wok (m0 139)) (V : Vok told (m0 139) (m0 137)) (M0 : RulM m0 y g) (R : Rrul ln sp kd nm bg so g) {gi ta sd x z b mo : Int} {d : Nat} (g0 : 0 ≤ gi) (g1 : gi < m0 139 0) (t0 : 0 ≤ ta) (t1 : ta < m0 139 0) (x0 : 0 ≤ x) (x1 : x < m0 139 1) (s0 : 0 ≤ sd) (s1 : sd ≤ 1) (G : GvM m0 sd d) (F : Fr3 m0 m) (b0 : -1 ≤ b ∧ b < 30 ∧ 0 ≤ mo ∧ mo ≤ 99990) : ∃ m', Fr3 m0 m' ∧ ∀ {r' : xR} {P' : xH}, De (fun n => f_X11_meet n 62 [.ref 136, .int (J pa), .int (J pb), .int (J 1), .int (J (if ctS (m0 139) (m0 137) g gi ta d x = true ∧ (b < 0 ∨ mo < mrk (m0 139) (m0 137) g gi x) then x else b)), .int (J (if ctS (m0 139) (m0 137) g gi ta d x = true ∧ (b < 0 ∨ mo < mrk (m0 139) (m0 137) g gi x) then mrk (m0 139) (m0 137) g gi x else mo)), .int (J (x + 1))] (hp S m' q)) r' P' → De (fun n => f_X11_meet n 115 [.ref 136, .int (J pa), .int (J pb), .int (J 1), .int (J b), .int (J mo), .int (J x), .int (J z), .int (J gi), .ref 136, .int (J gi), .int (J ta), .int (J sd)] (hp S m q)) r' P' := by
  have e9 : m 139 = m0 139 := F.row (by decide) (by decide) (by decide)
  have e7 : m 137 = m0 137 := F.row (by decide) (by decide) (by decide)
  have M := M0.cg (m' := m) (F 136 6 (by decide) (by decide) (by decide)) (fun i => congrFun e9 i)
  have G1 : GvM m sd d := fun x a b => (F 146 _ (by decide) (by decide) (by decide)).trans (G x a b)
  obtain ⟨m1, D1, F1⟩ := q_canM (q := q) (m := m) (gi := gi) (ta := ta) (x := x) hs (by rw [e9]; exact W) (by rw [e9, e7]; exact V) M R g0 (by rw [e9]; exact g1) t0 (by rw [e9]; exact t1) x0 (by rw [e9]; exact x1) s0 s1 G1
  rw [e9, e7] at D1
  have F10 := F.tr F1
  by_cases c : ctS (m0 139) (m0 137) g gi ta d x = true
  · have h1 := ctS_1 c
    have f9 : m1 139 = m0 139 := F10.row (by decide) (by decide) (by decide)
    have f7 : m1 137 = m0 137 := F10.row (by decide) (by decide) (by decide)
    obtain ⟨m2, D2, F2⟩ := q_markM (q := q) (m := m1) (p := gi) (x := x) hs (by rw [f9]; exact W) (by rw [f9, f7]; exact V) (M0.cg (m' := m1) (F10 136 6 (by decide) (by decide) (by decide)) (fun i => congrFun f9 i)) R g0 (by rw [f9]; exact g1) x0 (by rw [f9]; exact x1) (by rw [f7]; exact h1.1)
    rw [f9, f7] at D2
    have k := mrk_in (w := m0 139) (v := m0 137) R gi x
    rw [if_pos c] at D1
    refine ⟨m2, F10.tr F2, fun D => ?_⟩
    refine De.step ?_
    simp only [j_X11_meet_115]
    simp (disch := omega) only [b_X11_meet_115, x136_k hs, x136_i0 hs, x136_w0 hs, x136_r1 hs, x136_r2 hs, x136_r3 hs, x136_r4 hs, x136_i5 hs, x136_w5 hs, x136_i6 hs, x136_w6 hs, x136_i7 hs, x136_w7 hs, x136_r8 hs, x136_i9 hs, x136_w9 hs, x136_i10 hs, x136_w10 hs, x136_i11 hs, x136_w11 hs, x136_i12 hs, x136_w12 hs, x136_i13 hs, x136_w13 hs, x136_i14 hs, x136_w14 hs, x136_r15 hs, x136_i16 hs, x136_w16 hs, x136_r17 hs, x136_r18 hs, x136_r19 hs, x136_r20 hs, x136_r21 hs, x136_i22 hs, x136_w22 hs, x136_r23 hs, x136_r24 hs, x136_i25 hs, x136_w25 hs, x136_i26 hs, x136_w26 hs, x136_r27 hs, x136_r28 hs, x136_i29 hs, x136_w29 hs, Option.bind_some]
    refine De.call D1 ?_
    simp (disch := omega) only [x136_k hs, x136_i0 hs, x136_w0 hs, x136_r1 hs, x136_r2 hs, x136_r3 hs, x136_r4 hs, x136_i5 hs, x136_w5 hs, x136_i6 hs, x136_w6 hs, x136_i7 hs, x136_w7 hs, x136_r8 hs, x136_i9 hs, x136_w9 hs, x136_i10 hs, x136_w10 hs, x136_i11 hs, x136_w11 hs, x136_i12 hs, x136_w12 hs, x136_i13 hs, x136_w13 hs, x136_i14 hs, x136_w14 hs, x136_r15 hs, x136_i16 hs, x136_w16 hs, x136_r17 hs, x136_r18 hs, x136_r19 hs, x136_r20 hs, x136_r21 hs, x136_i22 hs, x136_w22 hs, x136_r23 hs, x136_r24 hs, x136_i25 hs, x136_w25 hs, x136_i26 hs, x136_w26 hs, x136_r27 hs, x136_r28 hs, x136_i29 hs, x136_w29 hs, Option.bind_some, xI, xU, xUt, xIt, J_lit, J_add, J_sub, J_mul, J_neg, J_ltc, J_lec, J_eqc, lt_T, lt_F, le_T, le_F, eq_T, eq_F, ↓reduceIte, ite_not, not_true_eq_false, not_false_eq_true, true_or, or_true, false_or, or_false, true_and, and_true, false_and, and_false, up_get, Nat.reduceEqDiff, Int.reduceNeg, eqN_T, eqN_F]
    refine De.call D2 ?_
    by_cases c1 : b < 0
    · rw [if_pos ⟨c, Or.inl c1⟩, if_pos ⟨c, Or.inl c1⟩] at D
      simp (disch := omega) only [Option.bind_some, xI, xU, xUt, xIt, J_lit, J_add, J_sub, J_mul, J_neg, J_ltc, J_lec, J_eqc, lt_T, lt_F, le_T, le_F, eq_T, eq_F, ↓reduceIte, ite_not, not_true_eq_false, not_false_eq_true, true_or, or_true, false_or, or_false, true_and, and_true, false_and, and_false, up_get, Nat.reduceEqDiff, Int.reduceNeg, eqN_T, eqN_F]
      exact D
    · by_cases c2 : mo < mrk (m0 139) (m0 137) g gi x
      · rw [if_pos ⟨c, Or.inr c2⟩, if_pos ⟨c, Or.inr c2⟩] at D
        simp (disch := omega) only [Option.bind_some, xI, xU, xUt, xIt, J_lit, J_add, J_sub, J_mul, J_neg, J_ltc, J_lec, J_eqc, lt_T, lt_F, le_T, le_F, eq_T, eq_F, ↓reduceIte, ite_not, not_true_eq_false, not_false_eq_true, true_or, or_true, false_or, or_false, true_and, and_true, false_and, and_false, up_get, Nat.reduceEqDiff, Int.reduceNeg, eqN_T, eqN_F]
        exact D
      · rw [if_neg (fun z => by have := z.2; omega), if_neg (fun z => by have := z.2; omega)] at D
        simp (disch := omega) only [Option.bind_some, xI, xU, xUt, xIt, J_lit, J_add, J_sub, J_mul, J_neg, J_ltc, J_lec, J_eqc, lt_T, lt_F, le_T, le_F, eq_T, eq_F, ↓reduceIte, ite_not, not_true_eq_false, not_false_eq_true, true_or, or_true, false_or, or_false, true_and, and_true, false_and, and_false, up_get, Nat.reduceEqDiff, Int.reduceNeg, eqN_T, eqN_F]
        exact D
  · rw [if_neg c] at D1
    refine ⟨m1, F10, fun D => ?_⟩
    rw [if_neg (fun z => c z.1), if_neg (fun z => c z.1)] at D
    refine De.step ?_
    simp only [j_X11_meet_115]
    simp (disch := omega) only [b_X11_meet_115, x136_k hs, x136_i0 hs, x136_w0 hs, x136_r1 hs, x136_r2 hs, x136_r3 hs, x136_r4 hs, x136_i5 hs, x136_w5 hs, x136_i6 hs, x136_w6 hs, x136_i7 hs, x136_w7 hs, x136_r8 hs, x136_i9 hs, x136_w9 hs, x136_i10 hs, x136_w10 hs, x136_i11 hs, x136_w11 hs, x136_i12 hs, x136_w12 hs, x136_i13 hs, x136_w13 hs, x136_i14 hs, x136_w14 hs, x136_r15 hs, x136_i16 hs, x136_w16 hs, x136_r17 hs, x136_r18 hs, x136_r19 hs, x136_r20 hs, x136_r21 hs, x136_i22 hs, x136_w22 hs, x136_r23 hs, x136_r24 hs, x136_i25 hs, x136_w25 hs, x136_i26 hs, x136_w26 hs, x136_r27 hs, x136_r28 hs, x136_i29 hs, x136_w29 hs, Option.bind_some]
    refine De.call D1 ?_
    simp (disch := omega) only [Option.bind_some, xI, xU, xUt, xIt, J_lit, J_add, J_sub, J_mul, J_neg, J_ltc, J_lec, J_eqc, lt_T, lt_F, le_T, le_F, eq_T, eq_F, ↓reduceIte, ite_not, not_true_eq_false, not_false_eq_true, true_or, or_true, false_or, or_false, true_and, and_true, false_and, and_false, up_get, Nat.reduceEqDiff, Int.reduceNeg, eqN_T, eqN_F]
    exact D
theorem q_best_l (hs : Sk S) (W : Wok (m0 139)) (V : Vok told (m0 139) (m0 137)) (M0 : RulM m0 y g) (R : Rrul ln sp kd nm bg so g) (a0 : 0 ≤ pa) (a1 : pa < m0 139 0) (b0 : 0 ≤ pb) (b1 : pb < m0 139 0) (Ga : GvM m0 0 da) (Gb : GvM m0 1 db) : ∀ (k i : Nat) (m : Nat → Int → Int), (i : Int) + k = m0 139 1 → Fr3 m0 m → ∃ m', Fr3 m0 m' ∧ ∀ {r' : xR} {P' : xH}, De (fun n => f_X11_meet n 175 [.ref 136, .int (J pa), .int (J pb), .int (J 1), .int (J (rfS (m0 139) (m0 137) g pa pb da db (m0 139 1).toNat).1), .int (J (rfS (m0 139) (m0 137) g pa pb da db (m0 139 1).toNat).2), .int (J (m0 139 1)), .int (J (if (rfS (m0 139) (m0 137) g pa pb da db (m0 139 1).toNat).1 < 0 then 0 else 1))] (hp S m' q)) r' P' → De (fun n => f_X11_meet n 62 [.ref 136, .int (J pa), .int (J pb), .int (J 1), .int (J (rfS (m0 139) (m0 137) g pa pb da db i).1), .int (J (rfS (m0 139) (m0 137) g pa pb da db i).2), .int (J i)] (hp S m q)) r' P' := by
  have tw := W.1.2.1
  have w1 := W.2.1
  intro k
  induction k with
  | zero =>
    intro i m hi F
    have e9 : m 139 = m0 139 := F.row (by decide) (by decide) (by decide)
    refine ⟨m, F, fun D => ?_⟩
    rw [show (m0 139 1).toNat = i by omega, show m0 139 1 = (i : Int) by omega] at D
    have lt := rfS_lt (w := m0 139) (v := m0 137) (g := g) (pa := pa) (pb := pb) (da := da) (db := db) i
    refine De.step ?_
    simp only [j_X11_meet_62]
    simp (disch := omega) only [b_X11_meet_62, x136_k hs, x136_i0 hs, x136_w0 hs, x136_r1 hs, x136_r2 hs, x136_r3 hs, x136_r4 hs, x136_i5 hs, x136_w5 hs, x136_i6 hs, x136_w6 hs, x136_i7 hs, x136_w7 hs, x136_r8 hs, x136_i9 hs, x136_w9 hs, x136_i10 hs, x136_w10 hs, x136_i11 hs, x136_w11 hs, x136_i12 hs, x136_w12 hs, x136_i13 hs, x136_w13 hs, x136_i14 hs, x136_w14 hs, x136_r15 hs, x136_i16 hs, x136_w16 hs, x136_r17 hs, x136_r18 hs, x136_r19 hs, x136_r20 hs, x136_r21 hs, x136_i22 hs, x136_w22 hs, x136_r23 hs, x136_r24 hs, x136_i25 hs, x136_w25 hs, x136_i26 hs, x136_w26 hs, x136_r27 hs, x136_r28 hs, x136_i29 hs, x136_w29 hs, Option.bind_some]
    refine De.call (d_words hs) ?_
    by_cases c : (rfS (m0 139) (m0 137) g pa pb da db i).1 < 0
    · rw [if_pos c] at D
      simp (disch := omega) only [e9, Option.bind_some, xI, xU, xUt, xIt, J_lit, J_add, J_sub, J_mul, J_neg, J_ltc, J_lec, J_eqc, lt_T, lt_F, le_T, le_F, eq_T, eq_F, ↓reduceIte, ite_not, not_true_eq_false, not_false_eq_true, true_or, or_true, false_or, or_false, true_and, and_true, false_and, and_false, up_get, Nat.reduceEqDiff, Int.reduceNeg, eqN_T, eqN_F]
      exact D
    · rw [if_neg c] at D
      simp (disch := omega) only [e9, Option.bind_some, xI, xU, xUt, xIt, J_lit, J_add, J_sub, J_mul, J_neg, J_ltc, J_lec, J_eqc, lt_T, lt_F, le_T, le_F, eq_T, eq_F, ↓reduceIte, ite_not, not_true_eq_false, not_false_eq_true, true_or, or_true, false_or, or_false, true_and, and_true, false_and, and_false, up_get, Nat.reduceEqDiff, Int.reduceNeg, eqN_T, eqN_F]
      exact D
  | succ k IH =>
    intro i m hi F
    have e9 : m 139 = m0 139 := F.row (by decide) (by decide) (by decide)
    have e7 : m 137 = m0 137 := F.row (by decide) (by decide) (by decide)
    have vv := (V.2.2 pa i a0 (by omega) (by omega) (by omega)).1
    have DH := d_has (q := q) (m := m) (p := pa) (x := (i : Int)) hs a0 (by omega) (by omega) (by omega) (by rw [e7]; exact vv.1) (by rw [e7]; exact vv.2)
    rw [e7] at DH
    have lt := rfS_lt (w := m0 139) (v := m0 137) (g := g) (pa := pa) (pb := pb) (da := da) (db := db) i
    have inn := rfS_in (w := m0 139) (v := m0 137) (pa := pa) (pb := pb) (da := da) (db := db) R i
    by_cases h : m0 137 (51 + 7 * (30 * pa + i) + 0) = 1
    · rw [if_pos h] at DH
      obtain ⟨m1, F1, S1⟩ := q_best115 (q := q) (m0 := m0) (m := m) (pa := pa) (pb := pb) (gi := pa) (ta := pb) (sd := 1) (x := (i : Int)) (z := 1) (b := (rfS (m0 139) (m0 137) g pa pb da db i).1) (mo := (rfS (m0 139) (m0 137) g pa pb da db i).2) hs W V M0 R a0 a1 b0 b1 (by omega) (by omega) (by decide) (by decide) Gb F (by omega)
      obtain ⟨m', F', S'⟩ := IH (i + 1) m1 (by omega) F1
      refine ⟨m', F', fun D => ?_⟩
      have E : rfS (m0 139) (m0 137) g pa pb da db (i + 1) = if ctS (m0 139) (m0 137) g pa pb db i = true ∧ ((rfS (m0 139) (m0 137) g pa pb da db i).1 < 0 ∨ (rfS (m0 139) (m0 137) g pa pb da db i).2 < mrk (m0 139) (m0 137) g pa i) then ((i : Int), mrk (m0 139) (m0 137) g pa i) else rfS (m0 139) (m0 137) g pa pb da db i := by
        rw [rfS, if_pos h, if_pos h]
        by_cases c1 : ctS (m0 139) (m0 137) g pa pb db i = true
        · by_cases c2 : (rfS (m0 139) (m0 137) g pa pb da db i).1 < 0 ∨ (rfS (m0 139) (m0 137) g pa pb da db i).2 < mrk (m0 139) (m0 137) g pa i
          · rw [if_pos c1, if_pos c2, if_pos ⟨c1, c2⟩]
          · rw [if_pos c1, if_neg c2, if_neg (fun z => c2 z.2)]
        · rw [if_neg c1, if_neg (fun z => c1 z.1)]
      have Q := S' D
      rw [E, apply_ite Prod.fst, apply_ite Prod.snd] at Q
      have Q2 := S1 Q
      refine De.step ?_
      simp only [j_X11_meet_62]
      simp (disch := omega) only [b_X11_meet_62, x136_k hs, x136_i0 hs, x136_w0 hs, x136_r1 hs, x136_r2 hs, x136_r3 hs, x136_r4 hs, x136_i5 hs, x136_w5 hs, x136_i6 hs, x136_w6 hs, x136_i7 hs, x136_w7 hs, x136_r8 hs, x136_i9 hs, x136_w9 hs, x136_i10 hs, x136_w10 hs, x136_i11 hs, x136_w11 hs, x136_i12 hs, x136_w12 hs, x136_i13 hs, x136_w13 hs, x136_i14 hs, x136_w14 hs, x136_r15 hs, x136_i16 hs, x136_w16 hs, x136_r17 hs, x136_r18 hs, x136_r19 hs, x136_r20 hs, x136_r21 hs, x136_i22 hs, x136_w22 hs, x136_r23 hs, x136_r24 hs, x136_i25 hs, x136_w25 hs, x136_i26 hs, x136_w26 hs, x136_r27 hs, x136_r28 hs, x136_i29 hs, x136_w29 hs, Option.bind_some]
      refine De.call (d_words hs) ?_
      simp (disch := omega) only [e9, x136_k hs, x136_i0 hs, x136_w0 hs, x136_r1 hs, x136_r2 hs, x136_r3 hs, x136_r4 hs, x136_i5 hs, x136_w5 hs, x136_i6 hs, x136_w6 hs, x136_i7 hs, x136_w7 hs, x136_r8 hs, x136_i9 hs, x136_w9 hs, x136_i10 hs, x136_w10 hs, x136_i11 hs, x136_w11 hs, x136_i12 hs, x136_w12 hs, x136_i13 hs, x136_w13 hs, x136_i14 hs, x136_w14 hs, x136_r15 hs, x136_i16 hs, x136_w16 hs, x136_r17 hs, x136_r18 hs, x136_r19 hs, x136_r20 hs, x136_r21 hs, x136_i22 hs, x136_w22 hs, x136_r23 hs, x136_r24 hs, x136_i25 hs, x136_w25 hs, x136_i26 hs, x136_w26 hs, x136_r27 hs, x136_r28 hs, x136_i29 hs, x136_w29 hs, Option.bind_some, xI, xU, xUt, xIt, J_lit, J_add, J_sub, J_mul, J_neg, J_ltc, J_lec, J_eqc, lt_T, lt_F, le_T, le_F, eq_T, eq_F, ↓reduceIte, ite_not, not_true_eq_false, not_false_eq_true, true_or, or_true, false_or, or_false, true_and, and_true, false_and, and_false, up_get, Nat.reduceEqDiff, Int.reduceNeg, eqN_T, eqN_F]
      refine De.call DH ?_
      simp (disch := omega) only [Option.bind_some, xI, xU, xUt, xIt, J_lit, J_add, J_sub, J_mul, J_neg, J_ltc, J_lec, J_eqc, lt_T, lt_F, le_T, le_F, eq_T, eq_F, ↓reduceIte, ite_not, not_true_eq_false, not_false_eq_true, true_or, or_true, false_or, or_false, true_and, and_true, false_and, and_false, up_get, Nat.reduceEqDiff, Int.reduceNeg, eqN_T, eqN_F]
      refine De.step ?_
      simp only [j_X11_meet_90]
      simp (disch := omega) only [b_X11_meet_90, Option.bind_some, xI, xU, xUt, xIt, J_lit, J_add, J_sub, J_mul, J_neg, J_ltc, J_lec, J_eqc, lt_T, lt_F, le_T, le_F, eq_T, eq_F, ↓reduceIte, ite_not, not_true_eq_false, not_false_eq_true, true_or, or_true, false_or, or_false, true_and, and_true, false_and, and_false, up_get, Nat.reduceEqDiff, Int.reduceNeg, eqN_T, eqN_F]
      refine De.step ?_
      simp only [j_X11_meet_105]
      simp (disch := omega) only [b_X11_meet_105, Option.bind_some, xI, xU, xUt, xIt, J_lit, J_add, J_sub, J_mul, J_neg, J_ltc, J_lec, J_eqc, lt_T, lt_F, le_T, le_F, eq_T, eq_F, ↓reduceIte, ite_not, not_true_eq_false, not_false_eq_true, true_or, or_true, false_or, or_false, true_and, and_true, false_and, and_false, up_get, Nat.reduceEqDiff, Int.reduceNeg, eqN_T, eqN_F]
      exact Q2
    · rw [if_neg h] at DH
      obtain ⟨m1, F1, S1⟩ := q_best115 (q := q) (m0 := m0) (m := m) (pa := pa) (pb := pb) (gi := pb) (ta := pa) (sd := 0) (x := (i : Int)) (z := 0) (b := (rfS (m0 139) (m0 137) g pa pb da db i).1) (mo := (rfS (m0 139) (m0 137) g pa pb da db i).2) hs W V M0 R b0 b1 a0 a1 (by omega) (by omega) (by decide) (by decide) Ga F (by omega)
      obtain ⟨m', F', S'⟩ := IH (i + 1) m1 (by omega) F1
      refine ⟨m', F', fun D => ?_⟩
      have E : rfS (m0 139) (m0 137) g pa pb da db (i + 1) = if ctS (m0 139) (m0 137) g pb pa da i = true ∧ ((rfS (m0 139) (m0 137) g pa pb da db i).1 < 0 ∨ (rfS (m0 139) (m0 137) g pa pb da db i).2 < mrk (m0 139) (m0 137) g pb i) then ((i : Int), mrk (m0 139) (m0 137) g pb i) else rfS (m0 139) (m0 137) g pa pb da db i := by
        rw [rfS, if_neg h, if_neg h]
        by_cases c1 : ctS (m0 139) (m0 137) g pb pa da i = true
        · by_cases c2 : (rfS (m0 139) (m0 137) g pa pb da db i).1 < 0 ∨ (rfS (m0 139) (m0 137) g pa pb da db i).2 < mrk (m0 139) (m0 137) g pb i
          · rw [if_pos c1, if_pos c2, if_pos ⟨c1, c2⟩]
          · rw [if_pos c1, if_neg c2, if_neg (fun z => c2 z.2)]
        · rw [if_neg c1, if_neg (fun z => c1 z.1)]
      have Q := S' D
      rw [E, apply_ite Prod.fst, apply_ite Prod.snd] at Q
      have Q2 := S1 Q
      refine De.step ?_
      simp only [j_X11_meet_62]
      simp (disch := omega) only [b_X11_meet_62, x136_k hs, x136_i0 hs, x136_w0 hs, x136_r1 hs, x136_r2 hs, x136_r3 hs, x136_r4 hs, x136_i5 hs, x136_w5 hs, x136_i6 hs, x136_w6 hs, x136_i7 hs, x136_w7 hs, x136_r8 hs, x136_i9 hs, x136_w9 hs, x136_i10 hs, x136_w10 hs, x136_i11 hs, x136_w11 hs, x136_i12 hs, x136_w12 hs, x136_i13 hs, x136_w13 hs, x136_i14 hs, x136_w14 hs, x136_r15 hs, x136_i16 hs, x136_w16 hs, x136_r17 hs, x136_r18 hs, x136_r19 hs, x136_r20 hs, x136_r21 hs, x136_i22 hs, x136_w22 hs, x136_r23 hs, x136_r24 hs, x136_i25 hs, x136_w25 hs, x136_i26 hs, x136_w26 hs, x136_r27 hs, x136_r28 hs, x136_i29 hs, x136_w29 hs, Option.bind_some]
      refine De.call (d_words hs) ?_
      simp (disch := omega) only [e9, x136_k hs, x136_i0 hs, x136_w0 hs, x136_r1 hs, x136_r2 hs, x136_r3 hs, x136_r4 hs, x136_i5 hs, x136_w5 hs, x136_i6 hs, x136_w6 hs, x136_i7 hs, x136_w7 hs, x136_r8 hs, x136_i9 hs, x136_w9 hs, x136_i10 hs, x136_w10 hs, x136_i11 hs, x136_w11 hs, x136_i12 hs, x136_w12 hs, x136_i13 hs, x136_w13 hs, x136_i14 hs, x136_w14 hs, x136_r15 hs, x136_i16 hs, x136_w16 hs, x136_r17 hs, x136_r18 hs, x136_r19 hs, x136_r20 hs, x136_r21 hs, x136_i22 hs, x136_w22 hs, x136_r23 hs, x136_r24 hs, x136_i25 hs, x136_w25 hs, x136_i26 hs, x136_w26 hs, x136_r27 hs, x136_r28 hs, x136_i29 hs, x136_w29 hs, Option.bind_some, xI, xU, xUt, xIt, J_lit, J_add, J_sub, J_mul, J_neg, J_ltc, J_lec, J_eqc, lt_T, lt_F, le_T, le_F, eq_T, eq_F, ↓reduceIte, ite_not, not_true_eq_false, not_false_eq_true, true_or, or_true, false_or, or_false, true_and, and_true, false_and, and_false, up_get, Nat.reduceEqDiff, Int.reduceNeg, eqN_T, eqN_F]
      refine De.call DH ?_
      simp (disch := omega) only [Option.bind_some, xI, xU, xUt, xIt, J_lit, J_add, J_sub, J_mul, J_neg, J_ltc, J_lec, J_eqc, lt_T, lt_F, le_T, le_F, eq_T, eq_F, ↓reduceIte, ite_not, not_true_eq_false, not_false_eq_true, true_or, or_true, false_or, or_false, true_and, and_true, false_and, and_false, up_get, Nat.reduceEqDiff, Int.reduceNeg, eqN_T, eqN_F]
      refine De.step ?_
      simp only [j_X11_meet_90]
      simp (disch := omega) only [b_X11_meet_90, Option.bind_some, xI, xU, xUt, xIt, J_lit, J_add, J_sub, J_mul, J_neg, J_ltc, J_lec, J_eqc, lt_T, lt_F, le_T, le_F, eq_T, eq_F, ↓reduceIte, ite_not, not_true_eq_false, not_false_eq_true, true_or, or_true, false_or, or_false, true_and, and_true, false_and, and_false, up_get, Nat.reduceEqDiff, Int.reduceNeg, eqN_T, eqN_F]
      refine De.step ?_
      simp only [j_X11_meet_105]
      simp (disch := omega) only [b_X11_meet_105, Option.bind_some, xI, xU, xUt, xIt, J_lit, J_add, J_sub, J_mul, J_neg, J_ltc, J_lec, J_eqc, lt_T, lt_F, le_T, le_F, eq_T, eq_F, ↓reduceIte, ite_not, not_true_eq_false, not_false_eq_true, true_or, or_true, false_or, or_false, true_and, and_true, false_and, and_false, up_get, Nat.reduceEqDiff, Int.reduceNeg, eqN_T, eqN_F]
      exact Q2
end BESTM
