/-! the meeting of two, handing by handing -/
def nxS (w v g : Int → Int) (pa pb : Int) (da db : Nat) (x : Int) : (Int → Int) × Nat × Nat := if v (51 + 7 * (30 * pa + x) + 0) = 1 then (haS w v g pa pb x, da, drS w v g pb db) else (haS w v g pb pa x, drS w v g pa da, db)
def mtS (w g : Int → Int) (pa pb : Int) : Nat → (Int → Int) → Nat → Nat → (Int → Int)
  | 0, v, _, _ => v
  | n + 1, v, da, db => if 0 < v (1 + 5 * pa + 1) ∧ 0 < v (1 + 5 * pb + 1) ∧ 0 ≤ (rfS w v g pa pb da db 30).1 then mtS w g pa pb n (nxS w v g pa pb da db (rfS w v g pa pb da db 30).1).1 (nxS w v g pa pb da db (rfS w v g pa pb da db 30).1).2.1 (nxS w v g pa pb da db (rfS w v g pa pb da db 30).1).2.2 else v
theorem mtS_no {w g v : Int → Int} {pa pb : Int} {da db : Nat} (h : ¬ (0 < v (1 + 5 * pa + 1) ∧ 0 < v (1 + 5 * pb + 1) ∧ 0 ≤ (rfS w v g pa pb da db 30).1)) : ∀ n, mtS w g pa pb n v da db = v
  | 0 => rfl
  | n + 1 => by rw [mtS, if_neg h]
section MEETS
variable {S : xH} {m m' m0 : Nat → Int → Int} {q q' : Nat → Int → Int64} {a r : Nat} {told gi ta x pa pb : Int} {w v v' g : Int → Int} {da db d : Nat}
theorem lts_12 {p : Int} (h : lts w v g p x = true) : v (51 + 7 * (30 * p + x) + 2) < 12 := by
  unfold lts at h
  simp only [Bool.and_eq_true, decide_eq_true_eq] at h
  exact h.1
/-- what is known of the best one -/
theorem rfS_pick (h : 0 ≤ (rfS w v g pa pb da db 30).1) : ∃ y : Nat, y < 30 ∧ (rfS w v g pa pb da db 30).1 = y ∧ ((v (51 + 7 * (30 * pa + y) + 0) = 1 ∧ ctS w v g pa pb db y = true) ∨ (v (51 + 7 * (30 * pa + y) + 0) ≠ 1 ∧ ctS w v g pb pa da y = true)) := by
  rcases rfS_b (w := w) (v := v) (g := g) (pa := pa) (pb := pb) (da := da) (db := db) 30 with ⟨h1, -⟩ | ⟨y, h1, h2, -⟩
  · rw [h1] at h
    exact absurd h (by decide)
  · rcases h2 with ⟨a, b, -⟩ | ⟨a, b, -⟩
    · exact ⟨y, b, h1, Or.inl ⟨(ctS_1 a).1, a⟩⟩
    · exact ⟨y, b, h1, Or.inr ⟨fun z => by have := (ctS_1 a).2.1; omega, a⟩⟩
theorem q_meet89 (C : CX S m q a r told w v g) (g0 : 0 ≤ gi) (g1 : gi < w 0) (t0 : 0 ≤ ta) (t1 : ta < w 0) (x0 : 0 ≤ x) (x1 : x < 30) (ct : ctS w v g gi ta d x = true) (c0 : 0 < v (1 + 5 * ta + 1)) (hd : m (a + 21) ta = d) (hx : m a 14 = x) (A1 A2 : Int32) (i : Int) : ∃ m' q', (∀ {r' : xR} {P' : xH}, De (fun n => f_X1_meet n 16 [.ref a, .int A1, .int A2, .int (J (i + 1))] (hp S m' q')) r' P' → De (fun n => f_X1_meet n 89 [.ref a, .int A1, .int A2, .int (J i), .ref a, .int (J gi), .int (J ta)] (hp S m q)) r' P') ∧ CX S m' q' a r told w (haS w v g gi ta x) g ∧ (∀ b i, (b < a ∨ a + 22 ≤ b) → b ≠ r + 5 → ¬ (b = r ∧ i = 7) → m' b i = m b i) ∧ (∀ b, b ≠ a + 15 → b ≠ a + 20 → q' b = q b) ∧ m' (a + 21) ta = (drS w v g ta d : Nat) ∧ ∀ i, i ≠ ta → m' (a + 21) i = m (a + 21) i := by
  obtain ⟨⟨hs, hn, hr, r16, a46⟩, W, WC, NC, R⟩ := id C
  have tw := W.1.2.1
  obtain ⟨h1, h2, h3⟩ := ctS_1 ct
  have x2 := ((NC.vok.2.2 gi x g0 (by omega) x0 x1).2 h1).1.2
  obtain ⟨m', q', D, C', F, G, H1, H2⟩ := q_handC C g0 g1 t0 t1 x0 x2 h1 h2 (lts_12 h3) c0 hd
  refine ⟨m', q', fun E => ?_, C', F, G, H1, H2⟩
  refine De.step ?_
  simp only [j_X1_meet_89]
  simp (disch := omega) only [b_X1_meet_89, Net0_i14 hn, hx, Net0_k hn, J_lit, Option.bind_some]
  refine De.call D ?_
  simp (disch := omega) only [Option.bind_some, xI, xU, xUt, xIt, J_lit, J_add, J_sub, J_mul, J_neg, J_ltc, J_lec, J_eqc, lt_T, lt_F, le_T, le_F, eq_T, eq_F, ↓reduceIte, ite_not, not_true_eq_false, not_false_eq_true, true_or, or_true, false_or, or_false, true_and, and_true, false_and, and_false, up_get, Nat.reduceEqDiff, Int.reduceNeg, eqN_T, eqN_F]
  exact E
theorem q_meetC_l (a0 : 0 ≤ pa) (a1 : pa < w 0) (b0 : 0 ≤ pb) (b1 : pb < w 0) (ne : pa ≠ pb) : ∀ (k : Nat) (i : Int) (m : Nat → Int → Int) (q : Nat → Int → Int64) (v : Int → Int) (da db : Nat), i + k = 2000 → 0 ≤ i → CX S m q a r told w v g → m (a + 21) pa = da → m (a + 21) pb = db → ∃ m' q', De (fun n => f_X1_meet n 16 [.ref a, .int (J pa), .int (J pb), .int (J i)] (hp S m q)) (.inl none) (hp S m' q') ∧ CX S m' q' a r told w (mtS w g pa pb k v da db) g ∧ (∀ b i, (b < a ∨ a + 22 ≤ b) → b ≠ r + 5 → ¬ (b = r ∧ i = 7) → m' b i = m b i) ∧ ∀ b, b ≠ a + 15 → b ≠ a + 20 → q' b = q b := by
  intro k
  induction k with
  | zero =>
    intro i m q v da db hi i0 C hda hdb
    refine ⟨m, q, ?_, C, fun _ _ _ _ _ => rfl, fun _ _ _ => rfl⟩
    refine De.step ?_
    simp only [j_X1_meet_16]
    simp (disch := omega) only [b_X1_meet_16, Option.bind_some, xI, xU, xUt, xIt, J_lit, J_add, J_sub, J_mul, J_neg, J_ltc, J_lec, J_eqc, lt_T, lt_F, le_T, le_F, eq_T, eq_F, ↓reduceIte, ite_not, not_true_eq_false, not_false_eq_true, true_or, or_true, false_or, or_false, true_and, and_true, false_and, and_false, up_get, Nat.reduceEqDiff, Int.reduceNeg, eqN_T, eqN_F]
    exact De.ret _ _
  | succ k IH =>
    intro i m q v da db hi i0 C hda hdb
    obtain ⟨⟨hs, hn, hr, r16, a46⟩, W, WC, NC, R⟩ := id C
    have tw := W.1.2.1
    have na := NC.2.1 pa a0 a1
    have nb := NC.2.1 pb b0 b1
    have ca : m (a + 3) pa = v (1 + 5 * pa + 1) := na.1.2.1
    have cb : m (a + 3) pb = v (1 + 5 * pb + 1) := nb.1.2.1
    have ca1 : 0 ≤ m (a + 3) pa ∧ m (a + 3) pa ≤ 1000 := na.2.2.2
    have cb1 : 0 ≤ m (a + 3) pb ∧ m (a + 3) pb ≤ 1000 := nb.2.2.2
    by_cases c1 : 0 < v (1 + 5 * pa + 1)
    · by_cases c2 : 0 < v (1 + 5 * pb + 1)
      · have F1 : FrO a r m (up m a 14 (-1)) := fun b z h1 h2 h3 => if_neg (fun e => h3 ⟨e.1, by omega⟩)
        have C1 := C.fo F1
        have u14 : up m a 14 (-1) a 14 = -1 := up_at _ _ _ _
        obtain ⟨m2, D2, F2, P14, P15, P16⟩ := q_offer (d := db) C1 a0 a1 b0 b1 ((up_a (by omega)).trans hdb) (Or.inl u14)
        have C2 := C1.fo F2
        have hst : StO (up m a 14 (-1) a 14, up m a 14 (-1) a 15, up m a 14 (-1) a 16) := Or.inl u14
        have ok := obS_ok (w := w) (v := v) (gi := pa) (ta := pb) (d := db) R hst 30 (by omega)
        have est : (m2 a 14, m2 a 15, m2 a 16) = obS w v g pa pb db (up m a 14 (-1) a 14, up m a 14 (-1) a 15, up m a 14 (-1) a 16) 30 := by rw [P14, P15, P16]
        obtain ⟨m3, D3, F3, Q14, Q15, Q16⟩ := q_offer (d := da) C2 b0 b1 a0 a1 ((F2 _ _ (by omega) (by omega) (by omega)).trans ((up_a (by omega)).trans hda)) (by rw [est]; exact ok)
        have C3 := C2.fo F3
        rw [est] at Q14 Q15 Q16
        have be := best_eq (w := w) (v := v) (g := g) (pa := pa) (pb := pb) (da := da) (db := db) (st := (up m a 14 (-1) a 14, up m a 14 (-1) a 15, up m a 14 (-1) a 16)) u14
        have bg := best_g (w := w) (v := v) (g := g) (pa := pa) (pb := pb) (da := da) (db := db) (st := (up m a 14 (-1) a 14, up m a 14 (-1) a 15, up m a 14 (-1) a 16)) u14
        rw [be] at Q14 bg
        have R1 := rfS_lt (w := w) (v := v) (g := g) (pa := pa) (pb := pb) (da := da) (db := db) 30
        have f3 : ∀ b z, (b < a ∨ a + 22 ≤ b) → b ≠ r + 5 → ¬ (b = r ∧ z = 7) → m3 b z = m b z := fun b z h1 h2 h3 => (F3 b z h2 h3 (by omega)).trans ((F2 b z h2 h3 (by omega)).trans (F1 b z h2 h3 (by omega)))
        have d3 : ∀ z, m3 (a + 21) z = m (a + 21) z := fun z => (F3 _ z (by omega) (by omega) (by omega)).trans ((F2 _ z (by omega) (by omega) (by omega)).trans (F1 _ z (by omega) (by omega) (by omega)))
        by_cases c3 : 0 ≤ (rfS w v g pa pb da db 30).1
        · obtain ⟨y, y1, y2, y3⟩ := bg (by omega)
          rw [mtS, if_pos ⟨c1, c2, c3⟩]
          rw [y2] at Q14 ⊢
          rcases y3 with ⟨e, ct⟩ | ⟨e, ct⟩
          · rw [e] at Q16
            have en : nxS w v g pa pb da db y = (haS w v g pa pb y, da, drS w v g pb db) := if_pos (ctS_1 ct).1
            rw [en]
            obtain ⟨m4, q4, S4, C4, F4, G4, H1, H2⟩ := q_meet89 C3 a0 a1 b0 b1 (by omega) (by omega) ct c2 ((d3 pb).trans hdb) Q14 (J pa) (J pb) i
            obtain ⟨m', q', D', C', F', G'⟩ := IH (i + 1) m4 q4 _ da (drS w v g pb db) (by omega) (by omega) C4 ((H2 pa ne).trans ((d3 pa).trans hda)) H1
            refine ⟨m', q', ?_, C', fun b z h1 h2 h3 => (F' b z h1 h2 h3).trans ((F4 b z h1 h2 h3).trans (f3 b z h1 h2 h3)), fun b h1 h2 => (G' b h1 h2).trans (G4 b h1 h2)⟩
            have E := S4 D'
            refine De.step ?_
            simp only [j_X1_meet_16]
            simp (disch := omega) only [b_X1_meet_16, Net0_r5 hn, Net1_m1 hn, Net3_g hn, ca, cb, Net0_w14 hn, Net0_k hn, Option.bind_some, xI, xU, xUt, xIt, J_lit, J_add, J_sub, J_mul, J_neg, J_ltc, J_lec, J_eqc, lt_T, lt_F, le_T, le_F, eq_T, eq_F, ↓reduceIte, ite_not, not_true_eq_false, not_false_eq_true, true_or, or_true, false_or, or_false, true_and, and_true, false_and, and_false, up_get, Nat.reduceEqDiff, Int.reduceNeg, eqN_T, eqN_F]
            refine De.call D2 ?_
            simp (disch := omega) only [Net0_k hn, Option.bind_some, xI, xU, xUt, xIt, J_lit, J_add, J_sub, J_mul, J_neg, J_ltc, J_lec, J_eqc, lt_T, lt_F, le_T, le_F, eq_T, eq_F, ↓reduceIte, ite_not, not_true_eq_false, not_false_eq_true, true_or, or_true, false_or, or_false, true_and, and_true, false_and, and_false, up_get, Nat.reduceEqDiff, Int.reduceNeg, eqN_T, eqN_F]
            refine De.call D3 ?_
            simp (disch := omega) only [Net0_i14 hn, Net0_i16 hn, Q14, Q16, Option.bind_some, xI, xU, xUt, xIt, J_lit, J_add, J_sub, J_mul, J_neg, J_ltc, J_lec, J_eqc, lt_T, lt_F, le_T, le_F, eq_T, eq_F, ↓reduceIte, ite_not, not_true_eq_false, not_false_eq_true, true_or, or_true, false_or, or_false, true_and, and_true, false_and, and_false, up_get, Nat.reduceEqDiff, Int.reduceNeg, eqN_T, eqN_F]
            exact E
          · rw [e] at Q16
            have en : nxS w v g pa pb da db y = (haS w v g pb pa y, drS w v g pa da, db) := if_neg (fun z => by have := (ctS_1 ct).2.1; omega)
            rw [en]
            obtain ⟨m4, q4, S4, C4, F4, G4, H1, H2⟩ := q_meet89 C3 b0 b1 a0 a1 (by omega) (by omega) ct c1 ((d3 pa).trans hda) Q14 (J pa) (J pb) i
            obtain ⟨m', q', D', C', F', G'⟩ := IH (i + 1) m4 q4 _ (drS w v g pa da) db (by omega) (by omega) C4 H1 ((H2 pb ne.symm).trans ((d3 pb).trans hdb))
            refine ⟨m', q', ?_, C', fun b z h1 h2 h3 => (F' b z h1 h2 h3).trans ((F4 b z h1 h2 h3).trans (f3 b z h1 h2 h3)), fun b h1 h2 => (G' b h1 h2).trans (G4 b h1 h2)⟩
            have E := S4 D'
            refine De.step ?_
            simp only [j_X1_meet_16]
            simp (disch := omega) only [b_X1_meet_16, Net0_r5 hn, Net1_m1 hn, Net3_g hn, ca, cb, Net0_w14 hn, Net0_k hn, Option.bind_some, xI, xU, xUt, xIt, J_lit, J_add, J_sub, J_mul, J_neg, J_ltc, J_lec, J_eqc, lt_T, lt_F, le_T, le_F, eq_T, eq_F, ↓reduceIte, ite_not, not_true_eq_false, not_false_eq_true, true_or, or_true, false_or, or_false, true_and, and_true, false_and, and_false, up_get, Nat.reduceEqDiff, Int.reduceNeg, eqN_T, eqN_F]
            refine De.call D2 ?_
            simp (disch := omega) only [Net0_k hn, Option.bind_some, xI, xU, xUt, xIt, J_lit, J_add, J_sub, J_mul, J_neg, J_ltc, J_lec, J_eqc, lt_T, lt_F, le_T, le_F, eq_T, eq_F, ↓reduceIte, ite_not, not_true_eq_false, not_false_eq_true, true_or, or_true, false_or, or_false, true_and, and_true, false_and, and_false, up_get, Nat.reduceEqDiff, Int.reduceNeg, eqN_T, eqN_F]
            refine De.call D3 ?_
            simp (disch := omega) only [Net0_i14 hn, Net0_i16 hn, Q14, Q16, Option.bind_some, xI, xU, xUt, xIt, J_lit, J_add, J_sub, J_mul, J_neg, J_ltc, J_lec, J_eqc, lt_T, lt_F, le_T, le_F, eq_T, eq_F, ↓reduceIte, ite_not, not_true_eq_false, not_false_eq_true, true_or, or_true, false_or, or_false, true_and, and_true, false_and, and_false, up_get, Nat.reduceEqDiff, Int.reduceNeg, eqN_T, eqN_F]
            exact E
        · rw [mtS_no (fun z => c3 z.2.2)]
          have e1 : (rfS w v g pa pb da db 30).1 = -1 := by omega
          rw [e1] at Q14
          refine ⟨m3, q, ?_, C3, f3, fun _ _ _ => rfl⟩
          refine De.step ?_
          simp only [j_X1_meet_16]
          simp (disch := omega) only [b_X1_meet_16, Net0_r5 hn, Net1_m1 hn, Net3_g hn, ca, cb, Net0_w14 hn, Net0_k hn, Option.bind_some, xI, xU, xUt, xIt, J_lit, J_add, J_sub, J_mul, J_neg, J_ltc, J_lec, J_eqc, lt_T, lt_F, le_T, le_F, eq_T, eq_F, ↓reduceIte, ite_not, not_true_eq_false, not_false_eq_true, true_or, or_true, false_or, or_false, true_and, and_true, false_and, and_false, up_get, Nat.reduceEqDiff, Int.reduceNeg, eqN_T, eqN_F]
          refine De.call D2 ?_
          simp (disch := omega) only [Net0_k hn, Option.bind_some, xI, xU, xUt, xIt, J_lit, J_add, J_sub, J_mul, J_neg, J_ltc, J_lec, J_eqc, lt_T, lt_F, le_T, le_F, eq_T, eq_F, ↓reduceIte, ite_not, not_true_eq_false, not_false_eq_true, true_or, or_true, false_or, or_false, true_and, and_true, false_and, and_false, up_get, Nat.reduceEqDiff, Int.reduceNeg, eqN_T, eqN_F]
          refine De.call D3 ?_
          simp (disch := omega) only [Net0_i14 hn, Q14, Option.bind_some, xI, xU, xUt, xIt, J_lit, J_add, J_sub, J_mul, J_neg, J_ltc, J_lec, J_eqc, lt_T, lt_F, le_T, le_F, eq_T, eq_F, ↓reduceIte, ite_not, not_true_eq_false, not_false_eq_true, true_or, or_true, false_or, or_false, true_and, and_true, false_and, and_false, up_get, Nat.reduceEqDiff, Int.reduceNeg, eqN_T, eqN_F]
          exact De.ret _ _
      · rw [mtS_no (fun z => c2 z.2.1)]
        refine ⟨m, q, ?_, C, fun _ _ _ _ _ => rfl, fun _ _ _ => rfl⟩
        refine De.step ?_
        simp only [j_X1_meet_16]
        simp (disch := omega) only [b_X1_meet_16, Net0_r5 hn, Net1_m1 hn, Net3_g hn, ca, cb, Option.bind_some, xI, xU, xUt, xIt, J_lit, J_add, J_sub, J_mul, J_neg, J_ltc, J_lec, J_eqc, lt_T, lt_F, le_T, le_F, eq_T, eq_F, ↓reduceIte, ite_not, not_true_eq_false, not_false_eq_true, true_or, or_true, false_or, or_false, true_and, and_true, false_and, and_false, up_get, Nat.reduceEqDiff, Int.reduceNeg, eqN_T, eqN_F]
        exact De.ret _ _
    · rw [mtS_no (fun z => c1 z.1)]
      refine ⟨m, q, ?_, C, fun _ _ _ _ _ => rfl, fun _ _ _ => rfl⟩
      refine De.step ?_
      simp only [j_X1_meet_16]
      simp (disch := omega) only [b_X1_meet_16, Net0_r5 hn, Net1_m1 hn, Net3_g hn, ca, cb, Option.bind_some, xI, xU, xUt, xIt, J_lit, J_add, J_sub, J_mul, J_neg, J_ltc, J_lec, J_eqc, lt_T, lt_F, le_T, le_F, eq_T, eq_F, ↓reduceIte, ite_not, not_true_eq_false, not_false_eq_true, true_or, or_true, false_or, or_false, true_and, and_true, false_and, and_false, up_get, Nat.reduceEqDiff, Int.reduceNeg, eqN_T, eqN_F]
      exact De.ret _ _
/-- what was dropped in an earlier meeting doesn't matter -/
theorem CX.drop (C : CX S m q a r told w v g) (F : ∀ b i, b ≠ a + 21 → m' b i = m b i) : CX S m' q a r told w v g := by
  have W := C.2.1
  have w1 := W.2.1
  have n1 := C.2.2.2.1.1
  exact C.net (fun b i h => F b i (by omega)) (Rnet.cgr C.2.2.2.1 W.1.2.1 (fun i _ _ => F _ _ (by omega)) (fun o i _ h => F _ _ (by omega)) (fun o i _ h => rfl) rfl (by omega) (fun i _ _ => rfl) (fun i _ _ => rfl) (by omega))
theorem q_meetC (C : CX S m q a r told w v g) (a0 : 0 ≤ pa) (a1 : pa < w 0) (b0 : 0 ≤ pb) (b1 : pb < w 0) (ne : pa ≠ pb) : ∃ m' q', De (fun n => f_X1_meet n 0 [.ref a, .int (J pa), .int (J pb)] (hp S m q)) (.inl none) (hp S m' q') ∧ CX S m' q' a r told w (mtS w g pa pb 2000 v 0 0) g ∧ (∀ b i, (b < a ∨ a + 22 ≤ b) → b ≠ r + 5 → ¬ (b = r ∧ i = 7) → m' b i = m b i) ∧ ∀ b, b ≠ a + 15 → b ≠ a + 20 → q' b = q b := by
  obtain ⟨⟨hs, hn, hr, r16, a46⟩, W, WC, NC, R⟩ := id C
  have tw := W.1.2.1
  obtain ⟨m', q', D, C', F, G⟩ := q_meetC_l (pa := pa) (pb := pb) a0 a1 b0 b1 ne 2000 0 (up (up m (a + 21) pa 0) (a + 21) pb 0) q v 0 0 (by omega) (by omega) (C.drop (fun b i h => by rw [up_a h, up_a h])) (by rw [up_i ne, up_at]; rfl) (by rw [up_at]; rfl)
  refine ⟨m', q', ?_, C', fun b i h1 h2 h3 => (F b i h1 h2 h3).trans (by rw [up_a (by omega), up_a (by omega)]), G⟩
  refine De.step ?_
  simp only [j_X1_meet_0]
  simp (disch := omega) only [b_X1_meet_0, Net0_r13 hn, Net21_s hn, Option.bind_some, xI, xU, xUt, xIt, J_lit, J_add, J_sub, J_mul, J_neg, J_ltc, J_lec, J_eqc, lt_T, lt_F, le_T, le_F, eq_T, eq_F, ↓reduceIte, ite_not, not_true_eq_false, not_false_eq_true, true_or, or_true, false_or, or_false, true_and, and_true, false_and, and_false, up_get, Nat.reduceEqDiff, Int.reduceNeg, eqN_T, eqN_F]
  exact D
end MEETS
