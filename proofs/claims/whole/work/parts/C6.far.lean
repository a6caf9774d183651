/-! far: the loops of both -/
def faS (w v g : Int → Int) (x N told : Int) : Nat → (Int → Int) → Int
  | 0, _ => 0
  | k + 1, u => if (3 - k : Int) = 0 ∨ 0 < w (2 + (3 - k)) then cntp (rnS w g (3 - k) N.toNat (told, v0U w v u)).2 x 10 + faS w v g x N told k (rnS w g (3 - k) N.toNat (told, v0U w v u)).2 else faS w v g x N told k u
section FAR
variable {S : xH} {m m' m0 : Nat → Int → Int} {q q' : Nat → Int → Int64} {told l x y N : Int} {w v v' g : Int → Int} {ln sp : Int} {kd nm bg so : Int → Int}
/-- what a trial of the class may change -/
def FrA (m m' : Nat → Int → Int) : Prop := ∀ b i, (b < 111 ∨ 133 ≤ b) → b ≠ 15 → ¬ (b = 10 ∧ i = 7) → m' b i = m b i
theorem FrA.tr {m1 m2 m3 : Nat → Int → Int} (h1 : FrA m1 m2) (h2 : FrA m2 m3) : FrA m1 m3 := fun b i a c d => (h2 b i a c d).trans (h1 b i a c d)
theorem TKi.tr (hs : Sk S) (T : TKi S m q w v g) (F : FrA m m') (G : ∀ b, (b < 111 ∨ 133 ≤ b) → q' b = q b) {S' : xH} (hs' : Sk S') : TKi S' m' q' w v g := by
  obtain ⟨⟨h0, W, WC, NC, R⟩, KC, PL, RR, DW, T0⟩ := T
  have w1 := W.2.1
  have tw := W.1.2.1
  have n1 := NC.1
  have R0 : RulC m 10 g := R
  refine ⟨⟨⟨hs', hs'.Net46, hs'.Rul, by decide, by decide⟩, W, WC.cg (fun b i _ _ => F b i (by omega) (by omega) (by omega)), Rnet.congr NC tw (fun i _ _ => F _ _ (by omega) (by omega) (by omega)) (fun o _ _ => funext fun i => F _ _ (by omega) (by omega) (by omega)) (fun o _ _ => G _ (by omega)) rfl (Int.le_refl _) (fun i _ _ => rfl) (fun i _ _ => rfl) (by omega), R0.cg (F _ _ (by omega) (by omega) (by omega)) (F _ _ (by omega) (by omega) (by omega)) (fun b i _ _ => F _ _ (by omega) (by omega) (by omega))⟩, KC.cg (fun b i _ _ => F b i (by omega) (by omega) (by omega)), PL, ?_, DW.congr tw w1.2 (fun i _ _ => F _ _ (by omega) (by omega) (by omega)) (fun o _ _ => funext fun i => F _ _ (by omega) (by omega) (by omega)) (fun o _ _ => G _ (by omega)) rfl rfl (fun i _ _ => rfl) (fun i _ _ => rfl) (fun i _ _ => rfl) rfl, T0⟩
  rw [F 90 2 (by omega) (by decide) (by decide), show m' 91 = m 91 from funext fun i => F 91 i (by omega) (by decide) (by omega), show m' 92 = m 92 from funext fun i => F 92 i (by omega) (by decide) (by omega)]
  exact RR
theorem q_spread14 (srt : SRT w) (l0 : 0 ≤ l) (l1 : l < 4) (x0 : 0 ≤ x) (x1 : x < 30) (N4 : N ≤ 400) : ∀ (k : Nat) (i : Int) (m : Nat → Int → Int) (q : Nat → Int → Int64) (told : Int) (v : Int → Int), i + k = N → 0 ≤ i → v 0 = i → CX S m q 111 10 told w v g → WkC m w → LIN told w v → Rplc l w v → ∃ m' q', De (fun n => f_X10_spreadOn n 14 [.ref 0, .int (J l), .int (J x), .int (J N), .int (J i)] (hp S m q)) (.inl (some (.int (J (cntp (rnS w g l k (told, v)).2 x 10))))) (hp S m' q') ∧ FrA m m' ∧ ∀ b, (b < 111 ∨ 133 ≤ b) → q' b = q b := by
  intro k
  induction k with
  | zero =>
    intro i m q told v hi i0 hv C KC L PL
    obtain ⟨⟨hs, hn, hr, r16, a46⟩, W, WC, NC, R⟩ := id C
    have e17 : m 128 x = cntp v x 10 := (NC.2.2.2.2.1 x x0 x1).1
    refine ⟨m, q, ?_, fun _ _ _ _ _ => rfl, fun _ _ => rfl⟩
    refine De.step ?_
    simp only [j_X10_spreadOn_14]
    simp (disch := omega) only [b_X10_spreadOn_14, x0_k hs, x0_r0 hs, x0_r1 hs, x0_r2 hs, x0_r3 hs, Net0_r9 hn, Net17_g hn, Nat.reduceAdd, e17, rnS, Option.bind_some, xI, xU, xUt, xIt, J_lit, J_add, J_sub, J_mul, J_neg, J_ltc, J_lec, J_eqc, lt_T, lt_F, le_T, le_F, eq_T, eq_F, ↓reduceIte, ite_not, not_true_eq_false, not_false_eq_true, true_or, or_true, false_or, or_false, true_and, and_true, false_and, and_false, up_get, Nat.reduceEqDiff, Int.reduceNeg, eqN_T, eqN_F]
    exact De.ret _ _
  | succ k IH =>
    intro i m q told v hi i0 hv C KC L PL
    obtain ⟨⟨hs, hn, hr, r16, a46⟩, W, WC, NC, R⟩ := id C
    have K := KC.kok l0 l1
    have X : VX told w v g := ⟨_, _, _, _, _, C⟩
    obtain ⟨X2, L2, P2, s2, -⟩ := nsS_ok R srt K X L (by omega)
    obtain ⟨m1, q1, m2, q2, D1, D2, C2, F2, G2⟩ := q_nsC C KC PL l0 l1 (by omega)
    have f2 : FrA m m2 := fun b z h1 h2 h3 => F2 b z (by omega) (by omega) (by omega)
    obtain ⟨m', q', D', F', G'⟩ := IH (i + 1) m2 q2 _ _ (by omega) (by omega) (by rw [s2]; omega) C2 (KC.cg (fun b z h1 h2 => f2 b z (by omega) (by omega) (by omega))) L2 P2
    refine ⟨m', q', ?_, f2.tr F', fun b h => (G' b h).trans (G2 b (by omega) (by omega))⟩
    refine De.step ?_
    simp only [j_X10_spreadOn_14]
    simp (disch := omega) only [b_X10_spreadOn_14, x0_k hs, x0_r0 hs, x0_r1 hs, x0_r2 hs, x0_r3 hs, x9_k hs, x9_r0 hs, x9_r1 hs, x9_r2 hs, x9_r3 hs, x9_r4 hs, x9_r5 hs, x9_r6 hs, x9_r7 hs, x9_i8 hs, x9_w8 hs, x9_i9 hs, x9_w9 hs, Net0_k hn, Option.bind_some, xI, xU, xUt, xIt, J_lit, J_add, J_sub, J_mul, J_neg, J_ltc, J_lec, J_eqc, lt_T, lt_F, le_T, le_F, eq_T, eq_F, ↓reduceIte, ite_not, not_true_eq_false, not_false_eq_true, true_or, or_true, false_or, or_false, true_and, and_true, false_and, and_false, up_get, Nat.reduceEqDiff, Int.reduceNeg, eqN_T, eqN_F]
    refine De.call D1 ?_
    simp (disch := omega) only [x0_k hs, x0_r0 hs, x0_r1 hs, x0_r2 hs, x0_r3 hs, Net0_k hn, Option.bind_some, xI, xU, xUt, xIt, J_lit, J_add, J_sub, J_mul, J_neg, J_ltc, J_lec, J_eqc, lt_T, lt_F, le_T, le_F, eq_T, eq_F, ↓reduceIte, ite_not, not_true_eq_false, not_false_eq_true, true_or, or_true, false_or, or_false, true_and, and_true, false_and, and_false, up_get, Nat.reduceEqDiff, Int.reduceNeg, eqN_T, eqN_F]
    refine De.call D2 ?_
    simp (disch := omega) only [Option.bind_some, xI, xU, xUt, xIt, J_lit, J_add, J_sub, J_mul, J_neg, J_ltc, J_lec, J_eqc, lt_T, lt_F, le_T, le_F, eq_T, eq_F, ↓reduceIte, ite_not, not_true_eq_false, not_false_eq_true, true_or, or_true, false_or, or_false, true_and, and_true, false_and, and_false, up_get, Nat.reduceEqDiff, Int.reduceNeg, eqN_T, eqN_F]
    exact D'
theorem Rplc.zero (K : Kok w l) (h0 : v 0 = 0) (h : ∀ p : Int, 0 ≤ p → p < w 0 → v (1 + 5 * p + 0) = w (11 + 3 * p + 0)) : Rplc l w v := fun p p0 p1 => by
  rw [h0, h p p0 p1, plcA_0 K.1 (fun k k0 k1 => (K.2.2 k k0 k1).2.1.1)]
theorem v0U_in {u : Int → Int} {i : Int} (h0 : 0 ≤ i) (h1 : i < 2301) : v0U w v u i = v0S w v i := if_pos ⟨h0, h1⟩
theorem q_spreadOn (hs : Sk S) (T : TKi S m q w v g) (srt : SRT w) (l0 : 0 ≤ l) (l1 : l < 4) (x0 : 0 ≤ x) (x1 : x < 30) (N0 : 0 ≤ N) (N4 : N ≤ 400) (L0 : LIN told w (v0S w v)) (t0 : 0 ≤ told) (t1 : told ≤ w 1) (u : Int → Int) : ∃ m' q', De (fun n => f_X10_spreadOn n 0 [.ref 0, .int (J l), .int (J x), .int (J N)] (hp S m q)) (.inl (some (.int (J (cntp (rnS w g l N.toNat (told, v0U w v u)).2 x 10))))) (hp (trS S 10) m' q') ∧ TKi (trS S 10) m' q' w v g ∧ FrA m m' ∧ ∀ b, (b < 111 ∨ 133 ≤ b) → q' b = q b := by
  have R := T.1.2.2.2.2
  have tw := T.1.2.1.1.2.1
  obtain ⟨m1, q1, told', D1, C1, L1, ⟨z0, zp⟩, F1, G1⟩ := q_begin (r := 10) hs T (Or.inr rfl) R
  have n1 := C1.2.2.2.1.1
  have e := LIN.uniq L0 L1 t0 t1 n1.2.2.2.2.2.1 n1.2.2.2.2.2.2
  subst e
  have C2 : CX (trS S 10) m1 q1 111 10 told w (v0U w v u) g := C1.vin (fun i i0 i1 => v0U_in i0 i1)
  have KC : WkC m1 w := T.2.1.cg (fun b i _ _ => F1 b i (by omega))
  have e0 : v0U w v u 0 = 0 := (v0U_in (by decide) (by decide)).trans z0
  have hs' := trS_sk (r := 10) hs (Or.inr rfl)
  obtain ⟨m', q', D', F', G'⟩ := q_spread14 srt l0 l1 x0 x1 N4 N.toNat 0 m1 q1 told (v0U w v u) (by omega) (Int.le_refl _) e0 C2 KC (fun x a b => by rw [e0, ← z0]; exact L1 x a b) (Rplc.zero (KC.kok l0 l1) e0 (fun p p0 p1 => (v0U_in (by omega) (by omega)).trans (zp p p0 p1)))
  have FA : FrA m m' := fun b i h1 h2 h3 => (F' b i h1 h2 h3).trans (F1 b i h1)
  have GA : ∀ b, (b < 111 ∨ 133 ≤ b) → q' b = q b := fun b h => (G' b h).trans (G1 b h)
  refine ⟨m', q', ?_, T.tr hs FA GA hs', FA, GA⟩
  refine De.step ?_
  simp only [j_X10_spreadOn_0]
  simp (disch := omega) only [b_X10_spreadOn_0, x0_k hs, x0_r0 hs, x0_r1 hs, x0_r2 hs, x0_r3 hs, x9_k hs, x9_r0 hs, x9_r1 hs, x9_r2 hs, x9_r3 hs, x9_r4 hs, x9_r5 hs, x9_r6 hs, x9_r7 hs, x9_i8 hs, x9_w8 hs, x9_i9 hs, x9_w9 hs, Option.bind_some]
  refine De.call D1 ?_
  simp (disch := omega) only [Option.bind_some, xI, xU, xUt, xIt, J_lit, J_add, J_sub, J_mul, J_neg, J_ltc, J_lec, J_eqc, lt_T, lt_F, le_T, le_F, eq_T, eq_F, ↓reduceIte, ite_not, not_true_eq_false, not_false_eq_true, true_or, or_true, false_or, or_false, true_and, and_true, false_and, and_false, up_get, Nat.reduceEqDiff, Int.reduceNeg, eqN_T, eqN_F]
  exact D'
theorem q_farC (srt : SRT w) (x0 : 0 ≤ x) (x1 : x < 30) (L0 : LIN told w (v0S w v)) (t0 : 0 ≤ told) (t1 : told ≤ w 1) (N0 : 0 ≤ N) (N4 : N ≤ 400) (t : Int32) : ∀ (k : Nat) (S : xH) (m : Nat → Int → Int) (q : Nat → Int → Int64) (u : Int → Int) (sum : Int), k ≤ 4 → Sk S → TKi S m q w v g → ∃ S' m' q', De (fun n => f_X10_far n 34 [.ref 0, .int (J x), .int t, .int (J N), .int (J sum), .int (J (4 - k))] (hp S m q)) (.inl (some (.int (J (sum + faS w v g x N told k u))))) (hp S' m' q') ∧ (S' = S ∨ S' = trS S 10) ∧ TKi S' m' q' w v g ∧ FrA m m' ∧ ∀ b, (b < 111 ∨ 133 ≤ b) → q' b = q b := by
  intro k
  induction k with
  | zero =>
    intro S m q u sum hk hs T
    refine ⟨S, m, q, ?_, Or.inl rfl, T, fun _ _ _ _ _ => rfl, fun _ _ => rfl⟩
    refine De.step ?_
    simp only [j_X10_far_34]
    simp (disch := omega) only [b_X10_far_34, faS, Int.add_zero, Option.bind_some, xI, xU, xUt, xIt, J_lit, J_add, J_sub, J_mul, J_neg, J_ltc, J_lec, J_eqc, lt_T, lt_F, le_T, le_F, eq_T, eq_F, ↓reduceIte, ite_not, not_true_eq_false, not_false_eq_true, true_or, or_true, false_or, or_false, true_and, and_true, false_and, and_false, up_get, Nat.reduceEqDiff, Int.reduceNeg, eqN_T, eqN_F]
    exact De.ret _ _
  | succ k IH =>
    intro S m q u sum hk hs T
    have el : (4 - ((k + 1 : Nat) : Int)) = 3 - k := by omega
    have el2 : (3 - (k : Int)) + 1 = 4 - k := by omega
    have KC := T.2.1
    have n45 : m 45 (3 - k) = w (2 + (3 - k)) := (KC (3 - k) (by omega) (by omega)).1
    have K := KC.kok (l := 3 - k) (by omega) (by omega)
    rw [el]
    by_cases c : (3 - k : Int) = 0 ∨ 0 < w (2 + (3 - k))
    · have e : faS w v g x N told (k + 1) u = cntp (rnS w g (3 - k) N.toNat (told, v0U w v u)).2 x 10 + faS w v g x N told k (rnS w g (3 - k) N.toNat (told, v0U w v u)).2 := if_pos c
      rw [e, ← Int.add_assoc]
      obtain ⟨m1, q1, D1, T1, F1, G1⟩ := q_spreadOn (N := N) hs T srt (l := 3 - k) (by omega) (by omega) x0 x1 N0 N4 L0 t0 t1 u
      have hs1 := trS_sk (r := 10) hs (Or.inr rfl)
      obtain ⟨S', m', q', D', E', T', F', G'⟩ := IH (trS S 10) m1 q1 (rnS w g (3 - k) N.toNat (told, v0U w v u)).2 (sum + cntp (rnS w g (3 - k) N.toNat (told, v0U w v u)).2 x 10) (by omega) hs1 T1
      rw [← el2] at D'
      refine ⟨S', m', q', ?_, ?_, T', F1.tr F', fun b h => (G' b h).trans (G1 b h)⟩
      · have E61 : De (fun n => f_X10_far n 61 [.ref 0, .int (J x), .int t, .int (J N), .int (J sum), .int (J (3 - k))] (hp S m q)) (.inl (some (.int (J (sum + cntp (rnS w g (3 - k) N.toNat (told, v0U w v u)).2 x 10 + faS w v g x N told k (rnS w g (3 - k) N.toNat (told, v0U w v u)).2))))) (hp S' m' q') := by
          refine De.step ?_
          simp only [j_X10_far_61]
          simp (disch := omega) only [b_X10_far_61, x0_k hs, x0_r0 hs, x0_r1 hs, x0_r2 hs, x0_r3 hs, Option.bind_some, xI, xU, xUt, xIt, J_lit, J_add, J_sub, J_mul, J_neg, J_ltc, J_lec, J_eqc, lt_T, lt_F, le_T, le_F, eq_T, eq_F, ↓reduceIte, ite_not, not_true_eq_false, not_false_eq_true, true_or, or_true, false_or, or_false, true_and, and_true, false_and, and_false, up_get, Nat.reduceEqDiff, Int.reduceNeg, eqN_T, eqN_F]
          refine De.call D1 ?_
          simp (disch := omega) only [Option.bind_some, xI, xU, xUt, xIt, J_lit, J_add, J_sub, J_mul, J_neg, J_ltc, J_lec, J_eqc, lt_T, lt_F, le_T, le_F, eq_T, eq_F, ↓reduceIte, ite_not, not_true_eq_false, not_false_eq_true, true_or, or_true, false_or, or_false, true_and, and_true, false_and, and_false, up_get, Nat.reduceEqDiff, Int.reduceNeg, eqN_T, eqN_F]
          exact D'
        by_cases z : (3 - k : Int) = 0
        · refine De.step ?_
          simp only [j_X10_far_34]
          simp (disch := omega) only [b_X10_far_34, Option.bind_some, xI, xU, xUt, xIt, J_lit, J_add, J_sub, J_mul, J_neg, J_ltc, J_lec, J_eqc, lt_T, lt_F, le_T, le_F, eq_T, eq_F, ↓reduceIte, ite_not, not_true_eq_false, not_false_eq_true, true_or, or_true, false_or, or_false, true_and, and_true, false_and, and_false, up_get, Nat.reduceEqDiff, Int.reduceNeg, eqN_T, eqN_F]
          exact E61
        · have c2 : 0 < w (2 + (3 - k)) := by omega
          have k1 := K.2.1
          refine De.step ?_
          simp only [j_X10_far_34]
          simp (disch := omega) only [b_X10_far_34, x0_k hs, x0_r0 hs, x0_r1 hs, x0_r2 hs, x0_r3 hs, x9_k hs, x9_r0 hs, x9_r1 hs, x9_r2 hs, x9_r3 hs, x9_r4 hs, x9_r5 hs, x9_r6 hs, x9_r7 hs, x9_i8 hs, x9_w8 hs, x9_i9 hs, x9_w9 hs, x29_k hs, x29_r0 hs, x29_r1 hs, x29_r2 hs, x29_r3 hs, x45_g hs, x45_s hs, x45_l hs, n45, Option.bind_some, xI, xU, xUt, xIt, J_lit, J_add, J_sub, J_mul, J_neg, J_ltc, J_lec, J_eqc, lt_T, lt_F, le_T, le_F, eq_T, eq_F, ↓reduceIte, ite_not, not_true_eq_false, not_false_eq_true, true_or, or_true, false_or, or_false, true_and, and_true, false_and, and_false, up_get, Nat.reduceEqDiff, Int.reduceNeg, eqN_T, eqN_F]
          exact E61
      · rcases E' with h | h
        · exact Or.inr h
        · exact Or.inr (h.trans trS_tr)
    · have e : faS w v g x N told (k + 1) u = faS w v g x N told k u := if_neg c
      rw [e]
      obtain ⟨S', m', q', D', E', T', F', G'⟩ := IH S m q u sum (by omega) hs T
      rw [← el2] at D'
      have k0 := K.1
      have k1 := K.2.1
      refine ⟨S', m', q', ?_, E', T', F', G'⟩
      refine De.step ?_
      simp only [j_X10_far_34]
      simp (disch := omega) only [b_X10_far_34, x0_k hs, x0_r0 hs, x0_r1 hs, x0_r2 hs, x0_r3 hs, x9_k hs, x9_r0 hs, x9_r1 hs, x9_r2 hs, x9_r3 hs, x9_r4 hs, x9_r5 hs, x9_r6 hs, x9_r7 hs, x9_i8 hs, x9_w8 hs, x9_i9 hs, x9_w9 hs, x29_k hs, x29_r0 hs, x29_r1 hs, x29_r2 hs, x29_r3 hs, x45_g hs, x45_s hs, x45_l hs, n45, Option.bind_some, xI, xU, xUt, xIt, J_lit, J_add, J_sub, J_mul, J_neg, J_ltc, J_lec, J_eqc, lt_T, lt_F, le_T, le_F, eq_T, eq_F, ↓reduceIte, ite_not, not_true_eq_false, not_false_eq_true, true_or, or_true, false_or, or_false, true_and, and_true, false_and, and_false, up_get, Nat.reduceEqDiff, Int.reduceNeg, eqN_T, eqN_F]
      exact D'
theorem cntp_w0 (V : Vok told w v) (tw : 0 ≤ w 0 ∧ w 0 ≤ 10) (x0 : 0 ≤ x) (x1 : x < 30) : cntp v x (w 0).toNat = cntp v x 10 := by
  have key : ∀ k : Nat, (w 0).toNat + k ≤ 10 → cntp v x ((w 0).toNat + k) = cntp v x (w 0).toNat := fun k => by
    induction k with
    | zero => exact fun _ => rfl
    | succ k IH =>
      intro h
      rw [← Nat.add_assoc, cntp, if_neg (fun z => by
        have := ((V.2.2 _ x (by omega) (by omega) x0 x1).2 z).1
        omega), Int.add_zero]
      exact IH (by omega)
  have := key (10 - (w 0).toNat) (by omega)
  rw [show (w 0).toNat + (10 - (w 0).toNat) = 10 by omega] at this
  exact this.symm
theorem q_farM (hs : Sk S) (R : Rrul ln sp kd nm bg so g) (srt : SRT w) (KA : ∀ l : Int, 0 ≤ l → l < 4 → Kok w l) (x0 : 0 ≤ x) (x1 : x < w 1) (X0 : VX told w (v0S w v) g) (L0 : LIN told w (v0S w v)) (z0 : v0S w v 0 = 0) (N0 : 0 ≤ N) (Nv : N ≤ v 0) (v4 : v 0 ≤ 400) (t : Int32) : ∀ (k : Nat) (m : Nat → Int → Int) (u : Int → Int) (sum : Int), k ≤ 4 → m 139 = w → m 137 = u → (∀ i, 0 ≤ i → i < 2301 → m 138 i = v i) → RulM m 0 g → (v 0 = 0 → ∀ i, 0 ≤ i → i < 2301 → u i = v i) → ∃ m', De (fun n => f_X11_far n 76 [.ref 136, .int (J x), .int t, .int (J N), .int (J sum), .int (J (4 - k))] (hp S m q)) (.inl (some (.int (J (sum + faS w v g x N told k u))))) (hp S m' q) ∧ (∀ i, 0 ≤ i → i < 2301 → m' 137 i = v i) ∧ m' 136 7 = 0 ∧ ∀ b i, b ≠ 137 → b ≠ 143 → b ≠ 144 → b ≠ 145 → b ≠ 146 → ¬ (b = 136 ∧ i = 7) → m' b i = m b i := by
  have W := X0.wok
  have tw := W.1.2.1
  have tw0 := W.1.1
  have w1 := W.2.1
  intro k
  induction k with
  | zero =>
    intro m u sum hk e9 e7 e8 M hu
    obtain ⟨m', D', F', G'⟩ := d_copyM (q := q) (m := up m 136 7 0) hs (Or.inr ⟨rfl, rfl⟩)
    refine ⟨m', ?_, fun i i0 i1 => ?_, (F' 136 7 (by decide)).trans (up_at _ _ _ _), fun b i h1 h2 h3 h4 h5 h6 => (F' b i h1).trans (if_neg h6)⟩
    · refine De.step ?_
      simp only [j_X11_far_76]
      simp (disch := omega) only [b_X11_far_76, x136_k hs, x136_i0 hs, x136_w0 hs, x136_r1 hs, x136_r2 hs, x136_r3 hs, x136_r4 hs, x136_i5 hs, x136_w5 hs, x136_i6 hs, x136_w6 hs, x136_i7 hs, x136_w7 hs, x136_r8 hs, x136_i9 hs, x136_w9 hs, x136_i10 hs, x136_w10 hs, x136_i11 hs, x136_w11 hs, x136_i12 hs, x136_w12 hs, x136_i13 hs, x136_w13 hs, x136_i14 hs, x136_w14 hs, x136_r15 hs, x136_i16 hs, x136_w16 hs, x136_r17 hs, x136_r18 hs, x136_r19 hs, x136_r20 hs, x136_r21 hs, x136_i22 hs, x136_w22 hs, x136_r23 hs, x136_r24 hs, x136_i25 hs, x136_w25 hs, x136_i26 hs, x136_w26 hs, x136_r27 hs, x136_r28 hs, x136_i29 hs, x136_w29 hs, Option.bind_some, xI, xU, xUt, xIt, J_lit, J_add, J_sub, J_mul, J_neg, J_ltc, J_lec, J_eqc, lt_T, lt_F, le_T, le_F, eq_T, eq_F, ↓reduceIte, ite_not, not_true_eq_false, not_false_eq_true, true_or, or_true, false_or, or_false, true_and, and_true, false_and, and_false, up_get, Nat.reduceEqDiff, Int.reduceNeg, eqN_T, eqN_F]
      refine De.call D' ?_
      simp (disch := omega) only [faS, Int.add_zero, Option.bind_some, xI, xU, xUt, xIt, J_lit, J_add, J_sub, J_mul, J_neg, J_ltc, J_lec, J_eqc, lt_T, lt_F, le_T, le_F, eq_T, eq_F, ↓reduceIte, ite_not, not_true_eq_false, not_false_eq_true, true_or, or_true, false_or, or_false, true_and, and_true, false_and, and_false, up_get, Nat.reduceEqDiff, Int.reduceNeg, eqN_T, eqN_F]
      exact De.ret _ _
    · rw [G' i, if_pos ⟨i0, i1⟩, up_a (by decide)]
      exact e8 i i0 i1
  | succ k IH =>
    intro m u sum hk e9 e7 e8 M hu
    have el : (4 - ((k + 1 : Nat) : Int)) = 3 - k := by omega
    have el2 : (3 - (k : Int)) + 1 = 4 - k := by omega
    have K := KA (3 - k) (by omega) (by omega)
    rw [el]
    by_cases c : (3 - k : Int) = 0 ∨ 0 < w (2 + (3 - k))
    · have e : faS w v g x N told (k + 1) u = cntp (rnS w g (3 - k) N.toNat (told, v0U w v u)).2 x 10 + faS w v g x N told k (rnS w g (3 - k) N.toNat (told, v0U w v u)).2 := if_pos c
      rw [e, ← Int.add_assoc]
      have u7 : up m 136 7 (3 - k) 137 = u := (up_row (by decide)).trans e7
      have u9 : up m 136 7 (3 - k) 139 = w := (up_row (by decide)).trans e9
      obtain ⟨m1, F1, A1, S1⟩ := q_runs0 (q := q) (to := N) (m := up m 136 7 (3 - k)) (v := v) hs ((up_a (by decide)).trans (e8 0 (by decide) (by decide))) (by omega) v4 (fun z i i0 i1 => by rw [u7]; exact hu z i i0 i1)
      rw [u9, u7] at A1
      have b9 : m1 139 = w := (funext fun i => F1 139 i (by decide)).trans u9
      have a0 : m1 137 0 = 0 := by rw [A1]; exact (v0U_in (by decide) (by decide)).trans z0
      have X1 : VX told w (v0U w v u) g := X0.vin (fun i i0 i1 => v0U_in i0 i1)
      obtain ⟨m2, D2, A2, F2, X2, L2, s2⟩ := q_runs40 (q := q) (l := 3 - k) (to := N) (y := 0) hs R srt K (by omega) (by omega) (by omega) N.toNat told m1 (by omega) b9 (by rw [A1]; exact X1) (fun x a b => by rw [a0, ← z0]; exact L0 x a b) (M.cg ((F1 136 6 (by decide)).trans (up_i (by decide))) (fun i => (F1 139 i (by decide)).trans (up_a (by decide)))) ((F1 136 7 (by decide)).trans (up_at _ _ _ _))
      rw [A1] at A2 X2 L2 s2
      have c9 : m2 139 = w := (F2.row (by decide) (by decide) (by decide) (by decide) (by decide)).trans b9
      have DH := q_haveOf (q := q) (m := m2) (x := x) hs x0 (by omega) (fun p p0 p1 => by rw [A2]; exact (X2.vok.2.2 p x p0 p1 x0 (by omega)).1) (by rw [c9]; exact tw) (w 0).toNat (by rw [c9]; omega) (by omega)
      rw [A2, cntp_w0 X2.vok ⟨tw0, tw⟩ x0 (by omega)] at DH
      obtain ⟨m', D', R', Z', F'⟩ := IH m2 (rnS w g (3 - k) N.toNat (told, v0U w v u)).2 (sum + cntp (rnS w g (3 - k) N.toNat (told, v0U w v u)).2 x 10) (by omega) c9 A2 (fun i i0 i1 => (F2 138 i (by decide) (by decide) (by decide) (by decide) (by decide)).trans ((F1 138 i (by decide)).trans ((up_a (by decide)).trans (e8 i i0 i1)))) (M.cg ((F2 136 6 (by decide) (by decide) (by decide) (by decide) (by decide)).trans ((F1 136 6 (by decide)).trans (up_i (by decide)))) (fun i => (congrFun c9 i).trans (congrFun e9 i).symm)) (fun z i i0 i1 => by
        rw [show N.toNat = 0 by omega, rnS]
        show v0U w v u i = v i
        rw [v0U_in i0 i1, v0S, if_pos z])
      rw [← el2] at D'
      refine ⟨m', ?_, R', Z', fun b i h1 h2 h3 h4 h5 h6 => (F' b i h1 h2 h3 h4 h5 h6).trans ((F2 b i h1 h2 h3 h4 h5).trans ((F1 b i h1).trans (if_neg h6)))⟩
      have E : De (fun n => f_X11_far n 102 [.ref 136, .int (J x), .int t, .int (J N), .int (J sum), .int (J (3 - k))] (hp S m q)) (.inl (some (.int (J (sum + cntp (rnS w g (3 - k) N.toNat (told, v0U w v u)).2 x 10 + faS w v g x N told k (rnS w g (3 - k) N.toNat (told, v0U w v u)).2))))) (hp S m' q) := by
        refine De.step ?_
        simp only [j_X11_far_102]
        simp (disch := omega) only [b_X11_far_102, x136_k hs, x136_i0 hs, x136_w0 hs, x136_r1 hs, x136_r2 hs, x136_r3 hs, x136_r4 hs, x136_i5 hs, x136_w5 hs, x136_i6 hs, x136_w6 hs, x136_i7 hs, x136_w7 hs, x136_r8 hs, x136_i9 hs, x136_w9 hs, x136_i10 hs, x136_w10 hs, x136_i11 hs, x136_w11 hs, x136_i12 hs, x136_w12 hs, x136_i13 hs, x136_w13 hs, x136_i14 hs, x136_w14 hs, x136_r15 hs, x136_i16 hs, x136_w16 hs, x136_r17 hs, x136_r18 hs, x136_r19 hs, x136_r20 hs, x136_r21 hs, x136_i22 hs, x136_w22 hs, x136_r23 hs, x136_r24 hs, x136_i25 hs, x136_w25 hs, x136_i26 hs, x136_w26 hs, x136_r27 hs, x136_r28 hs, x136_i29 hs, x136_w29 hs, Option.bind_some, xI, xU, xUt, xIt, J_lit, J_add, J_sub, J_mul, J_neg, J_ltc, J_lec, J_eqc, lt_T, lt_F, le_T, le_F, eq_T, eq_F, ↓reduceIte, ite_not, not_true_eq_false, not_false_eq_true, true_or, or_true, false_or, or_false, true_and, and_true, false_and, and_false, up_get, Nat.reduceEqDiff, Int.reduceNeg, eqN_T, eqN_F]
        refine De.call (S1 D2) ?_
        simp (disch := omega) only [x136_k hs, x136_i0 hs, x136_w0 hs, x136_r1 hs, x136_r2 hs, x136_r3 hs, x136_r4 hs, x136_i5 hs, x136_w5 hs, x136_i6 hs, x136_w6 hs, x136_i7 hs, x136_w7 hs, x136_r8 hs, x136_i9 hs, x136_w9 hs, x136_i10 hs, x136_w10 hs, x136_i11 hs, x136_w11 hs, x136_i12 hs, x136_w12 hs, x136_i13 hs, x136_w13 hs, x136_i14 hs, x136_w14 hs, x136_r15 hs, x136_i16 hs, x136_w16 hs, x136_r17 hs, x136_r18 hs, x136_r19 hs, x136_r20 hs, x136_r21 hs, x136_i22 hs, x136_w22 hs, x136_r23 hs, x136_r24 hs, x136_i25 hs, x136_w25 hs, x136_i26 hs, x136_w26 hs, x136_r27 hs, x136_r28 hs, x136_i29 hs, x136_w29 hs, Option.bind_some, xI, xU, xUt, xIt, J_lit, J_add, J_sub, J_mul, J_neg, J_ltc, J_lec, J_eqc, lt_T, lt_F, le_T, le_F, eq_T, eq_F, ↓reduceIte, ite_not, not_true_eq_false, not_false_eq_true, true_or, or_true, false_or, or_false, true_and, and_true, false_and, and_false, up_get, Nat.reduceEqDiff, Int.reduceNeg, eqN_T, eqN_F]
        refine De.call DH ?_
        simp (disch := omega) only [Option.bind_some, xI, xU, xUt, xIt, J_lit, J_add, J_sub, J_mul, J_neg, J_ltc, J_lec, J_eqc, lt_T, lt_F, le_T, le_F, eq_T, eq_F, ↓reduceIte, ite_not, not_true_eq_false, not_false_eq_true, true_or, or_true, false_or, or_false, true_and, and_true, false_and, and_false, up_get, Nat.reduceEqDiff, Int.reduceNeg, eqN_T, eqN_F]
        exact D'
      by_cases z : (3 - k : Int) = 0
      · refine De.step ?_
        simp only [j_X11_far_76]
        simp (disch := omega) only [b_X11_far_76, Option.bind_some, xI, xU, xUt, xIt, J_lit, J_add, J_sub, J_mul, J_neg, J_ltc, J_lec, J_eqc, lt_T, lt_F, le_T, le_F, eq_T, eq_F, ↓reduceIte, ite_not, not_true_eq_false, not_false_eq_true, true_or, or_true, false_or, or_false, true_and, and_true, false_and, and_false, up_get, Nat.reduceEqDiff, Int.reduceNeg, eqN_T, eqN_F]
        exact E
      · have c2 : 0 < w (2 + (3 - k)) := by omega
        have k1 := K.2.1
        refine De.step ?_
        simp only [j_X11_far_76]
        simp (disch := omega) only [b_X11_far_76, x136_k hs, x136_i0 hs, x136_w0 hs, x136_r1 hs, x136_r2 hs, x136_r3 hs, x136_r4 hs, x136_i5 hs, x136_w5 hs, x136_i6 hs, x136_w6 hs, x136_i7 hs, x136_w7 hs, x136_r8 hs, x136_i9 hs, x136_w9 hs, x136_i10 hs, x136_w10 hs, x136_i11 hs, x136_w11 hs, x136_i12 hs, x136_w12 hs, x136_i13 hs, x136_w13 hs, x136_i14 hs, x136_w14 hs, x136_r15 hs, x136_i16 hs, x136_w16 hs, x136_r17 hs, x136_r18 hs, x136_r19 hs, x136_r20 hs, x136_r21 hs, x136_i22 hs, x136_w22 hs, x136_r23 hs, x136_r24 hs, x136_i25 hs, x136_w25 hs, x136_i26 hs, x136_w26 hs, x136_r27 hs, x136_r28 hs, x136_i29 hs, x136_w29 hs, x139_g hs, x139_s hs, x139_l hs, e9, Option.bind_some, xI, xU, xUt, xIt, J_lit, J_add, J_sub, J_mul, J_neg, J_ltc, J_lec, J_eqc, lt_T, lt_F, le_T, le_F, eq_T, eq_F, ↓reduceIte, ite_not, not_true_eq_false, not_false_eq_true, true_or, or_true, false_or, or_false, true_and, and_true, false_and, and_false, up_get, Nat.reduceEqDiff, Int.reduceNeg, eqN_T, eqN_F]
        exact E
    · have e : faS w v g x N told (k + 1) u = faS w v g x N told k u := if_neg c
      rw [e]
      obtain ⟨m', D', R', Z', F'⟩ := IH m u sum (by omega) e9 e7 e8 M hu
      rw [← el2] at D'
      have k0 := K.1
      have k1 := K.2.1
      refine ⟨m', ?_, R', Z', F'⟩
      refine De.step ?_
      simp only [j_X11_far_76]
      simp (disch := omega) only [b_X11_far_76, x136_k hs, x136_i0 hs, x136_w0 hs, x136_r1 hs, x136_r2 hs, x136_r3 hs, x136_r4 hs, x136_i5 hs, x136_w5 hs, x136_i6 hs, x136_w6 hs, x136_i7 hs, x136_w7 hs, x136_r8 hs, x136_i9 hs, x136_w9 hs, x136_i10 hs, x136_w10 hs, x136_i11 hs, x136_w11 hs, x136_i12 hs, x136_w12 hs, x136_i13 hs, x136_w13 hs, x136_i14 hs, x136_w14 hs, x136_r15 hs, x136_i16 hs, x136_w16 hs, x136_r17 hs, x136_r18 hs, x136_r19 hs, x136_r20 hs, x136_r21 hs, x136_i22 hs, x136_w22 hs, x136_r23 hs, x136_r24 hs, x136_i25 hs, x136_w25 hs, x136_i26 hs, x136_w26 hs, x136_r27 hs, x136_r28 hs, x136_i29 hs, x136_w29 hs, x139_g hs, x139_s hs, x139_l hs, e9, Option.bind_some, xI, xU, xUt, xIt, J_lit, J_add, J_sub, J_mul, J_neg, J_ltc, J_lec, J_eqc, lt_T, lt_F, le_T, le_F, eq_T, eq_F, ↓reduceIte, ite_not, not_true_eq_false, not_false_eq_true, true_or, or_true, false_or, or_false, true_and, and_true, false_and, and_false, up_get, Nat.reduceEqDiff, Int.reduceNeg, eqN_T, eqN_F]
      exact D'
end FAR
