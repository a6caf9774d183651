/-! the best offer, by the class -/
theorem bnd {α β : Type} {x : Option α} {v : α} (h : x = some v) (f : α → Option β) : x.bind f = f v := by rw [h, Option.bind_some]
def opN (A B D : Nat) : Nat := A ^^^ (A &&& (B ||| D))
theorem opN_tb (A B D i : Nat) : (opN A B D).testBit i = (A.testBit i && (!B.testBit i && !D.testBit i)) := by
  unfold opN
  rw [Nat.testBit_xor, Nat.testBit_and, Nat.testBit_or]
  cases A.testBit i <;> cases B.testBit i <;> cases D.testBit i <;> rfl
theorem opN_lt {A B D : Nat} (h : A < 2 ^ 30) : opN A B D < 2 ^ 30 := by
  unfold opN
  refine Nat.xor_lt_two_pow h ?_
  rw [Nat.and_comm]
  exact Nat.and_lt_two_pow _ h
theorem J_open (A B D : Nat) : (J (A : Int) &&& (J (B : Int) ^^^ J (-1))) &&& (J (D : Int) ^^^ J (-1)) = J ((opN A B D : Nat) : Int) := by
  rw [J_nI, J_nI, J_nI, J_nI, show J (-1) = -1 from rfl]
  refine b_ext fun i hi => ?_
  rw [b_and, b_and, b_xor, b_xor, b_m1 i hi]
  unfold bt
  show ((BitVec.ofNat 32 _).getLsbD i && ((BitVec.ofNat 32 _).getLsbD i ^^ true) && ((BitVec.ofNat 32 _).getLsbD i ^^ true)) = (BitVec.ofNat 32 _).getLsbD i
  simp only [BitVec.getLsbD_ofNat, hi, decide_true, Bool.true_and, opN_tb]
  cases A.testBit i <;> cases B.testBit i <;> cases D.testBit i <;> rfl
theorem J_and' (A B : Nat) : J (A : Int) &&& J (B : Int) = J ((A &&& B : Nat) : Int) := by rw [J_nI, J_nI, J_nI, nx_and]
theorem and_0 {U B : Nat} (hU : U < 2 ^ 30) : U &&& B = 0 ↔ ∀ i, i < 30 → ¬ (U.testBit i = true ∧ B.testBit i = true) := by
  constructor
  · intro h i _ ⟨a, b⟩
    have := congrArg (fun n => n.testBit i) h
    simp only [Nat.testBit_and, a, b, Nat.zero_testBit] at this
    exact absurd this (by decide)
  · intro h
    refine Nat.eq_of_testBit_eq (fun i => ?_)
    rw [Nat.testBit_and, Nat.zero_testBit]
    by_cases c : i < 30
    · have := h i c
      cases hu : U.testBit i <;> cases hb : B.testBit i <;> simp_all
    · rw [Nat.testBit_lt_two_pow (Nat.lt_of_lt_of_le hU (Nat.pow_le_pow_right (by decide) (by omega))), Bool.false_and]
theorem uxS_all {w v : Int → Int} {ta x : Int} : ∀ n : Nat, uxS w v ta x n = false ↔ ∀ u : Nat, u < n → ¬ (v (51 + 7 * (30 * ta + u) + 0) = 1 ∧ w (761 + 10 * u + 8) = x)
  | 0 => ⟨fun _ u hu => absurd hu (by omega), fun _ => rfl⟩
  | n + 1 => by
    rw [uxS, Bool.or_eq_false_iff, uxS_all n, decide_eq_false_iff_not]
    constructor
    · rintro ⟨h1, h2⟩ u hu
      by_cases c : u = n
      · rw [c]
        exact h2
      · exact h1 u (by omega)
    · intro h
      exact ⟨fun u hu => h u (by omega), h n (by omega)⟩
def obS (w v g : Int → Int) (gi ta : Int) (d : Nat) (st : Int × Int × Int) : Nat → Int × Int × Int
  | 0 => st
  | n + 1 => if ctS w v g gi ta d n = true ∧ ((obS w v g gi ta d st n).1 = -1 ∨ (obS w v g gi ta d st n).2.1 < mrk w v g gi n ∨ (mrk w v g gi n = (obS w v g gi ta d st n).2.1 ∧ (n : Int) < (obS w v g gi ta d st n).1)) then ((n : Int), mrk w v g gi n, gi) else obS w v g gi ta d st n
def StO (s : Int × Int × Int) : Prop := s.1 = -1 ∨ (0 ≤ s.1 ∧ s.1 < 30 ∧ 0 ≤ s.2.1 ∧ s.2.1 ≤ 99990)
theorem obS_ok {w v g : Int → Int} {gi ta ln sp : Int} {kd nm bg so : Int → Int} {d : Nat} {st : Int × Int × Int} (R : Rrul ln sp kd nm bg so g) (h : StO st) : ∀ n : Nat, n ≤ 30 → StO (obS w v g gi ta d st n)
  | 0, _ => h
  | n + 1, hn => by
    have k := mrk_in (w := w) (v := v) R gi n
    rw [obS]
    split
    · exact Or.inr ⟨show 0 ≤ (n : Int) by omega, show (n : Int) < 30 by omega, k.1, k.2⟩
    · exact obS_ok R h n (by omega)
theorem obS_stop {w v g : Int → Int} {gi ta : Int} {d : Nat} {st : Int × Int × Int} (n : Nat) : ∀ k : Nat, (∀ x : Int, n ≤ x → x < n + k → ctS w v g gi ta d x = false) → obS w v g gi ta d st (n + k) = obS w v g gi ta d st n
  | 0, _ => rfl
  | k + 1, h => by
    have h0 := h ((n + k : Nat) : Int) (by omega) (by omega)
    rw [← Nat.add_assoc, obS, if_neg (by rw [h0]; exact fun z => absurd z.1 (by decide))]
    exact obS_stop n k (fun x a b => h x a (by omega))
theorem ctS_has {w v g : Int → Int} {gi ta x : Int} {d : Nat} (h : v (51 + 7 * (30 * gi + x) + 0) ≠ 1) : ctS w v g gi ta d x = false := by
  unfold ctS
  rw [decide_eq_false h, Bool.false_and]
section OFFER
variable {S : xH} {m m' m0 : Nat → Int → Int} {q q' : Nat → Int → Int64} {a r : Nat} {told gi ta x me : Int} {w v v' g : Int → Int} {d : Nat} {st : Int × Int × Int}
def FrO (a r : Nat) (m m' : Nat → Int → Int) : Prop := ∀ b i, b ≠ r + 5 → ¬ (b = r ∧ i = 7) → ¬ (b = a ∧ 14 ≤ i) → m' b i = m b i
theorem CX.fo (C : CX S m q a r told w v g) (F : FrO a r m m') : CX S m' q a r told w v g := by
  obtain ⟨⟨hs, hn, hr, r16, a46⟩, W, WC, NC, R⟩ := C
  have w1 := W.2.1
  have n1 := NC.1
  refine ⟨⟨hs, hn, hr, r16, a46⟩, W, WC.cg (fun b i b0 b1 => F b i (by omega) (by omega) (by omega)), ?_, R.cg (F _ _ (by omega) (by omega) (by omega)) (F _ _ (by omega) (by omega) (by omega)) (fun b i b0 b1 => F b i (by omega) (by omega) (by omega))⟩
  exact Rnet.congr NC W.1.2.1 (fun i h1 h2 => F _ _ (by omega) (by omega) (by omega)) (fun o h1 h2 => funext fun i => F _ _ (by omega) (by omega) (by omega)) (fun o h1 h2 => rfl) rfl (Int.le_refl _) (fun i h1 h2 => rfl) (fun i h1 h2 => rfl) (by omega)
/-- what must be exceeded -/
def meS (w v g : Int → Int) (ta : Int) : Int := if w (11 + 3 * ta + 1) ≤ cntw v ta 30 then mrk w v g ta (lsO w v g ta 30).1 else -1
theorem fuS_me {ln sp : Int} {kd nm bg so : Int → Int} (R : Rrul ln sp kd nm bg so g) : fuS w v g gi ta x = decide (meS w v g ta < mrk w v g gi x) := by
  have k := mrk_in (w := w) (v := v) R gi x
  unfold fuS meS
  by_cases c : w (11 + 3 * ta + 1) ≤ cntw v ta 30
  · rw [if_pos c, decide_eq_false (by omega), Bool.false_or]
  · rw [if_neg c, decide_eq_true (by omega), Bool.true_or, decide_eq_true (by omega)]
theorem q_offer_l (C0 : CX S m0 q a r told w v g) (g0 : 0 ≤ gi) (g1 : gi < w 0) (t0 : 0 ≤ ta) (t1 : ta < w 0) (hd : m0 (a + 21) ta = d) (h0 : StO st) : ∀ (k i : Nat) (m : Nat → Int → Int), (i : Int) + k = told → FrO a r m0 m → m a 14 = (obS w v g gi ta d st i).1 ∧ m a 15 = (obS w v g gi ta d st i).2.1 ∧ m a 16 = (obS w v g gi ta d st i).2.2 → ∃ m', De (fun n => f_X1_offerBest n 67 [.ref a, .int (J gi), .int (J ta), .int (J ((opN (m0 (a + 16) gi).toNat (m0 (a + 16) ta).toNat d : Nat) : Int)), .int (J (meS w v g ta)), .int (J i)] (hp S m q)) (.inl none) (hp S m' q) ∧ FrO a r m0 m' ∧ m' a 14 = (obS w v g gi ta d st told.toNat).1 ∧ m' a 15 = (obS w v g gi ta d st told.toNat).2.1 ∧ m' a 16 = (obS w v g gi ta d st told.toNat).2.2 := by
  obtain ⟨-, W0, WC0, NC0, R0⟩ := id C0
  have tw := W0.1.2.1
  have w1 := W0.2.1
  have n1 := NC0.1
  have rm := W0.1.2.2 ta t0 t1
  have og := NC0.on (p := gi) (x := 0) g0 (by omega) (by decide) (by decide)
  have ot := NC0.on (p := ta) (x := 0) t0 (by omega) (by decide) (by decide)
  have ol := opN_lt (A := (m0 (a + 16) gi).toNat) (B := (m0 (a + 16) ta).toNat) (D := d) (by omega)
  have mb : -1 ≤ meS w v g ta ∧ meS w v g ta ≤ 99990 := by
    have := mrk_in (w := w) (v := v) R0 ta (lsO w v g ta 30).1
    unfold meS
    split <;> omega
  intro k
  induction k with
  | zero =>
    intro i m hi F hst
    obtain ⟨⟨hs, hn, hr, r16, a46⟩, W, WC, NC, R⟩ := C0.fo F
    have tl : m a 4 = told := NC.1.2.2.1
    rw [show told.toNat = i by omega]
    refine ⟨m, ?_, F, hst⟩
    refine De.step ?_
    simp only [j_X1_offerBest_67]
    simp (disch := omega) only [b_X1_offerBest_67, ↓bnd (Net0_i4 hn), tl, Option.bind_some, xI, xU, xUt, xIt, J_lit, J_add, J_sub, J_mul, J_neg, J_ltc, J_lec, J_eqc, lt_T, lt_F, le_T, le_F, eq_T, eq_F, ↓reduceIte, ite_not, not_true_eq_false, not_false_eq_true, true_or, or_true, false_or, or_false, true_and, and_true, false_and, and_false, up_get, Nat.reduceEqDiff, Int.reduceNeg, eqN_T, eqN_F]
    exact De.ret _ _
  | succ k IH =>
    intro i m hi F hst
    obtain ⟨⟨hs, hn, hr, r16, a46⟩, W, WC, NC, R⟩ := id (C0.fo F)
    have tl : m a 4 = told := NC.1.2.2.1
    have st1 := obS_ok (w := w) (v := v) (gi := gi) (ta := ta) (d := d) R0 h0 i (by omega)
    have bg := (NC0.on (p := gi) (x := (i : Int)) g0 (by omega) (by omega) (by omega)).2
    have bt := (NC0.on (p := ta) (x := (i : Int)) t0 (by omega) (by omega) (by omega)).2
    have tb := J_tb (z := ((opN (m0 (a + 16) gi).toNat (m0 (a + 16) ta).toNat d : Nat) : Int)) (p := (i : Int)) (by omega) (by omega) (by omega) (by omega)
    rw [Int.toNat_natCast, Int.toNat_natCast, opN_tb] at tb
    rw [Int.toNat_natCast] at bg bt
    have skip : ctS w v g gi ta d i = false → ∀ m2, FrO a r m0 m2 → (m2 a 14 = m a 14 ∧ m2 a 15 = m a 15 ∧ m2 a 16 = m a 16) → ∃ m', De (fun n => f_X1_offerBest n 67 [.ref a, .int (J gi), .int (J ta), .int (J ((opN (m0 (a + 16) gi).toNat (m0 (a + 16) ta).toNat d : Nat) : Int)), .int (J (meS w v g ta)), .int (J (i + 1))] (hp S m2 q)) (.inl none) (hp S m' q) ∧ FrO a r m0 m' ∧ m' a 14 = (obS w v g gi ta d st told.toNat).1 ∧ m' a 15 = (obS w v g gi ta d st told.toNat).2.1 ∧ m' a 16 = (obS w v g gi ta d st told.toNat).2.2 := fun hc m2 F2 e2 => by
      refine IH (i + 1) m2 (by omega) F2 ?_
      rw [obS, if_neg (by rw [hc]; exact fun z => absurd z.1 (by decide)), e2.1, e2.2.1, e2.2.2]
      exact hst
    by_cases hb : ((m0 (a + 16) gi).toNat.testBit i && (!(m0 (a + 16) ta).toNat.testBit i && !d.testBit i)) = true
    · rw [hb, if_pos rfl] at tb
      simp only [Bool.and_eq_true, Bool.not_eq_true'] at hb
      obtain ⟨hb1, hb2, hb3⟩ := hb
      rw [if_pos hb1] at bg
      rw [if_neg (by rw [hb2]; decide)] at bt
      -- those that undo it
      have wu := WC0.2.2 i (by omega) (by omega)
      have e27 : m 27 i = m0 27 i := F _ _ (by omega) (by omega) (by omega)
      have e16 : m (a + 16) ta = m0 (a + 16) ta := F _ _ (by omega) (by omega) (by omega)
      have ux : (m0 27 i).toNat &&& (m0 (a + 16) ta).toNat = 0 ↔ uxS w v ta i 30 = false := by
        rw [and_0 (by omega), uxS_all]
        refine forall_congr' fun u => forall_congr' fun hu => not_congr ?_
        have b := (NC0.on (p := ta) (x := (u : Int)) t0 (by omega) (by omega) (by omega)).2
        rw [Int.toNat_natCast] at b
        have c := wu.2.2 u (by omega) (by omega)
        rw [Int.toNat_natCast] at c
        rw [c]
        constructor
        · rintro ⟨⟨z1, z2⟩, z3⟩
          rw [if_pos z3] at b
          exact ⟨b, z2⟩
        · rintro ⟨z1, z2⟩
          have z3 := ((NC0.vok.2.2 ta u t0 (by omega) (by omega) (by omega)).2 z1).1
          refine ⟨⟨by omega, z2⟩, ?_⟩
          by_cases q : (m0 (a + 16) ta).toNat.testBit u = true
          · exact q
          · rw [if_neg q] at b
            omega
      have ja : J (m0 27 i) &&& J (m0 (a + 16) ta) = J (((m0 27 i).toNat &&& (m0 (a + 16) ta).toNat : Nat) : Int) := by
        rw [← J_and', Int.toNat_of_nonneg wu.1, Int.toNat_of_nonneg ot.1.1]
      have jl : (m0 27 i).toNat &&& (m0 (a + 16) ta).toNat < 2 ^ 30 := by
        rw [Nat.and_comm]
        exact Nat.and_lt_two_pow _ (by omega)
      by_cases cu : (m0 27 i).toNat &&& (m0 (a + 16) ta).toNat = 0
      · have uf := ux.mp cu
        obtain ⟨E1, E2, E3⟩ := q_mrkC (x := (i : Int)) hs hn hr r16 a46 W WC NC R g0 g1 (by omega) (by omega) bg
        have FL : FrO a r m0 (ldF m a r gi i) := fun b z h1 h2 h3 => (ldF_out h1 h2).trans (F b z h1 h2 h3)
        have l14 : ∀ z, ldF m a r gi i a z = m a z := fun z => ldF_out (by omega) (by omega)
        have mk := mrk_in (w := w) (v := v) R0 gi i
        have ce : ctS w v g gi ta d i = (lts w v g gi i && decide (meS w v g ta < mrk w v g gi i)) := by
          unfold ctS
          rw [decide_eq_true bg, decide_eq_true bt, Int.toNat_natCast, hb3, uf, fuS_me R0]
          simp only [Bool.true_and, Bool.not_false]
        obtain ⟨s1, s2, s3⟩ := hst
        -- from 164 on
        have T : ∀ bb : Int, (bb = 1 ∧ ((obS w v g gi ta d st i).1 = -1 ∨ (obS w v g gi ta d st i).2.1 < mrk w v g gi i ∨ (mrk w v g gi i = (obS w v g gi ta d st i).2.1 ∧ (i : Int) < (obS w v g gi ta d st i).1))) ∨ (bb = 0 ∧ ¬ ((obS w v g gi ta d st i).1 = -1 ∨ (obS w v g gi ta d st i).2.1 < mrk w v g gi i ∨ (mrk w v g gi i = (obS w v g gi ta d st i).2.1 ∧ (i : Int) < (obS w v g gi ta d st i).1))) → ∃ m', De (fun n => f_X1_offerBest n 164 [.ref a, .int (J gi), .int (J ta), .int (J ((opN (m0 (a + 16) gi).toNat (m0 (a + 16) ta).toNat d : Nat) : Int)), .int (J (meS w v g ta)), .int (J i), .int (J (mrk w v g gi i)), .int (J bb)] (hp S (ldF m a r gi i) q)) (.inl none) (hp S m' q) ∧ FrO a r m0 m' ∧ m' a 14 = (obS w v g gi ta d st told.toNat).1 ∧ m' a 15 = (obS w v g gi ta d st told.toNat).2.1 ∧ m' a 16 = (obS w v g gi ta d st told.toNat).2.2 := by
          rintro bb (⟨rfl, hbt⟩ | ⟨rfl, hbt⟩)
          · by_cases c1 : meS w v g ta < mrk w v g gi i
            · by_cases c2 : lts w v g gi i = true
              · rw [if_pos c2] at E3
                obtain ⟨m', D, F', G'⟩ := IH (i + 1) (up (up (up (ldF m a r gi i) a 14 i) a 15 (mrk w v g gi i)) a 16 gi) (by omega) (fun b z h1 h2 h3 => by rw [up_get, if_neg (by omega), up_get, if_neg (by omega), up_get, if_neg (by omega)]; exact FL b z h1 h2 h3) (by
                  rw [obS, if_pos ⟨by rw [ce, c2, decide_eq_true c1]; rfl, hbt⟩]
                  refine ⟨?_, ?_, ?_⟩
                  · rw [up_i (by decide), up_i (by decide), up_at]
                  · rw [up_i (by decide), up_at]
                  · rw [up_at])
                refine ⟨m', ?_, F', G'⟩
                refine De.step ?_
                simp only [j_X1_offerBest_164]
                simp (disch := omega) only [b_X1_offerBest_164, Net0_r1 hn, Rul0_k hr, Option.bind_some, xI, xU, xUt, xIt, J_lit, J_add, J_sub, J_mul, J_neg, J_ltc, J_lec, J_eqc, lt_T, lt_F, le_T, le_F, eq_T, eq_F, ↓reduceIte, ite_not, not_true_eq_false, not_false_eq_true, true_or, or_true, false_or, or_false, true_and, and_true, false_and, and_false, up_get, Nat.reduceEqDiff, Int.reduceNeg, eqN_T, eqN_F]
                refine De.call E3 ?_
                simp (disch := omega) only [Net0_w14 hn, Net0_w15 hn, Net0_w16 hn, Option.bind_some, xI, xU, xUt, xIt, J_lit, J_add, J_sub, J_mul, J_neg, J_ltc, J_lec, J_eqc, lt_T, lt_F, le_T, le_F, eq_T, eq_F, ↓reduceIte, ite_not, not_true_eq_false, not_false_eq_true, true_or, or_true, false_or, or_false, true_and, and_true, false_and, and_false, up_get, Nat.reduceEqDiff, Int.reduceNeg, eqN_T, eqN_F]
                exact D
              · rw [if_neg c2] at E3
                obtain ⟨m', D, F', G'⟩ := skip (by rw [ce, Bool.eq_false_iff.mpr c2, Bool.false_and]) (ldF m a r gi i) FL ⟨l14 _, l14 _, l14 _⟩
                refine ⟨m', ?_, F', G'⟩
                refine De.step ?_
                simp only [j_X1_offerBest_164]
                simp (disch := omega) only [b_X1_offerBest_164, Net0_r1 hn, Rul0_k hr, Option.bind_some, xI, xU, xUt, xIt, J_lit, J_add, J_sub, J_mul, J_neg, J_ltc, J_lec, J_eqc, lt_T, lt_F, le_T, le_F, eq_T, eq_F, ↓reduceIte, ite_not, not_true_eq_false, not_false_eq_true, true_or, or_true, false_or, or_false, true_and, and_true, false_and, and_false, up_get, Nat.reduceEqDiff, Int.reduceNeg, eqN_T, eqN_F]
                refine De.call E3 ?_
                simp (disch := omega) only [Option.bind_some, xI, xU, xUt, xIt, J_lit, J_add, J_sub, J_mul, J_neg, J_ltc, J_lec, J_eqc, lt_T, lt_F, le_T, le_F, eq_T, eq_F, ↓reduceIte, ite_not, not_true_eq_false, not_false_eq_true, true_or, or_true, false_or, or_false, true_and, and_true, false_and, and_false, up_get, Nat.reduceEqDiff, Int.reduceNeg, eqN_T, eqN_F]
                exact D
            · obtain ⟨m', D, F', G'⟩ := skip (by rw [ce, decide_eq_false c1, Bool.and_false]) (ldF m a r gi i) FL ⟨l14 _, l14 _, l14 _⟩
              refine ⟨m', ?_, F', G'⟩
              refine De.step ?_
              simp only [j_X1_offerBest_164]
              simp (disch := omega) only [b_X1_offerBest_164, Option.bind_some, xI, xU, xUt, xIt, J_lit, J_add, J_sub, J_mul, J_neg, J_ltc, J_lec, J_eqc, lt_T, lt_F, le_T, le_F, eq_T, eq_F, ↓reduceIte, ite_not, not_true_eq_false, not_false_eq_true, true_or, or_true, false_or, or_false, true_and, and_true, false_and, and_false, up_get, Nat.reduceEqDiff, Int.reduceNeg, eqN_T, eqN_F]
              exact D
          · obtain ⟨m', D, F', G'⟩ := IH (i + 1) (ldF m a r gi i) (by omega) FL (by
              rw [obS, if_neg (fun z => hbt z.2), l14, l14, l14]
              exact ⟨s1, s2, s3⟩)
            refine ⟨m', ?_, F', G'⟩
            refine De.step ?_
            simp only [j_X1_offerBest_164]
            simp (disch := omega) only [b_X1_offerBest_164, Option.bind_some, xI, xU, xUt, xIt, J_lit, J_add, J_sub, J_mul, J_neg, J_ltc, J_lec, J_eqc, lt_T, lt_F, le_T, le_F, eq_T, eq_F, ↓reduceIte, ite_not, not_true_eq_false, not_false_eq_true, true_or, or_true, false_or, or_false, true_and, and_true, false_and, and_false, up_get, Nat.reduceEqDiff, Int.reduceNeg, eqN_T, eqN_F]
            exact D
        have s1' : ldF m a r gi i a 14 = (obS w v g gi ta d st i).1 := (l14 14).trans s1
        have s2' : ldF m a r gi i a 15 = (obS w v g gi ta d st i).2.1 := (l14 15).trans s2
        rcases st1 with sm | ⟨sa, sb, sc, sd⟩
        · obtain ⟨m', D, F', G'⟩ := T 1 (Or.inl ⟨rfl, Or.inl sm⟩)
          refine ⟨m', ?_, F', G'⟩
          refine De.step ?_
          simp only [j_X1_offerBest_67]
          simp (disch := omega) only [b_X1_offerBest_67, ↓bnd (Net0_i4 hn), ↓bnd (Net0_r0 hn), ↓bnd (Net0_r8 hn), ↓bnd (Net0_k hn), ↓bnd (Net16_g hn t0 (show ta < 10 by omega)), ↓bnd (x16_r1 hs), ↓bnd (x27_g hs (show 0 ≤ (i : Int) by omega) (show (i : Int) < 30 by omega)), tl, tb, e27, e16, ja, cu, Int.natCast_zero, Option.bind_some, xI, xU, xUt, xIt, J_lit, J_add, J_sub, J_mul, J_neg, J_ltc, J_lec, J_eqc, lt_T, lt_F, le_T, le_F, eq_T, eq_F, ↓reduceIte, ite_not, not_true_eq_false, not_false_eq_true, true_or, or_true, false_or, or_false, true_and, and_true, false_and, and_false, up_get, Nat.reduceEqDiff, Int.reduceNeg, eqN_T, eqN_F]
          refine De.call (De.eq 2 E1) ?_
          simp (disch := omega) only [xU, Net0_r1 hn, Rul0_k hr, Option.bind_some, xI, xU, xUt, xIt, J_lit, J_add, J_sub, J_mul, J_neg, J_ltc, J_lec, J_eqc, lt_T, lt_F, le_T, le_F, eq_T, eq_F, ↓reduceIte, ite_not, not_true_eq_false, not_false_eq_true, true_or, or_true, false_or, or_false, true_and, and_true, false_and, and_false, up_get, Nat.reduceEqDiff, Int.reduceNeg, eqN_T, eqN_F]
          refine De.call E2 ?_
          simp (disch := omega) only [Net0_i14 hn, s1', sm, Option.bind_some, xI, xU, xUt, xIt, J_lit, J_add, J_sub, J_mul, J_neg, J_ltc, J_lec, J_eqc, lt_T, lt_F, le_T, le_F, eq_T, eq_F, ↓reduceIte, ite_not, not_true_eq_false, not_false_eq_true, true_or, or_true, false_or, or_false, true_and, and_true, false_and, and_false, up_get, Nat.reduceEqDiff, Int.reduceNeg, eqN_T, eqN_F]
          exact D
        · have fin : ∀ bb : Int, (if J (obS w v g gi ta d st i).2.1 < J (mrk w v g gi i) then J 1 else if ¬ J (mrk w v g gi i) = J (obS w v g gi ta d st i).2.1 then J 0 else if J (obS w v g gi ta d st i).1 ≤ J i then J 0 else J 1) = J bb → (bb = 1 ∧ ((obS w v g gi ta d st i).1 = -1 ∨ (obS w v g gi ta d st i).2.1 < mrk w v g gi i ∨ (mrk w v g gi i = (obS w v g gi ta d st i).2.1 ∧ (i : Int) < (obS w v g gi ta d st i).1))) ∨ (bb = 0 ∧ ¬ ((obS w v g gi ta d st i).1 = -1 ∨ (obS w v g gi ta d st i).2.1 < mrk w v g gi i ∨ (mrk w v g gi i = (obS w v g gi ta d st i).2.1 ∧ (i : Int) < (obS w v g gi ta d st i).1))) → True := fun _ _ _ => trivial
          by_cases c1 : (obS w v g gi ta d st i).2.1 < mrk w v g gi i
          · obtain ⟨m', D, F', G'⟩ := T 1 (Or.inl ⟨rfl, Or.inr (Or.inl c1)⟩)
            refine ⟨m', ?_, F', G'⟩
            refine De.step ?_
            simp only [j_X1_offerBest_67]
            simp (disch := omega) only [b_X1_offerBest_67, ↓bnd (Net0_i4 hn), ↓bnd (Net0_r0 hn), ↓bnd (Net0_r8 hn), ↓bnd (Net0_k hn), ↓bnd (Net16_g hn t0 (show ta < 10 by omega)), ↓bnd (x16_r1 hs), ↓bnd (x27_g hs (show 0 ≤ (i : Int) by omega) (show (i : Int) < 30 by omega)), tl, tb, e27, e16, ja, cu, Int.natCast_zero, Option.bind_some, xI, xU, xUt, xIt, J_lit, J_add, J_sub, J_mul, J_neg, J_ltc, J_lec, J_eqc, lt_T, lt_F, le_T, le_F, eq_T, eq_F, ↓reduceIte, ite_not, not_true_eq_false, not_false_eq_true, true_or, or_true, false_or, or_false, true_and, and_true, false_and, and_false, up_get, Nat.reduceEqDiff, Int.reduceNeg, eqN_T, eqN_F]
            refine De.call (De.eq 2 E1) ?_
            simp (disch := omega) only [xU, Net0_r1 hn, Rul0_k hr, Option.bind_some, xI, xU, xUt, xIt, J_lit, J_add, J_sub, J_mul, J_neg, J_ltc, J_lec, J_eqc, lt_T, lt_F, le_T, le_F, eq_T, eq_F, ↓reduceIte, ite_not, not_true_eq_false, not_false_eq_true, true_or, or_true, false_or, or_false, true_and, and_true, false_and, and_false, up_get, Nat.reduceEqDiff, Int.reduceNeg, eqN_T, eqN_F]
            refine De.call E2 ?_
            simp (disch := omega) only [Net0_i14 hn, Net0_i15 hn, s1', s2', Option.bind_some, xI, xU, xUt, xIt, J_lit, J_add, J_sub, J_mul, J_neg, J_ltc, J_lec, J_eqc, lt_T, lt_F, le_T, le_F, eq_T, eq_F, ↓reduceIte, ite_not, not_true_eq_false, not_false_eq_true, true_or, or_true, false_or, or_false, true_and, and_true, false_and, and_false, up_get, Nat.reduceEqDiff, Int.reduceNeg, eqN_T, eqN_F]
            exact D
          · by_cases c2 : mrk w v g gi i = (obS w v g gi ta d st i).2.1
            · by_cases c3 : (i : Int) < (obS w v g gi ta d st i).1
              · obtain ⟨m', D, F', G'⟩ := T 1 (Or.inl ⟨rfl, Or.inr (Or.inr ⟨c2, c3⟩)⟩)
                refine ⟨m', ?_, F', G'⟩
                refine De.step ?_
                simp only [j_X1_offerBest_67]
                simp (disch := omega) only [b_X1_offerBest_67, ↓bnd (Net0_i4 hn), ↓bnd (Net0_r0 hn), ↓bnd (Net0_r8 hn), ↓bnd (Net0_k hn), ↓bnd (Net16_g hn t0 (show ta < 10 by omega)), ↓bnd (x16_r1 hs), ↓bnd (x27_g hs (show 0 ≤ (i : Int) by omega) (show (i : Int) < 30 by omega)), tl, tb, e27, e16, ja, cu, Int.natCast_zero, Option.bind_some, xI, xU, xUt, xIt, J_lit, J_add, J_sub, J_mul, J_neg, J_ltc, J_lec, J_eqc, lt_T, lt_F, le_T, le_F, eq_T, eq_F, ↓reduceIte, ite_not, not_true_eq_false, not_false_eq_true, true_or, or_true, false_or, or_false, true_and, and_true, false_and, and_false, up_get, Nat.reduceEqDiff, Int.reduceNeg, eqN_T, eqN_F]
                refine De.call (De.eq 2 E1) ?_
                simp (disch := omega) only [xU, Net0_r1 hn, Rul0_k hr, Option.bind_some, xI, xU, xUt, xIt, J_lit, J_add, J_sub, J_mul, J_neg, J_ltc, J_lec, J_eqc, lt_T, lt_F, le_T, le_F, eq_T, eq_F, ↓reduceIte, ite_not, not_true_eq_false, not_false_eq_true, true_or, or_true, false_or, or_false, true_and, and_true, false_and, and_false, up_get, Nat.reduceEqDiff, Int.reduceNeg, eqN_T, eqN_F]
                refine De.call E2 ?_
                simp (disch := omega) only [Net0_i14 hn, Net0_i15 hn, s1', s2', Option.bind_some, xI, xU, xUt, xIt, J_lit, J_add, J_sub, J_mul, J_neg, J_ltc, J_lec, J_eqc, lt_T, lt_F, le_T, le_F, eq_T, eq_F, ↓reduceIte, ite_not, not_true_eq_false, not_false_eq_true, true_or, or_true, false_or, or_false, true_and, and_true, false_and, and_false, up_get, Nat.reduceEqDiff, Int.reduceNeg, eqN_T, eqN_F]
                exact D
              · obtain ⟨m', D, F', G'⟩ := T 0 (Or.inr ⟨rfl, by omega⟩)
                refine ⟨m', ?_, F', G'⟩
                refine De.step ?_
                simp only [j_X1_offerBest_67]
                simp (disch := omega) only [b_X1_offerBest_67, ↓bnd (Net0_i4 hn), ↓bnd (Net0_r0 hn), ↓bnd (Net0_r8 hn), ↓bnd (Net0_k hn), ↓bnd (Net16_g hn t0 (show ta < 10 by omega)), ↓bnd (x16_r1 hs), ↓bnd (x27_g hs (show 0 ≤ (i : Int) by omega) (show (i : Int) < 30 by omega)), tl, tb, e27, e16, ja, cu, Int.natCast_zero, Option.bind_some, xI, xU, xUt, xIt, J_lit, J_add, J_sub, J_mul, J_neg, J_ltc, J_lec, J_eqc, lt_T, lt_F, le_T, le_F, eq_T, eq_F, ↓reduceIte, ite_not, not_true_eq_false, not_false_eq_true, true_or, or_true, false_or, or_false, true_and, and_true, false_and, and_false, up_get, Nat.reduceEqDiff, Int.reduceNeg, eqN_T, eqN_F]
                refine De.call (De.eq 2 E1) ?_
                simp (disch := omega) only [xU, Net0_r1 hn, Rul0_k hr, Option.bind_some, xI, xU, xUt, xIt, J_lit, J_add, J_sub, J_mul, J_neg, J_ltc, J_lec, J_eqc, lt_T, lt_F, le_T, le_F, eq_T, eq_F, ↓reduceIte, ite_not, not_true_eq_false, not_false_eq_true, true_or, or_true, false_or, or_false, true_and, and_true, false_and, and_false, up_get, Nat.reduceEqDiff, Int.reduceNeg, eqN_T, eqN_F]
                refine De.call E2 ?_
                simp (disch := omega) only [Net0_i14 hn, Net0_i15 hn, s1', s2', Option.bind_some, xI, xU, xUt, xIt, J_lit, J_add, J_sub, J_mul, J_neg, J_ltc, J_lec, J_eqc, lt_T, lt_F, le_T, le_F, eq_T, eq_F, ↓reduceIte, ite_not, not_true_eq_false, not_false_eq_true, true_or, or_true, false_or, or_false, true_and, and_true, false_and, and_false, up_get, Nat.reduceEqDiff, Int.reduceNeg, eqN_T, eqN_F]
                exact D
            · obtain ⟨m', D, F', G'⟩ := T 0 (Or.inr ⟨rfl, by omega⟩)
              refine ⟨m', ?_, F', G'⟩
              refine De.step ?_
              simp only [j_X1_offerBest_67]
              simp (disch := omega) only [b_X1_offerBest_67, ↓bnd (Net0_i4 hn), ↓bnd (Net0_r0 hn), ↓bnd (Net0_r8 hn), ↓bnd (Net0_k hn), ↓bnd (Net16_g hn t0 (show ta < 10 by omega)), ↓bnd (x16_r1 hs), ↓bnd (x27_g hs (show 0 ≤ (i : Int) by omega) (show (i : Int) < 30 by omega)), tl, tb, e27, e16, ja, cu, Int.natCast_zero, Option.bind_some, xI, xU, xUt, xIt, J_lit, J_add, J_sub, J_mul, J_neg, J_ltc, J_lec, J_eqc, lt_T, lt_F, le_T, le_F, eq_T, eq_F, ↓reduceIte, ite_not, not_true_eq_false, not_false_eq_true, true_or, or_true, false_or, or_false, true_and, and_true, false_and, and_false, up_get, Nat.reduceEqDiff, Int.reduceNeg, eqN_T, eqN_F]
              refine De.call (De.eq 2 E1) ?_
              simp (disch := omega) only [xU, Net0_r1 hn, Rul0_k hr, Option.bind_some, xI, xU, xUt, xIt, J_lit, J_add, J_sub, J_mul, J_neg, J_ltc, J_lec, J_eqc, lt_T, lt_F, le_T, le_F, eq_T, eq_F, ↓reduceIte, ite_not, not_true_eq_false, not_false_eq_true, true_or, or_true, false_or, or_false, true_and, and_true, false_and, and_false, up_get, Nat.reduceEqDiff, Int.reduceNeg, eqN_T, eqN_F]
              refine De.call E2 ?_
              simp (disch := omega) only [Net0_i14 hn, Net0_i15 hn, s1', s2', Option.bind_some, xI, xU, xUt, xIt, J_lit, J_add, J_sub, J_mul, J_neg, J_ltc, J_lec, J_eqc, lt_T, lt_F, le_T, le_F, eq_T, eq_F, ↓reduceIte, ite_not, not_true_eq_false, not_false_eq_true, true_or, or_true, false_or, or_false, true_and, and_true, false_and, and_false, up_get, Nat.reduceEqDiff, Int.reduceNeg, eqN_T, eqN_F]
              exact D
      · have ut : uxS w v ta i 30 = true := by
          by_cases z : uxS w v ta i 30 = true
          · exact z
          · exact absurd (ux.mpr (Bool.eq_false_iff.mpr z)) cu
        obtain ⟨m', D, F', G'⟩ := skip (by unfold ctS; rw [ut]; simp only [Bool.not_true, Bool.false_and, Bool.and_false]) m F ⟨rfl, rfl, rfl⟩
        refine ⟨m', ?_, F', G'⟩
        refine De.step ?_
        simp only [j_X1_offerBest_67]
        simp (disch := omega) only [b_X1_offerBest_67, ↓bnd (Net0_i4 hn), ↓bnd (Net0_r0 hn), ↓bnd (Net0_r8 hn), ↓bnd (Net0_k hn), ↓bnd (Net16_g hn t0 (show ta < 10 by omega)), ↓bnd (x16_r1 hs), ↓bnd (x27_g hs (show 0 ≤ (i : Int) by omega) (show (i : Int) < 30 by omega)), tl, tb, e27, e16, ja, Option.bind_some, xI, xU, xUt, xIt, J_lit, J_add, J_sub, J_mul, J_neg, J_ltc, J_lec, J_eqc, lt_T, lt_F, le_T, le_F, eq_T, eq_F, ↓reduceIte, ite_not, not_true_eq_false, not_false_eq_true, true_or, or_true, false_or, or_false, true_and, and_true, false_and, and_false, up_get, Nat.reduceEqDiff, Int.reduceNeg, eqN_T, eqN_F]
        exact D
    · rw [if_neg hb] at tb
      obtain ⟨m', D, F', G'⟩ := skip (by
        unfold ctS
        rw [Int.toNat_natCast]
        cases h1 : (m0 (a + 16) gi).toNat.testBit i
        · rw [h1, if_neg (by decide)] at bg
          rw [decide_eq_false (by omega), Bool.false_and]
        · cases h2 : (m0 (a + 16) ta).toNat.testBit i
          · cases h3 : d.testBit i
            · rw [h1, h2, h3] at hb
              exact absurd rfl hb
            · simp only [Bool.not_true, Bool.false_and, Bool.and_false]
          · rw [h2, if_pos rfl] at bt
            rw [decide_eq_false (show ¬ v (51 + 7 * (30 * ta + i) + 0) = 0 by omega), Bool.false_and, Bool.and_false]) m F ⟨rfl, rfl, rfl⟩
      refine ⟨m', ?_, F', G'⟩
      refine De.step ?_
      simp only [j_X1_offerBest_67]
      simp (disch := omega) only [b_X1_offerBest_67, ↓bnd (Net0_i4 hn), tl, tb, Option.bind_some, xI, xU, xUt, xIt, J_lit, J_add, J_sub, J_mul, J_neg, J_ltc, J_lec, J_eqc, lt_T, lt_F, le_T, le_F, eq_T, eq_F, ↓reduceIte, ite_not, not_true_eq_false, not_false_eq_true, true_or, or_true, false_or, or_false, true_and, and_true, false_and, and_false, up_get, Nat.reduceEqDiff, Int.reduceNeg, eqN_T, eqN_F]
      exact D
end OFFER
