/-! least -/
section LEASTM
variable {S : xH} {m : Nat → Int → Int} {q : Nat → Int → Int64} {pe kn bb : Int}
theorem q_lw (hs : Sk S) (F : Fok m) (L : Int → Int) (N : Nat) (hL : Lst m 147 L N) (hw : ∀ i : Int, 0 ≤ i → i < N → 0 ≤ m 139 (761 + 10 * L i + 6) ∧ m 139 (761 + 10 * L i + 6) ≤ 400) {n : Nat} (hn : n ≤ 10) (hnN : n ≤ N) {o : Nat} (ho : o < 1024) (best : Nat) {a : Nat} (ha : a < n) (r : xR) (P : xH) : ∀ k b : Nat, b + k = n → (rwM (m 139) L o a k b = true → De (fun t => f_X11_least t 78 [.ref 136, .int (J pe), .int (J kn), .int (J bb), .int (J n), .int (J best), .int (J o), .int (J 1), .int (J (a + 1 : Nat))] (hp S m q)) r P) → (rwM (m 139) L o a k b = false → De (fun t => f_X11_least t 78 [.ref 136, .int (J pe), .int (J kn), .int (J bb), .int (J n), .int (J best), .int (J o), .int (J 0), .int (J (a + 1 : Nat))] (hp S m q)) r P) → De (fun t => f_X11_least t 96 [.ref 136, .int (J pe), .int (J kn), .int (J bb), .int (J n), .int (J best), .int (J o), .int (J 1), .int (J a), .int (J b)] (hp S m q)) r P := by
  have l1 := hL.1
  intro k
  induction k with
  | zero =>
    intro b hb hT hF
    have hb : b = n := by omega
    subst hb
    refine De.cg 1 (fun t => ?_) (hT rfl)
    rw [j_X11_least_96]
    simp (disch := omega) only [b_X11_least_96, Option.bind_some, xI, xU, xUt, xIt, J_lit, J_add, J_sub, J_mul, J_neg, J_ltc, J_lec, J_eqc, lt_T, lt_F, le_T, le_F, eq_T, eq_F, ↓reduceIte, ite_not, not_true_eq_false, not_false_eq_true, true_or, or_true, false_or, or_false, true_and, and_true, false_and, and_false, up_get, Nat.reduceEqDiff, Int.reduceNeg, eqN_T, eqN_F]
    rfl
  | succ k IH =>
    intro b hb hT hF
    have ta := J_tb (z := (o : Int)) (p := (a : Int)) (by omega) (by omega) (by omega) (by omega)
    have tb := J_tb (z := (o : Int)) (p := (b : Int)) (by omega) (by omega) (by omega) (by omega)
    rw [Int.toNat_natCast, Int.toNat_natCast] at ta tb
    obtain ⟨e1, e2, e3⟩ := hL.2 a (by omega) (by omega)
    obtain ⟨e4, e5, e6⟩ := hL.2 b (by omega) (by omega)
    have T := fun t => e_against (q := q) hs F L N hL hw (show (0 : Int) ≤ (a : Int) by omega) (show (a : Int) < N by omega) (show (0 : Int) ≤ (b : Int) by omega) (show (b : Int) < N by omega) t
    by_cases c : o.testBit a = true ∨ o.testBit b = true ∨ agn (m 139) L a b = false
    · have ex : rwM (m 139) L o a (k + 1) b = rwM (m 139) L o a k (b + 1) := by rw [rwM, if_pos c]
      rw [ex] at hT hF
      have ih := IH (b + 1) (by omega) hT hF
      refine De.cg 3 (fun t => ?_) (ih.sh 2)
      rw [j_X11_least_96]
      by_cases c1 : o.testBit a = true
      · rw [if_pos c1] at ta
        simp (disch := omega) only [b_X11_least_96, J_lit 31, ta, Option.bind_some, xI, xU, xUt, xIt, J_lit, J_add, J_sub, J_mul, J_neg, J_ltc, J_lec, J_eqc, lt_T, lt_F, le_T, le_F, eq_T, eq_F, ↓reduceIte, ite_not, not_true_eq_false, not_false_eq_true, true_or, or_true, false_or, or_false, true_and, and_true, false_and, and_false, up_get, Nat.reduceEqDiff, Int.reduceNeg, eqN_T, eqN_F]
        rfl
      · rw [if_neg c1] at ta
        by_cases c2 : o.testBit b = true
        · rw [if_pos c2] at tb
          simp (disch := omega) only [b_X11_least_96, J_lit 31, ta, tb, Option.bind_some, xI, xU, xUt, xIt, J_lit, J_add, J_sub, J_mul, J_neg, J_ltc, J_lec, J_eqc, lt_T, lt_F, le_T, le_F, eq_T, eq_F, ↓reduceIte, ite_not, not_true_eq_false, not_false_eq_true, true_or, or_true, false_or, or_false, true_and, and_true, false_and, and_false, up_get, Nat.reduceEqDiff, Int.reduceNeg, eqN_T, eqN_F]
          rfl
        · rw [if_neg c2] at tb
          have c3 : agn (m 139) L a b = false := (c.resolve_left c1).resolve_left c2
          simp only [c3, Bool.false_eq_true, if_false] at T
          simp (disch := omega) only [b_X11_least_96, J_lit 31, ta, tb, x136_k hs, x136_i0 hs, x136_w0 hs, x136_r1 hs, x136_r2 hs, x136_r3 hs, x136_r4 hs, x136_i5 hs, x136_w5 hs, x136_i6 hs, x136_w6 hs, x136_i7 hs, x136_w7 hs, x136_r8 hs, x136_i9 hs, x136_w9 hs, x136_i10 hs, x136_w10 hs, x136_i11 hs, x136_w11 hs, x136_i12 hs, x136_w12 hs, x136_i13 hs, x136_w13 hs, x136_i14 hs, x136_w14 hs, x136_r15 hs, x136_i16 hs, x136_w16 hs, x136_r17 hs, x136_r18 hs, x136_r19 hs, x136_r20 hs, x136_r21 hs, x136_i22 hs, x136_w22 hs, x136_r23 hs, x136_r24 hs, x136_i25 hs, x136_w25 hs, x136_i26 hs, x136_w26 hs, x136_r27 hs, x136_r28 hs, x136_i29 hs, x136_w29 hs, x147_g hs, x147_s hs, x147_l hs, e1, e4, T, Option.bind_some, xI, xU, xUt, xIt, J_lit, J_add, J_sub, J_mul, J_neg, J_ltc, J_lec, J_eqc, lt_T, lt_F, le_T, le_F, eq_T, eq_F, ↓reduceIte, ite_not, not_true_eq_false, not_false_eq_true, true_or, or_true, false_or, or_false, true_and, and_true, false_and, and_false, up_get, Nat.reduceEqDiff, Int.reduceNeg, eqN_T, eqN_F]
          rfl
    · have ex : rwM (m 139) L o a (k + 1) b = false := by rw [rwM, if_neg c]
      have hF := hF ex
      have c1 : ¬ o.testBit a = true := fun z => c (Or.inl z)
      have c2 : ¬ o.testBit b = true := fun z => c (Or.inr (Or.inl z))
      have c3 : agn (m 139) L a b = true := by
        cases z : agn (m 139) L a b with
        | true => rfl
        | false => exact absurd (Or.inr (Or.inr z)) c
      rw [if_neg c1] at ta
      rw [if_neg c2] at tb
      simp only [c3, if_true] at T
      have G : De (fun t => f_X11_least t 96 [.ref 136, .int (J pe), .int (J kn), .int (J bb), .int (J n), .int (J best), .int (J o), .int (J 0), .int (J a), .int (J ((b : Int) + 1))] (hp S m q)) r P := by
        refine De.cg 1 (fun t => ?_) hF
        rw [j_X11_least_96]
        by_cases l : n ≤ b + 1
        · simp (disch := omega) only [b_X11_least_96, Option.bind_some, xI, xU, xUt, xIt, J_lit, J_add, J_sub, J_mul, J_neg, J_ltc, J_lec, J_eqc, lt_T, lt_F, le_T, le_F, eq_T, eq_F, ↓reduceIte, ite_not, not_true_eq_false, not_false_eq_true, true_or, or_true, false_or, or_false, true_and, and_true, false_and, and_false, up_get, Nat.reduceEqDiff, Int.reduceNeg, eqN_T, eqN_F]
          rfl
        · simp (disch := omega) only [b_X11_least_96, Option.bind_some, xI, xU, xUt, xIt, J_lit, J_add, J_sub, J_mul, J_neg, J_ltc, J_lec, J_eqc, lt_T, lt_F, le_T, le_F, eq_T, eq_F, ↓reduceIte, ite_not, not_true_eq_false, not_false_eq_true, true_or, or_true, false_or, or_false, true_and, and_true, false_and, and_false, up_get, Nat.reduceEqDiff, Int.reduceNeg, eqN_T, eqN_F]
          rfl
      refine De.cg 3 (fun t => ?_) (G.sh 2)
      rw [j_X11_least_96]
      simp (disch := omega) only [b_X11_least_96, J_lit 31, ta, tb, x136_k hs, x136_i0 hs, x136_w0 hs, x136_r1 hs, x136_r2 hs, x136_r3 hs, x136_r4 hs, x136_i5 hs, x136_w5 hs, x136_i6 hs, x136_w6 hs, x136_i7 hs, x136_w7 hs, x136_r8 hs, x136_i9 hs, x136_w9 hs, x136_i10 hs, x136_w10 hs, x136_i11 hs, x136_w11 hs, x136_i12 hs, x136_w12 hs, x136_i13 hs, x136_w13 hs, x136_i14 hs, x136_w14 hs, x136_r15 hs, x136_i16 hs, x136_w16 hs, x136_r17 hs, x136_r18 hs, x136_r19 hs, x136_r20 hs, x136_r21 hs, x136_i22 hs, x136_w22 hs, x136_r23 hs, x136_r24 hs, x136_i25 hs, x136_w25 hs, x136_i26 hs, x136_w26 hs, x136_r27 hs, x136_r28 hs, x136_i29 hs, x136_w29 hs, x147_g hs, x147_s hs, x147_l hs, e1, e4, T, Option.bind_some, xI, xU, xUt, xIt, J_lit, J_add, J_sub, J_mul, J_neg, J_ltc, J_lec, J_eqc, lt_T, lt_F, le_T, le_F, eq_T, eq_F, ↓reduceIte, ite_not, not_true_eq_false, not_false_eq_true, true_or, or_true, false_or, or_false, true_and, and_true, false_and, and_false, up_get, Nat.reduceEqDiff, Int.reduceNeg, eqN_T, eqN_F]
theorem q_pM (hs : Sk S) (F : Fok m) (L : Int → Int) (N : Nat) (hL : Lst m 147 L N) (hw : ∀ i : Int, 0 ≤ i → i < N → 0 ≤ m 139 (761 + 10 * L i + 6) ∧ m 139 (761 + 10 * L i + 6) ≤ 400) {n : Nat} (hn : n ≤ 10) (hnN : n ≤ N) {o : Nat} (ho : o < 1024) (best : Nat) (r : xR) (P : xH) : ∀ k a : Nat, a + k = n → (peM (m 139) L o k a = true → De (fun t => f_X11_least t 170 [.ref 136, .int (J pe), .int (J kn), .int (J bb), .int (J n), .int (J best), .int (J o), .int (J 1), .int (J n)] (hp S m q)) r P) → (peM (m 139) L o k a = false → ∀ x : Nat, De (fun t => f_X11_least t 170 [.ref 136, .int (J pe), .int (J kn), .int (J bb), .int (J n), .int (J best), .int (J o), .int (J 0), .int (J x)] (hp S m q)) r P) → De (fun t => f_X11_least t 78 [.ref 136, .int (J pe), .int (J kn), .int (J bb), .int (J n), .int (J best), .int (J o), .int (J 1), .int (J a)] (hp S m q)) r P := by
  have l1 := hL.1
  intro k
  induction k with
  | zero =>
    intro a ha hT hF
    have ha : a = n := by omega
    subst ha
    refine De.cg 1 (fun t => ?_) (hT rfl)
    rw [j_X11_least_78]
    simp (disch := omega) only [b_X11_least_78, Option.bind_some, xI, xU, xUt, xIt, J_lit, J_add, J_sub, J_mul, J_neg, J_ltc, J_lec, J_eqc, lt_T, lt_F, le_T, le_F, eq_T, eq_F, ↓reduceIte, ite_not, not_true_eq_false, not_false_eq_true, true_or, or_true, false_or, or_false, true_and, and_true, false_and, and_false, up_get, Nat.reduceEqDiff, Int.reduceNeg, eqN_T, eqN_F]
  | succ k IH =>
    intro a ha hT hF
    have Z := q_lw (q := q) (pe := pe) (kn := kn) (bb := bb) hs F L N hL hw hn hnN ho best (a := a) (by omega) r P k (a + 1) (by omega) (fun z => by
      have ex : peM (m 139) L o (k + 1) a = peM (m 139) L o k (a + 1) := by rw [peM, z, Bool.true_and]
      rw [ex] at hT hF
      exact IH (a + 1) (by omega) hT hF) (fun z => by
      have ex : peM (m 139) L o (k + 1) a = false := by rw [peM, z, Bool.false_and]
      have hF := hF ex (a + 1)
      refine De.cg 1 (fun t => ?_) hF
      rw [j_X11_least_78]
      by_cases l : n ≤ a + 1
      · simp (disch := omega) only [b_X11_least_78, Option.bind_some, xI, xU, xUt, xIt, J_lit, J_add, J_sub, J_mul, J_neg, J_ltc, J_lec, J_eqc, lt_T, lt_F, le_T, le_F, eq_T, eq_F, ↓reduceIte, ite_not, not_true_eq_false, not_false_eq_true, true_or, or_true, false_or, or_false, true_and, and_true, false_and, and_false, up_get, Nat.reduceEqDiff, Int.reduceNeg, eqN_T, eqN_F]
      · simp (disch := omega) only [b_X11_least_78, Option.bind_some, xI, xU, xUt, xIt, J_lit, J_add, J_sub, J_mul, J_neg, J_ltc, J_lec, J_eqc, lt_T, lt_F, le_T, le_F, eq_T, eq_F, ↓reduceIte, ite_not, not_true_eq_false, not_false_eq_true, true_or, or_true, false_or, or_false, true_and, and_true, false_and, and_false, up_get, Nat.reduceEqDiff, Int.reduceNeg, eqN_T, eqN_F])
    refine De.cg 1 (fun t => ?_) Z
    rw [j_X11_least_78]
    simp (disch := omega) only [b_X11_least_78, Option.bind_some, xI, xU, xUt, xIt, J_lit, J_add, J_sub, J_mul, J_neg, J_ltc, J_lec, J_eqc, lt_T, lt_F, le_T, le_F, eq_T, eq_F, ↓reduceIte, ite_not, not_true_eq_false, not_false_eq_true, true_or, or_true, false_or, or_false, true_and, and_true, false_and, and_false, up_get, Nat.reduceEqDiff, Int.reduceNeg, eqN_T, eqN_F]
    rfl
theorem q_ls (hs : Sk S) (F : Fok m) (L : Int → Int) (N : Nat) (hL : Lst m 147 L N) (hw : ∀ i : Int, 0 ≤ i → i < N → 0 ≤ m 139 (761 + 10 * L i + 6) ∧ m 139 (761 + 10 * L i + 6) ≤ 400) {n : Nat} (hn : n ≤ 10) (hnN : n ≤ N) (hb : bb = 0 ∨ bb = 1) : ∀ k o best : Nat, o + k = 2 ^ n → De (fun t => f_X11_least t 47 [.ref 136, .int (J pe), .int (J kn), .int (J bb), .int (J n), .int (J best), .int (J o)] (hp S m q)) (.inl (some (.int (if bb = 0 then bcn (J (lsS (fun o => peM (m 139) L o n 0) k o best)) else J (lsS (fun o => peM (m 139) L o n 0) k o best))))) (hp S m q) := by
  have pl := pow_le10 hn
  have sh : J 1 <<< (J n &&& J 31) = J ((2 ^ n : Nat) : Int) := by rw [J_shl1 (by omega) (by omega), Int.toNat_natCast, J_nI]
  have ee : ∀ (x : Int32) (P : xH), De (fun n => f_J6_bitCount_0f7a4 n 0 [.int x] P) (.inl (some (.int (bcn x)))) P := fun x P => De.eq 1 (fun n => e_bitCount x n P)
  intro k
  induction k with
  | zero =>
    intro o best ho
    rw [lsS]
    rcases hb with rfl | rfl
    · refine De.step ?_
      simp only [j_X11_least_47]
      simp (disch := omega) only [b_X11_least_47, J_lit 31, J_lit 1, sh, Option.bind_some, xI, xU, xUt, xIt, J_lit, J_add, J_sub, J_mul, J_neg, J_ltc, J_lec, J_eqc, lt_T, lt_F, le_T, le_F, eq_T, eq_F, ↓reduceIte, ite_not, not_true_eq_false, not_false_eq_true, true_or, or_true, false_or, or_false, true_and, and_true, false_and, and_false, up_get, Nat.reduceEqDiff, Int.reduceNeg, eqN_T, eqN_F]
      refine De.call (ee _ _) ?_
      exact De.ret _ _
    · refine De.step ?_
      simp only [j_X11_least_47]
      simp (disch := omega) only [b_X11_least_47, J_lit 31, J_lit 1, sh, Option.bind_some, xI, xU, xUt, xIt, J_lit, J_add, J_sub, J_mul, J_neg, J_ltc, J_lec, J_eqc, lt_T, lt_F, le_T, le_F, eq_T, eq_F, ↓reduceIte, ite_not, not_true_eq_false, not_false_eq_true, true_or, or_true, false_or, or_false, true_and, and_true, false_and, and_false, up_get, Nat.reduceEqDiff, Int.reduceNeg, eqN_T, eqN_F]
      exact De.ret _ _
  | succ k IH =>
    intro o best ho
    rw [lsS]
    refine De.step ?_
    simp only [j_X11_least_47]
    simp (disch := omega) only [b_X11_least_47, J_lit 31, J_lit 1, sh, Option.bind_some, xI, xU, xUt, xIt, J_lit, J_add, J_sub, J_mul, J_neg, J_ltc, J_lec, J_eqc, lt_T, lt_F, le_T, le_F, eq_T, eq_F, ↓reduceIte, ite_not, not_true_eq_false, not_false_eq_true, true_or, or_true, false_or, or_false, true_and, and_true, false_and, and_false, up_get, Nat.reduceEqDiff, Int.reduceNeg, eqN_T, eqN_F]
    refine De.call (ee _ _) ?_
    simp only [xI]
    refine De.call (ee _ _) ?_
    simp only [xI]
    by_cases c : bcn (J o) < bcn (J best)
    · simp only [if_pos c]
      refine q_pM (q := q) hs F L N hL hw hn hnN (by omega) best _ _ n 0 (by omega) (fun z => ?_) (fun z x => ?_)
      · have ih := IH (o + 1) o (by omega)
        rw [show (if bcn (J (o : Int)) < bcn (J (best : Int)) ∧ peM (m 139) L o n 0 = true then o else best) = o from if_pos ⟨c, z⟩]
        refine De.cg 1 (fun t => ?_) ih
        rw [j_X11_least_170]
        simp (disch := omega) only [b_X11_least_170, Option.bind_some, xI, xU, xUt, xIt, J_lit, J_add, J_sub, J_mul, J_neg, J_ltc, J_lec, J_eqc, lt_T, lt_F, le_T, le_F, eq_T, eq_F, ↓reduceIte, ite_not, not_true_eq_false, not_false_eq_true, true_or, or_true, false_or, or_false, true_and, and_true, false_and, and_false, up_get, Nat.reduceEqDiff, Int.reduceNeg, eqN_T, eqN_F]
        rfl
      · have ih := IH (o + 1) best (by omega)
        rw [show (if bcn (J (o : Int)) < bcn (J (best : Int)) ∧ peM (m 139) L o n 0 = true then o else best) = best from if_neg (fun y => by rw [z] at y; exact Bool.noConfusion y.2)]
        refine De.cg 1 (fun t => ?_) ih
        rw [j_X11_least_170]
        simp (disch := omega) only [b_X11_least_170, Option.bind_some, xI, xU, xUt, xIt, J_lit, J_add, J_sub, J_mul, J_neg, J_ltc, J_lec, J_eqc, lt_T, lt_F, le_T, le_F, eq_T, eq_F, ↓reduceIte, ite_not, not_true_eq_false, not_false_eq_true, true_or, or_true, false_or, or_false, true_and, and_true, false_and, and_false, up_get, Nat.reduceEqDiff, Int.reduceNeg, eqN_T, eqN_F]
        rfl
    · have ih := IH (o + 1) best (by omega)
      rw [show (if bcn (J (o : Int)) < bcn (J (best : Int)) ∧ peM (m 139) L o n 0 = true then o else best) = best from if_neg (fun y => c y.1)]
      simp only [if_neg c]
      exact ih
end LEASTM
theorem w_least : LawOb Inv 0 136 152 19 := by
  rintro j P hj ⟨S, m, q, rfl, hs, hR, hI⟩ v1 v2 bb hbb
  obtain ⟨x1, rfl, a1, b1⟩ := J_of v1
  obtain ⟨x2, rfl, a2, b2⟩ := J_of v2
  have rm := hR.rm hj
  have hr := hR.1
  obtain ⟨⟨w0, w1, w2⟩, ⟨w3, w4, w5, w6⟩, ⟨v0, v1, v2⟩, l0⟩ := hI.small
  obtain ⟨tap, by0, lot0, ⟨par, hid, prt, sto, gan, wrd, wlk, row, rul, tol, plc, net, dwn⟩, kep⟩ := hI.get
  by_cases c1 : 0 ≤ x1 ∧ x1 < 16
  · obtain ⟨mg, L, c, G, g1, g2, g3, g4, g5⟩ := gath (pe := x1) (kn := x2) hs hI (by omega) (by omega) (by omega) (by omega)
    have gr : ∀ b, b ≠ 133 → b ≠ 134 → mg b = m b := fun b u1 u2 => funext fun j => g1 b j u1 u2
    have gx : ∀ b, b = 139 ∨ b = 137 ∨ (16 ≤ b ∧ b ≤ 26) ∨ b = 64 → (up mg 136 0 0) b = m b := fun b hb => (up_row (by omega)).trans (gr b (by omega) (by omega))
    have F := hI.fok
    have C := hI.fcl
    have r9 := gr 139 (by decide) (by decide)
    have hw : ∀ i : Int, 0 ≤ i → i < c → 0 ≤ m 139 (761 + 10 * L i + 6) ∧ m 139 (761 + 10 * L i + 6) ≤ 400 := fun i i0 i1 => by
      obtain ⟨-, u2, u3⟩ := g3.2 i i0 i1
      rw [r9] at u3
      obtain ⟨⟨f0, f1, f2, f3, f4, f5, f6, f7, f8, f9⟩, z1, z2, z3⟩ := hI.word (L i) u2 u3
      have := g4 i i0 i1
      omega
    have pc : m 9 8 = m 139 6 := par.1
    have pc' : mg 9 8 = mg 139 6 := by rw [gr 9 (by decide) (by decide), r9]; exact pc
    have l1 := g3.1
    have pl := pow_le10 (show min c 10 ≤ 10 by omega)
    have pp : 0 < 2 ^ (min c 10) := Nat.two_pow_pos _
    have sh : J 1 <<< (J ((min c 10 : Nat) : Int) &&& J 31) = J ((2 ^ (min c 10) : Nat) : Int) := by rw [J_shl1 (by omega) (by omega), Int.toNat_natCast, J_nI]
    have mi : mMin (J (c : Int)) (J 10) = J ((min c 10 : Nat) : Int) := by rw [J_min (by omega) (by omega) (by omega) (by omega), show min (c : Int) 10 = ((min c 10 : Nat) : Int) by omega]
    have mi' : mMin (J 10) (J (c : Int)) = J ((min c 10 : Nat) : Int) := by rw [J_min (by omega) (by omega) (by omega) (by omega), show min 10 (c : Int) = ((min c 10 : Nat) : Int) by omega]
    have al : ((2 ^ (min c 10) : Nat) : Int) - 1 = ((2 ^ (min c 10) - 1 : Nat) : Int) := by omega
    have ee : ∀ (x : Int32) (P : xH), De (fun n => f_J6_bitCount_0f7a4 n 0 [.int x] P) (.inl (some (.int (bcn x)))) P := fun x P => De.eq 1 (fun n => e_bitCount x n P)
    obtain ⟨mf, FD, f1, f2⟩ := q_findFoes (q := q) hs (F.row r9) (C.row (m' := mg) (fun b hb => gr b (by omega) (by omega))) L c (min c 10) (by omega) (by omega) g3 (by rw [r9]; exact hw) (min c 10) 0 mg (by omega) (fun _ _ _ => rfl) (fun x hx => absurd hx (by omega))
    rw [r9] at f2 FD
    have gy : ∀ b, b = 139 ∨ b = 137 ∨ (16 ≤ b ∧ b ≤ 26) ∨ b = 64 → (up mf 136 0 0) b = m b := fun b hb => (up_row (by omega)).trans ((funext fun x => f1 b x (by omega)).trans (gr b (by omega) (by omega)))
    have FW : De (fun n => f_X6_fewestWrong n 0 [.ref 133, .int (J (m 139 6))] (hp S mg q)) (.inl (some (.int (J (lsS (fun o => peM (m 139) L o (min c 10) 0) (2 ^ (min c 10)) 0 (2 ^ (min c 10) - 1)))))) (hp S mf q) := by
      have FD0 : De (fun n => f_X6_findFoes n 0 [.ref 133, .int (J ((min c 10 : Nat) : Int)), .int (J (m 139 6))] (hp S mg q)) (.inl none) (hp S mf q) := by
        refine De.step ?_
        simp only [j_X6_findFoes_0, b_X6_findFoes_0, J_lit]
        exact FD
      refine De.step ?_
      simp only [j_X6_fewestWrong_0]
      simp (disch := omega) only [b_X6_fewestWrong_0, x133_k hs, x133_r0 hs, x133_r1 hs, x133_r2 hs, x133_r3 hs, x133_i4 hs, x133_w4 hs, ← g2, mi, sh, al, Option.bind_some, xI, xU, xUt, xIt, J_lit, J_add, J_sub, J_mul, J_neg, J_ltc, J_lec, J_eqc, lt_T, lt_F, le_T, le_F, eq_T, eq_F, ↓reduceIte, ite_not, not_true_eq_false, not_false_eq_true, true_or, or_true, false_or, or_false, true_and, and_true, false_and, and_false, up_get, Nat.reduceEqDiff, Int.reduceNeg, eqN_T, eqN_F]
      refine De.call FD0 ?_
      exact q_fewest (q := q) hs (m 139) L _ (by omega) f2 (2 ^ (min c 10)) 0 (2 ^ (min c 10) - 1) (by omega)
    rcases hbb with rfl | rfl
    · obtain ⟨mh, H, h1, h2, h3⟩ := g5 (up mf 136 0 0) (uq q 152 0 (Int32.toInt64 (bcn (J (lsS (fun o => peM (m 139) L o (min c 10) 0) (2 ^ (min c 10)) 0 (2 ^ (min c 10) - 1)))))) gy
      have s9 : mh 139 = m 139 := (funext fun j => h1 139 j (Or.inl (by decide)) (by decide)).trans (gy 139 (by omega))
      refine ob_least_ok hs (v := (bcn (J (lsS (fun o => peM (m 139) L o (min c 10) 0) (2 ^ (min c 10)) 0 (2 ^ (min c 10) - 1))))) (m1 := mf) (q1 := q) (m2 := mh) ?_ ?_ ((h1 136 0 (Or.inr (by omega)) (by decide)).trans (up_at _ _ _ _)) ⟨_, _, _, rfl, hs, hR.next, hI.free (Grow.rfl' S) hr (fun b i hb => by
        unfold Free at hb
        rw [h1 b i (by omega) (by omega), up_get, if_neg (by omega), f1 b i (by omega), g1 b i (by omega) (by omega)]) (fun b hb => uq_row (by omega))⟩
      · refine De.stepk 12 ?_
        simp (disch := omega) only [j_X10_least_0, b_X10_least_0, x0_k hs, x0_r0 hs, x0_r1 hs, x0_r2 hs, x0_r3 hs, x133_k hs, x133_r0 hs, x133_r1 hs, x133_r2 hs, x133_r3 hs, x133_i4 hs, x133_w4 hs, e_needIndex_ok, e_needIndex_no rm, e_needPlace_ok, e_needPlace_no rm, e_needWithin_ok, e_needWithin_no rm, e_needSpace_ok, e_needSpace_no rm, e_needPhone hs, e_needWord hs, e_needWhat_ok, e_needWhat_no rm, e_needTickZero hs, tE_hp _ _ _ _ rm.1 rm.2, Option.bind_some, xI, xU, xUt, xIt, J_lit, J_add, J_sub, J_mul, J_neg, J_ltc, J_lec, J_eqc, lt_T, lt_F, le_T, le_F, eq_T, eq_F, ↓reduceIte, ite_not, not_true_eq_false, not_false_eq_true, true_or, or_true, false_or, or_false, true_and, and_true, false_and, and_false, up_get, Nat.reduceEqDiff, Int.reduceNeg, eqN_T, eqN_F]
        refine De.call (G.sh 11) ?_
        simp (disch := omega) only [x0_k hs, x0_r0 hs, x0_r1 hs, x0_r2 hs, x0_r3 hs, x9_k hs, x9_r0 hs, x9_r1 hs, x9_r2 hs, x9_r3 hs, x9_r4 hs, x9_r5 hs, x9_r6 hs, x9_r7 hs, x9_i8 hs, x9_w8 hs, x9_i9 hs, x9_w9 hs, x133_k hs, x133_r0 hs, x133_r1 hs, x133_r2 hs, x133_r3 hs, x133_i4 hs, x133_w4 hs, pc', r9, Option.bind_some, xI, xU, xUt, xIt, J_lit, J_add, J_sub, J_mul, J_neg, J_ltc, J_lec, J_eqc, lt_T, lt_F, le_T, le_F, eq_T, eq_F, ↓reduceIte, ite_not, not_true_eq_false, not_false_eq_true, true_or, or_true, false_or, or_false, true_and, and_true, false_and, and_false, up_get, Nat.reduceEqDiff, Int.reduceNeg, eqN_T, eqN_F]
        refine De.call (FW.sh 11) ?_
        simp (disch := omega) only [Option.bind_some, xI, xU, xUt, xIt, J_lit, J_add, J_sub, J_mul, J_neg, J_ltc, J_lec, J_eqc, lt_T, lt_F, le_T, le_F, eq_T, eq_F, ↓reduceIte, ite_not, not_true_eq_false, not_false_eq_true, true_or, or_true, false_or, or_false, true_and, and_true, false_and, and_false, up_get, Nat.reduceEqDiff, Int.reduceNeg, eqN_T, eqN_F]
        refine De.call ((ee _ _).sh 11) ?_
        exact De.ret _ _
      · refine De.stepk 12 ?_
        simp (disch := omega) only [j_X11_least_0, b_X11_least_0, x136_k hs, x136_i0 hs, x136_w0 hs, x136_r1 hs, x136_r2 hs, x136_r3 hs, x136_r4 hs, x136_i5 hs, x136_w5 hs, x136_i6 hs, x136_w6 hs, x136_i7 hs, x136_w7 hs, x136_r8 hs, x136_i9 hs, x136_w9 hs, x136_i10 hs, x136_w10 hs, x136_i11 hs, x136_w11 hs, x136_i12 hs, x136_w12 hs, x136_i13 hs, x136_w13 hs, x136_i14 hs, x136_w14 hs, x136_r15 hs, x136_i16 hs, x136_w16 hs, x136_r17 hs, x136_r18 hs, x136_r19 hs, x136_r20 hs, x136_r21 hs, x136_i22 hs, x136_w22 hs, x136_r23 hs, x136_r24 hs, x136_i25 hs, x136_w25 hs, x136_i26 hs, x136_w26 hs, x136_r27 hs, x136_r28 hs, x136_i29 hs, x136_w29 hs, e_in_T, e_in_F, e_throws0 hs, e_throws1 hs, e_noPlace_ok, e_noPlace_no, e_noPerson_ok, e_noPerson_no, e_noPhone hs, e_noWord hs, e_noGang hs, e_tick hs, e_phones hs, e_words hs, e_of hs, e_toldOf hs, e_copyAt, e_phoneAt, e_hadAt, e_ruleAt, e_lineAt, Option.bind_some, xI, xU, xUt, xIt, J_lit, J_add, J_sub, J_mul, J_neg, J_ltc, J_lec, J_eqc, lt_T, lt_F, le_T, le_F, eq_T, eq_F, ↓reduceIte, ite_not, not_true_eq_false, not_false_eq_true, true_or, or_true, false_or, or_false, true_and, and_true, false_and, and_false, up_get, Nat.reduceEqDiff, Int.reduceNeg, eqN_T, eqN_F]
        refine De.call (H.sh 11) ?_
        have M := q_ls (m := mh) (q := (uq q 152 0 (Int32.toInt64 (bcn (J (lsS (fun o => peM (m 139) L o (min c 10) 0) (2 ^ (min c 10)) 0 (2 ^ (min c 10) - 1))))))) (pe := x1) (kn := x2) (bb := 0) hs (F.row s9) L c h3 (by rw [s9]; exact hw) (n := min c 10) (by omega) (by omega) (by omega) (2 ^ (min c 10)) 0 (2 ^ (min c 10) - 1) (by omega)
        rw [s9, if_pos rfl] at M
        simp (disch := omega) only [x136_k hs, x136_i0 hs, x136_w0 hs, x136_r1 hs, x136_r2 hs, x136_r3 hs, x136_r4 hs, x136_i5 hs, x136_w5 hs, x136_i6 hs, x136_w6 hs, x136_i7 hs, x136_w7 hs, x136_r8 hs, x136_i9 hs, x136_w9 hs, x136_i10 hs, x136_w10 hs, x136_i11 hs, x136_w11 hs, x136_i12 hs, x136_w12 hs, x136_i13 hs, x136_w13 hs, x136_i14 hs, x136_w14 hs, x136_r15 hs, x136_i16 hs, x136_w16 hs, x136_r17 hs, x136_r18 hs, x136_r19 hs, x136_r20 hs, x136_r21 hs, x136_i22 hs, x136_w22 hs, x136_r23 hs, x136_r24 hs, x136_i25 hs, x136_w25 hs, x136_i26 hs, x136_w26 hs, x136_r27 hs, x136_r28 hs, x136_i29 hs, x136_w29 hs, ← h2, mi', sh, al, Option.bind_some, xI, xU, xUt, xIt, J_lit, J_add, J_sub, J_mul, J_neg, J_ltc, J_lec, J_eqc, lt_T, lt_F, le_T, le_F, eq_T, eq_F, ↓reduceIte, ite_not, not_true_eq_false, not_false_eq_true, true_or, or_true, false_or, or_false, true_and, and_true, false_and, and_false, up_get, Nat.reduceEqDiff, Int.reduceNeg, eqN_T, eqN_F]
        exact M.sh 11
    · obtain ⟨mh, H, h1, h2, h3⟩ := g5 (up mf 136 0 0) (uq q 152 0 (Int32.toInt64 (J (lsS (fun o => peM (m 139) L o (min c 10) 0) (2 ^ (min c 10)) 0 (2 ^ (min c 10) - 1))))) gy
      have s9 : mh 139 = m 139 := (funext fun j => h1 139 j (Or.inl (by decide)) (by decide)).trans (gy 139 (by omega))
      refine ob_least_ok hs (v := (J (lsS (fun o => peM (m 139) L o (min c 10) 0) (2 ^ (min c 10)) 0 (2 ^ (min c 10) - 1)))) (m1 := mf) (q1 := q) (m2 := mh) ?_ ?_ ((h1 136 0 (Or.inr (by omega)) (by decide)).trans (up_at _ _ _ _)) ⟨_, _, _, rfl, hs, hR.next, hI.free (Grow.rfl' S) hr (fun b i hb => by
        unfold Free at hb
        rw [h1 b i (by omega) (by omega), up_get, if_neg (by omega), f1 b i (by omega), g1 b i (by omega) (by omega)]) (fun b hb => uq_row (by omega))⟩
      · refine De.stepk 12 ?_
        simp (disch := omega) only [j_X10_least_0, b_X10_least_0, x0_k hs, x0_r0 hs, x0_r1 hs, x0_r2 hs, x0_r3 hs, x133_k hs, x133_r0 hs, x133_r1 hs, x133_r2 hs, x133_r3 hs, x133_i4 hs, x133_w4 hs, e_needIndex_ok, e_needIndex_no rm, e_needPlace_ok, e_needPlace_no rm, e_needWithin_ok, e_needWithin_no rm, e_needSpace_ok, e_needSpace_no rm, e_needPhone hs, e_needWord hs, e_needWhat_ok, e_needWhat_no rm, e_needTickZero hs, tE_hp _ _ _ _ rm.1 rm.2, Option.bind_some, xI, xU, xUt, xIt, J_lit, J_add, J_sub, J_mul, J_neg, J_ltc, J_lec, J_eqc, lt_T, lt_F, le_T, le_F, eq_T, eq_F, ↓reduceIte, ite_not, not_true_eq_false, not_false_eq_true, true_or, or_true, false_or, or_false, true_and, and_true, false_and, and_false, up_get, Nat.reduceEqDiff, Int.reduceNeg, eqN_T, eqN_F]
        refine De.call (G.sh 11) ?_
        simp (disch := omega) only [x0_k hs, x0_r0 hs, x0_r1 hs, x0_r2 hs, x0_r3 hs, x9_k hs, x9_r0 hs, x9_r1 hs, x9_r2 hs, x9_r3 hs, x9_r4 hs, x9_r5 hs, x9_r6 hs, x9_r7 hs, x9_i8 hs, x9_w8 hs, x9_i9 hs, x9_w9 hs, x133_k hs, x133_r0 hs, x133_r1 hs, x133_r2 hs, x133_r3 hs, x133_i4 hs, x133_w4 hs, pc', r9, Option.bind_some, xI, xU, xUt, xIt, J_lit, J_add, J_sub, J_mul, J_neg, J_ltc, J_lec, J_eqc, lt_T, lt_F, le_T, le_F, eq_T, eq_F, ↓reduceIte, ite_not, not_true_eq_false, not_false_eq_true, true_or, or_true, false_or, or_false, true_and, and_true, false_and, and_false, up_get, Nat.reduceEqDiff, Int.reduceNeg, eqN_T, eqN_F]
        refine De.call (FW.sh 11) ?_
        simp (disch := omega) only [Option.bind_some, xI, xU, xUt, xIt, J_lit, J_add, J_sub, J_mul, J_neg, J_ltc, J_lec, J_eqc, lt_T, lt_F, le_T, le_F, eq_T, eq_F, ↓reduceIte, ite_not, not_true_eq_false, not_false_eq_true, true_or, or_true, false_or, or_false, true_and, and_true, false_and, and_false, up_get, Nat.reduceEqDiff, Int.reduceNeg, eqN_T, eqN_F]
        exact De.ret _ _
      · refine De.stepk 12 ?_
        simp (disch := omega) only [j_X11_least_0, b_X11_least_0, x136_k hs, x136_i0 hs, x136_w0 hs, x136_r1 hs, x136_r2 hs, x136_r3 hs, x136_r4 hs, x136_i5 hs, x136_w5 hs, x136_i6 hs, x136_w6 hs, x136_i7 hs, x136_w7 hs, x136_r8 hs, x136_i9 hs, x136_w9 hs, x136_i10 hs, x136_w10 hs, x136_i11 hs, x136_w11 hs, x136_i12 hs, x136_w12 hs, x136_i13 hs, x136_w13 hs, x136_i14 hs, x136_w14 hs, x136_r15 hs, x136_i16 hs, x136_w16 hs, x136_r17 hs, x136_r18 hs, x136_r19 hs, x136_r20 hs, x136_r21 hs, x136_i22 hs, x136_w22 hs, x136_r23 hs, x136_r24 hs, x136_i25 hs, x136_w25 hs, x136_i26 hs, x136_w26 hs, x136_r27 hs, x136_r28 hs, x136_i29 hs, x136_w29 hs, e_in_T, e_in_F, e_throws0 hs, e_throws1 hs, e_noPlace_ok, e_noPlace_no, e_noPerson_ok, e_noPerson_no, e_noPhone hs, e_noWord hs, e_noGang hs, e_tick hs, e_phones hs, e_words hs, e_of hs, e_toldOf hs, e_copyAt, e_phoneAt, e_hadAt, e_ruleAt, e_lineAt, Option.bind_some, xI, xU, xUt, xIt, J_lit, J_add, J_sub, J_mul, J_neg, J_ltc, J_lec, J_eqc, lt_T, lt_F, le_T, le_F, eq_T, eq_F, ↓reduceIte, ite_not, not_true_eq_false, not_false_eq_true, true_or, or_true, false_or, or_false, true_and, and_true, false_and, and_false, up_get, Nat.reduceEqDiff, Int.reduceNeg, eqN_T, eqN_F]
        refine De.call (H.sh 11) ?_
        have M := q_ls (m := mh) (q := (uq q 152 0 (Int32.toInt64 (J (lsS (fun o => peM (m 139) L o (min c 10) 0) (2 ^ (min c 10)) 0 (2 ^ (min c 10) - 1)))))) (pe := x1) (kn := x2) (bb := 1) hs (F.row s9) L c h3 (by rw [s9]; exact hw) (n := min c 10) (by omega) (by omega) (by omega) (2 ^ (min c 10)) 0 (2 ^ (min c 10) - 1) (by omega)
        rw [s9, if_neg (by omega)] at M
        simp (disch := omega) only [x136_k hs, x136_i0 hs, x136_w0 hs, x136_r1 hs, x136_r2 hs, x136_r3 hs, x136_r4 hs, x136_i5 hs, x136_w5 hs, x136_i6 hs, x136_w6 hs, x136_i7 hs, x136_w7 hs, x136_r8 hs, x136_i9 hs, x136_w9 hs, x136_i10 hs, x136_w10 hs, x136_i11 hs, x136_w11 hs, x136_i12 hs, x136_w12 hs, x136_i13 hs, x136_w13 hs, x136_i14 hs, x136_w14 hs, x136_r15 hs, x136_i16 hs, x136_w16 hs, x136_r17 hs, x136_r18 hs, x136_r19 hs, x136_r20 hs, x136_r21 hs, x136_i22 hs, x136_w22 hs, x136_r23 hs, x136_r24 hs, x136_i25 hs, x136_w25 hs, x136_i26 hs, x136_w26 hs, x136_r27 hs, x136_r28 hs, x136_i29 hs, x136_w29 hs, ← h2, mi', sh, al, Option.bind_some, xI, xU, xUt, xIt, J_lit, J_add, J_sub, J_mul, J_neg, J_ltc, J_lec, J_eqc, lt_T, lt_F, le_T, le_F, eq_T, eq_F, ↓reduceIte, ite_not, not_true_eq_false, not_false_eq_true, true_or, or_true, false_or, or_false, true_and, and_true, false_and, and_false, up_get, Nat.reduceEqDiff, Int.reduceNeg, eqN_T, eqN_F]
        exact M.sh 11
  · have hs2 : Sk (xth S 0) := hs.grow (Grow.th S 0) hr
    exact ob_least_t0 hs hr (m1 := m) (q1 := q) (m2 := up (up m 136 0 0) 136 0 1) (b := J 0) (De.eq 12 (fun n => by
      simp (disch := omega) only [j_X10_least_0, b_X10_least_0, x0_k hs, x0_r0 hs, x0_r1 hs, x0_r2 hs, x0_r3 hs, x9_k hs, x9_r0 hs, x9_r1 hs, x9_r2 hs, x9_r3 hs, x9_r4 hs, x9_r5 hs, x9_r6 hs, x9_r7 hs, x9_i8 hs, x9_w8 hs, x9_i9 hs, x9_w9 hs, e_needIndex_ok, e_needIndex_no rm, e_needPlace_ok, e_needPlace_no rm, e_needWithin_ok, e_needWithin_no rm, e_needSpace_ok, e_needSpace_no rm, e_needPhone hs, e_needWord hs, e_needWhat_ok, e_needWhat_no rm, e_needTickZero hs, tE_hp _ _ _ _ rm.1 rm.2, Option.bind_some, xI, xU, xUt, xIt, J_lit, J_add, J_sub, J_mul, J_neg, J_lt, J_le, J_eq, lt_T, lt_F, le_T, le_F, eq_T, eq_F, ↓reduceIte, ite_not, not_true_eq_false, not_false_eq_true, true_or, or_true, false_or, or_false, true_and, and_true, false_and, and_false, up_get, Nat.reduceEqDiff, Int.reduceNeg])) (De.eq 12 (fun n => by
      simp (disch := omega) only [j_X11_least_0, b_X11_least_0, x136_k hs2, x136_i0 hs2, x136_w0 hs2, x136_r1 hs2, x136_r2 hs2, x136_r3 hs2, x136_r4 hs2, x136_i5 hs2, x136_w5 hs2, x136_i6 hs2, x136_w6 hs2, x136_i7 hs2, x136_w7 hs2, x136_r8 hs2, x136_i9 hs2, x136_w9 hs2, x136_i10 hs2, x136_w10 hs2, x136_i11 hs2, x136_w11 hs2, x136_i12 hs2, x136_w12 hs2, x136_i13 hs2, x136_w13 hs2, x136_i14 hs2, x136_w14 hs2, x136_r15 hs2, x136_i16 hs2, x136_w16 hs2, x136_r17 hs2, x136_r18 hs2, x136_r19 hs2, x136_r20 hs2, x136_r21 hs2, x136_i22 hs2, x136_w22 hs2, x136_r23 hs2, x136_r24 hs2, x136_i25 hs2, x136_w25 hs2, x136_i26 hs2, x136_w26 hs2, x136_r27 hs2, x136_r28 hs2, x136_i29 hs2, x136_w29 hs2, e_in_T, e_in_F, e_throws0 hs2, e_throws1 hs2, e_noPlace_ok, e_noPlace_no, e_noPerson_ok, e_noPerson_no, e_noPhone hs2, e_noWord hs2, e_noGang hs2, e_tick hs2, e_phones hs2, e_words hs2, e_of hs2, e_toldOf hs2, e_copyAt, e_phoneAt, e_hadAt, e_ruleAt, e_lineAt, Option.bind_some, xI, xU, xUt, xIt, J_lit, J_add, J_sub, J_mul, J_neg, J_lt, J_le, J_eq, lt_T, lt_F, le_T, le_F, eq_T, eq_F, ↓reduceIte, ite_not, not_true_eq_false, not_false_eq_true, true_or, or_true, false_or, or_false, true_and, and_true, false_and, and_false, up_get, Nat.reduceEqDiff, Int.reduceNeg]
      try simp (disch := omega) only [j_X11_least_47, b_X11_least_47, x136_k hs2, x136_i0 hs2, x136_w0 hs2, x136_r1 hs2, x136_r2 hs2, x136_r3 hs2, x136_r4 hs2, x136_i5 hs2, x136_w5 hs2, x136_i6 hs2, x136_w6 hs2, x136_i7 hs2, x136_w7 hs2, x136_r8 hs2, x136_i9 hs2, x136_w9 hs2, x136_i10 hs2, x136_w10 hs2, x136_i11 hs2, x136_w11 hs2, x136_i12 hs2, x136_w12 hs2, x136_i13 hs2, x136_w13 hs2, x136_i14 hs2, x136_w14 hs2, x136_r15 hs2, x136_i16 hs2, x136_w16 hs2, x136_r17 hs2, x136_r18 hs2, x136_r19 hs2, x136_r20 hs2, x136_r21 hs2, x136_i22 hs2, x136_w22 hs2, x136_r23 hs2, x136_r24 hs2, x136_i25 hs2, x136_w25 hs2, x136_i26 hs2, x136_w26 hs2, x136_r27 hs2, x136_r28 hs2, x136_i29 hs2, x136_w29 hs2, e_in_T, e_in_F, e_throws0 hs2, e_throws1 hs2, e_noPlace_ok, e_noPlace_no, e_noPerson_ok, e_noPerson_no, e_noPhone hs2, e_noWord hs2, e_noGang hs2, e_tick hs2, e_phones hs2, e_words hs2, e_of hs2, e_toldOf hs2, e_copyAt, e_phoneAt, e_hadAt, e_ruleAt, e_lineAt, Option.bind_some, xI, xU, xUt, xIt, J_lit, J_add, J_sub, J_mul, J_neg, J_lt, J_le, J_eq, lt_T, lt_F, le_T, le_F, eq_T, eq_F, ↓reduceIte, ite_not, not_true_eq_false, not_false_eq_true, true_or, or_true, false_or, or_false, true_and, and_true, false_and, and_false, up_get, Nat.reduceEqDiff, Int.reduceNeg]
      try simp (disch := omega) only [j_X11_least_78, b_X11_least_78, x136_k hs2, x136_i0 hs2, x136_w0 hs2, x136_r1 hs2, x136_r2 hs2, x136_r3 hs2, x136_r4 hs2, x136_i5 hs2, x136_w5 hs2, x136_i6 hs2, x136_w6 hs2, x136_i7 hs2, x136_w7 hs2, x136_r8 hs2, x136_i9 hs2, x136_w9 hs2, x136_i10 hs2, x136_w10 hs2, x136_i11 hs2, x136_w11 hs2, x136_i12 hs2, x136_w12 hs2, x136_i13 hs2, x136_w13 hs2, x136_i14 hs2, x136_w14 hs2, x136_r15 hs2, x136_i16 hs2, x136_w16 hs2, x136_r17 hs2, x136_r18 hs2, x136_r19 hs2, x136_r20 hs2, x136_r21 hs2, x136_i22 hs2, x136_w22 hs2, x136_r23 hs2, x136_r24 hs2, x136_i25 hs2, x136_w25 hs2, x136_i26 hs2, x136_w26 hs2, x136_r27 hs2, x136_r28 hs2, x136_i29 hs2, x136_w29 hs2, e_in_T, e_in_F, e_throws0 hs2, e_throws1 hs2, e_noPlace_ok, e_noPlace_no, e_noPerson_ok, e_noPerson_no, e_noPhone hs2, e_noWord hs2, e_noGang hs2, e_tick hs2, e_phones hs2, e_words hs2, e_of hs2, e_toldOf hs2, e_copyAt, e_phoneAt, e_hadAt, e_ruleAt, e_lineAt, Option.bind_some, xI, xU, xUt, xIt, J_lit, J_add, J_sub, J_mul, J_neg, J_lt, J_le, J_eq, lt_T, lt_F, le_T, le_F, eq_T, eq_F, ↓reduceIte, ite_not, not_true_eq_false, not_false_eq_true, true_or, or_true, false_or, or_false, true_and, and_true, false_and, and_false, up_get, Nat.reduceEqDiff, Int.reduceNeg]
      try simp (disch := omega) only [j_X11_least_96, b_X11_least_96, x136_k hs2, x136_i0 hs2, x136_w0 hs2, x136_r1 hs2, x136_r2 hs2, x136_r3 hs2, x136_r4 hs2, x136_i5 hs2, x136_w5 hs2, x136_i6 hs2, x136_w6 hs2, x136_i7 hs2, x136_w7 hs2, x136_r8 hs2, x136_i9 hs2, x136_w9 hs2, x136_i10 hs2, x136_w10 hs2, x136_i11 hs2, x136_w11 hs2, x136_i12 hs2, x136_w12 hs2, x136_i13 hs2, x136_w13 hs2, x136_i14 hs2, x136_w14 hs2, x136_r15 hs2, x136_i16 hs2, x136_w16 hs2, x136_r17 hs2, x136_r18 hs2, x136_r19 hs2, x136_r20 hs2, x136_r21 hs2, x136_i22 hs2, x136_w22 hs2, x136_r23 hs2, x136_r24 hs2, x136_i25 hs2, x136_w25 hs2, x136_i26 hs2, x136_w26 hs2, x136_r27 hs2, x136_r28 hs2, x136_i29 hs2, x136_w29 hs2, e_in_T, e_in_F, e_throws0 hs2, e_throws1 hs2, e_noPlace_ok, e_noPlace_no, e_noPerson_ok, e_noPerson_no, e_noPhone hs2, e_noWord hs2, e_noGang hs2, e_tick hs2, e_phones hs2, e_words hs2, e_of hs2, e_toldOf hs2, e_copyAt, e_phoneAt, e_hadAt, e_ruleAt, e_lineAt, Option.bind_some, xI, xU, xUt, xIt, J_lit, J_add, J_sub, J_mul, J_neg, J_lt, J_le, J_eq, lt_T, lt_F, le_T, le_F, eq_T, eq_F, ↓reduceIte, ite_not, not_true_eq_false, not_false_eq_true, true_or, or_true, false_or, or_false, true_and, and_true, false_and, and_false, up_get, Nat.reduceEqDiff, Int.reduceNeg]
      try simp (disch := omega) only [j_X11_least_170, b_X11_least_170, x136_k hs2, x136_i0 hs2, x136_w0 hs2, x136_r1 hs2, x136_r2 hs2, x136_r3 hs2, x136_r4 hs2, x136_i5 hs2, x136_w5 hs2, x136_i6 hs2, x136_w6 hs2, x136_i7 hs2, x136_w7 hs2, x136_r8 hs2, x136_i9 hs2, x136_w9 hs2, x136_i10 hs2, x136_w10 hs2, x136_i11 hs2, x136_w11 hs2, x136_i12 hs2, x136_w12 hs2, x136_i13 hs2, x136_w13 hs2, x136_i14 hs2, x136_w14 hs2, x136_r15 hs2, x136_i16 hs2, x136_w16 hs2, x136_r17 hs2, x136_r18 hs2, x136_r19 hs2, x136_r20 hs2, x136_r21 hs2, x136_i22 hs2, x136_w22 hs2, x136_r23 hs2, x136_r24 hs2, x136_i25 hs2, x136_w25 hs2, x136_i26 hs2, x136_w26 hs2, x136_r27 hs2, x136_r28 hs2, x136_i29 hs2, x136_w29 hs2, e_in_T, e_in_F, e_throws0 hs2, e_throws1 hs2, e_noPlace_ok, e_noPlace_no, e_noPerson_ok, e_noPerson_no, e_noPhone hs2, e_noWord hs2, e_noGang hs2, e_tick hs2, e_phones hs2, e_words hs2, e_of hs2, e_toldOf hs2, e_copyAt, e_phoneAt, e_hadAt, e_ruleAt, e_lineAt, Option.bind_some, xI, xU, xUt, xIt, J_lit, J_add, J_sub, J_mul, J_neg, J_lt, J_le, J_eq, lt_T, lt_F, le_T, le_F, eq_T, eq_F, ↓reduceIte, ite_not, not_true_eq_false, not_false_eq_true, true_or, or_true, false_or, or_false, true_and, and_true, false_and, and_false, up_get, Nat.reduceEqDiff, Int.reduceNeg])) (up_at _ _ _ _) (Inv.thr hI hs hR 0 1)
