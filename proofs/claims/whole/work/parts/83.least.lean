/-! the fewest that must be wrong -/
/-- the foes of i among the first j, as bits -/
def foN (w L : Int → Int) (i : Int) : Nat → Nat
  | 0 => 0
  | j + 1 => if agn w L i j = true then foN w L i j ||| 2 ^ j else foN w L i j
theorem foN_tb (w L : Int → Int) (i : Int) : ∀ (n j : Nat), (foN w L i n).testBit j = (decide (j < n) && agn w L i j)
  | 0, j => by simp [foN]
  | n + 1, j => by
    rw [foN]
    by_cases c : agn w L i n = true
    · rw [if_pos c, tb_or, foN_tb w L i n j]
      by_cases e : j = n
      · subst e
        rw [if_pos rfl, c, decide_eq_true (by omega)]
        rfl
      · rw [if_neg e]
        by_cases l : j < n
        · rw [decide_eq_true l, decide_eq_true (show j < n + 1 by omega)]
        · rw [decide_eq_false l, decide_eq_false (show ¬ j < n + 1 by omega)]
    · rw [if_neg c, foN_tb w L i n j]
      by_cases e : j = n
      · subst e
        rw [Bool.eq_false_iff.mpr c, Bool.and_false, Bool.and_false]
      · by_cases l : j < n
        · rw [decide_eq_true l, decide_eq_true (show j < n + 1 by omega)]
        · rw [decide_eq_false l, decide_eq_false (show ¬ j < n + 1 by omega)]
theorem foN_lt (w L : Int → Int) (i : Int) : ∀ n : Nat, n ≤ 10 → foN w L i n < 2 ^ 10
  | 0, _ => by simp [foN]
  | n + 1, h => by
    rw [foN]
    have := foN_lt w L i n (by omega)
    split
    · exact or_lt this (by omega)
    · exact this
theorem pow_le10 {n : Nat} (h : n ≤ 10) : 2 ^ n ≤ 1024 := Nat.pow_le_pow_right (by omega) h
/-- those that are kept -/
theorem kept_eq {n o : Nat} (hn : n ≤ 10) (ho : o < 2 ^ n) : J ((2 ^ n - 1 : Nat) : Int) &&& (J (o : Int) ^^^ J (-1)) = J (((2 ^ n - 1) ^^^ o : Nat) : Int) := by
  have hb : ∀ (a i : Nat), i < 32 → bt (nI a) i = a.testBit i := fun a i hi => by
    unfold bt nI
    rw [show (Int32.ofNat a).toBitVec = BitVec.ofNat 32 a from rfl, BitVec.getLsbD_ofNat, decide_eq_true hi, Bool.true_and]
  rw [J_nI, J_nI, J_nI]
  refine b_ext (fun i hi => ?_)
  rw [b_and, b_xor, hb _ i hi, hb _ i hi, hb _ i hi, show bt (J (-1)) i = true from b_m1 i hi, Nat.testBit_xor, Nat.testBit_two_pow_sub_one]
  by_cases c : i < n
  · rw [decide_eq_true c]
    cases o.testBit i <;> rfl
  · rw [decide_eq_false c, Nat.testBit_lt_two_pow (Nat.lt_of_lt_of_le ho (Nat.pow_le_pow_right (by omega) (by omega)))]
    rfl
theorem kept_tb {n o i : Nat} (hi : i < n) : ((2 ^ n - 1) ^^^ o).testBit i = !o.testBit i := by
  rw [Nat.testBit_xor, Nat.testBit_two_pow_sub_one, decide_eq_true hi]
  cases o.testBit i <;> rfl
theorem kept_lt {n o : Nat} (hn : n ≤ 10) (ho : o < 2 ^ n) : (2 ^ n - 1) ^^^ o < 1024 := by
  have a := pow_le10 hn
  have p : 0 < 2 ^ n := Nat.two_pow_pos n
  exact Nat.lt_of_lt_of_le (Nat.xor_lt_two_pow (by omega) ho) a
theorem or_zero0 (x : Int32) : x ||| J 0 = x := b_ext (fun i hi => by rw [b_or, show bt (J 0) i = false from b_0 i, Bool.or_false])
/-- peace among those that are kept: by bits, and two by two -/
def peC (w L : Int → Int) (n K : Nat) : Nat → Nat → Bool
  | 0, _ => true
  | k + 1, i => if K.testBit i = true ∧ ¬ foN w L i n &&& K = 0 then false else peC w L n K k (i + 1)
def rwM (w L : Int → Int) (o a : Nat) : Nat → Nat → Bool
  | 0, _ => true
  | k + 1, b => if o.testBit a = true ∨ o.testBit b = true ∨ agn w L a b = false then rwM w L o a k (b + 1) else false
def peM (w L : Int → Int) (o : Nat) : Nat → Nat → Bool
  | 0, _ => true
  | k + 1, a => rwM w L o a k (a + 1) && peM w L o k (a + 1)
theorem peC_iff (w L : Int → Int) (n K : Nat) : ∀ k i : Nat, peC w L n K k i = true ↔ ∀ x, i ≤ x → x < i + k → K.testBit x = true → foN w L x n &&& K = 0
  | 0, i => by simp only [peC, true_iff]; intro x h1 h2; omega
  | k + 1, i => by
    rw [peC]
    by_cases c : K.testBit i = true ∧ ¬ foN w L i n &&& K = 0
    · rw [if_pos c]
      exact ⟨fun h => Bool.noConfusion h, fun h => absurd (h i (by omega) (by omega) c.1) c.2⟩
    · rw [if_neg c, peC_iff w L n K k (i + 1)]
      refine ⟨fun h x h1 h2 h3 => ?_, fun h x h1 h2 h3 => h x (by omega) (by omega) h3⟩
      by_cases e : x = i
      · subst e
        exact Classical.byContradiction fun z => c ⟨h3, z⟩
      · exact h x (by omega) (by omega) h3
theorem rwM_iff (w L : Int → Int) (o a : Nat) : ∀ k b : Nat, rwM w L o a k b = true ↔ ∀ y, b ≤ y → y < b + k → o.testBit a = true ∨ o.testBit y = true ∨ agn w L a y = false
  | 0, b => by simp only [rwM, true_iff]; intro x h1 h2; omega
  | k + 1, b => by
    rw [rwM]
    by_cases c : o.testBit a = true ∨ o.testBit b = true ∨ agn w L a b = false
    · rw [if_pos c, rwM_iff w L o a k (b + 1)]
      refine ⟨fun h y h1 h2 => ?_, fun h y h1 h2 => h y (by omega) (by omega)⟩
      by_cases e : y = b
      · subst e
        exact c
      · exact h y (by omega) (by omega)
    · rw [if_neg c]
      exact ⟨fun h => Bool.noConfusion h, fun h => absurd (h b (by omega) (by omega)) c⟩
theorem peM_iff (w L : Int → Int) (o : Nat) : ∀ k a : Nat, peM w L o k a = true ↔ ∀ x y, a ≤ x → x < y → y < a + k → o.testBit x = true ∨ o.testBit y = true ∨ agn w L x y = false
  | 0, a => by simp only [peM, true_iff]; intro x y h1 h2 h3; omega
  | k + 1, a => by
    rw [peM, Bool.and_eq_true, rwM_iff, peM_iff w L o k (a + 1)]
    refine ⟨fun h x y h1 h2 h3 => ?_, fun h => ⟨fun y h1 h2 => h a y (by omega) (by omega) (by omega), fun x y h1 h2 h3 => h x y (by omega) (by omega) (by omega)⟩⟩
    by_cases e : x = a
    · subst e
      exact h.1 y (by omega) (by omega)
    · exact h.2 x y (by omega) h2 (by omega)
theorem agn_comm (w L : Int → Int) (i j : Int) : agn w L i j = agn w L j i := by
  unfold agn near
  rw [dst_comm, show ((w (761 + 10 * L i + 6) - w (761 + 10 * L j + 6)).natAbs : Int) = ((w (761 + 10 * L j + 6) - w (761 + 10 * L i + 6)).natAbs : Int) by omega]
theorem agn_self (w L : Int → Int) (i : Int) : agn w L i i = false := by
  unfold agn near
  rw [decide_eq_true]
  · rfl
  · unfold dst
    rw [show ((w (761 + 10 * L i + 6) - w (761 + 10 * L i + 6)).natAbs : Int) = 0 by omega]
    omega
theorem peace_eq (w L : Int → Int) {n o : Nat} (hn : n ≤ 10) (ho : o < 2 ^ n) : peC w L n ((2 ^ n - 1) ^^^ o) n 0 = peM w L o n 0 := by
  rw [Bool.eq_iff_iff, peC_iff, peM_iff]
  constructor
  · intro h x y h1 h2 h3
    cases cx : o.testBit x with
    | true => exact Or.inl rfl
    | false =>
      cases cy : o.testBit y with
      | true => exact Or.inr (Or.inl rfl)
      | false =>
        refine Or.inr (Or.inr ?_)
        have e := h x (by omega) (by omega) (by rw [kept_tb (by omega), cx]; rfl)
        have e2 := congrArg (fun z => Nat.testBit z y) e
        simp only [Nat.testBit_and, foN_tb, kept_tb (show y < n by omega), cy, Nat.zero_testBit, Bool.not_false, Bool.and_true, decide_eq_true (show y < n by omega), Bool.true_and] at e2
        exact e2
  · intro h x h1 h2 h3
    refine Nat.eq_of_testBit_eq fun y => ?_
    rw [Nat.testBit_and, foN_tb, Nat.zero_testBit]
    by_cases l : y < n
    · rw [kept_tb (by omega)] at h3 ⊢
      have cx : o.testBit x = false := by
        cases z : o.testBit x with
        | true => rw [z] at h3; exact Bool.noConfusion h3
        | false => rfl
      cases cy : o.testBit y with
      | true => rw [Bool.not_true, Bool.and_false]
      | false =>
        rcases Nat.lt_trichotomy x y with g | g | g
        · rcases h x y (by omega) g (by omega) with z | z | z
          · rw [cx] at z; exact Bool.noConfusion z
          · rw [cy] at z; exact Bool.noConfusion z
          · rw [z, Bool.and_false, Bool.false_and]
        · subst g
          rw [agn_self, Bool.and_false, Bool.false_and]
        · rcases h y x (by omega) g (by omega) with z | z | z
          · rw [cy] at z; exact Bool.noConfusion z
          · rw [cx] at z; exact Bool.noConfusion z
          · rw [agn_comm, z, Bool.and_false, Bool.false_and]
    · rw [decide_eq_false l, Bool.false_and, Bool.false_and]
/-- all sets in turn -/
def lsS (pc : Nat → Bool) : Nat → Nat → Nat → Nat
  | 0, _, best => best
  | k + 1, o, best => lsS pc k (o + 1) (if bcn (J o) < bcn (J best) ∧ pc o = true then o else best)
section LEAST
variable {S : xH} {m m0 : Nat → Int → Int} {q : Nat → Int → Int64} {pe kn : Int}
theorem Lst.row {m m' : Nat → Int → Int} {a : Nat} {L : Int → Int} {N : Nat} (h : Lst m a L N) (e1 : m' a = m a) (e2 : m' 139 = m 139) : Lst m' a L N := by
  unfold Lst at *
  rw [e1, e2]
  exact h
theorem q_findFoes (hs : Sk S) (F : Fok m0) (C : Fcl m0) (L : Int → Int) (N n : Nat) (hn : n ≤ 10) (hnN : n ≤ N) (hL : Lst m0 134 L N) (hw : ∀ i : Int, 0 ≤ i → i < N → 0 ≤ m0 139 (761 + 10 * L i + 6) ∧ m0 139 (761 + 10 * L i + 6) ≤ 400) : ∀ (r i : Nat) (m : Nat → Int → Int), i + r = n → (∀ b x, b ≠ 135 → m b x = m0 b x) → (∀ x : Nat, x < i → m 135 x = (foN (m0 139) L x n : Int)) → ∃ m', De (fun t => f_X6_findFoes t 2 [.ref 133, .int (J n), .int (J (m0 139 6)), .int (J i)] (hp S m q)) (.inl none) (hp S m' q) ∧ (∀ b x, b ≠ 135 → m' b x = m0 b x) ∧ ∀ x : Nat, x < n → m' 135 x = (foN (m0 139) L x n : Int) := by
  intro r
  induction r with
  | zero =>
    intro i m hi e f
    refine ⟨m, De.cg 1 (g := fun _ => some (.inl none, hp S m q)) (fun t => ?_) (De.ret _ _), e, fun x hx => f x (by omega)⟩
    rw [j_X6_findFoes_2]
    simp (disch := omega) only [b_X6_findFoes_2, Option.bind_some, xI, xU, xUt, xIt, J_lit, J_add, J_sub, J_mul, J_neg, J_ltc, J_lec, J_eqc, lt_T, lt_F, le_T, le_F, eq_T, eq_F, ↓reduceIte, ite_not, not_true_eq_false, not_false_eq_true, true_or, or_true, false_or, or_false, true_and, and_true, false_and, and_false, up_get, Nat.reduceEqDiff, Int.reduceNeg, eqN_T, eqN_F]
  | succ r IH =>
    intro i m hi e f
    have K : ∀ (t j : Nat) (m : Nat → Int → Int), j + t = n → (∀ b x, b ≠ 135 → m b x = m0 b x) → (∀ x : Nat, x < i → m 135 x = (foN (m0 139) L x n : Int)) → m 135 i = (foN (m0 139) L i j : Int) → ∃ m', De (fun t => f_X6_findFoes t 17 [.ref 133, .int (J n), .int (J (m0 139 6)), .int (J i), .int (J j)] (hp S m q)) (.inl none) (hp S m' q) ∧ (∀ b x, b ≠ 135 → m' b x = m0 b x) ∧ ∀ x : Nat, x < n → m' 135 x = (foN (m0 139) L x n : Int) := by
      intro t
      induction t with
      | zero =>
        intro j m hj e f g
        have hj : j = n := by omega
        subst hj
        obtain ⟨m', D, e', f'⟩ := IH (i + 1) m (by omega) e (fun x hx => by
          by_cases c : x = i
          · subst c
            exact g
          · exact f x (by omega))
        refine ⟨m', De.cg 1 (fun t => ?_) D, e', f'⟩
        rw [j_X6_findFoes_17]
        simp (disch := omega) only [b_X6_findFoes_17, Option.bind_some, xI, xU, xUt, xIt, J_lit, J_add, J_sub, J_mul, J_neg, J_ltc, J_lec, J_eqc, lt_T, lt_F, le_T, le_F, eq_T, eq_F, ↓reduceIte, ite_not, not_true_eq_false, not_false_eq_true, true_or, or_true, false_or, or_false, true_and, and_true, false_and, and_false, up_get, Nat.reduceEqDiff, Int.reduceNeg, eqN_T, eqN_F]
        rfl
      | succ t IT =>
        intro j m hj e f g
        have r9 : m 139 = m0 139 := funext fun x => e 139 x (by decide)
        have T := fun t => e_isAgainst (q := q) hs (F.row r9) (C.row (m' := m) (fun b hb => funext fun x => e b x (by omega))) L N (hL.row (funext fun x => e 134 x (by decide)) r9) (by rw [r9]; exact hw) (show (0 : Int) ≤ (i : Int) by omega) (show (i : Int) < N by omega) (show (0 : Int) ≤ (j : Int) by omega) (show (j : Int) < N by omega) t
        rw [r9] at T
        have fl := foN_lt (m0 139) L i j (by omega)
        obtain ⟨m', D, e', f'⟩ := IT (j + 1) (up m 135 i (foN (m0 139) L i (j + 1) : Int)) (by omega) (fun b x hb => by rw [up_a hb]; exact e b x hb) (fun x hx => by rw [up_i (by omega)]; exact f x hx) (up_at _ _ _ _)
        refine ⟨m', ?_, e', f'⟩
        refine De.cg 4 (fun t => ?_) (D.sh 3)
        rw [j_X6_findFoes_17]
        cases c : agn (m0 139) L i j with
        | true =>
          simp only [c, if_true] at T
          have ge := J_or1 (z := (foN (m0 139) L i j : Int)) (p := (j : Int)) (by omega) (by omega) (by omega)
          rw [Int.toNat_natCast, Int.toNat_natCast] at ge
          simp (disch := omega) only [b_X6_findFoes_17, x133_k hs, x133_r0 hs, x133_r1 hs, x133_r2 hs, x133_r3 hs, x133_i4 hs, x133_w4 hs, x135_g hs, x135_s hs, x135_l hs, g, T, ge, Option.bind_some, xI, xU, xUt, xIt, J_lit, J_add, J_sub, J_mul, J_neg, J_ltc, J_lec, J_eqc, lt_T, lt_F, le_T, le_F, eq_T, eq_F, ↓reduceIte, ite_not, not_true_eq_false, not_false_eq_true, true_or, or_true, false_or, or_false, true_and, and_true, false_and, and_false, up_get, Nat.reduceEqDiff, Int.reduceNeg, eqN_T, eqN_F]
          rw [foN, if_pos c]
          rfl
        | false =>
          simp only [c, Bool.false_eq_true, if_false] at T
          simp (disch := omega) only [b_X6_findFoes_17, x133_k hs, x133_r0 hs, x133_r1 hs, x133_r2 hs, x133_r3 hs, x133_i4 hs, x133_w4 hs, x135_g hs, x135_s hs, x135_l hs, g, T, or_zero0, Option.bind_some, xI, xU, xUt, xIt, J_lit, J_add, J_sub, J_mul, J_neg, J_ltc, J_lec, J_eqc, lt_T, lt_F, le_T, le_F, eq_T, eq_F, ↓reduceIte, ite_not, not_true_eq_false, not_false_eq_true, true_or, or_true, false_or, or_false, true_and, and_true, false_and, and_false, up_get, Nat.reduceEqDiff, Int.reduceNeg, eqN_T, eqN_F]
          rw [foN, if_neg (by rw [c]; decide)]
          rfl
    obtain ⟨m', D, e', f'⟩ := K n 0 (up m 135 i 0) (by omega) (fun b x hb => by rw [up_a hb]; exact e b x hb) (fun x hx => by rw [up_i (by omega)]; exact f x hx) (up_at _ _ _ _)
    refine ⟨m', De.cg 1 (fun t => ?_) D, e', f'⟩
    rw [j_X6_findFoes_2]
    simp (disch := omega) only [b_X6_findFoes_2, x133_k hs, x133_r0 hs, x133_r1 hs, x133_r2 hs, x133_r3 hs, x133_i4 hs, x133_w4 hs, x135_g hs, x135_s hs, x135_l hs, Option.bind_some, xI, xU, xUt, xIt, J_lit, J_add, J_sub, J_mul, J_neg, J_ltc, J_lec, J_eqc, lt_T, lt_F, le_T, le_F, eq_T, eq_F, ↓reduceIte, ite_not, not_true_eq_false, not_false_eq_true, true_or, or_true, false_or, or_false, true_and, and_true, false_and, and_false, up_get, Nat.reduceEqDiff, Int.reduceNeg, eqN_T, eqN_F]
    rfl
theorem q_peace (hs : Sk S) (w L : Int → Int) {n K : Nat} (hn : n ≤ 10) (hK : K < 1024) (hf : ∀ x : Nat, x < n → m 135 x = (foN w L x n : Int)) : ∀ k i : Nat, i + k = n → De (fun t => f_X6_areAtPeace t 2 [.ref 133, .int (J K), .int (J n), .int (J i)] (hp S m q)) (.inl (some (.int (J (if peC w L n K k i = true then 1 else 0))))) (hp S m q) := by
  intro k
  induction k with
  | zero =>
    intro i hi
    refine De.cg 1 (g := fun _ => some (.inl (some (.int (J 1))), hp S m q)) (fun t => ?_) (De.ret _ _)
    rw [j_X6_areAtPeace_2]
    simp (disch := omega) only [b_X6_areAtPeace_2, Option.bind_some, xI, xU, xUt, xIt, J_lit, J_add, J_sub, J_mul, J_neg, J_ltc, J_lec, J_eqc, lt_T, lt_F, le_T, le_F, eq_T, eq_F, ↓reduceIte, ite_not, not_true_eq_false, not_false_eq_true, true_or, or_true, false_or, or_false, true_and, and_true, false_and, and_false, up_get, Nat.reduceEqDiff, Int.reduceNeg, eqN_T, eqN_F]
  | succ k IH =>
    intro i hi
    have ih := IH (i + 1) (by omega)
    have fi := hf i (by omega)
    have fl := foN_lt w L i n hn
    have tb := J_tb (z := (K : Int)) (p := (i : Int)) (by omega) (by omega) (by omega) (by omega)
    rw [Int.toNat_natCast, Int.toNat_natCast] at tb
    have an : J (foN w L i n : Int) &&& J (K : Int) = J ((foN w L i n &&& K : Nat) : Int) := by rw [J_nI, J_nI, J_nI, nx_and]
    have al : foN w L i n &&& K < 1024 := Nat.lt_of_le_of_lt Nat.and_le_right hK
    by_cases c : K.testBit i = true
    · rw [if_pos c] at tb
      by_cases d : foN w L i n &&& K = 0
      · have ex : peC w L n K (k + 1) i = peC w L n K k (i + 1) := by rw [peC, if_neg (fun z => z.2 d)]
        rw [ex]
        refine De.cg 1 (fun t => ?_) ih
        rw [j_X6_areAtPeace_2]
        simp (disch := omega) only [b_X6_areAtPeace_2, x133_k hs, x133_r0 hs, x133_r1 hs, x133_r2 hs, x133_r3 hs, x133_i4 hs, x133_w4 hs, x135_g hs, x135_s hs, x135_l hs, J_lit 31, tb, fi, an, Option.bind_some, xI, xU, xUt, xIt, J_lit, J_add, J_sub, J_mul, J_neg, J_ltc, J_lec, J_eqc, lt_T, lt_F, le_T, le_F, eq_T, eq_F, ↓reduceIte, ite_not, not_true_eq_false, not_false_eq_true, true_or, or_true, false_or, or_false, true_and, and_true, false_and, and_false, up_get, Nat.reduceEqDiff, Int.reduceNeg, eqN_T, eqN_F]
        rfl
      · have ex : peC w L n K (k + 1) i = false := by rw [peC, if_pos ⟨c, d⟩]
        rw [ex, if_neg (by decide)]
        refine De.cg 1 (g := fun _ => some (.inl (some (.int (J 0))), hp S m q)) (fun t => ?_) (De.ret _ _)
        rw [j_X6_areAtPeace_2]
        simp (disch := omega) only [b_X6_areAtPeace_2, x133_k hs, x133_r0 hs, x133_r1 hs, x133_r2 hs, x133_r3 hs, x133_i4 hs, x133_w4 hs, x135_g hs, x135_s hs, x135_l hs, J_lit 31, tb, fi, an, Option.bind_some, xI, xU, xUt, xIt, J_lit, J_add, J_sub, J_mul, J_neg, J_ltc, J_lec, J_eqc, lt_T, lt_F, le_T, le_F, eq_T, eq_F, ↓reduceIte, ite_not, not_true_eq_false, not_false_eq_true, true_or, or_true, false_or, or_false, true_and, and_true, false_and, and_false, up_get, Nat.reduceEqDiff, Int.reduceNeg, eqN_T, eqN_F]
    · have ex : peC w L n K (k + 1) i = peC w L n K k (i + 1) := by rw [peC, if_neg (fun z => c z.1)]
      rw [ex]
      rw [if_neg c] at tb
      refine De.cg 1 (fun t => ?_) ih
      rw [j_X6_areAtPeace_2]
      simp (disch := omega) only [b_X6_areAtPeace_2, x133_k hs, x133_r0 hs, x133_r1 hs, x133_r2 hs, x133_r3 hs, x133_i4 hs, x133_w4 hs, x135_g hs, x135_s hs, x135_l hs, J_lit 31, tb, Option.bind_some, xI, xU, xUt, xIt, J_lit, J_add, J_sub, J_mul, J_neg, J_ltc, J_lec, J_eqc, lt_T, lt_F, le_T, le_F, eq_T, eq_F, ↓reduceIte, ite_not, not_true_eq_false, not_false_eq_true, true_or, or_true, false_or, or_false, true_and, and_true, false_and, and_false, up_get, Nat.reduceEqDiff, Int.reduceNeg, eqN_T, eqN_F]
      rfl
theorem q_fewest (hs : Sk S) (w L : Int → Int) {n : Nat} (pa : Int32) (hn : n ≤ 10) (hf : ∀ x : Nat, x < n → m 135 x = (foN w L x n : Int)) : ∀ k o best : Nat, o + k = 2 ^ n → De (fun t => f_X6_fewestWrong t 28 [.ref 133, .int pa, .int (J n), .int (J ((2 ^ n - 1 : Nat) : Int)), .int (J best), .int (J o)] (hp S m q)) (.inl (some (.int (J (lsS (fun o => peM w L o n 0) k o best))))) (hp S m q) := by
  have pl := pow_le10 hn
  have pp : 0 < 2 ^ n := Nat.two_pow_pos n
  intro k
  induction k with
  | zero =>
    intro o best ho
    refine De.cg 1 (g := fun _ => some (.inl (some (.int (J best))), hp S m q)) (fun t => ?_) (De.ret _ _)
    rw [j_X6_fewestWrong_28]
    simp (disch := omega) only [b_X6_fewestWrong_28, Option.bind_some, xI, xU, xUt, xIt, J_lit, J_add, J_sub, J_mul, J_neg, J_ltc, J_lec, J_eqc, lt_T, lt_F, le_T, le_F, eq_T, eq_F, ↓reduceIte, ite_not, not_true_eq_false, not_false_eq_true, true_or, or_true, false_or, or_false, true_and, and_true, false_and, and_false, up_get, Nat.reduceEqDiff, Int.reduceNeg, eqN_T, eqN_F]
  | succ k IH =>
    intro o best ho
    rw [lsS]
    have ee : ∀ (x : Int32) (P : xH), De (fun n => f_J6_bitCount_0f7a4 n 0 [.int x] P) (.inl (some (.int (bcn x)))) P := fun x P => De.eq 1 (fun n => e_bitCount x n P)
    refine De.step ?_
    simp only [j_X6_fewestWrong_28]
    simp (disch := omega) only [b_X6_fewestWrong_28, Option.bind_some, xI, xU, xUt, xIt, J_lit, J_add, J_sub, J_mul, J_neg, J_ltc, J_lec, J_eqc, lt_T, lt_F, le_T, le_F, eq_T, eq_F, ↓reduceIte, ite_not, not_true_eq_false, not_false_eq_true, true_or, or_true, false_or, or_false, true_and, and_true, false_and, and_false, up_get, Nat.reduceEqDiff, Int.reduceNeg, eqN_T, eqN_F]
    refine De.call (ee _ _) ?_
    simp only [xI]
    refine De.call (ee _ _) ?_
    simp only [xI]
    by_cases c : bcn (J o) < bcn (J best)
    · have c' : ¬ bcn (J best) ≤ bcn (J o) := Int32.not_le.mpr c
      simp only [if_neg c']
      have P := q_peace (m := m) (q := q) hs w L (K := (2 ^ n - 1) ^^^ o) hn (kept_lt hn (by omega)) hf n 0 (by omega)
      rw [peace_eq w L hn (by omega)] at P
      refine De.step ?_
      simp only [j_X6_fewestWrong_52]
      simp (disch := omega) only [b_X6_fewestWrong_52, x133_k hs, x133_r0 hs, x133_r1 hs, x133_r2 hs, x133_r3 hs, x133_i4 hs, x133_w4 hs, Int.reduceNeg, J_lit, J_neg, J_eqc, eq_F, if_false]
      simp only [kept_eq hn (show o < 2 ^ n by omega), Option.bind_some]
      have P0 : De (fun t => f_X6_areAtPeace t 0 [.ref 133, .int (J (((2 ^ n - 1) ^^^ o : Nat) : Int)), .int (J n)] (hp S m q)) (.inl (some (.int (J (if peM w L o n 0 = true then 1 else 0))))) (hp S m q) := by
        refine De.step ?_
        simp only [j_X6_areAtPeace_0, b_X6_areAtPeace_0, J_lit]
        exact P
      refine De.call P0 ?_
      by_cases d : peM w L o n 0 = true
      · have ih := IH (o + 1) o (by omega)
        rw [show (if bcn (J (o : Int)) < bcn (J (best : Int)) ∧ peM w L o n 0 = true then o else best) = o from if_pos ⟨c, d⟩]
        simp (disch := omega) only [if_pos d, Option.bind_some, xI, xU, xUt, xIt, J_lit, J_add, J_sub, J_mul, J_neg, J_ltc, J_lec, J_eqc, lt_T, lt_F, le_T, le_F, eq_T, eq_F, ↓reduceIte, ite_not, not_true_eq_false, not_false_eq_true, true_or, or_true, false_or, or_false, true_and, and_true, false_and, and_false, up_get, Nat.reduceEqDiff, Int.reduceNeg, eqN_T, eqN_F]
        exact ih
      · have ih := IH (o + 1) best (by omega)
        rw [show (if bcn (J (o : Int)) < bcn (J (best : Int)) ∧ peM w L o n 0 = true then o else best) = best from if_neg (fun z => d z.2)]
        simp (disch := omega) only [if_neg d, Option.bind_some, xI, xU, xUt, xIt, J_lit, J_add, J_sub, J_mul, J_neg, J_ltc, J_lec, J_eqc, lt_T, lt_F, le_T, le_F, eq_T, eq_F, ↓reduceIte, ite_not, not_true_eq_false, not_false_eq_true, true_or, or_true, false_or, or_false, true_and, and_true, false_and, and_false, up_get, Nat.reduceEqDiff, Int.reduceNeg, eqN_T, eqN_F]
        exact ih
    · have c' : bcn (J best) ≤ bcn (J o) := Int32.not_lt.mp c
      have ih := IH (o + 1) best (by omega)
      simp only [if_pos c', if_neg (fun z : bcn (J o) < bcn (J best) ∧ _ => c z.1)]
      refine De.step ?_
      simp only [j_X6_fewestWrong_52]
      simp (disch := omega) only [b_X6_fewestWrong_52, Option.bind_some, xI, xU, xUt, xIt, J_lit, J_add, J_sub, J_mul, J_neg, J_ltc, J_lec, J_eqc, lt_T, lt_F, le_T, le_F, eq_T, eq_F, ↓reduceIte, ite_not, not_true_eq_false, not_false_eq_true, true_or, or_true, false_or, or_false, true_and, and_true, false_and, and_false, up_get, Nat.reduceEqDiff, Int.reduceNeg, eqN_T, eqN_F]
      exact ih
end LEAST
