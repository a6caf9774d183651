/-! the trees of partings -/
section PART
variable {S : xH} {m0 : Nat → Int → Int} {q : Nat → Int → Int64} {ap : Int} {N : Nat} {pr : Int → Int → Int}
theorem BsC.cg {m m' : Nat → Int → Int} {st : Spt} (h : BsC N m st) (e1 : ∀ i, m' 93 i = m 93 i) (e2 : ∀ i, m' 98 i = m 98 i) : BsC N m' st := by
  unfold BsC at *
  simp only [e1, e2]
  exact h
theorem BsR.cg {m m' : Nat → Int → Int} {st : Spt} (h : BsR N m st) (e1 : ∀ i, i ≠ 0 → m' 136 i = m 136 i) (e2 : ∀ i, m' 149 i = m 149 i) : BsR N m' st := by
  unfold BsR at *
  rw [e1 25 (by decide), e1 26 (by decide)]
  simp only [e2]
  exact h
theorem q_part (hs : Sk S) (hN : (N : Int) = m0 93 5) (hA : ap = m0 93 6) (N7 : N ≤ 7) (A0 : 0 ≤ ap) (A1 : ap ≤ 1000) (hpr : ∀ x y : Int, 0 ≤ x → x < y → y < N → 0 ≤ pr x y ∧ pr x y ≤ 127) (H : ∀ m, FrP m0 m → ∀ a b : Int, 0 ≤ a → a < b → b < N → ∀ n, f_X2_priceOfTwo (n + 4) 0 [.ref 93, .int (J a), .int (J b)] (hp S m q) = some (.inl (some (.int (J (pr a b)))), hp S m q)) :
    ∀ (r dp k heaps : Nat) (price : Int) (tr : Int → Int) (m : Nat → Int → Int) (st : Spt), k + r = N → r < dp → heaps ≤ k → 0 ≤ price → price ≤ 1000 * k → FrP m0 m → BsC N m st → (∀ i : Int, 0 ≤ i → i < k → m 97 i = tr i ∧ 0 ≤ tr i ∧ tr i < heaps) →
    ∃ m', De (fun n => F_X2_part n dp 0 [.ref 93, .int (J k), .int (J heaps), .int (J price)] (hp S m q)) (.inl none) (hp S m' q) ∧ FrP m0 m' ∧ (∀ i : Int, 0 ≤ i → i < k → m' 97 i = tr i) ∧ BsC N m' (ptS pr ap r k heaps price tr st) := by
  intro r
  induction r with
  | zero =>
    intro dp k heaps price tr m st kr hd hk p0 p1 F B hT
    obtain ⟨dp, rfl⟩ : ∃ d, dp = d + 1 := ⟨dp - 1, by omega⟩
    have f5 : m 93 5 = N := (F 93 5 (by decide) (by decide) (by omega)).trans hN.symm
    obtain ⟨b1, b2, b3, b4⟩ := id B
    by_cases cut : 0 ≤ st.1 ∧ st.1 < price
    · refine ⟨m, De.cg 1 (g := fun _ => some (.inl none, hp S m q)) (fun n => ?_) (De.ret _ _), F, fun i i0 i1 => (hT i i0 i1).1, by rw [ptS_cut A0 _ _ _ _ _ _ (fun x y x0 x1 y1 => hpr x y x0 x1 (by omega)) cut.1 cut.2]; exact B⟩
      have := (b4 cut.1).1
      rw [Fq_X2_part, j_X2_part_0]
      simp (disch := omega) only [b_X2_part_0, x93_k hs, x93_r0 hs, x93_r1 hs, x93_r2 hs, x93_r3 hs, x93_r4 hs, x93_i5 hs, x93_w5 hs, x93_i6 hs, x93_w6 hs, x93_i7 hs, x93_w7 hs, x93_i8 hs, x93_w8 hs, Option.bind_some, xI, xU, xUt, xIt, J_lit, J_add, J_sub, J_mul, J_neg, J_ltc, J_lec, J_eqc, lt_T, lt_F, le_T, le_F, eq_T, eq_F, ↓reduceIte, ite_not, not_true_eq_false, not_false_eq_true, true_or, or_true, false_or, or_false, true_and, and_true, false_and, and_false, up_get, Nat.reduceEqDiff, Int.reduceNeg, eqN_T, eqN_F]
    · have hv : price ≤ m 93 7 ∧ m 93 7 ≤ 10000 := by
        by_cases c : st.1 < 0
        · have := b3 c
          omega
        · have := (b4 (by omega)).1
          omega
      have T : ∀ (m' : Nat → Int → Int), De (fun n => f_X2_keepIfBetter n 0 [.ref 93, .int (J heaps), .int (J price)] (hp S m q)) (.inl none) (hp S m' q) → De (fun n => F_X2_part n (dp + 1) 0 [.ref 93, .int (J k), .int (J heaps), .int (J price)] (hp S m q)) (.inl none) (hp S m' q) := fun m' D => by
        have D3 := De.call (K := fun n r2 => xU r2 fun P1 => some (.inl none, P1)) D (De.ret _ _)
        refine De.cg 2 (fun n => ?_) D3
        rw [Fq_X2_part, j_X2_part_0]
        simp (disch := omega) only [b_X2_part_0, x93_k hs, x93_r0 hs, x93_r1 hs, x93_r2 hs, x93_r3 hs, x93_r4 hs, x93_i5 hs, x93_w5 hs, x93_i6 hs, x93_w6 hs, x93_i7 hs, x93_w7 hs, x93_i8 hs, x93_w8 hs, f5, Option.bind_some, xI, xU, xUt, xIt, J_lit, J_add, J_sub, J_mul, J_neg, J_ltc, J_lec, J_eqc, lt_T, lt_F, le_T, le_F, eq_T, eq_F, ↓reduceIte, ite_not, not_true_eq_false, not_false_eq_true, true_or, or_true, false_or, or_false, true_and, and_true, false_and, and_false, up_get, Nat.reduceEqDiff, Int.reduceNeg, eqN_T, eqN_F]
        rw [j_X2_part_23]
        simp (disch := omega) only [b_X2_part_23, x93_k hs, x93_r0 hs, x93_r1 hs, x93_r2 hs, x93_r3 hs, x93_r4 hs, x93_i5 hs, x93_w5 hs, x93_i6 hs, x93_w6 hs, x93_i7 hs, x93_w7 hs, x93_i8 hs, x93_w8 hs, Option.bind_some, xI, xU, xUt, xIt, J_lit, J_add, J_sub, J_mul, J_neg, J_ltc, J_lec, J_eqc, lt_T, lt_F, le_T, le_F, eq_T, eq_F, ↓reduceIte, ite_not, not_true_eq_false, not_false_eq_true, true_or, or_true, false_or, or_false, true_and, and_true, false_and, and_false, up_get, Nat.reduceEqDiff, Int.reduceNeg, eqN_T, eqN_F]
      rw [ptS, lfP]
      by_cases c : 0 ≤ st.1 ∧ (st.1 < price ∨ price = st.1 ∧ st.2.1 ≤ heaps)
      · rw [if_pos c]
        have := b4 c.1
        refine ⟨m, T m (De.eq 1 (fun n => ?_)), F, fun i i0 i1 => (hT i i0 i1).1, B⟩
        rw [j_X2_keepIfBetter_0]
        simp (disch := omega) only [b_X2_keepIfBetter_0, x93_k hs, x93_r0 hs, x93_r1 hs, x93_r2 hs, x93_r3 hs, x93_r4 hs, x93_i5 hs, x93_w5 hs, x93_i6 hs, x93_w6 hs, x93_i7 hs, x93_w7 hs, x93_i8 hs, x93_w8 hs, Option.bind_some, xI, xU, xUt, xIt, J_lit, J_add, J_sub, J_mul, J_neg, J_ltc, J_lec, J_eqc, lt_T, lt_F, le_T, le_F, eq_T, eq_F, ↓reduceIte, ite_not, not_true_eq_false, not_false_eq_true, true_or, or_true, false_or, or_false, true_and, and_true, false_and, and_false, up_get, Nat.reduceEqDiff, Int.reduceNeg, eqN_T, eqN_F]
      · rw [if_neg c]
        have E := fun (m' : Nat → Int → Int) n => e_copyRow (m := m') (q := q) (hs.at 97) (hs.at 98) (by decide) n
        have E16 : ∀ n, f_X2_keepIfBetter (n + 2) 16 [.ref 93, .int (J heaps), .int (J price)] (hp S m q) = some (.inl none, hp S (cpr (up (up m 93 7 price) 93 8 heaps) 97 98 7) q) := fun n => by
          rw [j_X2_keepIfBetter_16]
          simp (disch := omega) only [b_X2_keepIfBetter_16, x93_k hs, x93_r0 hs, x93_r1 hs, x93_r2 hs, x93_r3 hs, x93_r4 hs, x93_i5 hs, x93_w5 hs, x93_i6 hs, x93_w6 hs, x93_i7 hs, x93_w7 hs, x93_i8 hs, x93_w8 hs, E, Option.bind_some, xI, xU, xUt, xIt, J_lit, J_add, J_sub, J_mul, J_neg, J_ltc, J_lec, J_eqc, lt_T, lt_F, le_T, le_F, eq_T, eq_F, ↓reduceIte, ite_not, not_true_eq_false, not_false_eq_true, true_or, or_true, false_or, or_false, true_and, and_true, false_and, and_false, up_get, Nat.reduceEqDiff, Int.reduceNeg, eqN_T, eqN_F]
        refine ⟨cpr (up (up m 93 7 price) 93 8 heaps) 97 98 7, T _ (De.eq 3 (fun n => ?_)), ?_, ?_, ?_⟩
        · rw [j_X2_keepIfBetter_0]
          by_cases d : price < m 93 7
          · simp (disch := omega) only [b_X2_keepIfBetter_0, x93_k hs, x93_r0 hs, x93_r1 hs, x93_r2 hs, x93_r3 hs, x93_r4 hs, x93_i5 hs, x93_w5 hs, x93_i6 hs, x93_w6 hs, x93_i7 hs, x93_w7 hs, x93_i8 hs, x93_w8 hs, E16, Option.bind_some, xI, xU, xUt, xIt, J_lit, J_add, J_sub, J_mul, J_neg, J_ltc, J_lec, J_eqc, lt_T, lt_F, le_T, le_F, eq_T, eq_F, ↓reduceIte, ite_not, not_true_eq_false, not_false_eq_true, true_or, or_true, false_or, or_false, true_and, and_true, false_and, and_false, up_get, Nat.reduceEqDiff, Int.reduceNeg, eqN_T, eqN_F]
          · have s0 : 0 ≤ st.1 := by
              by_cases z : st.1 < 0
              · have := b3 z
                omega
              · omega
            have := b4 s0
            simp (disch := omega) only [b_X2_keepIfBetter_0, x93_k hs, x93_r0 hs, x93_r1 hs, x93_r2 hs, x93_r3 hs, x93_r4 hs, x93_i5 hs, x93_w5 hs, x93_i6 hs, x93_w6 hs, x93_i7 hs, x93_w7 hs, x93_i8 hs, x93_w8 hs, E16, Option.bind_some, xI, xU, xUt, xIt, J_lit, J_add, J_sub, J_mul, J_neg, J_ltc, J_lec, J_eqc, lt_T, lt_F, le_T, le_F, eq_T, eq_F, ↓reduceIte, ite_not, not_true_eq_false, not_false_eq_true, true_or, or_true, false_or, or_false, true_and, and_true, false_and, and_false, up_get, Nat.reduceEqDiff, Int.reduceNeg, eqN_T, eqN_F]
        · intro b i h1 h2 h3
          unfold cpr
          rw [if_neg (fun z => h2 z.1), up_get, if_neg (by omega), up_get, if_neg (by omega)]
          exact F b i h1 h2 h3
        · intro i i0 i1
          unfold cpr
          rw [if_neg (by omega), up_get, if_neg (by omega), up_get, if_neg (by omega)]
          exact (hT i i0 i1).1
        · refine ⟨by show -1 ≤ price; omega, by show price ≤ 10000; omega, fun z => absurd z (by show ¬ price < 0; omega), fun _ => ⟨?_, ?_, by show 0 ≤ (heaps : Int); omega, by show (heaps : Int) ≤ 7; omega, fun i i0 i1 => ?_⟩⟩
          · show cpr _ 97 98 7 93 7 = price
            unfold cpr
            rw [if_neg (by omega), up_get, if_neg (by omega), up_at]
          · show cpr _ 97 98 7 93 8 = heaps
            unfold cpr
            rw [if_neg (by omega), up_at]
          · show cpr _ 97 98 7 98 i = tr i
            unfold cpr
            rw [if_pos ⟨rfl, i0, by omega⟩, up_get, if_neg (by omega), up_get, if_neg (by omega)]
            exact (hT i i0 (by omega)).1
  | succ r IH =>
    intro dp k heaps price tr m st kr hd hk p0 p1 F B hT
    obtain ⟨dp, rfl⟩ : ∃ d, dp = d + 1 := ⟨dp - 1, by omega⟩
    have f5 : m 93 5 = N := (F 93 5 (by decide) (by decide) (by omega)).trans hN.symm
    obtain ⟨b1, b2, b3, b4⟩ := id B
    by_cases cut : 0 ≤ st.1 ∧ st.1 < price
    · refine ⟨m, De.cg 1 (g := fun _ => some (.inl none, hp S m q)) (fun n => ?_) (De.ret _ _), F, fun i i0 i1 => (hT i i0 i1).1, by rw [ptS_cut A0 _ _ _ _ _ _ (fun x y x0 x1 y1 => hpr x y x0 x1 (by omega)) cut.1 cut.2]; exact B⟩
      have := (b4 cut.1).1
      rw [Fq_X2_part, j_X2_part_0]
      simp (disch := omega) only [b_X2_part_0, x93_k hs, x93_r0 hs, x93_r1 hs, x93_r2 hs, x93_r3 hs, x93_r4 hs, x93_i5 hs, x93_w5 hs, x93_i6 hs, x93_w6 hs, x93_i7 hs, x93_w7 hs, x93_i8 hs, x93_w8 hs, Option.bind_some, xI, xU, xUt, xIt, J_lit, J_add, J_sub, J_mul, J_neg, J_ltc, J_lec, J_eqc, lt_T, lt_F, le_T, le_F, eq_T, eq_F, ↓reduceIte, ite_not, not_true_eq_false, not_false_eq_true, true_or, or_true, false_or, or_false, true_and, and_true, false_and, and_false, up_get, Nat.reduceEqDiff, Int.reduceNeg, eqN_T, eqN_F]
    · have hv : price ≤ m 93 7 ∧ m 93 7 ≤ 10000 := by
        by_cases c : st.1 < 0
        · have := b3 c
          omega
        · have := (b4 (by omega)).1
          omega
      have up97 : ∀ (m : Nat → Int → Int) (x : Int), FrP m0 m → FrP m0 (up m 97 k x) := fun m x F b i h1 h2 h3 => by rw [up_a h1]; exact F b i h1 h2 h3
      have L : ∀ (t : Nat) (h : Nat) (u : Nat → Nat) (m : Nat → Int → Int) (st : Spt), (∀ n, n ≤ u n) → h + t = heaps → FrP m0 m → BsC N m st → (∀ i : Int, 0 ≤ i → i < k → m 97 i = tr i) →
          ∃ m', De (fun n => g_X2_part (F_X2_part (u n) dp) n 33 [.ref 93, .int (J k), .int (J heaps), .int (J price), .int (J h)] (hp S m q)) (.inl none) (hp S m' q) ∧ FrP m0 m' ∧ (∀ i : Int, 0 ≤ i → i < k → m' 97 i = tr i) ∧ BsC N m' (ptS pr ap r (k + 1) (heaps + 1) (price + ap) (ups tr k heaps) (lpP (fun h z => ptS pr ap r (k + 1) heaps (price + jnS (fun x => pr x k) tr h k) (ups tr k h) z) t h st)) := by
        intro t
        induction t with
        | zero =>
          intro h u m st hu ht F B hT'
          have f6 : m 93 6 = ap := (F 93 6 (by decide) (by decide) (by omega)).trans hA.symm
          obtain ⟨m', D, F', T', B'⟩ := IH dp (k + 1) (heaps + 1) (price + ap) (ups tr k heaps) (up m 97 k heaps) st (by omega) (by omega) (by omega) (by omega) (by omega) (up97 m _ F) (B.cg (fun i => by rw [up_a (by decide)]) (fun i => by rw [up_a (by decide)])) (fun i i0 i1 => by
            by_cases e : i = k
            · rw [e, up_at, ups_at]
              omega
            · rw [up_i e, ups_ne e]
              have := hT i i0 (by omega)
              exact ⟨hT' i i0 (by omega), by omega, by omega⟩)
          refine ⟨m', ?_, F', fun i i0 i1 => (T' i i0 (by omega)).trans (ups_ne (by omega)), B'⟩
          refine De.step ?_
          simp only [j_X2_part_33]
          have hh : (h : Int) = heaps := by omega
          simp (disch := omega) only [b_X2_part_33, x93_k hs, x93_r0 hs, x93_r1 hs, x93_r2 hs, x93_r3 hs, x93_r4 hs, x93_i5 hs, x93_w5 hs, x93_i6 hs, x93_w6 hs, x93_i7 hs, x93_w7 hs, x93_i8 hs, x93_w8 hs, x97_g hs, x97_s hs, x97_l hs, f6, Option.bind_some, xI, xU, xUt, xIt, J_lit, J_add, J_sub, J_mul, J_neg, J_ltc, J_lec, J_eqc, lt_T, lt_F, le_T, le_F, eq_T, eq_F, ↓reduceIte, ite_not, not_true_eq_false, not_false_eq_true, true_or, or_true, false_or, or_false, true_and, and_true, false_and, and_false, up_get, Nat.reduceEqDiff, Int.reduceNeg, eqN_T, eqN_F]
          exact De.call (De.at (fun n => u (n + 1)) (fun n => by have := hu (n + 1); omega) D) (De.ret _ _)
        | succ t IR =>
          intro h u m st hu ht F B hT'
          rw [lpP]
          have hT2 : ∀ i : Int, 0 ≤ i → i < k → (up m 97 k h) 97 i = tr i ∧ 0 ≤ tr i ∧ tr i ≤ 7 := fun i i0 i1 => by
            have := hT i i0 i1
            rw [up_i (by omega)]
            exact ⟨hT' i i0 i1, by omega, by omega⟩
          have Jn := q_join (m := up m 97 k h) (q := q) (pr := pr) (tr := tr) hs (k := k) (h := h) (by omega) (by omega) (by omega) hT2 (fun a a0 a1 n => H _ (up97 m _ F) a k a0 a1 (by omega) n) k 0 (by omega)
          have ji := jnS_in (pr := fun x => pr x k) (tr := tr) (h := h) k (fun x x0 x1 => hpr x k x0 x1 (by omega))
          obtain ⟨m', D, F', T', B'⟩ := IH dp (k + 1) heaps (price + jnS (fun x => pr x k) tr h k) (ups tr k h) (up m 97 k h) st (by omega) (by omega) (by omega) (by omega) (by omega) (up97 m _ F) (B.cg (fun i => by rw [up_a (by decide)]) (fun i => by rw [up_a (by decide)])) (fun i i0 i1 => by
            by_cases e : i = k
            · rw [e, up_at, ups_at]
              omega
            · rw [up_i e, ups_ne e]
              have := hT i i0 (by omega)
              exact ⟨hT' i i0 (by omega), by omega, by omega⟩)
          obtain ⟨m'', D2, F2, T2, B2⟩ := IR (h + 1) (fun n => u (n + 1)) m' _ (fun n => by have := hu (n + 1); omega) (by omega) F' B' (fun i i0 i1 => (T' i i0 (by omega)).trans (ups_ne (by omega)))
          refine ⟨m'', ?_, F2, T2, B2⟩
          have Jn0 : De (fun n => f_X2_priceOfJoining n 0 [.ref 93, .int (J k), .int (J h)] (hp S (up m 97 k h) q)) (.inl (some (.int (J (jnS (fun x => pr x k) tr h k))))) (hp S (up m 97 k h) q) := by
            refine De.step ?_
            simp only [j_X2_priceOfJoining_0, b_X2_priceOfJoining_0, J_lit]
            exact Jn
          refine De.step ?_
          simp only [j_X2_part_33]
          simp (disch := omega) only [b_X2_part_33, x93_k hs, x93_r0 hs, x93_r1 hs, x93_r2 hs, x93_r3 hs, x93_r4 hs, x93_i5 hs, x93_w5 hs, x93_i6 hs, x93_w6 hs, x93_i7 hs, x93_w7 hs, x93_i8 hs, x93_w8 hs, x97_g hs, x97_s hs, x97_l hs, Option.bind_some, xI, xU, xUt, xIt, J_lit, J_add, J_sub, J_mul, J_neg, J_ltc, J_lec, J_eqc, lt_T, lt_F, le_T, le_F, eq_T, eq_F, ↓reduceIte, ite_not, not_true_eq_false, not_false_eq_true, true_or, or_true, false_or, or_false, true_and, and_true, false_and, and_false, up_get, Nat.reduceEqDiff, Int.reduceNeg, eqN_T, eqN_F]
          refine De.call Jn0 ?_
          simp (disch := omega) only [x93_k hs, x93_r0 hs, x93_r1 hs, x93_r2 hs, x93_r3 hs, x93_r4 hs, x93_i5 hs, x93_w5 hs, x93_i6 hs, x93_w6 hs, x93_i7 hs, x93_w7 hs, x93_i8 hs, x93_w8 hs, x97_g hs, x97_s hs, x97_l hs, Option.bind_some, xI, xU, xUt, xIt, J_lit, J_add, J_sub, J_mul, J_neg, J_ltc, J_lec, J_eqc, lt_T, lt_F, le_T, le_F, eq_T, eq_F, ↓reduceIte, ite_not, not_true_eq_false, not_false_eq_true, true_or, or_true, false_or, or_false, true_and, and_true, false_and, and_false, up_get, Nat.reduceEqDiff, Int.reduceNeg, eqN_T, eqN_F]
          refine De.call (De.at (fun n => u (n + 1)) (fun n => by have := hu (n + 1); omega) D) ?_
          exact D2
      obtain ⟨m', D, F', T', B'⟩ := L heaps 0 (fun n => n + 1) m st (fun n => by omega) (by omega) F B (fun i i0 i1 => (hT i i0 i1).1)
      refine ⟨m', ?_, F', T', B'⟩
      refine De.cg 1 (fun n => ?_) D
      rw [Fq_X2_part, j_X2_part_0]
      simp (disch := omega) only [b_X2_part_0, x93_k hs, x93_r0 hs, x93_r1 hs, x93_r2 hs, x93_r3 hs, x93_r4 hs, x93_i5 hs, x93_w5 hs, x93_i6 hs, x93_w6 hs, x93_i7 hs, x93_w7 hs, x93_i8 hs, x93_w8 hs, f5, Option.bind_some, xI, xU, xUt, xIt, J_lit, J_add, J_sub, J_mul, J_neg, J_ltc, J_lec, J_eqc, lt_T, lt_F, le_T, le_F, eq_T, eq_F, ↓reduceIte, ite_not, not_true_eq_false, not_false_eq_true, true_or, or_true, false_or, or_false, true_and, and_true, false_and, and_false, up_get, Nat.reduceEqDiff, Int.reduceNeg, eqN_T, eqN_F]
      rfl
end PART
