/-! the reference's tree of partings -/
section PART
variable {S : xH} {m0 : Nat → Int → Int} {q : Nat → Int → Int64} {ap : Int} {N : Nat} {pr : Int → Int → Int}
theorem q_parts (hs : Sk S) (hN : (N : Int) = m0 139 8) (hA : ap = m0 139 7) (N7 : N ≤ 7) (A0 : 0 ≤ ap) (A1 : ap ≤ 1000) (hpr : ∀ x y : Int, 0 ≤ x → x < y → y < N → 0 ≤ pr x y ∧ pr x y ≤ 127) (H : ∀ m, FrR m0 m → ∀ a b : Int, 0 ≤ a → a < b → b < N → ∀ n, f_X11_priceOf (n + 4) 0 [.ref 136, .int (J a), .int (J b)] (hp S m q) = some (.inl (some (.int (J (pr a b)))), hp S m q)) :
    ∀ (r dp k heaps : Nat) (price : Int) (tr : Int → Int) (m : Nat → Int → Int) (st : Spt), k + r = N → r < dp → heaps ≤ k → 0 ≤ price → price ≤ 1000 * k → FrR m0 m → BsR N m st → (∀ i : Int, 0 ≤ i → i < k → m 148 i = tr i ∧ 0 ≤ tr i ∧ tr i < heaps) →
    ∃ m', De (fun n => F_X11_parts n dp 0 [.ref 136, .int (J k), .int (J heaps), .int (J price)] (hp S m q)) (.inl none) (hp S m' q) ∧ FrR m0 m' ∧ (∀ i : Int, 0 ≤ i → i < k → m' 148 i = tr i) ∧ BsR N m' (ptS pr ap r k heaps price tr st) := by
  intro r
  induction r with
  | zero =>
    intro dp k heaps price tr m st kr hd hk p0 p1 F B hT
    obtain ⟨dp, rfl⟩ : ∃ d, dp = d + 1 := ⟨dp - 1, by omega⟩
    have f5 : m 139 8 = N := (F 139 8 (by decide) (by decide) (by omega)).trans hN.symm
    obtain ⟨b1, b2, b3, b4⟩ := id B
    rw [ptS, lfP]
    by_cases c : 0 ≤ st.1 ∧ (st.1 < price ∨ price = st.1 ∧ st.2.1 ≤ heaps)
    · rw [if_pos c]
      have := b4 c.1
      refine ⟨m, De.cg 1 (g := fun _ => some (.inl none, hp S m q)) (fun n => ?_) (De.ret _ _), F, fun i i0 i1 => (hT i i0 i1).1, B⟩
      rw [Fq_X11_parts, j_X11_parts_0]
      by_cases d : st.1 < price
      · simp (disch := omega) only [b_X11_parts_0, x136_k hs, x136_i0 hs, x136_w0 hs, x136_r1 hs, x136_r2 hs, x136_r3 hs, x136_r4 hs, x136_i5 hs, x136_w5 hs, x136_i6 hs, x136_w6 hs, x136_i7 hs, x136_w7 hs, x136_r8 hs, x136_i9 hs, x136_w9 hs, x136_i10 hs, x136_w10 hs, x136_i11 hs, x136_w11 hs, x136_i12 hs, x136_w12 hs, x136_i13 hs, x136_w13 hs, x136_i14 hs, x136_w14 hs, x136_r15 hs, x136_i16 hs, x136_w16 hs, x136_r17 hs, x136_r18 hs, x136_r19 hs, x136_r20 hs, x136_r21 hs, x136_i22 hs, x136_w22 hs, x136_r23 hs, x136_r24 hs, x136_i25 hs, x136_w25 hs, x136_i26 hs, x136_w26 hs, x136_r27 hs, x136_r28 hs, x136_i29 hs, x136_w29 hs, x139_g hs, x139_s hs, x139_l hs, f5, b3, Option.bind_some, xI, xU, xUt, xIt, J_lit, J_add, J_sub, J_mul, J_neg, J_ltc, J_lec, J_eqc, lt_T, lt_F, le_T, le_F, eq_T, eq_F, ↓reduceIte, ite_not, not_true_eq_false, not_false_eq_true, true_or, or_true, false_or, or_false, true_and, and_true, false_and, and_false, up_get, Nat.reduceEqDiff, Int.reduceNeg, eqN_T, eqN_F]
      · simp (disch := omega) only [b_X11_parts_0, x136_k hs, x136_i0 hs, x136_w0 hs, x136_r1 hs, x136_r2 hs, x136_r3 hs, x136_r4 hs, x136_i5 hs, x136_w5 hs, x136_i6 hs, x136_w6 hs, x136_i7 hs, x136_w7 hs, x136_r8 hs, x136_i9 hs, x136_w9 hs, x136_i10 hs, x136_w10 hs, x136_i11 hs, x136_w11 hs, x136_i12 hs, x136_w12 hs, x136_i13 hs, x136_w13 hs, x136_i14 hs, x136_w14 hs, x136_r15 hs, x136_i16 hs, x136_w16 hs, x136_r17 hs, x136_r18 hs, x136_r19 hs, x136_r20 hs, x136_r21 hs, x136_i22 hs, x136_w22 hs, x136_r23 hs, x136_r24 hs, x136_i25 hs, x136_w25 hs, x136_i26 hs, x136_w26 hs, x136_r27 hs, x136_r28 hs, x136_i29 hs, x136_w29 hs, x139_g hs, x139_s hs, x139_l hs, f5, b3, Option.bind_some, xI, xU, xUt, xIt, J_lit, J_add, J_sub, J_mul, J_neg, J_ltc, J_lec, J_eqc, lt_T, lt_F, le_T, le_F, eq_T, eq_F, ↓reduceIte, ite_not, not_true_eq_false, not_false_eq_true, true_or, or_true, false_or, or_false, true_and, and_true, false_and, and_false, up_get, Nat.reduceEqDiff, Int.reduceNeg, eqN_T, eqN_F]
    · rw [if_neg c]
      have L : ∀ (t : Nat) (i : Int) (u : Nat → Nat) (m : Nat → Int → Int), 0 ≤ i → i + t = N → (∀ i : Int, 0 ≤ i → i < k → m 148 i = tr i) → ∃ m', De (fun n => g_X11_parts (F_X11_parts (u n) dp) n 56 [.ref 136, .int (J k), .int (J heaps), .int (J price), .int (J i)] (hp S m q)) (.inl none) (hp S m' q) ∧ (∀ b x, ¬ (b = 149 ∧ i ≤ x ∧ x < N) → m' b x = m b x) ∧ ∀ x : Int, i ≤ x → x < N → m' 149 x = tr x := by
        intro t
        induction t with
        | zero =>
          intro i u m i0 ir hT
          refine ⟨m, De.cg 1 (g := fun _ => some (.inl none, hp S m q)) (fun n => ?_) (De.ret _ _), fun b x _ => rfl, fun x x0 x1 => absurd x1 (by omega)⟩
          rw [j_X11_parts_56]
          simp (disch := omega) only [b_X11_parts_56, Option.bind_some, xI, xU, xUt, xIt, J_lit, J_add, J_sub, J_mul, J_neg, J_ltc, J_lec, J_eqc, lt_T, lt_F, le_T, le_F, eq_T, eq_F, ↓reduceIte, ite_not, not_true_eq_false, not_false_eq_true, true_or, or_true, false_or, or_false, true_and, and_true, false_and, and_false, up_get, Nat.reduceEqDiff, Int.reduceNeg, eqN_T, eqN_F]
        | succ t IR =>
          intro i u m i0 ir hT
          obtain ⟨m', D, A, B⟩ := IR (i + 1) (fun n => u (n + 1)) (up m 149 i (m 148 i)) (by omega) (by omega) (fun i i0 i1 => by rw [up_a (by decide)]; exact hT i i0 i1)
          refine ⟨m', De.cg 1 (fun n => ?_) D, fun b x h => ?_, fun x x0 x1 => ?_⟩
          · rw [j_X11_parts_56]
            simp (disch := omega) only [b_X11_parts_56, x136_k hs, x136_i0 hs, x136_w0 hs, x136_r1 hs, x136_r2 hs, x136_r3 hs, x136_r4 hs, x136_i5 hs, x136_w5 hs, x136_i6 hs, x136_w6 hs, x136_i7 hs, x136_w7 hs, x136_r8 hs, x136_i9 hs, x136_w9 hs, x136_i10 hs, x136_w10 hs, x136_i11 hs, x136_w11 hs, x136_i12 hs, x136_w12 hs, x136_i13 hs, x136_w13 hs, x136_i14 hs, x136_w14 hs, x136_r15 hs, x136_i16 hs, x136_w16 hs, x136_r17 hs, x136_r18 hs, x136_r19 hs, x136_r20 hs, x136_r21 hs, x136_i22 hs, x136_w22 hs, x136_r23 hs, x136_r24 hs, x136_i25 hs, x136_w25 hs, x136_i26 hs, x136_w26 hs, x136_r27 hs, x136_r28 hs, x136_i29 hs, x136_w29 hs, x148_g hs, x148_s hs, x148_l hs, x149_g hs, x149_s hs, x149_l hs, Option.bind_some, xI, xU, xUt, xIt, J_lit, J_add, J_sub, J_mul, J_neg, J_ltc, J_lec, J_eqc, lt_T, lt_F, le_T, le_F, eq_T, eq_F, ↓reduceIte, ite_not, not_true_eq_false, not_false_eq_true, true_or, or_true, false_or, or_false, true_and, and_true, false_and, and_false, up_get, Nat.reduceEqDiff, Int.reduceNeg, eqN_T, eqN_F]
          · rw [A b x (by omega), up_get, if_neg (by omega)]
          · by_cases e : x = i
            · subst e
              rw [A 149 x (by omega), up_at]
              exact hT x i0 (by omega)
            · exact B x (by omega) x1
      obtain ⟨m', D, A, B2⟩ := L N 0 (fun n => n + 2) (up (up m 136 25 price) 136 26 heaps) (by omega) (by omega) (fun i i0 i1 => by rw [up_a (by decide), up_a (by decide)]; exact (hT i i0 i1).1)
      have E43 : De (fun n => g_X11_parts (F_X11_parts (n + 1) dp) n 43 [.ref 136, .int (J k), .int (J heaps), .int (J price)] (hp S m q)) (.inl none) (hp S m' q) := by
        refine De.cg 1 (fun n => ?_) D
        rw [j_X11_parts_43]
        simp (disch := omega) only [b_X11_parts_43, x136_k hs, x136_i0 hs, x136_w0 hs, x136_r1 hs, x136_r2 hs, x136_r3 hs, x136_r4 hs, x136_i5 hs, x136_w5 hs, x136_i6 hs, x136_w6 hs, x136_i7 hs, x136_w7 hs, x136_r8 hs, x136_i9 hs, x136_w9 hs, x136_i10 hs, x136_w10 hs, x136_i11 hs, x136_w11 hs, x136_i12 hs, x136_w12 hs, x136_i13 hs, x136_w13 hs, x136_i14 hs, x136_w14 hs, x136_r15 hs, x136_i16 hs, x136_w16 hs, x136_r17 hs, x136_r18 hs, x136_r19 hs, x136_r20 hs, x136_r21 hs, x136_i22 hs, x136_w22 hs, x136_r23 hs, x136_r24 hs, x136_i25 hs, x136_w25 hs, x136_i26 hs, x136_w26 hs, x136_r27 hs, x136_r28 hs, x136_i29 hs, x136_w29 hs, x139_g hs, x139_s hs, x139_l hs, Option.bind_some, xI, xU, xUt, xIt, J_lit, J_add, J_sub, J_mul, J_neg, J_ltc, J_lec, J_eqc, lt_T, lt_F, le_T, le_F, eq_T, eq_F, ↓reduceIte, ite_not, not_true_eq_false, not_false_eq_true, true_or, or_true, false_or, or_false, true_and, and_true, false_and, and_false, up_get, Nat.reduceEqDiff, Int.reduceNeg, eqN_T, eqN_F]
      refine ⟨m', ?_, ?_, ?_, ?_⟩
      · refine De.cg 1 (fun n => ?_) E43
        rw [Fq_X11_parts, j_X11_parts_0]
        by_cases d : st.1 < 0
        · simp (disch := omega) only [b_X11_parts_0, x136_k hs, x136_i0 hs, x136_w0 hs, x136_r1 hs, x136_r2 hs, x136_r3 hs, x136_r4 hs, x136_i5 hs, x136_w5 hs, x136_i6 hs, x136_w6 hs, x136_i7 hs, x136_w7 hs, x136_r8 hs, x136_i9 hs, x136_w9 hs, x136_i10 hs, x136_w10 hs, x136_i11 hs, x136_w11 hs, x136_i12 hs, x136_w12 hs, x136_i13 hs, x136_w13 hs, x136_i14 hs, x136_w14 hs, x136_r15 hs, x136_i16 hs, x136_w16 hs, x136_r17 hs, x136_r18 hs, x136_r19 hs, x136_r20 hs, x136_r21 hs, x136_i22 hs, x136_w22 hs, x136_r23 hs, x136_r24 hs, x136_i25 hs, x136_w25 hs, x136_i26 hs, x136_w26 hs, x136_r27 hs, x136_r28 hs, x136_i29 hs, x136_w29 hs, x139_g hs, x139_s hs, x139_l hs, f5, b3, Option.bind_some, xI, xU, xUt, xIt, J_lit, J_add, J_sub, J_mul, J_neg, J_ltc, J_lec, J_eqc, lt_T, lt_F, le_T, le_F, eq_T, eq_F, ↓reduceIte, ite_not, not_true_eq_false, not_false_eq_true, true_or, or_true, false_or, or_false, true_and, and_true, false_and, and_false, up_get, Nat.reduceEqDiff, Int.reduceNeg, eqN_T, eqN_F]
        · have := b4 (by omega)
          by_cases d2 : price = st.1
          · simp (disch := omega) only [b_X11_parts_0, x136_k hs, x136_i0 hs, x136_w0 hs, x136_r1 hs, x136_r2 hs, x136_r3 hs, x136_r4 hs, x136_i5 hs, x136_w5 hs, x136_i6 hs, x136_w6 hs, x136_i7 hs, x136_w7 hs, x136_r8 hs, x136_i9 hs, x136_w9 hs, x136_i10 hs, x136_w10 hs, x136_i11 hs, x136_w11 hs, x136_i12 hs, x136_w12 hs, x136_i13 hs, x136_w13 hs, x136_i14 hs, x136_w14 hs, x136_r15 hs, x136_i16 hs, x136_w16 hs, x136_r17 hs, x136_r18 hs, x136_r19 hs, x136_r20 hs, x136_r21 hs, x136_i22 hs, x136_w22 hs, x136_r23 hs, x136_r24 hs, x136_i25 hs, x136_w25 hs, x136_i26 hs, x136_w26 hs, x136_r27 hs, x136_r28 hs, x136_i29 hs, x136_w29 hs, x139_g hs, x139_s hs, x139_l hs, f5, b3, Option.bind_some, xI, xU, xUt, xIt, J_lit, J_add, J_sub, J_mul, J_neg, J_ltc, J_lec, J_eqc, lt_T, lt_F, le_T, le_F, eq_T, eq_F, ↓reduceIte, ite_not, not_true_eq_false, not_false_eq_true, true_or, or_true, false_or, or_false, true_and, and_true, false_and, and_false, up_get, Nat.reduceEqDiff, Int.reduceNeg, eqN_T, eqN_F]
          · simp (disch := omega) only [b_X11_parts_0, x136_k hs, x136_i0 hs, x136_w0 hs, x136_r1 hs, x136_r2 hs, x136_r3 hs, x136_r4 hs, x136_i5 hs, x136_w5 hs, x136_i6 hs, x136_w6 hs, x136_i7 hs, x136_w7 hs, x136_r8 hs, x136_i9 hs, x136_w9 hs, x136_i10 hs, x136_w10 hs, x136_i11 hs, x136_w11 hs, x136_i12 hs, x136_w12 hs, x136_i13 hs, x136_w13 hs, x136_i14 hs, x136_w14 hs, x136_r15 hs, x136_i16 hs, x136_w16 hs, x136_r17 hs, x136_r18 hs, x136_r19 hs, x136_r20 hs, x136_r21 hs, x136_i22 hs, x136_w22 hs, x136_r23 hs, x136_r24 hs, x136_i25 hs, x136_w25 hs, x136_i26 hs, x136_w26 hs, x136_r27 hs, x136_r28 hs, x136_i29 hs, x136_w29 hs, x139_g hs, x139_s hs, x139_l hs, f5, b3, Option.bind_some, xI, xU, xUt, xIt, J_lit, J_add, J_sub, J_mul, J_neg, J_ltc, J_lec, J_eqc, lt_T, lt_F, le_T, le_F, eq_T, eq_F, ↓reduceIte, ite_not, not_true_eq_false, not_false_eq_true, true_or, or_true, false_or, or_false, true_and, and_true, false_and, and_false, up_get, Nat.reduceEqDiff, Int.reduceNeg, eqN_T, eqN_F]
      · intro b i h1 h2 h3
        rw [A b i (by omega), up_get, if_neg (by omega), up_get, if_neg (by omega)]
        exact F b i h1 h2 h3
      · intro i i0 i1
        rw [A 148 i (by omega), up_a (by decide), up_a (by decide)]
        exact (hT i i0 i1).1
      · refine ⟨by show -1 ≤ price; omega, by show price ≤ 10000; omega, ?_, fun _ => ⟨?_, by show 0 ≤ (heaps : Int); omega, by show (heaps : Int) ≤ 7; omega, fun i i0 i1 => B2 i i0 i1⟩⟩
        · show m' 136 25 = price
          rw [A 136 25 (by omega), up_get, if_neg (by omega), up_at]
        · show m' 136 26 = heaps
          rw [A 136 26 (by omega), up_at]
  | succ r IH =>
    intro dp k heaps price tr m st kr hd hk p0 p1 F B hT
    obtain ⟨dp, rfl⟩ : ∃ d, dp = d + 1 := ⟨dp - 1, by omega⟩
    have f5 : m 139 8 = N := (F 139 8 (by decide) (by decide) (by omega)).trans hN.symm
    have up148 : ∀ (m : Nat → Int → Int) (x : Int), FrR m0 m → FrR m0 (up m 148 k x) := fun m x F b i h1 h2 h3 => by rw [up_a h1]; exact F b i h1 h2 h3
    /- the sum over those before -/
    have J1 : ∀ (h : Nat) (a : Int) (m m' : Nat → Int → Int), h ≤ heaps → 0 ≤ a → a ≤ 1000 → FrR m0 m → (∀ i : Int, 0 ≤ i → i < k → m 148 i = tr i) → (∀ u : Nat → Nat, (∀ n, n ≤ u n) → De (fun n => g_X11_parts (F_X11_parts (u n) dp) n 114 [.ref 136, .int (J k), .int (J heaps), .int (J price), .int (J h), .int (J (a + jnS (fun x => pr x k) tr h k)), .int (J k)] (hp S m q)) (.inl none) (hp S m' q)) → ∀ (t i : Nat) (u : Nat → Nat), (∀ n, n ≤ u n) → i + t = k → De (fun n => g_X11_parts (F_X11_parts (u n) dp) n 114 [.ref 136, .int (J k), .int (J heaps), .int (J price), .int (J h), .int (J (a + jnS (fun x => pr x k) tr h i)), .int (J i)] (hp S m q)) (.inl none) (hp S m' q) := by
      intro h a m m' hh a0 a1 F hT' D t
      induction t with
      | zero =>
        intro i u hu it
        have it : i = k := by omega
        subst it
        exact D u hu
      | succ t IR =>
        intro i u hu it
        have ih := IR (i + 1) (fun n => u (n + 1)) (fun n => by have := hu (n + 1); omega) (by omega)
        have t1 := hT' i (by omega) (by omega)
        have t2 := hT i (by omega) (by omega)
        have Hi := H m F i k (by omega) (by omega) (by omega)
        rw [jnS] at ih
        by_cases c : tr i = h
        · rw [if_pos c] at ih
          refine De.step ?_
          simp only [j_X11_parts_114]
          simp (disch := omega) only [b_X11_parts_114, x136_k hs, x136_i0 hs, x136_w0 hs, x136_r1 hs, x136_r2 hs, x136_r3 hs, x136_r4 hs, x136_i5 hs, x136_w5 hs, x136_i6 hs, x136_w6 hs, x136_i7 hs, x136_w7 hs, x136_r8 hs, x136_i9 hs, x136_w9 hs, x136_i10 hs, x136_w10 hs, x136_i11 hs, x136_w11 hs, x136_i12 hs, x136_w12 hs, x136_i13 hs, x136_w13 hs, x136_i14 hs, x136_w14 hs, x136_r15 hs, x136_i16 hs, x136_w16 hs, x136_r17 hs, x136_r18 hs, x136_r19 hs, x136_r20 hs, x136_r21 hs, x136_i22 hs, x136_w22 hs, x136_r23 hs, x136_r24 hs, x136_i25 hs, x136_w25 hs, x136_i26 hs, x136_w26 hs, x136_r27 hs, x136_r28 hs, x136_i29 hs, x136_w29 hs, x139_g hs, x139_s hs, x139_l hs, x148_g hs, x148_s hs, x148_l hs, t1, Option.bind_some, xI, xU, xUt, xIt, J_lit, J_add, J_sub, J_mul, J_neg, J_ltc, J_lec, J_eqc, lt_T, lt_F, le_T, le_F, eq_T, eq_F, ↓reduceIte, ite_not, not_true_eq_false, not_false_eq_true, true_or, or_true, false_or, or_false, true_and, and_true, false_and, and_false, up_get, Nat.reduceEqDiff, Int.reduceNeg, eqN_T, eqN_F]
          refine De.call (De.eq 4 Hi) ?_
          simp (disch := omega) only [Int.add_assoc, Option.bind_some, xI, xU, xUt, xIt, J_lit, J_add, J_sub, J_mul, J_neg, J_ltc, J_lec, J_eqc, lt_T, lt_F, le_T, le_F, eq_T, eq_F, ↓reduceIte, ite_not, not_true_eq_false, not_false_eq_true, true_or, or_true, false_or, or_false, true_and, and_true, false_and, and_false, up_get, Nat.reduceEqDiff, Int.reduceNeg, eqN_T, eqN_F]
          exact ih
        · rw [if_neg c] at ih
          refine De.step ?_
          simp only [j_X11_parts_114]
          simp (disch := omega) only [b_X11_parts_114, x136_k hs, x136_i0 hs, x136_w0 hs, x136_r1 hs, x136_r2 hs, x136_r3 hs, x136_r4 hs, x136_i5 hs, x136_w5 hs, x136_i6 hs, x136_w6 hs, x136_i7 hs, x136_w7 hs, x136_r8 hs, x136_i9 hs, x136_w9 hs, x136_i10 hs, x136_w10 hs, x136_i11 hs, x136_w11 hs, x136_i12 hs, x136_w12 hs, x136_i13 hs, x136_w13 hs, x136_i14 hs, x136_w14 hs, x136_r15 hs, x136_i16 hs, x136_w16 hs, x136_r17 hs, x136_r18 hs, x136_r19 hs, x136_r20 hs, x136_r21 hs, x136_i22 hs, x136_w22 hs, x136_r23 hs, x136_r24 hs, x136_i25 hs, x136_w25 hs, x136_i26 hs, x136_w26 hs, x136_r27 hs, x136_r28 hs, x136_i29 hs, x136_w29 hs, x139_g hs, x139_s hs, x139_l hs, x148_g hs, x148_s hs, x148_l hs, t1, Int.add_assoc, Option.bind_some, xI, xU, xUt, xIt, J_lit, J_add, J_sub, J_mul, J_neg, J_ltc, J_lec, J_eqc, lt_T, lt_F, le_T, le_F, eq_T, eq_F, ↓reduceIte, ite_not, not_true_eq_false, not_false_eq_true, true_or, or_true, false_or, or_false, true_and, and_true, false_and, and_false, up_get, Nat.reduceEqDiff, Int.reduceNeg, eqN_T, eqN_F]
          exact ih
    have L : ∀ (t : Nat) (h : Nat) (m : Nat → Int → Int) (st : Spt), h + t = heaps → FrR m0 m → BsR N m st → (∀ i : Int, 0 ≤ i → i < k → m 148 i = tr i) →
        ∃ m', (∀ u : Nat → Nat, (∀ n, n ≤ u n) → De (fun n => g_X11_parts (F_X11_parts (u n) dp) n 86 [.ref 136, .int (J k), .int (J heaps), .int (J price), .int (J h)] (hp S m q)) (.inl none) (hp S m' q)) ∧ FrR m0 m' ∧ (∀ i : Int, 0 ≤ i → i < k → m' 148 i = tr i) ∧ BsR N m' (ptS pr ap r (k + 1) (heaps + 1) (price + ap) (ups tr k heaps) (lpP (fun h z => ptS pr ap r (k + 1) heaps (price + jnS (fun x => pr x k) tr h k) (ups tr k h) z) t h st)) := by
      intro t
      induction t with
      | zero =>
        intro h m st ht F B hT'
        have hh : h = heaps := by omega
        subst hh
        have f6 : m 139 7 = ap := (F 139 7 (by decide) (by decide) (by omega)).trans hA.symm
        have jz := jnS_no (pr := fun x => pr x k) (tr := tr) (h := h) k (fun x x0 x1 => (hT x x0 x1).2.2)
        obtain ⟨m', D, F', T', B'⟩ := IH dp (k + 1) (h + 1) (price + ap) (ups tr k h) (up m 148 k h) st (by omega) (by omega) (by omega) (by omega) (by omega) (up148 m _ F) (B.cg (fun i _ => by rw [up_a (by decide)]) (fun i => by rw [up_a (by decide)])) (fun i i0 i1 => by
          by_cases e : i = k
          · rw [e, up_at, ups_at]
            omega
          · rw [up_i e, ups_ne e]
            have := hT i i0 (by omega)
            exact ⟨hT' i i0 (by omega), by omega, by omega⟩)
        refine ⟨m', ?_, F', fun i i0 i1 => (T' i i0 (by omega)).trans (ups_ne (by omega)), B'⟩
        intro u hu
        have Z := J1 h ap m m' (by omega) A0 A1 F hT' (fun u hu => by
          rw [jz, Int.add_zero]
          refine De.step ?_
          simp only [j_X11_parts_114]
          simp (disch := omega) only [b_X11_parts_114, x136_k hs, x136_i0 hs, x136_w0 hs, x136_r1 hs, x136_r2 hs, x136_r3 hs, x136_r4 hs, x136_i5 hs, x136_w5 hs, x136_i6 hs, x136_w6 hs, x136_i7 hs, x136_w7 hs, x136_r8 hs, x136_i9 hs, x136_w9 hs, x136_i10 hs, x136_w10 hs, x136_i11 hs, x136_w11 hs, x136_i12 hs, x136_w12 hs, x136_i13 hs, x136_w13 hs, x136_i14 hs, x136_w14 hs, x136_r15 hs, x136_i16 hs, x136_w16 hs, x136_r17 hs, x136_r18 hs, x136_r19 hs, x136_r20 hs, x136_r21 hs, x136_i22 hs, x136_w22 hs, x136_r23 hs, x136_r24 hs, x136_i25 hs, x136_w25 hs, x136_i26 hs, x136_w26 hs, x136_r27 hs, x136_r28 hs, x136_i29 hs, x136_w29 hs, x139_g hs, x139_s hs, x139_l hs, x148_g hs, x148_s hs, x148_l hs, Option.bind_some, xI, xU, xUt, xIt, J_lit, J_add, J_sub, J_mul, J_neg, J_ltc, J_lec, J_eqc, lt_T, lt_F, le_T, le_F, eq_T, eq_F, ↓reduceIte, ite_not, not_true_eq_false, not_false_eq_true, true_or, or_true, false_or, or_false, true_and, and_true, false_and, and_false, up_get, Nat.reduceEqDiff, Int.reduceNeg, eqN_T, eqN_F]
          refine De.step ?_
          simp only [j_X11_parts_179]
          simp (disch := omega) only [b_X11_parts_179, x136_k hs, x136_i0 hs, x136_w0 hs, x136_r1 hs, x136_r2 hs, x136_r3 hs, x136_r4 hs, x136_i5 hs, x136_w5 hs, x136_i6 hs, x136_w6 hs, x136_i7 hs, x136_w7 hs, x136_r8 hs, x136_i9 hs, x136_w9 hs, x136_i10 hs, x136_w10 hs, x136_i11 hs, x136_w11 hs, x136_i12 hs, x136_w12 hs, x136_i13 hs, x136_w13 hs, x136_i14 hs, x136_w14 hs, x136_r15 hs, x136_i16 hs, x136_w16 hs, x136_r17 hs, x136_r18 hs, x136_r19 hs, x136_r20 hs, x136_r21 hs, x136_i22 hs, x136_w22 hs, x136_r23 hs, x136_r24 hs, x136_i25 hs, x136_w25 hs, x136_i26 hs, x136_w26 hs, x136_r27 hs, x136_r28 hs, x136_i29 hs, x136_w29 hs, x139_g hs, x139_s hs, x139_l hs, x148_g hs, x148_s hs, x148_l hs, Option.bind_some, xI, xU, xUt, xIt, J_lit, J_add, J_sub, J_mul, J_neg, J_ltc, J_lec, J_eqc, lt_T, lt_F, le_T, le_F, eq_T, eq_F, ↓reduceIte, ite_not, not_true_eq_false, not_false_eq_true, true_or, or_true, false_or, or_false, true_and, and_true, false_and, and_false, up_get, Nat.reduceEqDiff, Int.reduceNeg, eqN_T, eqN_F]
          refine De.call (De.at (fun n => u (n + 1 + 1)) (fun n => by have := hu (n + 1 + 1); omega) D) ?_
          refine De.cg 1 (g := fun _ => some (.inl none, hp S m' q)) (fun n => ?_) (De.ret _ _)
          show g_X11_parts _ (n + 1) 86 _ _ = _
          rw [j_X11_parts_86]
          simp (disch := omega) only [b_X11_parts_86, Option.bind_some, xI, xU, xUt, xIt, J_lit, J_add, J_sub, J_mul, J_neg, J_ltc, J_lec, J_eqc, lt_T, lt_F, le_T, le_F, eq_T, eq_F, ↓reduceIte, ite_not, not_true_eq_false, not_false_eq_true, true_or, or_true, false_or, or_false, true_and, and_true, false_and, and_false, up_get, Nat.reduceEqDiff, Int.reduceNeg, eqN_T, eqN_F]) k 0 (fun n => u (n + 1)) (fun n => by have := hu (n + 1); omega) (by omega)
        refine De.step ?_
        simp only [j_X11_parts_86]
        simp (disch := omega) only [b_X11_parts_86, x136_k hs, x136_i0 hs, x136_w0 hs, x136_r1 hs, x136_r2 hs, x136_r3 hs, x136_r4 hs, x136_i5 hs, x136_w5 hs, x136_i6 hs, x136_w6 hs, x136_i7 hs, x136_w7 hs, x136_r8 hs, x136_i9 hs, x136_w9 hs, x136_i10 hs, x136_w10 hs, x136_i11 hs, x136_w11 hs, x136_i12 hs, x136_w12 hs, x136_i13 hs, x136_w13 hs, x136_i14 hs, x136_w14 hs, x136_r15 hs, x136_i16 hs, x136_w16 hs, x136_r17 hs, x136_r18 hs, x136_r19 hs, x136_r20 hs, x136_r21 hs, x136_i22 hs, x136_w22 hs, x136_r23 hs, x136_r24 hs, x136_i25 hs, x136_w25 hs, x136_i26 hs, x136_w26 hs, x136_r27 hs, x136_r28 hs, x136_i29 hs, x136_w29 hs, x139_g hs, x139_s hs, x139_l hs, f6, Option.bind_some, xI, xU, xUt, xIt, J_lit, J_add, J_sub, J_mul, J_neg, J_ltc, J_lec, J_eqc, lt_T, lt_F, le_T, le_F, eq_T, eq_F, ↓reduceIte, ite_not, not_true_eq_false, not_false_eq_true, true_or, or_true, false_or, or_false, true_and, and_true, false_and, and_false, up_get, Nat.reduceEqDiff, Int.reduceNeg, eqN_T, eqN_F]
        rw [jnS, Int.add_zero] at Z
        exact Z
      | succ t IR =>
        intro h m st ht F B hT'
        rw [lpP]
        have ji := jnS_in (pr := fun x => pr x k) (tr := tr) (h := h) k (fun x x0 x1 => hpr x k x0 x1 (by omega))
        obtain ⟨m', D, F', T', B'⟩ := IH dp (k + 1) heaps (price + jnS (fun x => pr x k) tr h k) (ups tr k h) (up m 148 k h) st (by omega) (by omega) (by omega) (by omega) (by omega) (up148 m _ F) (B.cg (fun i _ => by rw [up_a (by decide)]) (fun i => by rw [up_a (by decide)])) (fun i i0 i1 => by
          by_cases e : i = k
          · rw [e, up_at, ups_at]
            omega
          · rw [up_i e, ups_ne e]
            have := hT i i0 (by omega)
            exact ⟨hT' i i0 (by omega), by omega, by omega⟩)
        obtain ⟨m'', D2, F2, T2, B2⟩ := IR (h + 1) m' _ (by omega) F' B' (fun i i0 i1 => (T' i i0 (by omega)).trans (ups_ne (by omega)))
        refine ⟨m'', ?_, F2, T2, B2⟩
        intro u hu
        have Z := J1 h 0 m m'' (by omega) (by omega) (by omega) F hT' (fun u hu => by
          rw [Int.zero_add]
          refine De.step ?_
          simp only [j_X11_parts_114]
          simp (disch := omega) only [b_X11_parts_114, x136_k hs, x136_i0 hs, x136_w0 hs, x136_r1 hs, x136_r2 hs, x136_r3 hs, x136_r4 hs, x136_i5 hs, x136_w5 hs, x136_i6 hs, x136_w6 hs, x136_i7 hs, x136_w7 hs, x136_r8 hs, x136_i9 hs, x136_w9 hs, x136_i10 hs, x136_w10 hs, x136_i11 hs, x136_w11 hs, x136_i12 hs, x136_w12 hs, x136_i13 hs, x136_w13 hs, x136_i14 hs, x136_w14 hs, x136_r15 hs, x136_i16 hs, x136_w16 hs, x136_r17 hs, x136_r18 hs, x136_r19 hs, x136_r20 hs, x136_r21 hs, x136_i22 hs, x136_w22 hs, x136_r23 hs, x136_r24 hs, x136_i25 hs, x136_w25 hs, x136_i26 hs, x136_w26 hs, x136_r27 hs, x136_r28 hs, x136_i29 hs, x136_w29 hs, x139_g hs, x139_s hs, x139_l hs, x148_g hs, x148_s hs, x148_l hs, Option.bind_some, xI, xU, xUt, xIt, J_lit, J_add, J_sub, J_mul, J_neg, J_ltc, J_lec, J_eqc, lt_T, lt_F, le_T, le_F, eq_T, eq_F, ↓reduceIte, ite_not, not_true_eq_false, not_false_eq_true, true_or, or_true, false_or, or_false, true_and, and_true, false_and, and_false, up_get, Nat.reduceEqDiff, Int.reduceNeg, eqN_T, eqN_F]
          refine De.step ?_
          simp only [j_X11_parts_179]
          simp (disch := omega) only [b_X11_parts_179, x136_k hs, x136_i0 hs, x136_w0 hs, x136_r1 hs, x136_r2 hs, x136_r3 hs, x136_r4 hs, x136_i5 hs, x136_w5 hs, x136_i6 hs, x136_w6 hs, x136_i7 hs, x136_w7 hs, x136_r8 hs, x136_i9 hs, x136_w9 hs, x136_i10 hs, x136_w10 hs, x136_i11 hs, x136_w11 hs, x136_i12 hs, x136_w12 hs, x136_i13 hs, x136_w13 hs, x136_i14 hs, x136_w14 hs, x136_r15 hs, x136_i16 hs, x136_w16 hs, x136_r17 hs, x136_r18 hs, x136_r19 hs, x136_r20 hs, x136_r21 hs, x136_i22 hs, x136_w22 hs, x136_r23 hs, x136_r24 hs, x136_i25 hs, x136_w25 hs, x136_i26 hs, x136_w26 hs, x136_r27 hs, x136_r28 hs, x136_i29 hs, x136_w29 hs, x139_g hs, x139_s hs, x139_l hs, x148_g hs, x148_s hs, x148_l hs, Option.bind_some, xI, xU, xUt, xIt, J_lit, J_add, J_sub, J_mul, J_neg, J_ltc, J_lec, J_eqc, lt_T, lt_F, le_T, le_F, eq_T, eq_F, ↓reduceIte, ite_not, not_true_eq_false, not_false_eq_true, true_or, or_true, false_or, or_false, true_and, and_true, false_and, and_false, up_get, Nat.reduceEqDiff, Int.reduceNeg, eqN_T, eqN_F]
          refine De.call (De.at (fun n => u (n + 1 + 1)) (fun n => by have := hu (n + 1 + 1); omega) D) ?_
          exact D2 (fun n => u (n + 1 + 1)) (fun n => by have := hu (n + 1 + 1); omega)) k 0 (fun n => u (n + 1)) (fun n => by have := hu (n + 1); omega) (by omega)
        refine De.step ?_
        simp only [j_X11_parts_86]
        simp (disch := omega) only [b_X11_parts_86, x136_k hs, x136_i0 hs, x136_w0 hs, x136_r1 hs, x136_r2 hs, x136_r3 hs, x136_r4 hs, x136_i5 hs, x136_w5 hs, x136_i6 hs, x136_w6 hs, x136_i7 hs, x136_w7 hs, x136_r8 hs, x136_i9 hs, x136_w9 hs, x136_i10 hs, x136_w10 hs, x136_i11 hs, x136_w11 hs, x136_i12 hs, x136_w12 hs, x136_i13 hs, x136_w13 hs, x136_i14 hs, x136_w14 hs, x136_r15 hs, x136_i16 hs, x136_w16 hs, x136_r17 hs, x136_r18 hs, x136_r19 hs, x136_r20 hs, x136_r21 hs, x136_i22 hs, x136_w22 hs, x136_r23 hs, x136_r24 hs, x136_i25 hs, x136_w25 hs, x136_i26 hs, x136_w26 hs, x136_r27 hs, x136_r28 hs, x136_i29 hs, x136_w29 hs, x139_g hs, x139_s hs, x139_l hs, Option.bind_some, xI, xU, xUt, xIt, J_lit, J_add, J_sub, J_mul, J_neg, J_ltc, J_lec, J_eqc, lt_T, lt_F, le_T, le_F, eq_T, eq_F, ↓reduceIte, ite_not, not_true_eq_false, not_false_eq_true, true_or, or_true, false_or, or_false, true_and, and_true, false_and, and_false, up_get, Nat.reduceEqDiff, Int.reduceNeg, eqN_T, eqN_F]
        rw [jnS, Int.add_zero] at Z
        exact Z
    obtain ⟨m', D, F', T', B'⟩ := L heaps 0 m st (by omega) F B (fun i i0 i1 => (hT i i0 i1).1)
    refine ⟨m', ?_, F', T', B'⟩
    refine De.cg 1 (fun n => ?_) (D (fun n => n + 1) (fun n => by omega))
    rw [Fq_X11_parts, j_X11_parts_0]
    simp (disch := omega) only [b_X11_parts_0, x136_k hs, x136_i0 hs, x136_w0 hs, x136_r1 hs, x136_r2 hs, x136_r3 hs, x136_r4 hs, x136_i5 hs, x136_w5 hs, x136_i6 hs, x136_w6 hs, x136_i7 hs, x136_w7 hs, x136_r8 hs, x136_i9 hs, x136_w9 hs, x136_i10 hs, x136_w10 hs, x136_i11 hs, x136_w11 hs, x136_i12 hs, x136_w12 hs, x136_i13 hs, x136_w13 hs, x136_i14 hs, x136_w14 hs, x136_r15 hs, x136_i16 hs, x136_w16 hs, x136_r17 hs, x136_r18 hs, x136_r19 hs, x136_r20 hs, x136_r21 hs, x136_i22 hs, x136_w22 hs, x136_r23 hs, x136_r24 hs, x136_i25 hs, x136_w25 hs, x136_i26 hs, x136_w26 hs, x136_r27 hs, x136_r28 hs, x136_i29 hs, x136_w29 hs, x139_g hs, x139_s hs, x139_l hs, f5, Option.bind_some, xI, xU, xUt, xIt, J_lit, J_add, J_sub, J_mul, J_neg, J_ltc, J_lec, J_eqc, lt_T, lt_F, le_T, le_F, eq_T, eq_F, ↓reduceIte, ite_not, not_true_eq_false, not_false_eq_true, true_or, or_true, false_or, or_false, true_and, and_true, false_and, and_false, up_get, Nat.reduceEqDiff, Int.reduceNeg, eqN_T, eqN_F]
    rfl
end PART
